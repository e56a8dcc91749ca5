theorem lzS_ok {v : Int32} {zs : Nat → Int32} : ∀ k, k ≤ 9 → ∀ i, i < lzC v k → lzS v zs k i = nI (aN (lzS v zs k i)) ∧ aN (lzS v zs k i) ≤ 9
  | 0, _, i, h => absurd h (Nat.not_lt_zero _)
  | k + 1, hk, i, h => by
    have ih := lzS_ok (v := v) (zs := zs) k (by omega) i
    unfold lzC at h
    unfold lzS
    by_cases e : lgX v (k + 1) = 1 ∧ lzC v k < 3
    · rw [if_pos e] at h ⊢
      by_cases e2 : i = lzC v k
      · have e3 : upd (lzS v zs k) (lzC v k) (nI (k + 1)) i = nI (k + 1) := if_pos e2
        rw [e3, aNn (n := 10) (by omega) (by decide)]
        exact ⟨rfl, by omega⟩
      · have e3 : upd (lzS v zs k) (lzC v k) (nI (k + 1)) i = lzS v zs k i := if_neg e2
        rw [e3]
        exact ih (by omega)
    · rw [if_neg e] at h ⊢
      exact ih h
set_option maxHeartbeats 4000000 in
set_option maxRecDepth 100000 in
theorem c_X4_seek (l : Launch) (D : va_G) (ka : Nat → ClassId) (kb : Nat → Nat) (bd : Nat → Nat) (o : Bool) (cnt : Int32) (opb : Int32) (rch : Int32) (wnt : Int32) (zs : Nat → Int32) (bb : bT) (sa : Nat → Int32) (ss : Nat → Int32) (sz9 : Int32) (re9 : Int32) (L : Nat) (mo : Nat → Int32) (an : Nat → Int32) (pl : Nat → Int32) (ho : Nat → Int32) (le : Nat → Int32) (na : Nat → Nat) (N : Nat → N5) (p9 : Nat) (m9 : Nat) (hpl9 : p9 < 2) (hm9 : m9 ≤ 4) (hok : okL L mo an pl) (hoh : okH ho) (hre : 0 ≤ re9.toInt ∧ re9.toInt ≤ 99) (hB9 : bB bb) : zV l D ka kb yX4_seek cX4_seek 5 9 227 [.ref (bd 4), .ref (bd 2), .int (nI p9), .int (nI m9)] ([((bd 4), .inr (4, [.ref (bd 18), .ref (bd 19), .int cnt, .int opb, .int rch, .int wnt, .ref (bd 20), .ref (bd 21), .ref (bd 22), .int bb.1, .ref (bd 23), .ref (bd 24), .long (Int64.ofInt bb.2.1), .long (Int64.ofInt bb.2.2.1)])), ((bd 18), .inr (2, [.int (bI o), .ref (na 31), .ref (na 32), .ref (na 33)])), ((bd 19), .inl (ka 0, 3, .inl zs)), ((bd 20), .inl (ka 3, 5, .inr (.inr (.inr (.inr (nR na 34)))))), ((bd 21), .inl (ka 0, 4, .inl sa)), ((bd 22), .inl (ka 0, 4, .inl ss)), ((bd 23), .inl (ka 0, 4, .inl bb.2.2.2.1)), ((bd 24), .inl (ka 0, 4, .inl bb.2.2.2.2)), ((bd 2), .inr (3, [.int (nI L), .ref (bd 7), .ref (bd 8), .ref (bd 9), .ref (bd 10), .ref (bd 11), .int sz9, .int re9])), ((bd 7), .inl (ka 0, 8, .inl mo)), ((bd 8), .inl (ka 0, 8, .inl an)), ((bd 9), .inl (ka 0, 8, .inl pl)), ((bd 10), .inl (ka 0, 24, .inl ho)), ((bd 11), .inl (ka 0, 2, .inl le))] ++ nP na N) (fun (u : (Nat → N5) × (Nat → Int32) × (Nat → Int32) × Bool × Int32) => (∀ k9, (k9 < 34 ∨ 38 < k9) → u.1 k9 = N k9) ∧ bB (seS (fun n b => clR (pulI p9 L mo an pl ho) (aN re9) (mzN (lzC sz9 9) (fun i => aN (lzS sz9 zs 9 i))) (fun a9 => dB (lgX (opN (le p9) p9 ho 12) a9 = 1)) (fun i => aN (lzS sz9 zs 9 i)) (lzC sz9 9) n 0 [] b) (m9 + 1) ((-1 : Int32), bb.2))) (fun (u : (Nat → N5) × (Nat → Int32) × (Nat → Int32) × Bool × Int32) => [((bd 4), .inr (4, [.ref (bd 18), .ref (bd 19), .int (nI (lzC sz9 9)), .int (opN (le p9) p9 ho 12), .int (nI (aN re9)), .int u.2.2.2.2, .ref (bd 20), .ref (bd 21), .ref (bd 22), .int ((seS (fun n b => clR (pulI p9 L mo an pl ho) (aN re9) (mzN (lzC sz9 9) (fun i => aN (lzS sz9 zs 9 i))) (fun a9 => dB (lgX (opN (le p9) p9 ho 12) a9 = 1)) (fun i => aN (lzS sz9 zs 9 i)) (lzC sz9 9) n 0 [] b) (m9 + 1) ((-1 : Int32), bb.2)).1), .ref (bd 23), .ref (bd 24), .long (Int64.ofInt (seS (fun n b => clR (pulI p9 L mo an pl ho) (aN re9) (mzN (lzC sz9 9) (fun i => aN (lzS sz9 zs 9 i))) (fun a9 => dB (lgX (opN (le p9) p9 ho 12) a9 = 1)) (fun i => aN (lzS sz9 zs 9 i)) (lzC sz9 9) n 0 [] b) (m9 + 1) ((-1 : Int32), bb.2)).2.1), .long (Int64.ofInt (seS (fun n b => clR (pulI p9 L mo an pl ho) (aN re9) (mzN (lzC sz9 9) (fun i => aN (lzS sz9 zs 9 i))) (fun a9 => dB (lgX (opN (le p9) p9 ho 12) a9 = 1)) (fun i => aN (lzS sz9 zs 9 i)) (lzC sz9 9) n 0 [] b) (m9 + 1) ((-1 : Int32), bb.2)).2.2.1)])), ((bd 18), .inr (2, [.int (bI u.2.2.2.1), .ref (na 31), .ref (na 32), .ref (na 33)])), ((bd 19), .inl (ka 0, 3, .inl (lzS sz9 zs 9))), ((bd 20), .inl (ka 3, 5, .inr (.inr (.inr (.inr (nR na 34)))))), ((bd 21), .inl (ka 0, 4, .inl u.2.1)), ((bd 22), .inl (ka 0, 4, .inl u.2.2.1)), ((bd 23), .inl (ka 0, 4, .inl ((seS (fun n b => clR (pulI p9 L mo an pl ho) (aN re9) (mzN (lzC sz9 9) (fun i => aN (lzS sz9 zs 9 i))) (fun a9 => dB (lgX (opN (le p9) p9 ho 12) a9 = 1)) (fun i => aN (lzS sz9 zs 9 i)) (lzC sz9 9) n 0 [] b) (m9 + 1) ((-1 : Int32), bb.2)).2.2.2.1))), ((bd 24), .inl (ka 0, 4, .inl ((seS (fun n b => clR (pulI p9 L mo an pl ho) (aN re9) (mzN (lzC sz9 9) (fun i => aN (lzS sz9 zs 9 i))) (fun a9 => dB (lgX (opN (le p9) p9 ho 12) a9 = 1)) (fun i => aN (lzS sz9 zs 9 i)) (lzC sz9 9) n 0 [] b) (m9 + 1) ((-1 : Int32), bb.2)).2.2.2.2))), ((bd 2), .inr (3, [.int (nI L), .ref (bd 7), .ref (bd 8), .ref (bd 9), .ref (bd 10), .ref (bd 11), .int sz9, .int re9])), ((bd 7), .inl (ka 0, 8, .inl mo)), ((bd 8), .inl (ka 0, 8, .inl an)), ((bd 9), .inl (ka 0, 8, .inl pl)), ((bd 10), .inl (ka 0, 24, .inl ho)), ((bd 11), .inl (ka 0, 2, .inl le))] ++ nP na u.1) := by
  refine zV.mk RX4 (by decide +kernel) rfl (Nat.le_of_ble_eq_true rfl) ?_
  intro p e s m below meth c A ls args Q hQ hx hb hF hB hl
  replace hl : lv_has ls 5 [(0, .ref (bd 4)), (1, .ref (bd 2)), (2, .int (nI p9)), (3, .int (nI m9))] := hl
  have hre2 : re9 = nI (aN re9) := ofNat_of hre.1
  have lz_ok : ∀ i, i < (lzC sz9 9) → (lzS sz9 zs 9) i = nI ((fun i => aN (lzS sz9 zs 9 i)) i) ∧ (fun i => aN (lzS sz9 zs 9 i)) i ≤ 9 := fun i hi => lzS_ok 9 (by decide) i hi
  refine lv_aload_n hx hb dX4_seek_0 rfl (lv_at hl 0 rfl) ?_
  refine lv_aload_n hx hb dX4_seek_1 rfl (lv_at hl 1 rfl) ?_
  refine zVi zm_X4_55 hF hB (c_X3_sizeBits l D ka kb bd (nI L) sz9 re9 ) [8] rfl (by decide) [(bd 2)] (fun _ => rfl) rfl 8 3 rfl rfl rfl ⟨Nat.le_of_ble_eq_true rfl, Nat.le_of_ble_eq_true rfl⟩ rfl hl.1 (Nat.le_of_ble_eq_true rfl) ⟨Nat.le_refl _, Nat.le_refl _⟩ dX4_seek_2 ?_
  clear hB
  try clear locs
  try clear H
  intro r1 u1 H locs hp hB
  have e9 : sz9 = r1 := hp.symm
  subst e9
  replace hB : zB D A s ([((bd 4), .inr (4, [.ref (bd 18), .ref (bd 19), .int cnt, .int opb, .int rch, .int wnt, .ref (bd 20), .ref (bd 21), .ref (bd 22), .int bb.1, .ref (bd 23), .ref (bd 24), .long (Int64.ofInt bb.2.1), .long (Int64.ofInt bb.2.2.1)])), ((bd 18), .inr (2, [.int (bI o), .ref (na 31), .ref (na 32), .ref (na 33)])), ((bd 19), .inl (ka 0, 3, .inl zs)), ((bd 20), .inl (ka 3, 5, .inr (.inr (.inr (.inr (nR na 34)))))), ((bd 21), .inl (ka 0, 4, .inl sa)), ((bd 22), .inl (ka 0, 4, .inl ss)), ((bd 23), .inl (ka 0, 4, .inl bb.2.2.2.1)), ((bd 24), .inl (ka 0, 4, .inl bb.2.2.2.2)), ((bd 2), .inr (3, [.int (nI L), .ref (bd 7), .ref (bd 8), .ref (bd 9), .ref (bd 10), .ref (bd 11), .int sz9, .int re9])), ((bd 7), .inl (ka 0, 8, .inl mo)), ((bd 8), .inl (ka 0, 8, .inl an)), ((bd 9), .inl (ka 0, 8, .inl pl)), ((bd 10), .inl (ka 0, 24, .inl ho)), ((bd 11), .inl (ka 0, 2, .inl le))] ++ nP na N) H locs := hB
  refine zVv zm_X4_58 hF hB (c_X4_listSizes l D ka kb bd cnt opb rch wnt bb.1 (Int64.ofInt bb.2.1) (Int64.ofInt bb.2.2.1) zs sz9 ) [0, 2] rfl (by decide) [(bd 4), (bd 19)] (fun _ => rfl) rfl 0 4 rfl rfl rfl ⟨Nat.le_of_ble_eq_true rfl, Nat.le_of_ble_eq_true rfl⟩ rfl hl.1 (Nat.le_of_ble_eq_true rfl) ⟨Nat.le_refl _, Nat.le_refl _⟩ dX4_seek_5 ?_
  clear hB
  try clear locs
  try clear H
  intro u2 H locs hp hB
  replace hB : zB D A s ([((bd 4), .inr (4, [.ref (bd 18), .ref (bd 19), .int (nI (lzC sz9 9)), .int opb, .int rch, .int wnt, .ref (bd 20), .ref (bd 21), .ref (bd 22), .int bb.1, .ref (bd 23), .ref (bd 24), .long (Int64.ofInt bb.2.1), .long (Int64.ofInt bb.2.2.1)])), ((bd 18), .inr (2, [.int (bI o), .ref (na 31), .ref (na 32), .ref (na 33)])), ((bd 19), .inl (ka 0, 3, .inl (lzS sz9 zs 9))), ((bd 20), .inl (ka 3, 5, .inr (.inr (.inr (.inr (nR na 34)))))), ((bd 21), .inl (ka 0, 4, .inl sa)), ((bd 22), .inl (ka 0, 4, .inl ss)), ((bd 23), .inl (ka 0, 4, .inl bb.2.2.2.1)), ((bd 24), .inl (ka 0, 4, .inl bb.2.2.2.2)), ((bd 2), .inr (3, [.int (nI L), .ref (bd 7), .ref (bd 8), .ref (bd 9), .ref (bd 10), .ref (bd 11), .int sz9, .int re9])), ((bd 7), .inl (ka 0, 8, .inl mo)), ((bd 8), .inl (ka 0, 8, .inl an)), ((bd 9), .inl (ka 0, 8, .inl pl)), ((bd 10), .inl (ka 0, 24, .inl ho)), ((bd 11), .inl (ka 0, 2, .inl le))] ++ nP na N) H locs := hB
  refine lv_aload_n hx hb dX4_seek_8 rfl (lv_at hl 0 rfl) ?_
  refine lv_aload_n hx hb dX4_seek_9 rfl (lv_at hl 1 rfl) ?_
  refine lv_iload_n hx hb dX4_seek_10 rfl (lv_at hl 2 rfl) ?_
  refine zVi zm_X4_62 hF hB (c_X3_openBits l D ka kb bd (nI L) sz9 re9 le ho p9 (hpl9)) [8, 13, 12] rfl (by decide) [(bd 2), (bd 11), (bd 10)] (fun _ => rfl) rfl 8 3 rfl rfl rfl ⟨Nat.le_of_ble_eq_true rfl, Nat.le_of_ble_eq_true rfl⟩ rfl hl.1 (Nat.le_of_ble_eq_true rfl) ⟨Nat.le_refl _, Nat.le_refl _⟩ dX4_seek_11 ?_
  clear hB
  try clear locs
  try clear H
  intro r3 u3 H locs hp hB
  obtain rfl : r3 = opN (le p9) p9 ho 12 := hp
  replace hB : zB D A s ([((bd 4), .inr (4, [.ref (bd 18), .ref (bd 19), .int (nI (lzC sz9 9)), .int opb, .int rch, .int wnt, .ref (bd 20), .ref (bd 21), .ref (bd 22), .int bb.1, .ref (bd 23), .ref (bd 24), .long (Int64.ofInt bb.2.1), .long (Int64.ofInt bb.2.2.1)])), ((bd 18), .inr (2, [.int (bI o), .ref (na 31), .ref (na 32), .ref (na 33)])), ((bd 19), .inl (ka 0, 3, .inl (lzS sz9 zs 9))), ((bd 20), .inl (ka 3, 5, .inr (.inr (.inr (.inr (nR na 34)))))), ((bd 21), .inl (ka 0, 4, .inl sa)), ((bd 22), .inl (ka 0, 4, .inl ss)), ((bd 23), .inl (ka 0, 4, .inl bb.2.2.2.1)), ((bd 24), .inl (ka 0, 4, .inl bb.2.2.2.2)), ((bd 2), .inr (3, [.int (nI L), .ref (bd 7), .ref (bd 8), .ref (bd 9), .ref (bd 10), .ref (bd 11), .int sz9, .int re9])), ((bd 7), .inl (ka 0, 8, .inl mo)), ((bd 8), .inl (ka 0, 8, .inl an)), ((bd 9), .inl (ka 0, 8, .inl pl)), ((bd 10), .inl (ka 0, 24, .inl ho)), ((bd 11), .inl (ka 0, 2, .inl le))] ++ nP na N) H locs := hB
  refine zput_f zp_X4_66 hF hB 0 rfl (rfl) (rfl) (Nat.le_of_ble_eq_true rfl) dX4_seek_14 ?_
  clear hB
  try clear locs
  try clear H
  intro H locs hB
  replace hB : zB D A s ([((bd 4), .inr (4, [.ref (bd 18), .ref (bd 19), .int (nI (lzC sz9 9)), .int (opN (le p9) p9 ho 12), .int rch, .int wnt, .ref (bd 20), .ref (bd 21), .ref (bd 22), .int bb.1, .ref (bd 23), .ref (bd 24), .long (Int64.ofInt bb.2.1), .long (Int64.ofInt bb.2.2.1)])), ((bd 18), .inr (2, [.int (bI o), .ref (na 31), .ref (na 32), .ref (na 33)])), ((bd 19), .inl (ka 0, 3, .inl (lzS sz9 zs 9))), ((bd 20), .inl (ka 3, 5, .inr (.inr (.inr (.inr (nR na 34)))))), ((bd 21), .inl (ka 0, 4, .inl sa)), ((bd 22), .inl (ka 0, 4, .inl ss)), ((bd 23), .inl (ka 0, 4, .inl bb.2.2.2.1)), ((bd 24), .inl (ka 0, 4, .inl bb.2.2.2.2)), ((bd 2), .inr (3, [.int (nI L), .ref (bd 7), .ref (bd 8), .ref (bd 9), .ref (bd 10), .ref (bd 11), .int sz9, .int re9])), ((bd 7), .inl (ka 0, 8, .inl mo)), ((bd 8), .inl (ka 0, 8, .inl an)), ((bd 9), .inl (ka 0, 8, .inl pl)), ((bd 10), .inl (ka 0, 24, .inl ho)), ((bd 11), .inl (ka 0, 2, .inl le))] ++ nP na N) H locs := hB
  refine lv_aload_n hx hb dX4_seek_17 rfl (lv_at hl 0 rfl) ?_
  refine lv_aload_n hx hb dX4_seek_18 rfl (lv_at hl 1 rfl) ?_
  refine zVi zm_X4_47 hF hB (c_X3_reach l D ka kb bd (nI L) sz9 re9 ) [8] rfl (by decide) [(bd 2)] (fun _ => rfl) rfl 8 3 rfl rfl rfl ⟨Nat.le_of_ble_eq_true rfl, Nat.le_of_ble_eq_true rfl⟩ rfl hl.1 (Nat.le_of_ble_eq_true rfl) ⟨Nat.le_refl _, Nat.le_refl _⟩ dX4_seek_19 ?_
  clear hB
  try clear locs
  try clear H
  intro r4 u4 H locs hp hB
  have e9 : re9 = r4 := hp.symm
  subst e9
  replace hB : zB D A s ([((bd 4), .inr (4, [.ref (bd 18), .ref (bd 19), .int (nI (lzC sz9 9)), .int (opN (le p9) p9 ho 12), .int rch, .int wnt, .ref (bd 20), .ref (bd 21), .ref (bd 22), .int bb.1, .ref (bd 23), .ref (bd 24), .long (Int64.ofInt bb.2.1), .long (Int64.ofInt bb.2.2.1)])), ((bd 18), .inr (2, [.int (bI o), .ref (na 31), .ref (na 32), .ref (na 33)])), ((bd 19), .inl (ka 0, 3, .inl (lzS sz9 zs 9))), ((bd 20), .inl (ka 3, 5, .inr (.inr (.inr (.inr (nR na 34)))))), ((bd 21), .inl (ka 0, 4, .inl sa)), ((bd 22), .inl (ka 0, 4, .inl ss)), ((bd 23), .inl (ka 0, 4, .inl bb.2.2.2.1)), ((bd 24), .inl (ka 0, 4, .inl bb.2.2.2.2)), ((bd 2), .inr (3, [.int (nI L), .ref (bd 7), .ref (bd 8), .ref (bd 9), .ref (bd 10), .ref (bd 11), .int sz9, .int re9])), ((bd 7), .inl (ka 0, 8, .inl mo)), ((bd 8), .inl (ka 0, 8, .inl an)), ((bd 9), .inl (ka 0, 8, .inl pl)), ((bd 10), .inl (ka 0, 24, .inl ho)), ((bd 11), .inl (ka 0, 2, .inl le))] ++ nP na N) H locs := hB
  refine ztopi (y := nI (aN re9)) (hre2) ?_
  refine zput_f zp_X4_69 hF hB 0 rfl (rfl) (rfl) (Nat.le_of_ble_eq_true rfl) dX4_seek_22 ?_
  clear hB
  try clear locs
  try clear H
  intro H locs hB
  replace hB : zB D A s ([((bd 4), .inr (4, [.ref (bd 18), .ref (bd 19), .int (nI (lzC sz9 9)), .int (opN (le p9) p9 ho 12), .int (nI (aN re9)), .int wnt, .ref (bd 20), .ref (bd 21), .ref (bd 22), .int bb.1, .ref (bd 23), .ref (bd 24), .long (Int64.ofInt bb.2.1), .long (Int64.ofInt bb.2.2.1)])), ((bd 18), .inr (2, [.int (bI o), .ref (na 31), .ref (na 32), .ref (na 33)])), ((bd 19), .inl (ka 0, 3, .inl (lzS sz9 zs 9))), ((bd 20), .inl (ka 3, 5, .inr (.inr (.inr (.inr (nR na 34)))))), ((bd 21), .inl (ka 0, 4, .inl sa)), ((bd 22), .inl (ka 0, 4, .inl ss)), ((bd 23), .inl (ka 0, 4, .inl bb.2.2.2.1)), ((bd 24), .inl (ka 0, 4, .inl bb.2.2.2.2)), ((bd 2), .inr (3, [.int (nI L), .ref (bd 7), .ref (bd 8), .ref (bd 9), .ref (bd 10), .ref (bd 11), .int sz9, .int re9])), ((bd 7), .inl (ka 0, 8, .inl mo)), ((bd 8), .inl (ka 0, 8, .inl an)), ((bd 9), .inl (ka 0, 8, .inl pl)), ((bd 10), .inl (ka 0, 24, .inl ho)), ((bd 11), .inl (ka 0, 2, .inl le))] ++ nP na N) H locs := hB
  refine lv_aload_n hx hb dX4_seek_25 rfl (lv_at hl 1 rfl) ?_
  refine lv_iload_n hx hb dX4_seek_26 rfl (lv_at hl 2 rfl) ?_
  refine lv_aload_n hx hb dX4_seek_27 rfl (lv_at hl 0 rfl) ?_
  refine zget zf_X4_24 hF hB 0 rfl rfl dX4_seek_28 ?_
  refine lv_iconst (v := 0) hx hb dX4_seek_31 (by decide) ?_
  refine zaald hF hB 3 rfl (t0 := 3) rfl 0 (by decide) (by decide) (by decide) (r := na 34) (rfl) dX4_seek_32 ?_
  refine zVv zm_X4_41 hF hB (c_X3_takePullBy20 l D ka kb bd sz9 re9 L mo an pl ho na N 34 p9 (by decide) (hpl9) (hok) (hoh)) ([8, 9, 10, 11, 12] ++ npr 14) (zsel_pool rfl rfl) (va_nd_pool rfl rfl) ([(bd 2), (bd 7), (bd 8), (bd 9), (bd 10)] ++ nA na) (fun _ => zad_pool rfl) (zad_pool rfl) 8 3 rfl rfl rfl ⟨Nat.le_of_ble_eq_true rfl, Nat.le_of_ble_eq_true rfl⟩ rfl hl.1 (Nat.le_of_ble_eq_true rfl) ⟨Nat.le_refl _, Nat.le_refl _⟩ dX4_seek_33 ?_
  clear hB
  try clear locs
  try clear H
  intro u5 H locs hp hB
  replace hB : zB D A s ([((bd 4), .inr (4, [.ref (bd 18), .ref (bd 19), .int (nI (lzC sz9 9)), .int (opN (le p9) p9 ho 12), .int (nI (aN re9)), .int wnt, .ref (bd 20), .ref (bd 21), .ref (bd 22), .int bb.1, .ref (bd 23), .ref (bd 24), .long (Int64.ofInt bb.2.1), .long (Int64.ofInt bb.2.2.1)])), ((bd 18), .inr (2, [.int (bI o), .ref (na 31), .ref (na 32), .ref (na 33)])), ((bd 19), .inl (ka 0, 3, .inl (lzS sz9 zs 9))), ((bd 20), .inl (ka 3, 5, .inr (.inr (.inr (.inr (nR na 34)))))), ((bd 21), .inl (ka 0, 4, .inl sa)), ((bd 22), .inl (ka 0, 4, .inl ss)), ((bd 23), .inl (ka 0, 4, .inl bb.2.2.2.1)), ((bd 24), .inl (ka 0, 4, .inl bb.2.2.2.2)), ((bd 2), .inr (3, [.int (nI L), .ref (bd 7), .ref (bd 8), .ref (bd 9), .ref (bd 10), .ref (bd 11), .int sz9, .int re9])), ((bd 7), .inl (ka 0, 8, .inl mo)), ((bd 8), .inl (ka 0, 8, .inl an)), ((bd 9), .inl (ka 0, 8, .inl pl)), ((bd 10), .inl (ka 0, 24, .inl ho)), ((bd 11), .inl (ka 0, 2, .inl le))] ++ nP na (upN N 34 (p20N (pulI p9 L mo an pl ho)))) H locs := zB_pool hB rfl rfl rfl rfl
  obtain ⟨N0, hN0⟩ : ∃ M, M = (upN N 34 (p20N (pulI p9 L mo an pl ho))) := ⟨_, rfl⟩
  rw [← hN0] at hB
  have q0 : N0 (34 + ([] : List Nat).length) = p20N (prP (pulI p9 L mo an pl ho) []) := by rw [hN0]; exact upN_eq
  have kN0 : ∀ k9, (k9 < 34 ∨ 38 < k9) → N0 k9 = N k9 := fun k9 h9 => by rw [hN0, upN_ne (by omega)]
  refine lv_aload_n hx hb dX4_seek_36 rfl (lv_at hl 0 rfl) ?_
  refine lv_iconst (v := -1) hx hb dX4_seek_37 (by decide) ?_
  refine zput_f zp_X4_71 hF hB 0 rfl (rfl) (rfl) (Nat.le_of_ble_eq_true rfl) dX4_seek_38 ?_
  clear hB
  try clear locs
  try clear H
  intro H locs hB
  replace hB : zB D A s ([((bd 4), .inr (4, [.ref (bd 18), .ref (bd 19), .int (nI (lzC sz9 9)), .int (opN (le p9) p9 ho 12), .int (nI (aN re9)), .int wnt, .ref (bd 20), .ref (bd 21), .ref (bd 22), .int (-1 : Int32), .ref (bd 23), .ref (bd 24), .long (Int64.ofInt bb.2.1), .long (Int64.ofInt bb.2.2.1)])), ((bd 18), .inr (2, [.int (bI o), .ref (na 31), .ref (na 32), .ref (na 33)])), ((bd 19), .inl (ka 0, 3, .inl (lzS sz9 zs 9))), ((bd 20), .inl (ka 3, 5, .inr (.inr (.inr (.inr (nR na 34)))))), ((bd 21), .inl (ka 0, 4, .inl sa)), ((bd 22), .inl (ka 0, 4, .inl ss)), ((bd 23), .inl (ka 0, 4, .inl bb.2.2.2.1)), ((bd 24), .inl (ka 0, 4, .inl bb.2.2.2.2)), ((bd 2), .inr (3, [.int (nI L), .ref (bd 7), .ref (bd 8), .ref (bd 9), .ref (bd 10), .ref (bd 11), .int sz9, .int re9])), ((bd 7), .inl (ka 0, 8, .inl mo)), ((bd 8), .inl (ka 0, 8, .inl an)), ((bd 9), .inl (ka 0, 8, .inl pl)), ((bd 10), .inl (ka 0, 24, .inl ho)), ((bd 11), .inl (ka 0, 2, .inl le))] ++ nP na N0) H locs := hB
  refine lv_iconst (v := 0) hx hb dX4_seek_41 (by decide) ?_
  refine lv_istore (lv' := [(4, .int (0 : Int32)), (0, .ref (bd 4)), (1, .ref (bd 2)), (2, .int (nI p9)), (3, .int (nI m9))]) hx hb dX4_seek_42 hl (by decide) rfl ?_
  clear hl
  clear ls
  intro ls hl
  refine lv_iload hx hb dX4_seek_44 (lv_at hl 0 rfl) ?_
  refine lv_iload_n hx hb dX4_seek_46 rfl (lv_at hl 4 rfl) ?_
  refine lv_icmp_gt (tgt := 76) hx hb dX4_seek_47 (by decide) (fun h47 => ?_) (fun h47 => ?_)
  · skip
    exact absurd ((nI_leI (a := 0) (b := m9) (by decide) (by omega)).mpr (Nat.zero_le _)) (Int32.not_le.mpr h47)
  · skip
    have hm0 : 0 ≤ m9 := (nI_leI (a := 0) (b := m9) (by decide) (by omega)).mp (Int32.not_lt.mp h47)
    refine lv_aload_n hx hb dX4_seek_50 rfl (lv_at hl 1 rfl) ?_
    refine zget zf_X4_71 hF hB 0 rfl rfl dX4_seek_51 ?_
    refine lv_iconst (v := -1) hx hb dX4_seek_54 (by decide) ?_
    refine lv_icmp_ne (tgt := 76) hx hb dX4_seek_55 (by decide) (fun h55 => ?_) (fun h55 => ?_)
    · skip
      exact absurd rfl h55
    · skip
      refine lv_aload_n hx hb dX4_seek_58 rfl (lv_at hl 1 rfl) ?_
      refine lv_iload hx hb dX4_seek_59 (lv_at hl 0 rfl) ?_
      refine zput_f zp_X4_74 hF hB 0 rfl (rfl) (rfl) (Nat.le_of_ble_eq_true rfl) dX4_seek_61 ?_
      clear hB
      try clear locs
      try clear H
      intro H locs hB
      replace hB : zB D A s ([((bd 4), .inr (4, [.ref (bd 18), .ref (bd 19), .int (nI (lzC sz9 9)), .int (opN (le p9) p9 ho 12), .int (nI (aN re9)), .int (0 : Int32), .ref (bd 20), .ref (bd 21), .ref (bd 22), .int (-1 : Int32), .ref (bd 23), .ref (bd 24), .long (Int64.ofInt bb.2.1), .long (Int64.ofInt bb.2.2.1)])), ((bd 18), .inr (2, [.int (bI o), .ref (na 31), .ref (na 32), .ref (na 33)])), ((bd 19), .inl (ka 0, 3, .inl (lzS sz9 zs 9))), ((bd 20), .inl (ka 3, 5, .inr (.inr (.inr (.inr (nR na 34)))))), ((bd 21), .inl (ka 0, 4, .inl sa)), ((bd 22), .inl (ka 0, 4, .inl ss)), ((bd 23), .inl (ka 0, 4, .inl bb.2.2.2.1)), ((bd 24), .inl (ka 0, 4, .inl bb.2.2.2.2)), ((bd 2), .inr (3, [.int (nI L), .ref (bd 7), .ref (bd 8), .ref (bd 9), .ref (bd 10), .ref (bd 11), .int sz9, .int re9])), ((bd 7), .inl (ka 0, 8, .inl mo)), ((bd 8), .inl (ka 0, 8, .inl an)), ((bd 9), .inl (ka 0, 8, .inl pl)), ((bd 10), .inl (ka 0, 24, .inl ho)), ((bd 11), .inl (ka 0, 2, .inl le))] ++ nP na N0) H locs := hB
      refine lv_aload_n hx hb dX4_seek_64 rfl (lv_at hl 1 rfl) ?_
      refine lv_iconst (v := 0) hx hb dX4_seek_65 (by decide) ?_
      refine lv_iconst (v := 0) hx hb dX4_seek_66 (by decide) ?_
      refine zSv zm_X4_77 hF hB (c_X4_extend_0 l D ka kb bd o (lzC sz9 9) (opN (le p9) p9 ho 12) (aN re9) (lzS sz9 zs 9) (fun i => aN (lzS sz9 zs 9 i)) ([]) ((-1 : Int32), bb.2) sa ss na N0 (pulI p9 L mo an pl ho) 0 (lzC_le _ _) (lz_ok) (by unfold aN; omega) (fun k hk => pulI_B hpl9 hok hoh hk) (trivial) (by decide) (q0) (hB9) (by decide)) ([0, 1, 2, 3, 4, 5, 6, 7] ++ npr 14) (zsel_pool rfl rfl) (va_nd_pool rfl rfl) ([(bd 4), (bd 18), (bd 19), (bd 20), (bd 21), (bd 22), (bd 23), (bd 24)] ++ nA na) (fun _ => zad_pool rfl) (zad_pool rfl) rfl ⟨Nat.le_of_ble_eq_true rfl, Nat.le_of_ble_eq_true rfl⟩ rfl hl.1 (Nat.le_of_ble_eq_true rfl) ⟨Nat.le_refl _, Nat.le_refl _⟩ dX4_seek_67 ?_
      clear hB
      try clear locs
      try clear H
      intro u6 H locs hp hB
      obtain ⟨N96, sa96, ss96, o96⟩ := u6
      have hp6 : (∀ k9, (k9 < 35 + ([]).length ∨ 38 < k9) → N96 k9 = N0 k9) ∧ (∀ j, j < ([]).length → sa96 j = sa j ∧ ss96 j = ss j) ∧ bB (clR (pulI p9 L mo an pl ho) (aN re9) (mzN (lzC sz9 9) (fun i => aN (lzS sz9 zs 9 i))) (fun a9 => dB (lgX (opN (le p9) p9 ho 12) a9 = 1)) (fun i => aN (lzS sz9 zs 9 i)) (lzC sz9 9) 0 0 ([]) ((-1 : Int32), bb.2)) := hp
      have HPP := hp6
      replace hB : zB D A s ([((bd 4), .inr (4, [.ref (bd 18), .ref (bd 19), .int (nI (lzC sz9 9)), .int (opN (le p9) p9 ho 12), .int (nI (aN re9)), .int (0 : Int32), .ref (bd 20), .ref (bd 21), .ref (bd 22), .int ((clR (pulI p9 L mo an pl ho) (aN re9) (mzN (lzC sz9 9) (fun i => aN (lzS sz9 zs 9 i))) (fun a9 => dB (lgX (opN (le p9) p9 ho 12) a9 = 1)) (fun i => aN (lzS sz9 zs 9 i)) (lzC sz9 9) 0 0 ([]) ((-1 : Int32), bb.2)).1), .ref (bd 23), .ref (bd 24), .long (Int64.ofInt (clR (pulI p9 L mo an pl ho) (aN re9) (mzN (lzC sz9 9) (fun i => aN (lzS sz9 zs 9 i))) (fun a9 => dB (lgX (opN (le p9) p9 ho 12) a9 = 1)) (fun i => aN (lzS sz9 zs 9 i)) (lzC sz9 9) 0 0 ([]) ((-1 : Int32), bb.2)).2.1), .long (Int64.ofInt (clR (pulI p9 L mo an pl ho) (aN re9) (mzN (lzC sz9 9) (fun i => aN (lzS sz9 zs 9 i))) (fun a9 => dB (lgX (opN (le p9) p9 ho 12) a9 = 1)) (fun i => aN (lzS sz9 zs 9 i)) (lzC sz9 9) 0 0 ([]) ((-1 : Int32), bb.2)).2.2.1)])), ((bd 18), .inr (2, [.int (bI o96), .ref (na 31), .ref (na 32), .ref (na 33)])), ((bd 19), .inl (ka 0, 3, .inl (lzS sz9 zs 9))), ((bd 20), .inl (ka 3, 5, .inr (.inr (.inr (.inr (nR na 34)))))), ((bd 21), .inl (ka 0, 4, .inl sa96)), ((bd 22), .inl (ka 0, 4, .inl ss96)), ((bd 23), .inl (ka 0, 4, .inl ((clR (pulI p9 L mo an pl ho) (aN re9) (mzN (lzC sz9 9) (fun i => aN (lzS sz9 zs 9 i))) (fun a9 => dB (lgX (opN (le p9) p9 ho 12) a9 = 1)) (fun i => aN (lzS sz9 zs 9 i)) (lzC sz9 9) 0 0 ([]) ((-1 : Int32), bb.2)).2.2.2.1))), ((bd 24), .inl (ka 0, 4, .inl ((clR (pulI p9 L mo an pl ho) (aN re9) (mzN (lzC sz9 9) (fun i => aN (lzS sz9 zs 9 i))) (fun a9 => dB (lgX (opN (le p9) p9 ho 12) a9 = 1)) (fun i => aN (lzS sz9 zs 9 i)) (lzC sz9 9) 0 0 ([]) ((-1 : Int32), bb.2)).2.2.2.2))), ((bd 2), .inr (3, [.int (nI L), .ref (bd 7), .ref (bd 8), .ref (bd 9), .ref (bd 10), .ref (bd 11), .int sz9, .int re9])), ((bd 7), .inl (ka 0, 8, .inl mo)), ((bd 8), .inl (ka 0, 8, .inl an)), ((bd 9), .inl (ka 0, 8, .inl pl)), ((bd 10), .inl (ka 0, 24, .inl ho)), ((bd 11), .inl (ka 0, 2, .inl le))] ++ nP na N96) H locs := zB_pool hB rfl rfl rfl rfl
      have hE0 := HPP
      have hs1 : (clR (pulI p9 L mo an pl ho) (aN re9) (mzN (lzC sz9 9) (fun i => aN (lzS sz9 zs 9 i))) (fun a9 => dB (lgX (opN (le p9) p9 ho 12) a9 = 1)) (fun i => aN (lzS sz9 zs 9 i)) (lzC sz9 9) 0 0 [] ((-1 : Int32), bb.2)) = seS (fun n b => clR (pulI p9 L mo an pl ho) (aN re9) (mzN (lzC sz9 9) (fun i => aN (lzS sz9 zs 9 i))) (fun a9 => dB (lgX (opN (le p9) p9 ho 12) a9 = 1)) (fun i => aN (lzS sz9 zs 9 i)) (lzC sz9 9) n 0 [] b) 1 ((-1 : Int32), bb.2) := by rw [seS_s, if_pos (by first | rfl | exact h55)]; rfl
      have q1 : N96 (34 + ([] : List Nat).length) = p20N (prP (pulI p9 L mo an pl ho) []) := (hE0.1 34 (Or.inl (by decide))).trans q0
      obtain ⟨b1, hbx1⟩ : ∃ x, x = (clR (pulI p9 L mo an pl ho) (aN re9) (mzN (lzC sz9 9) (fun i => aN (lzS sz9 zs 9 i))) (fun a9 => dB (lgX (opN (le p9) p9 ho 12) a9 = 1)) (fun i => aN (lzS sz9 zs 9 i)) (lzC sz9 9) 0 0 [] ((-1 : Int32), bb.2)) := ⟨_, rfl⟩
      rw [← hbx1] at hB hs1 hE0
      have kN1 : ∀ k9, (k9 < 34 ∨ 38 < k9) → N96 k9 = N k9 := fun k9 h9 => (hE0.1 k9 (by show k9 < 35 + 0 ∨ _; omega)).trans (kN0 k9 h9)
      replace hB : zB D A s ([((bd 4), .inr (4, [.ref (bd 18), .ref (bd 19), .int (nI (lzC sz9 9)), .int (opN (le p9) p9 ho 12), .int (nI (aN re9)), .int (0 : Int32), .ref (bd 20), .ref (bd 21), .ref (bd 22), .int b1.1, .ref (bd 23), .ref (bd 24), .long (Int64.ofInt b1.2.1), .long (Int64.ofInt b1.2.2.1)])), ((bd 18), .inr (2, [.int (bI o96), .ref (na 31), .ref (na 32), .ref (na 33)])), ((bd 19), .inl (ka 0, 3, .inl (lzS sz9 zs 9))), ((bd 20), .inl (ka 3, 5, .inr (.inr (.inr (.inr (nR na 34)))))), ((bd 21), .inl (ka 0, 4, .inl sa96)), ((bd 22), .inl (ka 0, 4, .inl ss96)), ((bd 23), .inl (ka 0, 4, .inl b1.2.2.2.1)), ((bd 24), .inl (ka 0, 4, .inl b1.2.2.2.2)), ((bd 2), .inr (3, [.int (nI L), .ref (bd 7), .ref (bd 8), .ref (bd 9), .ref (bd 10), .ref (bd 11), .int sz9, .int re9])), ((bd 7), .inl (ka 0, 8, .inl mo)), ((bd 8), .inl (ka 0, 8, .inl an)), ((bd 9), .inl (ka 0, 8, .inl pl)), ((bd 10), .inl (ka 0, 24, .inl ho)), ((bd 11), .inl (ka 0, 2, .inl le))] ++ nP na N96) H locs := by exact hB
      refine lv_iinc (v := (1 : Int32)) (lv' := [(4, .int (1 : Int32)), (0, .ref (bd 4)), (1, .ref (bd 2)), (2, .int (nI p9)), (3, .int (nI m9))]) hx hb dX4_seek_70 hl (k := 0) rfl (by decide) (by decide) rfl ?_
      clear hl
      clear ls
      intro ls hl
      refine lv_goto (tgt := 44) hx hb dX4_seek_73 (by decide) ?_
      refine lv_iload hx hb dX4_seek_44 (lv_at hl 0 rfl) ?_
      refine lv_iload_n hx hb dX4_seek_46 rfl (lv_at hl 4 rfl) ?_
      refine lv_icmp_gt (tgt := 76) hx hb dX4_seek_47 (by decide) (fun h47 => ?_) (fun h47 => ?_)
      · skip
        have hmn : m9 + 1 = 1 := by have := mt (nI_leI (a := 1) (b := m9) (by decide) (by omega)).mpr (Int32.not_le.mpr h47); omega
        have hR : seS (fun n b => clR (pulI p9 L mo an pl ho) (aN re9) (mzN (lzC sz9 9) (fun i => aN (lzS sz9 zs 9 i))) (fun a9 => dB (lgX (opN (le p9) p9 ho 12) a9 = 1)) (fun i => aN (lzS sz9 zs 9 i)) (lzC sz9 9) n 0 [] b) (m9 + 1) ((-1 : Int32), bb.2) = b1 := by rw [hmn, ← hs1]
        exact zretv hF hB (N96, sa96, ss96, (o96), (0 : Int32)) (⟨kN1, by rw [hR]; exact hE0.2.2⟩) (by rw [hR]) dX4_seek_76 hQ
      · skip
        have hm1 : 1 ≤ m9 := (nI_leI (a := 1) (b := m9) (by decide) (by omega)).mp (Int32.not_lt.mp h47)
        refine lv_aload_n hx hb dX4_seek_50 rfl (lv_at hl 1 rfl) ?_
        refine zget zf_X4_71 hF hB 0 rfl rfl dX4_seek_51 ?_
        refine lv_iconst (v := -1) hx hb dX4_seek_54 (by decide) ?_
        refine lv_icmp_ne (tgt := 76) hx hb dX4_seek_55 (by decide) (fun h55 => ?_) (fun h55 => ?_)
        · skip
          have h55 : ¬ b1.1 = -1 := h55
          have hR : seS (fun n b => clR (pulI p9 L mo an pl ho) (aN re9) (mzN (lzC sz9 9) (fun i => aN (lzS sz9 zs 9 i))) (fun a9 => dB (lgX (opN (le p9) p9 ho 12) a9 = 1)) (fun i => aN (lzS sz9 zs 9 i)) (lzC sz9 9) n 0 [] b) (m9 + 1) ((-1 : Int32), bb.2) = b1 := (seS_st (i := 1) (by rw [← hs1]; exact h55) (m9 + 1 - 1) (m9 + 1) (by omega)).trans hs1.symm
          exact zretv hF hB (N96, sa96, ss96, (o96), (0 : Int32)) (⟨kN1, by rw [hR]; exact hE0.2.2⟩) (by rw [hR]) dX4_seek_76 hQ
        · skip
          have h55 : b1.1 = -1 := h55
          refine lv_aload_n hx hb dX4_seek_58 rfl (lv_at hl 1 rfl) ?_
          refine lv_iload hx hb dX4_seek_59 (lv_at hl 0 rfl) ?_
          refine zput_f zp_X4_74 hF hB 0 rfl (rfl) (rfl) (Nat.le_of_ble_eq_true rfl) dX4_seek_61 ?_
          clear hB
          try clear locs
          try clear H
          intro H locs hB
          replace hB : zB D A s ([((bd 4), .inr (4, [.ref (bd 18), .ref (bd 19), .int (nI (lzC sz9 9)), .int (opN (le p9) p9 ho 12), .int (nI (aN re9)), .int (1 : Int32), .ref (bd 20), .ref (bd 21), .ref (bd 22), .int b1.1, .ref (bd 23), .ref (bd 24), .long (Int64.ofInt b1.2.1), .long (Int64.ofInt b1.2.2.1)])), ((bd 18), .inr (2, [.int (bI o96), .ref (na 31), .ref (na 32), .ref (na 33)])), ((bd 19), .inl (ka 0, 3, .inl (lzS sz9 zs 9))), ((bd 20), .inl (ka 3, 5, .inr (.inr (.inr (.inr (nR na 34)))))), ((bd 21), .inl (ka 0, 4, .inl sa96)), ((bd 22), .inl (ka 0, 4, .inl ss96)), ((bd 23), .inl (ka 0, 4, .inl b1.2.2.2.1)), ((bd 24), .inl (ka 0, 4, .inl b1.2.2.2.2)), ((bd 2), .inr (3, [.int (nI L), .ref (bd 7), .ref (bd 8), .ref (bd 9), .ref (bd 10), .ref (bd 11), .int sz9, .int re9])), ((bd 7), .inl (ka 0, 8, .inl mo)), ((bd 8), .inl (ka 0, 8, .inl an)), ((bd 9), .inl (ka 0, 8, .inl pl)), ((bd 10), .inl (ka 0, 24, .inl ho)), ((bd 11), .inl (ka 0, 2, .inl le))] ++ nP na N96) H locs := hB
          refine lv_aload_n hx hb dX4_seek_64 rfl (lv_at hl 1 rfl) ?_
          refine lv_iconst (v := 0) hx hb dX4_seek_65 (by decide) ?_
          refine lv_iconst (v := 0) hx hb dX4_seek_66 (by decide) ?_
          refine zSv zm_X4_77 hF hB (c_X4_extend_1 l D ka kb bd o96 (lzC sz9 9) (opN (le p9) p9 ho 12) (aN re9) (lzS sz9 zs 9) (fun i => aN (lzS sz9 zs 9 i)) ([]) b1 sa96 ss96 na N96 (pulI p9 L mo an pl ho) 0 (lzC_le _ _) (lz_ok) (by unfold aN; omega) (fun k hk => pulI_B hpl9 hok hoh hk) (trivial) (by decide) (q1) (hE0.2.2) (by decide)) ([0, 1, 2, 3, 4, 5, 6, 7] ++ npr 14) (zsel_pool rfl rfl) (va_nd_pool rfl rfl) ([(bd 4), (bd 18), (bd 19), (bd 20), (bd 21), (bd 22), (bd 23), (bd 24)] ++ nA na) (fun _ => zad_pool rfl) (zad_pool rfl) rfl ⟨Nat.le_of_ble_eq_true rfl, Nat.le_of_ble_eq_true rfl⟩ rfl hl.1 (Nat.le_of_ble_eq_true rfl) ⟨Nat.le_refl _, Nat.le_refl _⟩ dX4_seek_67 ?_
          clear hB
          try clear locs
          try clear H
          intro u7 H locs hp hB
          obtain ⟨N97, sa97, ss97, o97⟩ := u7
          have hp7 : (∀ k9, (k9 < 35 + ([]).length ∨ 38 < k9) → N97 k9 = N96 k9) ∧ (∀ j, j < ([]).length → sa97 j = sa96 j ∧ ss97 j = ss96 j) ∧ bB (clR (pulI p9 L mo an pl ho) (aN re9) (mzN (lzC sz9 9) (fun i => aN (lzS sz9 zs 9 i))) (fun a9 => dB (lgX (opN (le p9) p9 ho 12) a9 = 1)) (fun i => aN (lzS sz9 zs 9 i)) (lzC sz9 9) 1 0 ([]) b1) := hp
          have HPP := hp7
          replace hB : zB D A s ([((bd 4), .inr (4, [.ref (bd 18), .ref (bd 19), .int (nI (lzC sz9 9)), .int (opN (le p9) p9 ho 12), .int (nI (aN re9)), .int (1 : Int32), .ref (bd 20), .ref (bd 21), .ref (bd 22), .int ((clR (pulI p9 L mo an pl ho) (aN re9) (mzN (lzC sz9 9) (fun i => aN (lzS sz9 zs 9 i))) (fun a9 => dB (lgX (opN (le p9) p9 ho 12) a9 = 1)) (fun i => aN (lzS sz9 zs 9 i)) (lzC sz9 9) 1 0 ([]) b1).1), .ref (bd 23), .ref (bd 24), .long (Int64.ofInt (clR (pulI p9 L mo an pl ho) (aN re9) (mzN (lzC sz9 9) (fun i => aN (lzS sz9 zs 9 i))) (fun a9 => dB (lgX (opN (le p9) p9 ho 12) a9 = 1)) (fun i => aN (lzS sz9 zs 9 i)) (lzC sz9 9) 1 0 ([]) b1).2.1), .long (Int64.ofInt (clR (pulI p9 L mo an pl ho) (aN re9) (mzN (lzC sz9 9) (fun i => aN (lzS sz9 zs 9 i))) (fun a9 => dB (lgX (opN (le p9) p9 ho 12) a9 = 1)) (fun i => aN (lzS sz9 zs 9 i)) (lzC sz9 9) 1 0 ([]) b1).2.2.1)])), ((bd 18), .inr (2, [.int (bI o97), .ref (na 31), .ref (na 32), .ref (na 33)])), ((bd 19), .inl (ka 0, 3, .inl (lzS sz9 zs 9))), ((bd 20), .inl (ka 3, 5, .inr (.inr (.inr (.inr (nR na 34)))))), ((bd 21), .inl (ka 0, 4, .inl sa97)), ((bd 22), .inl (ka 0, 4, .inl ss97)), ((bd 23), .inl (ka 0, 4, .inl ((clR (pulI p9 L mo an pl ho) (aN re9) (mzN (lzC sz9 9) (fun i => aN (lzS sz9 zs 9 i))) (fun a9 => dB (lgX (opN (le p9) p9 ho 12) a9 = 1)) (fun i => aN (lzS sz9 zs 9 i)) (lzC sz9 9) 1 0 ([]) b1).2.2.2.1))), ((bd 24), .inl (ka 0, 4, .inl ((clR (pulI p9 L mo an pl ho) (aN re9) (mzN (lzC sz9 9) (fun i => aN (lzS sz9 zs 9 i))) (fun a9 => dB (lgX (opN (le p9) p9 ho 12) a9 = 1)) (fun i => aN (lzS sz9 zs 9 i)) (lzC sz9 9) 1 0 ([]) b1).2.2.2.2))), ((bd 2), .inr (3, [.int (nI L), .ref (bd 7), .ref (bd 8), .ref (bd 9), .ref (bd 10), .ref (bd 11), .int sz9, .int re9])), ((bd 7), .inl (ka 0, 8, .inl mo)), ((bd 8), .inl (ka 0, 8, .inl an)), ((bd 9), .inl (ka 0, 8, .inl pl)), ((bd 10), .inl (ka 0, 24, .inl ho)), ((bd 11), .inl (ka 0, 2, .inl le))] ++ nP na N97) H locs := zB_pool hB rfl rfl rfl rfl
          have hE1 := HPP
          have hs2 : (clR (pulI p9 L mo an pl ho) (aN re9) (mzN (lzC sz9 9) (fun i => aN (lzS sz9 zs 9 i))) (fun a9 => dB (lgX (opN (le p9) p9 ho 12) a9 = 1)) (fun i => aN (lzS sz9 zs 9 i)) (lzC sz9 9) 1 0 [] b1) = seS (fun n b => clR (pulI p9 L mo an pl ho) (aN re9) (mzN (lzC sz9 9) (fun i => aN (lzS sz9 zs 9 i))) (fun a9 => dB (lgX (opN (le p9) p9 ho 12) a9 = 1)) (fun i => aN (lzS sz9 zs 9 i)) (lzC sz9 9) n 0 [] b) 2 ((-1 : Int32), bb.2) := by rw [seS_s, ← hs1, if_pos (by first | rfl | exact h55)]
          have q2 : N97 (34 + ([] : List Nat).length) = p20N (prP (pulI p9 L mo an pl ho) []) := (hE1.1 34 (Or.inl (by decide))).trans q1
          obtain ⟨b2, hbx2⟩ : ∃ x, x = (clR (pulI p9 L mo an pl ho) (aN re9) (mzN (lzC sz9 9) (fun i => aN (lzS sz9 zs 9 i))) (fun a9 => dB (lgX (opN (le p9) p9 ho 12) a9 = 1)) (fun i => aN (lzS sz9 zs 9 i)) (lzC sz9 9) 1 0 [] b1) := ⟨_, rfl⟩
          rw [← hbx2] at hB hs2 hE1
          have kN2 : ∀ k9, (k9 < 34 ∨ 38 < k9) → N97 k9 = N k9 := fun k9 h9 => (hE1.1 k9 (by show k9 < 35 + 0 ∨ _; omega)).trans (kN1 k9 h9)
          replace hB : zB D A s ([((bd 4), .inr (4, [.ref (bd 18), .ref (bd 19), .int (nI (lzC sz9 9)), .int (opN (le p9) p9 ho 12), .int (nI (aN re9)), .int (1 : Int32), .ref (bd 20), .ref (bd 21), .ref (bd 22), .int b2.1, .ref (bd 23), .ref (bd 24), .long (Int64.ofInt b2.2.1), .long (Int64.ofInt b2.2.2.1)])), ((bd 18), .inr (2, [.int (bI o97), .ref (na 31), .ref (na 32), .ref (na 33)])), ((bd 19), .inl (ka 0, 3, .inl (lzS sz9 zs 9))), ((bd 20), .inl (ka 3, 5, .inr (.inr (.inr (.inr (nR na 34)))))), ((bd 21), .inl (ka 0, 4, .inl sa97)), ((bd 22), .inl (ka 0, 4, .inl ss97)), ((bd 23), .inl (ka 0, 4, .inl b2.2.2.2.1)), ((bd 24), .inl (ka 0, 4, .inl b2.2.2.2.2)), ((bd 2), .inr (3, [.int (nI L), .ref (bd 7), .ref (bd 8), .ref (bd 9), .ref (bd 10), .ref (bd 11), .int sz9, .int re9])), ((bd 7), .inl (ka 0, 8, .inl mo)), ((bd 8), .inl (ka 0, 8, .inl an)), ((bd 9), .inl (ka 0, 8, .inl pl)), ((bd 10), .inl (ka 0, 24, .inl ho)), ((bd 11), .inl (ka 0, 2, .inl le))] ++ nP na N97) H locs := by exact hB
          refine lv_iinc (v := (2 : Int32)) (lv' := [(4, .int (2 : Int32)), (0, .ref (bd 4)), (1, .ref (bd 2)), (2, .int (nI p9)), (3, .int (nI m9))]) hx hb dX4_seek_70 hl (k := 0) rfl (by decide) (by decide) rfl ?_
          clear hl
          clear ls
          intro ls hl
          refine lv_goto (tgt := 44) hx hb dX4_seek_73 (by decide) ?_
          refine lv_iload hx hb dX4_seek_44 (lv_at hl 0 rfl) ?_
          refine lv_iload_n hx hb dX4_seek_46 rfl (lv_at hl 4 rfl) ?_
          refine lv_icmp_gt (tgt := 76) hx hb dX4_seek_47 (by decide) (fun h47 => ?_) (fun h47 => ?_)
          · skip
            have hmn : m9 + 1 = 2 := by have := mt (nI_leI (a := 2) (b := m9) (by decide) (by omega)).mpr (Int32.not_le.mpr h47); omega
            have hR : seS (fun n b => clR (pulI p9 L mo an pl ho) (aN re9) (mzN (lzC sz9 9) (fun i => aN (lzS sz9 zs 9 i))) (fun a9 => dB (lgX (opN (le p9) p9 ho 12) a9 = 1)) (fun i => aN (lzS sz9 zs 9 i)) (lzC sz9 9) n 0 [] b) (m9 + 1) ((-1 : Int32), bb.2) = b2 := by rw [hmn, ← hs2]
            exact zretv hF hB (N97, sa97, ss97, (o97), (1 : Int32)) (⟨kN2, by rw [hR]; exact hE1.2.2⟩) (by rw [hR]) dX4_seek_76 hQ
          · skip
            have hm2 : 2 ≤ m9 := (nI_leI (a := 2) (b := m9) (by decide) (by omega)).mp (Int32.not_lt.mp h47)
            refine lv_aload_n hx hb dX4_seek_50 rfl (lv_at hl 1 rfl) ?_
            refine zget zf_X4_71 hF hB 0 rfl rfl dX4_seek_51 ?_
            refine lv_iconst (v := -1) hx hb dX4_seek_54 (by decide) ?_
            refine lv_icmp_ne (tgt := 76) hx hb dX4_seek_55 (by decide) (fun h55 => ?_) (fun h55 => ?_)
            · skip
              have h55 : ¬ b2.1 = -1 := h55
              have hR : seS (fun n b => clR (pulI p9 L mo an pl ho) (aN re9) (mzN (lzC sz9 9) (fun i => aN (lzS sz9 zs 9 i))) (fun a9 => dB (lgX (opN (le p9) p9 ho 12) a9 = 1)) (fun i => aN (lzS sz9 zs 9 i)) (lzC sz9 9) n 0 [] b) (m9 + 1) ((-1 : Int32), bb.2) = b2 := (seS_st (i := 2) (by rw [← hs2]; exact h55) (m9 + 1 - 2) (m9 + 1) (by omega)).trans hs2.symm
              exact zretv hF hB (N97, sa97, ss97, (o97), (1 : Int32)) (⟨kN2, by rw [hR]; exact hE1.2.2⟩) (by rw [hR]) dX4_seek_76 hQ
            · skip
              have h55 : b2.1 = -1 := h55
              refine lv_aload_n hx hb dX4_seek_58 rfl (lv_at hl 1 rfl) ?_
              refine lv_iload hx hb dX4_seek_59 (lv_at hl 0 rfl) ?_
              refine zput_f zp_X4_74 hF hB 0 rfl (rfl) (rfl) (Nat.le_of_ble_eq_true rfl) dX4_seek_61 ?_
              clear hB
              try clear locs
              try clear H
              intro H locs hB
              replace hB : zB D A s ([((bd 4), .inr (4, [.ref (bd 18), .ref (bd 19), .int (nI (lzC sz9 9)), .int (opN (le p9) p9 ho 12), .int (nI (aN re9)), .int (2 : Int32), .ref (bd 20), .ref (bd 21), .ref (bd 22), .int b2.1, .ref (bd 23), .ref (bd 24), .long (Int64.ofInt b2.2.1), .long (Int64.ofInt b2.2.2.1)])), ((bd 18), .inr (2, [.int (bI o97), .ref (na 31), .ref (na 32), .ref (na 33)])), ((bd 19), .inl (ka 0, 3, .inl (lzS sz9 zs 9))), ((bd 20), .inl (ka 3, 5, .inr (.inr (.inr (.inr (nR na 34)))))), ((bd 21), .inl (ka 0, 4, .inl sa97)), ((bd 22), .inl (ka 0, 4, .inl ss97)), ((bd 23), .inl (ka 0, 4, .inl b2.2.2.2.1)), ((bd 24), .inl (ka 0, 4, .inl b2.2.2.2.2)), ((bd 2), .inr (3, [.int (nI L), .ref (bd 7), .ref (bd 8), .ref (bd 9), .ref (bd 10), .ref (bd 11), .int sz9, .int re9])), ((bd 7), .inl (ka 0, 8, .inl mo)), ((bd 8), .inl (ka 0, 8, .inl an)), ((bd 9), .inl (ka 0, 8, .inl pl)), ((bd 10), .inl (ka 0, 24, .inl ho)), ((bd 11), .inl (ka 0, 2, .inl le))] ++ nP na N97) H locs := hB
              refine lv_aload_n hx hb dX4_seek_64 rfl (lv_at hl 1 rfl) ?_
              refine lv_iconst (v := 0) hx hb dX4_seek_65 (by decide) ?_
              refine lv_iconst (v := 0) hx hb dX4_seek_66 (by decide) ?_
              refine zSv zm_X4_77 hF hB (c_X4_extend_2 l D ka kb bd o97 (lzC sz9 9) (opN (le p9) p9 ho 12) (aN re9) (lzS sz9 zs 9) (fun i => aN (lzS sz9 zs 9 i)) ([]) b2 sa97 ss97 na N97 (pulI p9 L mo an pl ho) 0 (lzC_le _ _) (lz_ok) (by unfold aN; omega) (fun k hk => pulI_B hpl9 hok hoh hk) (trivial) (by decide) (q2) (hE1.2.2) (by decide)) ([0, 1, 2, 3, 4, 5, 6, 7] ++ npr 14) (zsel_pool rfl rfl) (va_nd_pool rfl rfl) ([(bd 4), (bd 18), (bd 19), (bd 20), (bd 21), (bd 22), (bd 23), (bd 24)] ++ nA na) (fun _ => zad_pool rfl) (zad_pool rfl) rfl ⟨Nat.le_of_ble_eq_true rfl, Nat.le_of_ble_eq_true rfl⟩ rfl hl.1 (Nat.le_of_ble_eq_true rfl) ⟨Nat.le_refl _, Nat.le_refl _⟩ dX4_seek_67 ?_
              clear hB
              try clear locs
              try clear H
              intro u8 H locs hp hB
              obtain ⟨N98, sa98, ss98, o98⟩ := u8
              have hp8 : (∀ k9, (k9 < 35 + ([]).length ∨ 38 < k9) → N98 k9 = N97 k9) ∧ (∀ j, j < ([]).length → sa98 j = sa97 j ∧ ss98 j = ss97 j) ∧ bB (clR (pulI p9 L mo an pl ho) (aN re9) (mzN (lzC sz9 9) (fun i => aN (lzS sz9 zs 9 i))) (fun a9 => dB (lgX (opN (le p9) p9 ho 12) a9 = 1)) (fun i => aN (lzS sz9 zs 9 i)) (lzC sz9 9) 2 0 ([]) b2) := hp
              have HPP := hp8
              replace hB : zB D A s ([((bd 4), .inr (4, [.ref (bd 18), .ref (bd 19), .int (nI (lzC sz9 9)), .int (opN (le p9) p9 ho 12), .int (nI (aN re9)), .int (2 : Int32), .ref (bd 20), .ref (bd 21), .ref (bd 22), .int ((clR (pulI p9 L mo an pl ho) (aN re9) (mzN (lzC sz9 9) (fun i => aN (lzS sz9 zs 9 i))) (fun a9 => dB (lgX (opN (le p9) p9 ho 12) a9 = 1)) (fun i => aN (lzS sz9 zs 9 i)) (lzC sz9 9) 2 0 ([]) b2).1), .ref (bd 23), .ref (bd 24), .long (Int64.ofInt (clR (pulI p9 L mo an pl ho) (aN re9) (mzN (lzC sz9 9) (fun i => aN (lzS sz9 zs 9 i))) (fun a9 => dB (lgX (opN (le p9) p9 ho 12) a9 = 1)) (fun i => aN (lzS sz9 zs 9 i)) (lzC sz9 9) 2 0 ([]) b2).2.1), .long (Int64.ofInt (clR (pulI p9 L mo an pl ho) (aN re9) (mzN (lzC sz9 9) (fun i => aN (lzS sz9 zs 9 i))) (fun a9 => dB (lgX (opN (le p9) p9 ho 12) a9 = 1)) (fun i => aN (lzS sz9 zs 9 i)) (lzC sz9 9) 2 0 ([]) b2).2.2.1)])), ((bd 18), .inr (2, [.int (bI o98), .ref (na 31), .ref (na 32), .ref (na 33)])), ((bd 19), .inl (ka 0, 3, .inl (lzS sz9 zs 9))), ((bd 20), .inl (ka 3, 5, .inr (.inr (.inr (.inr (nR na 34)))))), ((bd 21), .inl (ka 0, 4, .inl sa98)), ((bd 22), .inl (ka 0, 4, .inl ss98)), ((bd 23), .inl (ka 0, 4, .inl ((clR (pulI p9 L mo an pl ho) (aN re9) (mzN (lzC sz9 9) (fun i => aN (lzS sz9 zs 9 i))) (fun a9 => dB (lgX (opN (le p9) p9 ho 12) a9 = 1)) (fun i => aN (lzS sz9 zs 9 i)) (lzC sz9 9) 2 0 ([]) b2).2.2.2.1))), ((bd 24), .inl (ka 0, 4, .inl ((clR (pulI p9 L mo an pl ho) (aN re9) (mzN (lzC sz9 9) (fun i => aN (lzS sz9 zs 9 i))) (fun a9 => dB (lgX (opN (le p9) p9 ho 12) a9 = 1)) (fun i => aN (lzS sz9 zs 9 i)) (lzC sz9 9) 2 0 ([]) b2).2.2.2.2))), ((bd 2), .inr (3, [.int (nI L), .ref (bd 7), .ref (bd 8), .ref (bd 9), .ref (bd 10), .ref (bd 11), .int sz9, .int re9])), ((bd 7), .inl (ka 0, 8, .inl mo)), ((bd 8), .inl (ka 0, 8, .inl an)), ((bd 9), .inl (ka 0, 8, .inl pl)), ((bd 10), .inl (ka 0, 24, .inl ho)), ((bd 11), .inl (ka 0, 2, .inl le))] ++ nP na N98) H locs := zB_pool hB rfl rfl rfl rfl
              have hE2 := HPP
              have hs3 : (clR (pulI p9 L mo an pl ho) (aN re9) (mzN (lzC sz9 9) (fun i => aN (lzS sz9 zs 9 i))) (fun a9 => dB (lgX (opN (le p9) p9 ho 12) a9 = 1)) (fun i => aN (lzS sz9 zs 9 i)) (lzC sz9 9) 2 0 [] b2) = seS (fun n b => clR (pulI p9 L mo an pl ho) (aN re9) (mzN (lzC sz9 9) (fun i => aN (lzS sz9 zs 9 i))) (fun a9 => dB (lgX (opN (le p9) p9 ho 12) a9 = 1)) (fun i => aN (lzS sz9 zs 9 i)) (lzC sz9 9) n 0 [] b) 3 ((-1 : Int32), bb.2) := by rw [seS_s, ← hs2, if_pos (by first | rfl | exact h55)]
              have q3 : N98 (34 + ([] : List Nat).length) = p20N (prP (pulI p9 L mo an pl ho) []) := (hE2.1 34 (Or.inl (by decide))).trans q2
              obtain ⟨b3, hbx3⟩ : ∃ x, x = (clR (pulI p9 L mo an pl ho) (aN re9) (mzN (lzC sz9 9) (fun i => aN (lzS sz9 zs 9 i))) (fun a9 => dB (lgX (opN (le p9) p9 ho 12) a9 = 1)) (fun i => aN (lzS sz9 zs 9 i)) (lzC sz9 9) 2 0 [] b2) := ⟨_, rfl⟩
              rw [← hbx3] at hB hs3 hE2
              have kN3 : ∀ k9, (k9 < 34 ∨ 38 < k9) → N98 k9 = N k9 := fun k9 h9 => (hE2.1 k9 (by show k9 < 35 + 0 ∨ _; omega)).trans (kN2 k9 h9)
              replace hB : zB D A s ([((bd 4), .inr (4, [.ref (bd 18), .ref (bd 19), .int (nI (lzC sz9 9)), .int (opN (le p9) p9 ho 12), .int (nI (aN re9)), .int (2 : Int32), .ref (bd 20), .ref (bd 21), .ref (bd 22), .int b3.1, .ref (bd 23), .ref (bd 24), .long (Int64.ofInt b3.2.1), .long (Int64.ofInt b3.2.2.1)])), ((bd 18), .inr (2, [.int (bI o98), .ref (na 31), .ref (na 32), .ref (na 33)])), ((bd 19), .inl (ka 0, 3, .inl (lzS sz9 zs 9))), ((bd 20), .inl (ka 3, 5, .inr (.inr (.inr (.inr (nR na 34)))))), ((bd 21), .inl (ka 0, 4, .inl sa98)), ((bd 22), .inl (ka 0, 4, .inl ss98)), ((bd 23), .inl (ka 0, 4, .inl b3.2.2.2.1)), ((bd 24), .inl (ka 0, 4, .inl b3.2.2.2.2)), ((bd 2), .inr (3, [.int (nI L), .ref (bd 7), .ref (bd 8), .ref (bd 9), .ref (bd 10), .ref (bd 11), .int sz9, .int re9])), ((bd 7), .inl (ka 0, 8, .inl mo)), ((bd 8), .inl (ka 0, 8, .inl an)), ((bd 9), .inl (ka 0, 8, .inl pl)), ((bd 10), .inl (ka 0, 24, .inl ho)), ((bd 11), .inl (ka 0, 2, .inl le))] ++ nP na N98) H locs := by exact hB
              refine lv_iinc (v := (3 : Int32)) (lv' := [(4, .int (3 : Int32)), (0, .ref (bd 4)), (1, .ref (bd 2)), (2, .int (nI p9)), (3, .int (nI m9))]) hx hb dX4_seek_70 hl (k := 0) rfl (by decide) (by decide) rfl ?_
              clear hl
              clear ls
              intro ls hl
              refine lv_goto (tgt := 44) hx hb dX4_seek_73 (by decide) ?_
              refine lv_iload hx hb dX4_seek_44 (lv_at hl 0 rfl) ?_
              refine lv_iload_n hx hb dX4_seek_46 rfl (lv_at hl 4 rfl) ?_
              refine lv_icmp_gt (tgt := 76) hx hb dX4_seek_47 (by decide) (fun h47 => ?_) (fun h47 => ?_)
              · skip
                have hmn : m9 + 1 = 3 := by have := mt (nI_leI (a := 3) (b := m9) (by decide) (by omega)).mpr (Int32.not_le.mpr h47); omega
                have hR : seS (fun n b => clR (pulI p9 L mo an pl ho) (aN re9) (mzN (lzC sz9 9) (fun i => aN (lzS sz9 zs 9 i))) (fun a9 => dB (lgX (opN (le p9) p9 ho 12) a9 = 1)) (fun i => aN (lzS sz9 zs 9 i)) (lzC sz9 9) n 0 [] b) (m9 + 1) ((-1 : Int32), bb.2) = b3 := by rw [hmn, ← hs3]
                exact zretv hF hB (N98, sa98, ss98, (o98), (2 : Int32)) (⟨kN3, by rw [hR]; exact hE2.2.2⟩) (by rw [hR]) dX4_seek_76 hQ
              · skip
                have hm3 : 3 ≤ m9 := (nI_leI (a := 3) (b := m9) (by decide) (by omega)).mp (Int32.not_lt.mp h47)
                refine lv_aload_n hx hb dX4_seek_50 rfl (lv_at hl 1 rfl) ?_
                refine zget zf_X4_71 hF hB 0 rfl rfl dX4_seek_51 ?_
                refine lv_iconst (v := -1) hx hb dX4_seek_54 (by decide) ?_
                refine lv_icmp_ne (tgt := 76) hx hb dX4_seek_55 (by decide) (fun h55 => ?_) (fun h55 => ?_)
                · skip
                  have h55 : ¬ b3.1 = -1 := h55
                  have hR : seS (fun n b => clR (pulI p9 L mo an pl ho) (aN re9) (mzN (lzC sz9 9) (fun i => aN (lzS sz9 zs 9 i))) (fun a9 => dB (lgX (opN (le p9) p9 ho 12) a9 = 1)) (fun i => aN (lzS sz9 zs 9 i)) (lzC sz9 9) n 0 [] b) (m9 + 1) ((-1 : Int32), bb.2) = b3 := (seS_st (i := 3) (by rw [← hs3]; exact h55) (m9 + 1 - 3) (m9 + 1) (by omega)).trans hs3.symm
                  exact zretv hF hB (N98, sa98, ss98, (o98), (2 : Int32)) (⟨kN3, by rw [hR]; exact hE2.2.2⟩) (by rw [hR]) dX4_seek_76 hQ
                · skip
                  have h55 : b3.1 = -1 := h55
                  refine lv_aload_n hx hb dX4_seek_58 rfl (lv_at hl 1 rfl) ?_
                  refine lv_iload hx hb dX4_seek_59 (lv_at hl 0 rfl) ?_
                  refine zput_f zp_X4_74 hF hB 0 rfl (rfl) (rfl) (Nat.le_of_ble_eq_true rfl) dX4_seek_61 ?_
                  clear hB
                  try clear locs
                  try clear H
                  intro H locs hB
                  replace hB : zB D A s ([((bd 4), .inr (4, [.ref (bd 18), .ref (bd 19), .int (nI (lzC sz9 9)), .int (opN (le p9) p9 ho 12), .int (nI (aN re9)), .int (3 : Int32), .ref (bd 20), .ref (bd 21), .ref (bd 22), .int b3.1, .ref (bd 23), .ref (bd 24), .long (Int64.ofInt b3.2.1), .long (Int64.ofInt b3.2.2.1)])), ((bd 18), .inr (2, [.int (bI o98), .ref (na 31), .ref (na 32), .ref (na 33)])), ((bd 19), .inl (ka 0, 3, .inl (lzS sz9 zs 9))), ((bd 20), .inl (ka 3, 5, .inr (.inr (.inr (.inr (nR na 34)))))), ((bd 21), .inl (ka 0, 4, .inl sa98)), ((bd 22), .inl (ka 0, 4, .inl ss98)), ((bd 23), .inl (ka 0, 4, .inl b3.2.2.2.1)), ((bd 24), .inl (ka 0, 4, .inl b3.2.2.2.2)), ((bd 2), .inr (3, [.int (nI L), .ref (bd 7), .ref (bd 8), .ref (bd 9), .ref (bd 10), .ref (bd 11), .int sz9, .int re9])), ((bd 7), .inl (ka 0, 8, .inl mo)), ((bd 8), .inl (ka 0, 8, .inl an)), ((bd 9), .inl (ka 0, 8, .inl pl)), ((bd 10), .inl (ka 0, 24, .inl ho)), ((bd 11), .inl (ka 0, 2, .inl le))] ++ nP na N98) H locs := hB
                  refine lv_aload_n hx hb dX4_seek_64 rfl (lv_at hl 1 rfl) ?_
                  refine lv_iconst (v := 0) hx hb dX4_seek_65 (by decide) ?_
                  refine lv_iconst (v := 0) hx hb dX4_seek_66 (by decide) ?_
                  refine zSv zm_X4_77 hF hB (c_X4_extend_3 l D ka kb bd o98 (lzC sz9 9) (opN (le p9) p9 ho 12) (aN re9) (lzS sz9 zs 9) (fun i => aN (lzS sz9 zs 9 i)) ([]) b3 sa98 ss98 na N98 (pulI p9 L mo an pl ho) 0 (lzC_le _ _) (lz_ok) (by unfold aN; omega) (fun k hk => pulI_B hpl9 hok hoh hk) (trivial) (by decide) (q3) (hE2.2.2) (by decide)) ([0, 1, 2, 3, 4, 5, 6, 7] ++ npr 14) (zsel_pool rfl rfl) (va_nd_pool rfl rfl) ([(bd 4), (bd 18), (bd 19), (bd 20), (bd 21), (bd 22), (bd 23), (bd 24)] ++ nA na) (fun _ => zad_pool rfl) (zad_pool rfl) rfl ⟨Nat.le_of_ble_eq_true rfl, Nat.le_of_ble_eq_true rfl⟩ rfl hl.1 (Nat.le_of_ble_eq_true rfl) ⟨Nat.le_refl _, Nat.le_refl _⟩ dX4_seek_67 ?_
                  clear hB
                  try clear locs
                  try clear H
                  intro u9 H locs hp hB
                  obtain ⟨N99, sa99, ss99, o99⟩ := u9
                  have hp9 : (∀ k9, (k9 < 35 + ([]).length ∨ 38 < k9) → N99 k9 = N98 k9) ∧ (∀ j, j < ([]).length → sa99 j = sa98 j ∧ ss99 j = ss98 j) ∧ bB (clR (pulI p9 L mo an pl ho) (aN re9) (mzN (lzC sz9 9) (fun i => aN (lzS sz9 zs 9 i))) (fun a9 => dB (lgX (opN (le p9) p9 ho 12) a9 = 1)) (fun i => aN (lzS sz9 zs 9 i)) (lzC sz9 9) 3 0 ([]) b3) := hp
                  have HPP := hp9
                  replace hB : zB D A s ([((bd 4), .inr (4, [.ref (bd 18), .ref (bd 19), .int (nI (lzC sz9 9)), .int (opN (le p9) p9 ho 12), .int (nI (aN re9)), .int (3 : Int32), .ref (bd 20), .ref (bd 21), .ref (bd 22), .int ((clR (pulI p9 L mo an pl ho) (aN re9) (mzN (lzC sz9 9) (fun i => aN (lzS sz9 zs 9 i))) (fun a9 => dB (lgX (opN (le p9) p9 ho 12) a9 = 1)) (fun i => aN (lzS sz9 zs 9 i)) (lzC sz9 9) 3 0 ([]) b3).1), .ref (bd 23), .ref (bd 24), .long (Int64.ofInt (clR (pulI p9 L mo an pl ho) (aN re9) (mzN (lzC sz9 9) (fun i => aN (lzS sz9 zs 9 i))) (fun a9 => dB (lgX (opN (le p9) p9 ho 12) a9 = 1)) (fun i => aN (lzS sz9 zs 9 i)) (lzC sz9 9) 3 0 ([]) b3).2.1), .long (Int64.ofInt (clR (pulI p9 L mo an pl ho) (aN re9) (mzN (lzC sz9 9) (fun i => aN (lzS sz9 zs 9 i))) (fun a9 => dB (lgX (opN (le p9) p9 ho 12) a9 = 1)) (fun i => aN (lzS sz9 zs 9 i)) (lzC sz9 9) 3 0 ([]) b3).2.2.1)])), ((bd 18), .inr (2, [.int (bI o99), .ref (na 31), .ref (na 32), .ref (na 33)])), ((bd 19), .inl (ka 0, 3, .inl (lzS sz9 zs 9))), ((bd 20), .inl (ka 3, 5, .inr (.inr (.inr (.inr (nR na 34)))))), ((bd 21), .inl (ka 0, 4, .inl sa99)), ((bd 22), .inl (ka 0, 4, .inl ss99)), ((bd 23), .inl (ka 0, 4, .inl ((clR (pulI p9 L mo an pl ho) (aN re9) (mzN (lzC sz9 9) (fun i => aN (lzS sz9 zs 9 i))) (fun a9 => dB (lgX (opN (le p9) p9 ho 12) a9 = 1)) (fun i => aN (lzS sz9 zs 9 i)) (lzC sz9 9) 3 0 ([]) b3).2.2.2.1))), ((bd 24), .inl (ka 0, 4, .inl ((clR (pulI p9 L mo an pl ho) (aN re9) (mzN (lzC sz9 9) (fun i => aN (lzS sz9 zs 9 i))) (fun a9 => dB (lgX (opN (le p9) p9 ho 12) a9 = 1)) (fun i => aN (lzS sz9 zs 9 i)) (lzC sz9 9) 3 0 ([]) b3).2.2.2.2))), ((bd 2), .inr (3, [.int (nI L), .ref (bd 7), .ref (bd 8), .ref (bd 9), .ref (bd 10), .ref (bd 11), .int sz9, .int re9])), ((bd 7), .inl (ka 0, 8, .inl mo)), ((bd 8), .inl (ka 0, 8, .inl an)), ((bd 9), .inl (ka 0, 8, .inl pl)), ((bd 10), .inl (ka 0, 24, .inl ho)), ((bd 11), .inl (ka 0, 2, .inl le))] ++ nP na N99) H locs := zB_pool hB rfl rfl rfl rfl
                  have hE3 := HPP
                  have hs4 : (clR (pulI p9 L mo an pl ho) (aN re9) (mzN (lzC sz9 9) (fun i => aN (lzS sz9 zs 9 i))) (fun a9 => dB (lgX (opN (le p9) p9 ho 12) a9 = 1)) (fun i => aN (lzS sz9 zs 9 i)) (lzC sz9 9) 3 0 [] b3) = seS (fun n b => clR (pulI p9 L mo an pl ho) (aN re9) (mzN (lzC sz9 9) (fun i => aN (lzS sz9 zs 9 i))) (fun a9 => dB (lgX (opN (le p9) p9 ho 12) a9 = 1)) (fun i => aN (lzS sz9 zs 9 i)) (lzC sz9 9) n 0 [] b) 4 ((-1 : Int32), bb.2) := by rw [seS_s, ← hs3, if_pos (by first | rfl | exact h55)]
                  have q4 : N99 (34 + ([] : List Nat).length) = p20N (prP (pulI p9 L mo an pl ho) []) := (hE3.1 34 (Or.inl (by decide))).trans q3
                  obtain ⟨b4, hbx4⟩ : ∃ x, x = (clR (pulI p9 L mo an pl ho) (aN re9) (mzN (lzC sz9 9) (fun i => aN (lzS sz9 zs 9 i))) (fun a9 => dB (lgX (opN (le p9) p9 ho 12) a9 = 1)) (fun i => aN (lzS sz9 zs 9 i)) (lzC sz9 9) 3 0 [] b3) := ⟨_, rfl⟩
                  rw [← hbx4] at hB hs4 hE3
                  have kN4 : ∀ k9, (k9 < 34 ∨ 38 < k9) → N99 k9 = N k9 := fun k9 h9 => (hE3.1 k9 (by show k9 < 35 + 0 ∨ _; omega)).trans (kN3 k9 h9)
                  replace hB : zB D A s ([((bd 4), .inr (4, [.ref (bd 18), .ref (bd 19), .int (nI (lzC sz9 9)), .int (opN (le p9) p9 ho 12), .int (nI (aN re9)), .int (3 : Int32), .ref (bd 20), .ref (bd 21), .ref (bd 22), .int b4.1, .ref (bd 23), .ref (bd 24), .long (Int64.ofInt b4.2.1), .long (Int64.ofInt b4.2.2.1)])), ((bd 18), .inr (2, [.int (bI o99), .ref (na 31), .ref (na 32), .ref (na 33)])), ((bd 19), .inl (ka 0, 3, .inl (lzS sz9 zs 9))), ((bd 20), .inl (ka 3, 5, .inr (.inr (.inr (.inr (nR na 34)))))), ((bd 21), .inl (ka 0, 4, .inl sa99)), ((bd 22), .inl (ka 0, 4, .inl ss99)), ((bd 23), .inl (ka 0, 4, .inl b4.2.2.2.1)), ((bd 24), .inl (ka 0, 4, .inl b4.2.2.2.2)), ((bd 2), .inr (3, [.int (nI L), .ref (bd 7), .ref (bd 8), .ref (bd 9), .ref (bd 10), .ref (bd 11), .int sz9, .int re9])), ((bd 7), .inl (ka 0, 8, .inl mo)), ((bd 8), .inl (ka 0, 8, .inl an)), ((bd 9), .inl (ka 0, 8, .inl pl)), ((bd 10), .inl (ka 0, 24, .inl ho)), ((bd 11), .inl (ka 0, 2, .inl le))] ++ nP na N99) H locs := by exact hB
                  refine lv_iinc (v := (4 : Int32)) (lv' := [(4, .int (4 : Int32)), (0, .ref (bd 4)), (1, .ref (bd 2)), (2, .int (nI p9)), (3, .int (nI m9))]) hx hb dX4_seek_70 hl (k := 0) rfl (by decide) (by decide) rfl ?_
                  clear hl
                  clear ls
                  intro ls hl
                  refine lv_goto (tgt := 44) hx hb dX4_seek_73 (by decide) ?_
                  refine lv_iload hx hb dX4_seek_44 (lv_at hl 0 rfl) ?_
                  refine lv_iload_n hx hb dX4_seek_46 rfl (lv_at hl 4 rfl) ?_
                  refine lv_icmp_gt (tgt := 76) hx hb dX4_seek_47 (by decide) (fun h47 => ?_) (fun h47 => ?_)
                  · skip
                    have hmn : m9 + 1 = 4 := by have := mt (nI_leI (a := 4) (b := m9) (by decide) (by omega)).mpr (Int32.not_le.mpr h47); omega
                    have hR : seS (fun n b => clR (pulI p9 L mo an pl ho) (aN re9) (mzN (lzC sz9 9) (fun i => aN (lzS sz9 zs 9 i))) (fun a9 => dB (lgX (opN (le p9) p9 ho 12) a9 = 1)) (fun i => aN (lzS sz9 zs 9 i)) (lzC sz9 9) n 0 [] b) (m9 + 1) ((-1 : Int32), bb.2) = b4 := by rw [hmn, ← hs4]
                    exact zretv hF hB (N99, sa99, ss99, (o99), (3 : Int32)) (⟨kN4, by rw [hR]; exact hE3.2.2⟩) (by rw [hR]) dX4_seek_76 hQ
                  · skip
                    have hm4 : 4 ≤ m9 := (nI_leI (a := 4) (b := m9) (by decide) (by omega)).mp (Int32.not_lt.mp h47)
                    refine lv_aload_n hx hb dX4_seek_50 rfl (lv_at hl 1 rfl) ?_
                    refine zget zf_X4_71 hF hB 0 rfl rfl dX4_seek_51 ?_
                    refine lv_iconst (v := -1) hx hb dX4_seek_54 (by decide) ?_
                    refine lv_icmp_ne (tgt := 76) hx hb dX4_seek_55 (by decide) (fun h55 => ?_) (fun h55 => ?_)
                    · skip
                      have h55 : ¬ b4.1 = -1 := h55
                      have hR : seS (fun n b => clR (pulI p9 L mo an pl ho) (aN re9) (mzN (lzC sz9 9) (fun i => aN (lzS sz9 zs 9 i))) (fun a9 => dB (lgX (opN (le p9) p9 ho 12) a9 = 1)) (fun i => aN (lzS sz9 zs 9 i)) (lzC sz9 9) n 0 [] b) (m9 + 1) ((-1 : Int32), bb.2) = b4 := (seS_st (i := 4) (by rw [← hs4]; exact h55) (m9 + 1 - 4) (m9 + 1) (by omega)).trans hs4.symm
                      exact zretv hF hB (N99, sa99, ss99, (o99), (3 : Int32)) (⟨kN4, by rw [hR]; exact hE3.2.2⟩) (by rw [hR]) dX4_seek_76 hQ
                    · skip
                      have h55 : b4.1 = -1 := h55
                      refine lv_aload_n hx hb dX4_seek_58 rfl (lv_at hl 1 rfl) ?_
                      refine lv_iload hx hb dX4_seek_59 (lv_at hl 0 rfl) ?_
                      refine zput_f zp_X4_74 hF hB 0 rfl (rfl) (rfl) (Nat.le_of_ble_eq_true rfl) dX4_seek_61 ?_
                      clear hB
                      try clear locs
                      try clear H
                      intro H locs hB
                      replace hB : zB D A s ([((bd 4), .inr (4, [.ref (bd 18), .ref (bd 19), .int (nI (lzC sz9 9)), .int (opN (le p9) p9 ho 12), .int (nI (aN re9)), .int (4 : Int32), .ref (bd 20), .ref (bd 21), .ref (bd 22), .int b4.1, .ref (bd 23), .ref (bd 24), .long (Int64.ofInt b4.2.1), .long (Int64.ofInt b4.2.2.1)])), ((bd 18), .inr (2, [.int (bI o99), .ref (na 31), .ref (na 32), .ref (na 33)])), ((bd 19), .inl (ka 0, 3, .inl (lzS sz9 zs 9))), ((bd 20), .inl (ka 3, 5, .inr (.inr (.inr (.inr (nR na 34)))))), ((bd 21), .inl (ka 0, 4, .inl sa99)), ((bd 22), .inl (ka 0, 4, .inl ss99)), ((bd 23), .inl (ka 0, 4, .inl b4.2.2.2.1)), ((bd 24), .inl (ka 0, 4, .inl b4.2.2.2.2)), ((bd 2), .inr (3, [.int (nI L), .ref (bd 7), .ref (bd 8), .ref (bd 9), .ref (bd 10), .ref (bd 11), .int sz9, .int re9])), ((bd 7), .inl (ka 0, 8, .inl mo)), ((bd 8), .inl (ka 0, 8, .inl an)), ((bd 9), .inl (ka 0, 8, .inl pl)), ((bd 10), .inl (ka 0, 24, .inl ho)), ((bd 11), .inl (ka 0, 2, .inl le))] ++ nP na N99) H locs := hB
                      refine lv_aload_n hx hb dX4_seek_64 rfl (lv_at hl 1 rfl) ?_
                      refine lv_iconst (v := 0) hx hb dX4_seek_65 (by decide) ?_
                      refine lv_iconst (v := 0) hx hb dX4_seek_66 (by decide) ?_
                      refine zSv zm_X4_77 hF hB (c_X4_extend_4 l D ka kb bd o99 (lzC sz9 9) (opN (le p9) p9 ho 12) (aN re9) (lzS sz9 zs 9) (fun i => aN (lzS sz9 zs 9 i)) ([]) b4 sa99 ss99 na N99 (pulI p9 L mo an pl ho) 0 (lzC_le _ _) (lz_ok) (by unfold aN; omega) (fun k hk => pulI_B hpl9 hok hoh hk) (trivial) (by decide) (q4) (hE3.2.2) (by decide)) ([0, 1, 2, 3, 4, 5, 6, 7] ++ npr 14) (zsel_pool rfl rfl) (va_nd_pool rfl rfl) ([(bd 4), (bd 18), (bd 19), (bd 20), (bd 21), (bd 22), (bd 23), (bd 24)] ++ nA na) (fun _ => zad_pool rfl) (zad_pool rfl) rfl ⟨Nat.le_of_ble_eq_true rfl, Nat.le_of_ble_eq_true rfl⟩ rfl hl.1 (Nat.le_of_ble_eq_true rfl) ⟨Nat.le_refl _, Nat.le_refl _⟩ dX4_seek_67 ?_
                      clear hB
                      try clear locs
                      try clear H
                      intro u10 H locs hp hB
                      obtain ⟨N910, sa910, ss910, o910⟩ := u10
                      have hp10 : (∀ k9, (k9 < 35 + ([]).length ∨ 38 < k9) → N910 k9 = N99 k9) ∧ (∀ j, j < ([]).length → sa910 j = sa99 j ∧ ss910 j = ss99 j) ∧ bB (clR (pulI p9 L mo an pl ho) (aN re9) (mzN (lzC sz9 9) (fun i => aN (lzS sz9 zs 9 i))) (fun a9 => dB (lgX (opN (le p9) p9 ho 12) a9 = 1)) (fun i => aN (lzS sz9 zs 9 i)) (lzC sz9 9) 4 0 ([]) b4) := hp
                      have HPP := hp10
                      replace hB : zB D A s ([((bd 4), .inr (4, [.ref (bd 18), .ref (bd 19), .int (nI (lzC sz9 9)), .int (opN (le p9) p9 ho 12), .int (nI (aN re9)), .int (4 : Int32), .ref (bd 20), .ref (bd 21), .ref (bd 22), .int ((clR (pulI p9 L mo an pl ho) (aN re9) (mzN (lzC sz9 9) (fun i => aN (lzS sz9 zs 9 i))) (fun a9 => dB (lgX (opN (le p9) p9 ho 12) a9 = 1)) (fun i => aN (lzS sz9 zs 9 i)) (lzC sz9 9) 4 0 ([]) b4).1), .ref (bd 23), .ref (bd 24), .long (Int64.ofInt (clR (pulI p9 L mo an pl ho) (aN re9) (mzN (lzC sz9 9) (fun i => aN (lzS sz9 zs 9 i))) (fun a9 => dB (lgX (opN (le p9) p9 ho 12) a9 = 1)) (fun i => aN (lzS sz9 zs 9 i)) (lzC sz9 9) 4 0 ([]) b4).2.1), .long (Int64.ofInt (clR (pulI p9 L mo an pl ho) (aN re9) (mzN (lzC sz9 9) (fun i => aN (lzS sz9 zs 9 i))) (fun a9 => dB (lgX (opN (le p9) p9 ho 12) a9 = 1)) (fun i => aN (lzS sz9 zs 9 i)) (lzC sz9 9) 4 0 ([]) b4).2.2.1)])), ((bd 18), .inr (2, [.int (bI o910), .ref (na 31), .ref (na 32), .ref (na 33)])), ((bd 19), .inl (ka 0, 3, .inl (lzS sz9 zs 9))), ((bd 20), .inl (ka 3, 5, .inr (.inr (.inr (.inr (nR na 34)))))), ((bd 21), .inl (ka 0, 4, .inl sa910)), ((bd 22), .inl (ka 0, 4, .inl ss910)), ((bd 23), .inl (ka 0, 4, .inl ((clR (pulI p9 L mo an pl ho) (aN re9) (mzN (lzC sz9 9) (fun i => aN (lzS sz9 zs 9 i))) (fun a9 => dB (lgX (opN (le p9) p9 ho 12) a9 = 1)) (fun i => aN (lzS sz9 zs 9 i)) (lzC sz9 9) 4 0 ([]) b4).2.2.2.1))), ((bd 24), .inl (ka 0, 4, .inl ((clR (pulI p9 L mo an pl ho) (aN re9) (mzN (lzC sz9 9) (fun i => aN (lzS sz9 zs 9 i))) (fun a9 => dB (lgX (opN (le p9) p9 ho 12) a9 = 1)) (fun i => aN (lzS sz9 zs 9 i)) (lzC sz9 9) 4 0 ([]) b4).2.2.2.2))), ((bd 2), .inr (3, [.int (nI L), .ref (bd 7), .ref (bd 8), .ref (bd 9), .ref (bd 10), .ref (bd 11), .int sz9, .int re9])), ((bd 7), .inl (ka 0, 8, .inl mo)), ((bd 8), .inl (ka 0, 8, .inl an)), ((bd 9), .inl (ka 0, 8, .inl pl)), ((bd 10), .inl (ka 0, 24, .inl ho)), ((bd 11), .inl (ka 0, 2, .inl le))] ++ nP na N910) H locs := zB_pool hB rfl rfl rfl rfl
                      have hE4 := HPP
                      have hs5 : (clR (pulI p9 L mo an pl ho) (aN re9) (mzN (lzC sz9 9) (fun i => aN (lzS sz9 zs 9 i))) (fun a9 => dB (lgX (opN (le p9) p9 ho 12) a9 = 1)) (fun i => aN (lzS sz9 zs 9 i)) (lzC sz9 9) 4 0 [] b4) = seS (fun n b => clR (pulI p9 L mo an pl ho) (aN re9) (mzN (lzC sz9 9) (fun i => aN (lzS sz9 zs 9 i))) (fun a9 => dB (lgX (opN (le p9) p9 ho 12) a9 = 1)) (fun i => aN (lzS sz9 zs 9 i)) (lzC sz9 9) n 0 [] b) 5 ((-1 : Int32), bb.2) := by rw [seS_s, ← hs4, if_pos (by first | rfl | exact h55)]
                      have q5 : N910 (34 + ([] : List Nat).length) = p20N (prP (pulI p9 L mo an pl ho) []) := (hE4.1 34 (Or.inl (by decide))).trans q4
                      obtain ⟨b5, hbx5⟩ : ∃ x, x = (clR (pulI p9 L mo an pl ho) (aN re9) (mzN (lzC sz9 9) (fun i => aN (lzS sz9 zs 9 i))) (fun a9 => dB (lgX (opN (le p9) p9 ho 12) a9 = 1)) (fun i => aN (lzS sz9 zs 9 i)) (lzC sz9 9) 4 0 [] b4) := ⟨_, rfl⟩
                      rw [← hbx5] at hB hs5 hE4
                      have kN5 : ∀ k9, (k9 < 34 ∨ 38 < k9) → N910 k9 = N k9 := fun k9 h9 => (hE4.1 k9 (by show k9 < 35 + 0 ∨ _; omega)).trans (kN4 k9 h9)
                      replace hB : zB D A s ([((bd 4), .inr (4, [.ref (bd 18), .ref (bd 19), .int (nI (lzC sz9 9)), .int (opN (le p9) p9 ho 12), .int (nI (aN re9)), .int (4 : Int32), .ref (bd 20), .ref (bd 21), .ref (bd 22), .int b5.1, .ref (bd 23), .ref (bd 24), .long (Int64.ofInt b5.2.1), .long (Int64.ofInt b5.2.2.1)])), ((bd 18), .inr (2, [.int (bI o910), .ref (na 31), .ref (na 32), .ref (na 33)])), ((bd 19), .inl (ka 0, 3, .inl (lzS sz9 zs 9))), ((bd 20), .inl (ka 3, 5, .inr (.inr (.inr (.inr (nR na 34)))))), ((bd 21), .inl (ka 0, 4, .inl sa910)), ((bd 22), .inl (ka 0, 4, .inl ss910)), ((bd 23), .inl (ka 0, 4, .inl b5.2.2.2.1)), ((bd 24), .inl (ka 0, 4, .inl b5.2.2.2.2)), ((bd 2), .inr (3, [.int (nI L), .ref (bd 7), .ref (bd 8), .ref (bd 9), .ref (bd 10), .ref (bd 11), .int sz9, .int re9])), ((bd 7), .inl (ka 0, 8, .inl mo)), ((bd 8), .inl (ka 0, 8, .inl an)), ((bd 9), .inl (ka 0, 8, .inl pl)), ((bd 10), .inl (ka 0, 24, .inl ho)), ((bd 11), .inl (ka 0, 2, .inl le))] ++ nP na N910) H locs := by exact hB
                      refine lv_iinc (v := (5 : Int32)) (lv' := [(4, .int (5 : Int32)), (0, .ref (bd 4)), (1, .ref (bd 2)), (2, .int (nI p9)), (3, .int (nI m9))]) hx hb dX4_seek_70 hl (k := 0) rfl (by decide) (by decide) rfl ?_
                      clear hl
                      clear ls
                      intro ls hl
                      refine lv_goto (tgt := 44) hx hb dX4_seek_73 (by decide) ?_
                      refine lv_iload hx hb dX4_seek_44 (lv_at hl 0 rfl) ?_
                      refine lv_iload_n hx hb dX4_seek_46 rfl (lv_at hl 4 rfl) ?_
                      refine lv_icmp_gt (tgt := 76) hx hb dX4_seek_47 (by decide) (fun h47 => ?_) (fun h47 => ?_)
                      · skip
                        have hmn : m9 = 4 := by have := mt (nI_leI (a := 5) (b := m9) (by decide) (by omega)).mpr (Int32.not_le.mpr h47); omega
                        have hR : seS (fun n b => clR (pulI p9 L mo an pl ho) (aN re9) (mzN (lzC sz9 9) (fun i => aN (lzS sz9 zs 9 i))) (fun a9 => dB (lgX (opN (le p9) p9 ho 12) a9 = 1)) (fun i => aN (lzS sz9 zs 9 i)) (lzC sz9 9) n 0 [] b) (m9 + 1) ((-1 : Int32), bb.2) = b5 := by rw [hmn, ← hs5]
                        exact zretv hF hB (N910, sa910, ss910, (o910), (4 : Int32)) (⟨kN5, by rw [hR]; exact hE4.2.2⟩) (by rw [hR]) dX4_seek_76 hQ
                      · skip
                        exact absurd ((nI_leI (a := 5) (b := m9) (by decide) (by omega)).mp (Int32.not_lt.mp h47)) (by omega)

