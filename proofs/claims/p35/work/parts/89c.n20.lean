theorem fg_fg {kp : Nat → Bool} : fgB (fgB kp 3) 3 = fgB kp 3 := funext fun j => by
  unfold fgB
  split <;> rfl
theorem fg_if {kp : Nat → Bool} {i : Nat} : fgB (if 0 < i then fgB kp 3 else kp) 3 = fgB kp 3 := by
  split
  · exact fg_fg
  · rfl
theorem if_an2 {α : Type} {p q : Prop} [Decidable p] [Decidable q] (h : p) {x y : α} : (if p ∧ q then x else y) = if q then x else y := by
  by_cases e : q
  · rw [if_pos ⟨h, e⟩, if_pos e]
  · rw [if_neg (fun e2 => e e2.2), if_neg e]
set_option maxHeartbeats 4000000 in
set_option maxRecDepth 100000 in
theorem c_X7_fewest (l : Launch) (D : va_G) (ka : Nat → ClassId) (kb : Nat → Nat) (bd : Nat → Nat) (na : Nat → Nat) (o : Bool) (cnt : Int32) (opb : Int32) (rch : Int32) (wnt : Int32) (zs : Nat → Int32) (bb : bT) (sa : Nat → Int32) (ss : Nat → Int32) (sz9 : Int32) (re9 : Int32) (L : Nat) (mo : Nat → Int32) (an : Nat → Int32) (pl : Nat → Int32) (ho : Nat → Int32) (le : Nat → Int32) (N : Nat → N5) (pq : Int32) (wq : Int32) (cq : Int32) (hok : okL L mo an pl) (hoh : okH ho) (hre : 0 ≤ re9.toInt ∧ re9.toInt ≤ 99) (hB9 : bB bb) (hszk : szK sz9 = true) : zI l D ka kb yX7_fewest cX7_fewest 4 .int 10 251 [.ref (bd 31), .int pq, .int wq, .int cq] ([((bd 31), .inr (7, [.ref (bd 0), .ref (bd 1), .ref (na 6), .ref (na 7), .ref (bd 2), .ref (bd 3), .ref (bd 4), .ref (bd 5), .ref (bd 6)])), ((bd 4), .inr (4, [.ref (bd 18), .ref (bd 19), .int cnt, .int opb, .int rch, .int wnt, .ref (bd 20), .ref (bd 21), .ref (bd 22), .int bb.1, .ref (bd 23), .ref (bd 24), .long (Int64.ofInt bb.2.1), .long (Int64.ofInt bb.2.2.1)])), ((bd 18), .inr (2, [.int (bI o), .ref (na 31), .ref (na 32), .ref (na 33)])), ((bd 19), .inl (ka 0, 3, .inl zs)), ((bd 20), .inl (ka 3, 5, .inr (.inr (.inr (.inr (nR na 34)))))), ((bd 21), .inl (ka 0, 4, .inl sa)), ((bd 22), .inl (ka 0, 4, .inl ss)), ((bd 23), .inl (ka 0, 4, .inl bb.2.2.2.1)), ((bd 24), .inl (ka 0, 4, .inl bb.2.2.2.2)), ((bd 2), .inr (3, [.int (nI L), .ref (bd 7), .ref (bd 8), .ref (bd 9), .ref (bd 10), .ref (bd 11), .int sz9, .int re9])), ((bd 7), .inl (ka 0, 8, .inl mo)), ((bd 8), .inl (ka 0, 8, .inl an)), ((bd 9), .inl (ka 0, 8, .inl pl)), ((bd 10), .inl (ka 0, 24, .inl ho)), ((bd 11), .inl (ka 0, 2, .inl le))] ++ nP na N) (fun (r : Int32) (u : (Nat → N5) × (Nat → Int32) × (Nat → Int32) × Bool × Int32 × Int32 × Int32 × Int32 × (Nat → Int32) × bT) => r = (if fwK pq wq cq = true then fwA (aN cq) (seS (fun n b => srR (okC sz9 (aN pq) le ho) (lkU (pulI (aN pq) L mo an pl ho) re9.toInt) n 1 [] b) (aN wq + 1) ((-1 : Int32), bb.2)) else -2) ∧ (∀ k9, (k9 < 34 ∨ 38 < k9) → u.1 k9 = N k9) ∧ bB u.2.2.2.2.2.2.2.2.2) (fun (u : (Nat → N5) × (Nat → Int32) × (Nat → Int32) × Bool × Int32 × Int32 × Int32 × Int32 × (Nat → Int32) × bT) => [((bd 31), .inr (7, [.ref (bd 0), .ref (bd 1), .ref (na 6), .ref (na 7), .ref (bd 2), .ref (bd 3), .ref (bd 4), .ref (bd 5), .ref (bd 6)])), ((bd 4), .inr (4, [.ref (bd 18), .ref (bd 19), .int u.2.2.2.2.2.1, .int u.2.2.2.2.2.2.1, .int u.2.2.2.2.2.2.2.1, .int u.2.2.2.2.1, .ref (bd 20), .ref (bd 21), .ref (bd 22), .int u.2.2.2.2.2.2.2.2.2.1, .ref (bd 23), .ref (bd 24), .long (Int64.ofInt u.2.2.2.2.2.2.2.2.2.2.1), .long (Int64.ofInt u.2.2.2.2.2.2.2.2.2.2.2.1)])), ((bd 18), .inr (2, [.int (bI u.2.2.2.1), .ref (na 31), .ref (na 32), .ref (na 33)])), ((bd 19), .inl (ka 0, 3, .inl u.2.2.2.2.2.2.2.2.1)), ((bd 20), .inl (ka 3, 5, .inr (.inr (.inr (.inr (nR na 34)))))), ((bd 21), .inl (ka 0, 4, .inl u.2.1)), ((bd 22), .inl (ka 0, 4, .inl u.2.2.1)), ((bd 23), .inl (ka 0, 4, .inl u.2.2.2.2.2.2.2.2.2.2.2.2.1)), ((bd 24), .inl (ka 0, 4, .inl u.2.2.2.2.2.2.2.2.2.2.2.2.2)), ((bd 2), .inr (3, [.int (nI L), .ref (bd 7), .ref (bd 8), .ref (bd 9), .ref (bd 10), .ref (bd 11), .int sz9, .int re9])), ((bd 7), .inl (ka 0, 8, .inl mo)), ((bd 8), .inl (ka 0, 8, .inl an)), ((bd 9), .inl (ka 0, 8, .inl pl)), ((bd 10), .inl (ka 0, 24, .inl ho)), ((bd 11), .inl (ka 0, 2, .inl le))] ++ nP na u.1) := by
  refine zI.mk RX7 (by decide +kernel) rfl (Nat.le_of_ble_eq_true rfl) ?_
  intro p e s m below meth c A ls args Q hQ hx hb hF hB hl
  replace hl : lv_has ls 4 [(0, .ref (bd 31)), (1, .int pq), (2, .int wq), (3, .int cq)] := hl
  have hAN : ((aN re9 : Nat) : Int) = re9.toInt := by unfold aN; omega
  refine lv_iload_n hx hb dX7_fewest_0 rfl (lv_at hl 1 rfl) ?_
  refine lv_iconst (v := 2) hx hb dX7_fewest_1 (by decide) ?_
  refine zSi zm_X7_65 hF hB (c_X7_isOutside l D ka kb pq 2 (by decide)) [] rfl (by decide) [] (fun _ => rfl) rfl rfl ⟨Nat.le_of_ble_eq_true rfl, Nat.le_of_ble_eq_true rfl⟩ rfl hl.1 (Nat.le_of_ble_eq_true rfl) ⟨Nat.le_refl _, Nat.le_refl _⟩ dX7_fewest_2 ?_
  clear hB
  try clear locs
  try clear H
  intro r1 u1 H locs hp hB
  obtain rfl : r1 = bI (!(inI pq 2)) := hp
  replace hB : zB D A s ([((bd 31), .inr (7, [.ref (bd 0), .ref (bd 1), .ref (na 6), .ref (na 7), .ref (bd 2), .ref (bd 3), .ref (bd 4), .ref (bd 5), .ref (bd 6)])), ((bd 4), .inr (4, [.ref (bd 18), .ref (bd 19), .int cnt, .int opb, .int rch, .int wnt, .ref (bd 20), .ref (bd 21), .ref (bd 22), .int bb.1, .ref (bd 23), .ref (bd 24), .long (Int64.ofInt bb.2.1), .long (Int64.ofInt bb.2.2.1)])), ((bd 18), .inr (2, [.int (bI o), .ref (na 31), .ref (na 32), .ref (na 33)])), ((bd 19), .inl (ka 0, 3, .inl zs)), ((bd 20), .inl (ka 3, 5, .inr (.inr (.inr (.inr (nR na 34)))))), ((bd 21), .inl (ka 0, 4, .inl sa)), ((bd 22), .inl (ka 0, 4, .inl ss)), ((bd 23), .inl (ka 0, 4, .inl bb.2.2.2.1)), ((bd 24), .inl (ka 0, 4, .inl bb.2.2.2.2)), ((bd 2), .inr (3, [.int (nI L), .ref (bd 7), .ref (bd 8), .ref (bd 9), .ref (bd 10), .ref (bd 11), .int sz9, .int re9])), ((bd 7), .inl (ka 0, 8, .inl mo)), ((bd 8), .inl (ka 0, 8, .inl an)), ((bd 9), .inl (ka 0, 8, .inl pl)), ((bd 10), .inl (ka 0, 24, .inl ho)), ((bd 11), .inl (ka 0, 2, .inl le))] ++ nP na N) H locs := hB
  refine lv_if_ne (tgt := 24) hx hb dX7_fewest_5 (by decide) (fun h5 => ?_) (fun h5 => ?_)
  · skip
    replace h5 := (b9_t h5)
    refine lv_bipush (v := -2) hx hb dX7_fewest_24 (by decide) ?_
    have hK : fwK pq wq cq = false := dB_f.mpr (fun e8 => absurd (h5.symm.trans e8.1) (by decide))
    exact zreti hF hB (N, sa, ss, (o), wnt, cnt, opb, rch, zs, bb) (⟨by rw [if_neg (by rw [hK]; decide)], fun _ _ => rfl, hB9⟩) (rfl) (rfl) dX7_fewest_26 hQ
  · skip
    replace h5 := (b9_f h5)
    obtain ⟨pg, hpg2, hpg3⟩ := inI_of h5 (by decide)
    subst hpg3
    have rpg : aN (nI pg) = pg := aNn hpg2 (by decide)
    have hpg1 : inI (nI pg) 2 = true := h5
    refine lv_iload_n hx hb dX7_fewest_8 rfl (lv_at hl 2 rfl) ?_
    refine lv_iconst (v := 5) hx hb dX7_fewest_9 (by decide) ?_
    refine zSi zm_X7_65 hF hB (c_X7_isOutside l D ka kb wq 5 (by decide)) [] rfl (by decide) [] (fun _ => rfl) rfl rfl ⟨Nat.le_of_ble_eq_true rfl, Nat.le_of_ble_eq_true rfl⟩ rfl hl.1 (Nat.le_of_ble_eq_true rfl) ⟨Nat.le_refl _, Nat.le_refl _⟩ dX7_fewest_10 ?_
    clear hB
    try clear locs
    try clear H
    intro r2 u2 H locs hp hB
    obtain rfl : r2 = bI (!(inI wq 5)) := hp
    replace hB : zB D A s ([((bd 31), .inr (7, [.ref (bd 0), .ref (bd 1), .ref (na 6), .ref (na 7), .ref (bd 2), .ref (bd 3), .ref (bd 4), .ref (bd 5), .ref (bd 6)])), ((bd 4), .inr (4, [.ref (bd 18), .ref (bd 19), .int cnt, .int opb, .int rch, .int wnt, .ref (bd 20), .ref (bd 21), .ref (bd 22), .int bb.1, .ref (bd 23), .ref (bd 24), .long (Int64.ofInt bb.2.1), .long (Int64.ofInt bb.2.2.1)])), ((bd 18), .inr (2, [.int (bI o), .ref (na 31), .ref (na 32), .ref (na 33)])), ((bd 19), .inl (ka 0, 3, .inl zs)), ((bd 20), .inl (ka 3, 5, .inr (.inr (.inr (.inr (nR na 34)))))), ((bd 21), .inl (ka 0, 4, .inl sa)), ((bd 22), .inl (ka 0, 4, .inl ss)), ((bd 23), .inl (ka 0, 4, .inl bb.2.2.2.1)), ((bd 24), .inl (ka 0, 4, .inl bb.2.2.2.2)), ((bd 2), .inr (3, [.int (nI L), .ref (bd 7), .ref (bd 8), .ref (bd 9), .ref (bd 10), .ref (bd 11), .int sz9, .int re9])), ((bd 7), .inl (ka 0, 8, .inl mo)), ((bd 8), .inl (ka 0, 8, .inl an)), ((bd 9), .inl (ka 0, 8, .inl pl)), ((bd 10), .inl (ka 0, 24, .inl ho)), ((bd 11), .inl (ka 0, 2, .inl le))] ++ nP na N) H locs := hB
    refine lv_if_ne (tgt := 24) hx hb dX7_fewest_13 (by decide) (fun h13 => ?_) (fun h13 => ?_)
    · skip
      replace h13 := (b9_t h13)
      refine lv_bipush (v := -2) hx hb dX7_fewest_24 (by decide) ?_
      have hK : fwK (nI pg) wq cq = false := dB_f.mpr (fun e8 => absurd (h13.symm.trans e8.2.1) (by decide))
      exact zreti hF hB (N, sa, ss, (o), wnt, cnt, opb, rch, zs, bb) (⟨by rw [if_neg (by rw [hK]; decide)], fun _ _ => rfl, hB9⟩) (rfl) (rfl) dX7_fewest_26 hQ
    · skip
      replace h13 := (b9_f h13)
      obtain ⟨wg, hwg2, hwg3⟩ := inI_of h13 (by decide)
      subst hwg3
      have rwg : aN (nI wg) = wg := aNn hwg2 (by decide)
      have hwg1 : inI (nI wg) 5 = true := h13
      refine lv_iload_n hx hb dX7_fewest_16 rfl (lv_at hl 3 rfl) ?_
      refine lv_iconst (v := 3) hx hb dX7_fewest_17 (by decide) ?_
      refine zSi zm_X7_65 hF hB (c_X7_isOutside l D ka kb cq 3 (by decide)) [] rfl (by decide) [] (fun _ => rfl) rfl rfl ⟨Nat.le_of_ble_eq_true rfl, Nat.le_of_ble_eq_true rfl⟩ rfl hl.1 (Nat.le_of_ble_eq_true rfl) ⟨Nat.le_refl _, Nat.le_refl _⟩ dX7_fewest_18 ?_
      clear hB
      try clear locs
      try clear H
      intro r3 u3 H locs hp hB
      obtain rfl : r3 = bI (!(inI cq 3)) := hp
      replace hB : zB D A s ([((bd 31), .inr (7, [.ref (bd 0), .ref (bd 1), .ref (na 6), .ref (na 7), .ref (bd 2), .ref (bd 3), .ref (bd 4), .ref (bd 5), .ref (bd 6)])), ((bd 4), .inr (4, [.ref (bd 18), .ref (bd 19), .int cnt, .int opb, .int rch, .int wnt, .ref (bd 20), .ref (bd 21), .ref (bd 22), .int bb.1, .ref (bd 23), .ref (bd 24), .long (Int64.ofInt bb.2.1), .long (Int64.ofInt bb.2.2.1)])), ((bd 18), .inr (2, [.int (bI o), .ref (na 31), .ref (na 32), .ref (na 33)])), ((bd 19), .inl (ka 0, 3, .inl zs)), ((bd 20), .inl (ka 3, 5, .inr (.inr (.inr (.inr (nR na 34)))))), ((bd 21), .inl (ka 0, 4, .inl sa)), ((bd 22), .inl (ka 0, 4, .inl ss)), ((bd 23), .inl (ka 0, 4, .inl bb.2.2.2.1)), ((bd 24), .inl (ka 0, 4, .inl bb.2.2.2.2)), ((bd 2), .inr (3, [.int (nI L), .ref (bd 7), .ref (bd 8), .ref (bd 9), .ref (bd 10), .ref (bd 11), .int sz9, .int re9])), ((bd 7), .inl (ka 0, 8, .inl mo)), ((bd 8), .inl (ka 0, 8, .inl an)), ((bd 9), .inl (ka 0, 8, .inl pl)), ((bd 10), .inl (ka 0, 24, .inl ho)), ((bd 11), .inl (ka 0, 2, .inl le))] ++ nP na N) H locs := hB
      refine lv_if_eq (tgt := 27) hx hb dX7_fewest_21 (by decide) (fun h21 => ?_) (fun h21 => ?_)
      · skip
        replace h21 := (b9_f h21)
        obtain ⟨cg, hcg2, hcg3⟩ := inI_of h21 (by decide)
        subst hcg3
        have rcg : aN (nI cg) = cg := aNn hcg2 (by decide)
        have hcg1 : inI (nI cg) 3 = true := h21
        refine lv_aload_n hx hb dX7_fewest_27 rfl (lv_at hl 0 rfl) ?_
        refine zget zf_X7_47 hF hB 0 rfl rfl dX7_fewest_28 ?_
        refine lv_aload_n hx hb dX7_fewest_31 rfl (lv_at hl 0 rfl) ?_
        refine zget zf_X7_33 hF hB 0 rfl rfl dX7_fewest_32 ?_
        refine lv_iload_n hx hb dX7_fewest_35 rfl (lv_at hl 1 rfl) ?_
        refine lv_iload_n hx hb dX7_fewest_36 rfl (lv_at hl 2 rfl) ?_
        refine zVv zm_X7_219 hF hB (c_X4_seek l D ka kb bd o cnt opb rch wnt zs bb sa ss sz9 re9 L mo an pl ho le na N pg wg (hpg2) (by omega) (hok) (hoh) (hre) (hB9)) ([1, 2, 3, 4, 5, 6, 7, 8, 9, 10, 11, 12, 13, 14] ++ npr 15) (zsel_pool rfl rfl) (va_nd_pool rfl rfl) ([(bd 4), (bd 18), (bd 19), (bd 20), (bd 21), (bd 22), (bd 23), (bd 24), (bd 2), (bd 7), (bd 8), (bd 9), (bd 10), (bd 11)] ++ nA na) (fun _ => zad_pool rfl) (zad_pool rfl) 1 4 rfl rfl rfl ⟨Nat.le_of_ble_eq_true rfl, Nat.le_of_ble_eq_true rfl⟩ rfl hl.1 (Nat.le_of_ble_eq_true rfl) ⟨Nat.le_refl _, Nat.le_refl _⟩ dX7_fewest_37 ?_
        clear hB
        try clear locs
        try clear H
        intro u4 H locs hp hB
        obtain ⟨N94, sa94, ss94, o94, wn94⟩ := u4
        have hp4 : (∀ k9, (k9 < 34 ∨ 38 < k9) → N94 k9 = N k9) ∧ bB (seS (fun n b => clR (pulI pg L mo an pl ho) (aN re9) (mzN (lzC sz9 9) (fun i => aN (lzS sz9 zs 9 i))) (fun a9 => dB (lgX (opN (le pg) pg ho 12) a9 = 1)) (fun i => aN (lzS sz9 zs 9 i)) (lzC sz9 9) n 0 [] b) (wg + 1) ((-1 : Int32), bb.2)) := hp
        have HPP := hp4
        replace hB : zB D A s ([((bd 31), .inr (7, [.ref (bd 0), .ref (bd 1), .ref (na 6), .ref (na 7), .ref (bd 2), .ref (bd 3), .ref (bd 4), .ref (bd 5), .ref (bd 6)])), ((bd 4), .inr (4, [.ref (bd 18), .ref (bd 19), .int (nI (lzC sz9 9)), .int (opN (le pg) pg ho 12), .int (nI (aN re9)), .int wn94, .ref (bd 20), .ref (bd 21), .ref (bd 22), .int ((seS (fun n b => clR (pulI pg L mo an pl ho) (aN re9) (mzN (lzC sz9 9) (fun i => aN (lzS sz9 zs 9 i))) (fun a9 => dB (lgX (opN (le pg) pg ho 12) a9 = 1)) (fun i => aN (lzS sz9 zs 9 i)) (lzC sz9 9) n 0 [] b) (wg + 1) ((-1 : Int32), bb.2)).1), .ref (bd 23), .ref (bd 24), .long (Int64.ofInt (seS (fun n b => clR (pulI pg L mo an pl ho) (aN re9) (mzN (lzC sz9 9) (fun i => aN (lzS sz9 zs 9 i))) (fun a9 => dB (lgX (opN (le pg) pg ho 12) a9 = 1)) (fun i => aN (lzS sz9 zs 9 i)) (lzC sz9 9) n 0 [] b) (wg + 1) ((-1 : Int32), bb.2)).2.1), .long (Int64.ofInt (seS (fun n b => clR (pulI pg L mo an pl ho) (aN re9) (mzN (lzC sz9 9) (fun i => aN (lzS sz9 zs 9 i))) (fun a9 => dB (lgX (opN (le pg) pg ho 12) a9 = 1)) (fun i => aN (lzS sz9 zs 9 i)) (lzC sz9 9) n 0 [] b) (wg + 1) ((-1 : Int32), bb.2)).2.2.1)])), ((bd 18), .inr (2, [.int (bI o94), .ref (na 31), .ref (na 32), .ref (na 33)])), ((bd 19), .inl (ka 0, 3, .inl (lzS sz9 zs 9))), ((bd 20), .inl (ka 3, 5, .inr (.inr (.inr (.inr (nR na 34)))))), ((bd 21), .inl (ka 0, 4, .inl sa94)), ((bd 22), .inl (ka 0, 4, .inl ss94)), ((bd 23), .inl (ka 0, 4, .inl ((seS (fun n b => clR (pulI pg L mo an pl ho) (aN re9) (mzN (lzC sz9 9) (fun i => aN (lzS sz9 zs 9 i))) (fun a9 => dB (lgX (opN (le pg) pg ho 12) a9 = 1)) (fun i => aN (lzS sz9 zs 9 i)) (lzC sz9 9) n 0 [] b) (wg + 1) ((-1 : Int32), bb.2)).2.2.2.1))), ((bd 24), .inl (ka 0, 4, .inl ((seS (fun n b => clR (pulI pg L mo an pl ho) (aN re9) (mzN (lzC sz9 9) (fun i => aN (lzS sz9 zs 9 i))) (fun a9 => dB (lgX (opN (le pg) pg ho 12) a9 = 1)) (fun i => aN (lzS sz9 zs 9 i)) (lzC sz9 9) n 0 [] b) (wg + 1) ((-1 : Int32), bb.2)).2.2.2.2))), ((bd 2), .inr (3, [.int (nI L), .ref (bd 7), .ref (bd 8), .ref (bd 9), .ref (bd 10), .ref (bd 11), .int sz9, .int re9])), ((bd 7), .inl (ka 0, 8, .inl mo)), ((bd 8), .inl (ka 0, 8, .inl an)), ((bd 9), .inl (ka 0, 8, .inl pl)), ((bd 10), .inl (ka 0, 24, .inl ho)), ((bd 11), .inl (ka 0, 2, .inl le))] ++ nP na N94) H locs := zB_pool hB rfl rfl rfl rfl
        have hSK := HPP
        generalize hbb : (seS (fun n b => clR (pulI pg L mo an pl ho) (aN re9) (mzN (lzC sz9 9) (fun i => aN (lzS sz9 zs 9 i))) (fun a9 => dB (lgX (opN (le pg) pg ho 12) a9 = 1)) (fun i => aN (lzS sz9 zs 9 i)) (lzC sz9 9) n 0 [] b) (wg + 1) ((-1 : Int32), bb.2)) = b9 at hB hSK
        have hRS : b9 = (seS (fun n b => srR (okC sz9 pg le ho) (lkU (pulI pg L mo an pl ho) re9.toInt) n 1 [] b) (wg + 1) ((-1 : Int32), bb.2)) := by rw [← hbb]; have e9 := cl_all (zs := zs) (le := le) (ho := ho) (p := pg) (w := wg) (li := aN re9) hszk (fun k hk => pulI_B (p := pg) hpg2 hok hoh hk) (by omega) ((-1 : Int32), bb.2); rw [hAN] at e9; exact e9
        have hK9 : bK b9 := by rw [hRS]; exact seK (by omega)
        replace hB : zB D A s ([((bd 31), .inr (7, [.ref (bd 0), .ref (bd 1), .ref (na 6), .ref (na 7), .ref (bd 2), .ref (bd 3), .ref (bd 4), .ref (bd 5), .ref (bd 6)])), ((bd 4), .inr (4, [.ref (bd 18), .ref (bd 19), .int (nI (lzC sz9 9)), .int (opN (le pg) pg ho 12), .int (nI (aN re9)), .int wn94, .ref (bd 20), .ref (bd 21), .ref (bd 22), .int b9.1, .ref (bd 23), .ref (bd 24), .long (Int64.ofInt b9.2.1), .long (Int64.ofInt b9.2.2.1)])), ((bd 18), .inr (2, [.int (bI o94), .ref (na 31), .ref (na 32), .ref (na 33)])), ((bd 19), .inl (ka 0, 3, .inl (lzS sz9 zs 9))), ((bd 20), .inl (ka 3, 5, .inr (.inr (.inr (.inr (nR na 34)))))), ((bd 21), .inl (ka 0, 4, .inl sa94)), ((bd 22), .inl (ka 0, 4, .inl ss94)), ((bd 23), .inl (ka 0, 4, .inl b9.2.2.2.1)), ((bd 24), .inl (ka 0, 4, .inl b9.2.2.2.2)), ((bd 2), .inr (3, [.int (nI L), .ref (bd 7), .ref (bd 8), .ref (bd 9), .ref (bd 10), .ref (bd 11), .int sz9, .int re9])), ((bd 7), .inl (ka 0, 8, .inl mo)), ((bd 8), .inl (ka 0, 8, .inl an)), ((bd 9), .inl (ka 0, 8, .inl pl)), ((bd 10), .inl (ka 0, 24, .inl ho)), ((bd 11), .inl (ka 0, 2, .inl le))] ++ nP na N94) H locs := hB
        refine lv_aload_n hx hb dX7_fewest_40 rfl (lv_at hl 0 rfl) ?_
        refine zget zf_X7_47 hF hB 0 rfl rfl dX7_fewest_41 ?_
        refine lv_iload_n hx hb dX7_fewest_44 rfl (lv_at hl 3 rfl) ?_
        refine zVi zm_X7_223 hF hB (c_X4_told l D ka kb bd (nI (lzC sz9 9)) (opN (le pg) pg ho 12) (nI (aN re9)) wn94 b9 cg (hcg2) (hK9)) [1, 7, 8] rfl (by decide) [(bd 4), (bd 23), (bd 24)] (fun _ => rfl) rfl 1 4 rfl rfl rfl ⟨Nat.le_of_ble_eq_true rfl, Nat.le_of_ble_eq_true rfl⟩ rfl hl.1 (Nat.le_of_ble_eq_true rfl) ⟨Nat.le_refl _, Nat.le_refl _⟩ dX7_fewest_45 ?_
        clear hB
        try clear locs
        try clear H
        intro r5 u5 H locs hp hB
        obtain rfl : r5 = fwA cg b9 := hp
        replace hB : zB D A s ([((bd 31), .inr (7, [.ref (bd 0), .ref (bd 1), .ref (na 6), .ref (na 7), .ref (bd 2), .ref (bd 3), .ref (bd 4), .ref (bd 5), .ref (bd 6)])), ((bd 4), .inr (4, [.ref (bd 18), .ref (bd 19), .int (nI (lzC sz9 9)), .int (opN (le pg) pg ho 12), .int (nI (aN re9)), .int wn94, .ref (bd 20), .ref (bd 21), .ref (bd 22), .int b9.1, .ref (bd 23), .ref (bd 24), .long (Int64.ofInt b9.2.1), .long (Int64.ofInt b9.2.2.1)])), ((bd 18), .inr (2, [.int (bI o94), .ref (na 31), .ref (na 32), .ref (na 33)])), ((bd 19), .inl (ka 0, 3, .inl (lzS sz9 zs 9))), ((bd 20), .inl (ka 3, 5, .inr (.inr (.inr (.inr (nR na 34)))))), ((bd 21), .inl (ka 0, 4, .inl sa94)), ((bd 22), .inl (ka 0, 4, .inl ss94)), ((bd 23), .inl (ka 0, 4, .inl b9.2.2.2.1)), ((bd 24), .inl (ka 0, 4, .inl b9.2.2.2.2)), ((bd 2), .inr (3, [.int (nI L), .ref (bd 7), .ref (bd 8), .ref (bd 9), .ref (bd 10), .ref (bd 11), .int sz9, .int re9])), ((bd 7), .inl (ka 0, 8, .inl mo)), ((bd 8), .inl (ka 0, 8, .inl an)), ((bd 9), .inl (ka 0, 8, .inl pl)), ((bd 10), .inl (ka 0, 24, .inl ho)), ((bd 11), .inl (ka 0, 2, .inl le))] ++ nP na N94) H locs := hB
        have hK : fwK (nI pg) (nI wg) (nI cg) = true := dB_t.mpr ⟨hpg1, hwg1, hcg1⟩
        exact zreti hF hB (N94, sa94, ss94, (o94), wn94, (nI (lzC sz9 9)), (opN (le pg) pg ho 12), (nI (aN re9)), (lzS sz9 zs 9), b9) (⟨by rw [if_pos hK, rpg, rwg, rcg, ← hRS], hSK.1, hSK.2⟩) (rfl) (rfl) dX7_fewest_48 hQ
      · skip
        replace h21 := (b9_t h21)
        refine lv_bipush (v := -2) hx hb dX7_fewest_24 (by decide) ?_
        have hK : fwK (nI pg) (nI wg) cq = false := dB_f.mpr (fun e8 => absurd (h21.symm.trans e8.2.2) (by decide))
        exact zreti hF hB (N, sa, ss, (o), wnt, cnt, opb, rch, zs, bb) (⟨by rw [if_neg (by rw [hK]; decide)], fun _ _ => rfl, hB9⟩) (rfl) (rfl) dX7_fewest_26 hQ

set_option maxHeartbeats 4000000 in
set_option maxRecDepth 100000 in
theorem c_X7_drillAll (l : Launch) (D : va_G) (ka : Nat → ClassId) (kb : Nat → Nat) (bd : Nat → Nat) (na : Nat → Nat) (o : Bool) (cnt : Int32) (opb : Int32) (rch : Int32) (wnt : Int32) (zs : Nat → Int32) (bb : bT) (sa : Nat → Int32) (ss : Nat → Int32) (sz9 : Int32) (re9 : Int32) (L : Nat) (mo : Nat → Int32) (an : Nat → Int32) (pl : Nat → Int32) (ho : Nat → Int32) (le : Nat → Int32) (N : Nat → N5) (kp : Nat → Bool) (pq : Int32) (wq : Int32) (hok : okL L mo an pl) (hoh : okH ho) (hre : 0 ≤ re9.toInt ∧ re9.toInt ≤ 99) (hB9 : bB bb) (hszk : szK sz9 = true) : zI l D ka kb yX7_drillAll cX7_drillAll 5 .int 10 251 [.ref (bd 31), .int pq, .int wq] ([((bd 31), .inr (7, [.ref (bd 0), .ref (bd 1), .ref (na 6), .ref (na 7), .ref (bd 2), .ref (bd 3), .ref (bd 4), .ref (bd 5), .ref (bd 6)])), ((bd 4), .inr (4, [.ref (bd 18), .ref (bd 19), .int cnt, .int opb, .int rch, .int wnt, .ref (bd 20), .ref (bd 21), .ref (bd 22), .int bb.1, .ref (bd 23), .ref (bd 24), .long (Int64.ofInt bb.2.1), .long (Int64.ofInt bb.2.2.1)])), ((bd 18), .inr (2, [.int (bI o), .ref (na 31), .ref (na 32), .ref (na 33)])), ((bd 19), .inl (ka 0, 3, .inl zs)), ((bd 20), .inl (ka 3, 5, .inr (.inr (.inr (.inr (nR na 34)))))), ((bd 21), .inl (ka 0, 4, .inl sa)), ((bd 22), .inl (ka 0, 4, .inl ss)), ((bd 23), .inl (ka 0, 4, .inl bb.2.2.2.1)), ((bd 24), .inl (ka 0, 4, .inl bb.2.2.2.2)), ((bd 2), .inr (3, [.int (nI L), .ref (bd 7), .ref (bd 8), .ref (bd 9), .ref (bd 10), .ref (bd 11), .int sz9, .int re9])), ((bd 7), .inl (ka 0, 8, .inl mo)), ((bd 8), .inl (ka 0, 8, .inl an)), ((bd 9), .inl (ka 0, 8, .inl pl)), ((bd 10), .inl (ka 0, 24, .inl ho)), ((bd 11), .inl (ka 0, 2, .inl le)), ((bd 3), .inr (0, [.ref (bd 12), .ref (bd 13), .ref (bd 14), .ref (bd 15), .ref (bd 16), .ref (bd 17), .ref (na 21), .ref (na 22), .ref (na 23), .ref (na 24)])), ((bd 14), .inl (ka 2, 3, .inl (kI kp)))] ++ nP na N) (fun (r : Int32) (u : (Nat → N5) × (Nat → Int32) × (Nat → Int32) × Bool × Int32 × Int32 × Int32 × Int32 × (Nat → Int32) × bT) => r = (if dkK pq wq = true then (if (seS (fun n b => srR (okC sz9 (aN pq) le ho) (lkU (pulI (aN pq) L mo an pl ho) re9.toInt) n 1 [] b) (aN wq + 1) ((-1 : Int32), bb.2)).1 = -1 then (-3 : Int32) else (seS (fun n b => srR (okC sz9 (aN pq) le ho) (lkU (pulI (aN pq) L mo an pl ho) re9.toInt) n 1 [] b) (aN wq + 1) ((-1 : Int32), bb.2)).1) else -2) ∧ (∀ k9, (k9 < 34 ∨ 38 < k9) → u.1 k9 = N k9) ∧ bB u.2.2.2.2.2.2.2.2.2) (fun (u : (Nat → N5) × (Nat → Int32) × (Nat → Int32) × Bool × Int32 × Int32 × Int32 × Int32 × (Nat → Int32) × bT) => [((bd 31), .inr (7, [.ref (bd 0), .ref (bd 1), .ref (na 6), .ref (na 7), .ref (bd 2), .ref (bd 3), .ref (bd 4), .ref (bd 5), .ref (bd 6)])), ((bd 4), .inr (4, [.ref (bd 18), .ref (bd 19), .int u.2.2.2.2.2.1, .int u.2.2.2.2.2.2.1, .int u.2.2.2.2.2.2.2.1, .int u.2.2.2.2.1, .ref (bd 20), .ref (bd 21), .ref (bd 22), .int u.2.2.2.2.2.2.2.2.2.1, .ref (bd 23), .ref (bd 24), .long (Int64.ofInt u.2.2.2.2.2.2.2.2.2.2.1), .long (Int64.ofInt u.2.2.2.2.2.2.2.2.2.2.2.1)])), ((bd 18), .inr (2, [.int (bI u.2.2.2.1), .ref (na 31), .ref (na 32), .ref (na 33)])), ((bd 19), .inl (ka 0, 3, .inl u.2.2.2.2.2.2.2.2.1)), ((bd 20), .inl (ka 3, 5, .inr (.inr (.inr (.inr (nR na 34)))))), ((bd 21), .inl (ka 0, 4, .inl u.2.1)), ((bd 22), .inl (ka 0, 4, .inl u.2.2.1)), ((bd 23), .inl (ka 0, 4, .inl u.2.2.2.2.2.2.2.2.2.2.2.2.1)), ((bd 24), .inl (ka 0, 4, .inl u.2.2.2.2.2.2.2.2.2.2.2.2.2)), ((bd 2), .inr (3, [.int (nI L), .ref (bd 7), .ref (bd 8), .ref (bd 9), .ref (bd 10), .ref (bd 11), .int sz9, .int re9])), ((bd 7), .inl (ka 0, 8, .inl mo)), ((bd 8), .inl (ka 0, 8, .inl an)), ((bd 9), .inl (ka 0, 8, .inl pl)), ((bd 10), .inl (ka 0, 24, .inl (if dkK pq wq = true then dhS (aN pq) (seS (fun n b => srR (okC sz9 (aN pq) le ho) (lkU (pulI (aN pq) L mo an pl ho) re9.toInt) n 1 [] b) (aN wq + 1) ((-1 : Int32), bb.2)) (aN (seS (fun n b => srR (okC sz9 (aN pq) le ho) (lkU (pulI (aN pq) L mo an pl ho) re9.toInt) n 1 [] b) (aN wq + 1) ((-1 : Int32), bb.2)).1) ho else ho))), ((bd 11), .inl (ka 0, 2, .inl le)), ((bd 3), .inr (0, [.ref (bd 12), .ref (bd 13), .ref (bd 14), .ref (bd 15), .ref (bd 16), .ref (bd 17), .ref (na 21), .ref (na 22), .ref (na 23), .ref (na 24)])), ((bd 14), .inl (ka 2, 3, .inl (kI (if dkK pq wq = true ∧ 0 < aN (seS (fun n b => srR (okC sz9 (aN pq) le ho) (lkU (pulI (aN pq) L mo an pl ho) re9.toInt) n 1 [] b) (aN wq + 1) ((-1 : Int32), bb.2)).1 then fgB kp 3 else kp))))] ++ nP na u.1) := by
  refine zI.mk RX7 (by decide +kernel) rfl (Nat.le_of_ble_eq_true rfl) ?_
  intro p e s m below meth c A ls args Q hQ hx hb hF hB hl
  replace hl : lv_has ls 5 [(0, .ref (bd 31)), (1, .int pq), (2, .int wq)] := hl
  have hAN : ((aN re9 : Nat) : Int) = re9.toInt := by unfold aN; omega
  refine lv_iload_n hx hb dX7_drillAll_0 rfl (lv_at hl 1 rfl) ?_
  refine lv_iconst (v := 2) hx hb dX7_drillAll_1 (by decide) ?_
  refine zSi zm_X7_65 hF hB (c_X7_isOutside l D ka kb pq 2 (by decide)) [] rfl (by decide) [] (fun _ => rfl) rfl rfl ⟨Nat.le_of_ble_eq_true rfl, Nat.le_of_ble_eq_true rfl⟩ rfl hl.1 (Nat.le_of_ble_eq_true rfl) ⟨Nat.le_refl _, Nat.le_refl _⟩ dX7_drillAll_2 ?_
  clear hB
  try clear locs
  try clear H
  intro r1 u1 H locs hp hB
  obtain rfl : r1 = bI (!(inI pq 2)) := hp
  replace hB : zB D A s ([((bd 31), .inr (7, [.ref (bd 0), .ref (bd 1), .ref (na 6), .ref (na 7), .ref (bd 2), .ref (bd 3), .ref (bd 4), .ref (bd 5), .ref (bd 6)])), ((bd 4), .inr (4, [.ref (bd 18), .ref (bd 19), .int cnt, .int opb, .int rch, .int wnt, .ref (bd 20), .ref (bd 21), .ref (bd 22), .int bb.1, .ref (bd 23), .ref (bd 24), .long (Int64.ofInt bb.2.1), .long (Int64.ofInt bb.2.2.1)])), ((bd 18), .inr (2, [.int (bI o), .ref (na 31), .ref (na 32), .ref (na 33)])), ((bd 19), .inl (ka 0, 3, .inl zs)), ((bd 20), .inl (ka 3, 5, .inr (.inr (.inr (.inr (nR na 34)))))), ((bd 21), .inl (ka 0, 4, .inl sa)), ((bd 22), .inl (ka 0, 4, .inl ss)), ((bd 23), .inl (ka 0, 4, .inl bb.2.2.2.1)), ((bd 24), .inl (ka 0, 4, .inl bb.2.2.2.2)), ((bd 2), .inr (3, [.int (nI L), .ref (bd 7), .ref (bd 8), .ref (bd 9), .ref (bd 10), .ref (bd 11), .int sz9, .int re9])), ((bd 7), .inl (ka 0, 8, .inl mo)), ((bd 8), .inl (ka 0, 8, .inl an)), ((bd 9), .inl (ka 0, 8, .inl pl)), ((bd 10), .inl (ka 0, 24, .inl ho)), ((bd 11), .inl (ka 0, 2, .inl le)), ((bd 3), .inr (0, [.ref (bd 12), .ref (bd 13), .ref (bd 14), .ref (bd 15), .ref (bd 16), .ref (bd 17), .ref (na 21), .ref (na 22), .ref (na 23), .ref (na 24)])), ((bd 14), .inl (ka 2, 3, .inl (kI kp)))] ++ nP na N) H locs := hB
  refine lv_if_ne (tgt := 16) hx hb dX7_drillAll_5 (by decide) (fun h5 => ?_) (fun h5 => ?_)
  · skip
    replace h5 := (b9_t h5)
    refine lv_bipush (v := -2) hx hb dX7_drillAll_16 (by decide) ?_
    have hK : dkK pq wq = false := dB_f.mpr (fun e8 => absurd (h5.symm.trans e8.1) (by decide))
    have hK2 : ¬ dkK pq wq = true := by rw [hK]; decide
    exact zreti hF hB (N, sa, ss, (o), wnt, cnt, opb, rch, zs, bb) (⟨by rw [if_neg hK2], fun _ _ => rfl, hB9⟩) (by rw [if_neg hK2, if_neg (fun e8 => hK2 e8.1)]) (rfl) dX7_drillAll_18 hQ
  · skip
    replace h5 := (b9_f h5)
    obtain ⟨pg, hpg2, hpg3⟩ := inI_of h5 (by decide)
    subst hpg3
    have rpg : aN (nI pg) = pg := aNn hpg2 (by decide)
    have hpg1 : inI (nI pg) 2 = true := h5
    refine lv_iload_n hx hb dX7_drillAll_8 rfl (lv_at hl 2 rfl) ?_
    refine lv_iconst (v := 5) hx hb dX7_drillAll_9 (by decide) ?_
    refine zSi zm_X7_65 hF hB (c_X7_isOutside l D ka kb wq 5 (by decide)) [] rfl (by decide) [] (fun _ => rfl) rfl rfl ⟨Nat.le_of_ble_eq_true rfl, Nat.le_of_ble_eq_true rfl⟩ rfl hl.1 (Nat.le_of_ble_eq_true rfl) ⟨Nat.le_refl _, Nat.le_refl _⟩ dX7_drillAll_10 ?_
    clear hB
    try clear locs
    try clear H
    intro r2 u2 H locs hp hB
    obtain rfl : r2 = bI (!(inI wq 5)) := hp
    replace hB : zB D A s ([((bd 31), .inr (7, [.ref (bd 0), .ref (bd 1), .ref (na 6), .ref (na 7), .ref (bd 2), .ref (bd 3), .ref (bd 4), .ref (bd 5), .ref (bd 6)])), ((bd 4), .inr (4, [.ref (bd 18), .ref (bd 19), .int cnt, .int opb, .int rch, .int wnt, .ref (bd 20), .ref (bd 21), .ref (bd 22), .int bb.1, .ref (bd 23), .ref (bd 24), .long (Int64.ofInt bb.2.1), .long (Int64.ofInt bb.2.2.1)])), ((bd 18), .inr (2, [.int (bI o), .ref (na 31), .ref (na 32), .ref (na 33)])), ((bd 19), .inl (ka 0, 3, .inl zs)), ((bd 20), .inl (ka 3, 5, .inr (.inr (.inr (.inr (nR na 34)))))), ((bd 21), .inl (ka 0, 4, .inl sa)), ((bd 22), .inl (ka 0, 4, .inl ss)), ((bd 23), .inl (ka 0, 4, .inl bb.2.2.2.1)), ((bd 24), .inl (ka 0, 4, .inl bb.2.2.2.2)), ((bd 2), .inr (3, [.int (nI L), .ref (bd 7), .ref (bd 8), .ref (bd 9), .ref (bd 10), .ref (bd 11), .int sz9, .int re9])), ((bd 7), .inl (ka 0, 8, .inl mo)), ((bd 8), .inl (ka 0, 8, .inl an)), ((bd 9), .inl (ka 0, 8, .inl pl)), ((bd 10), .inl (ka 0, 24, .inl ho)), ((bd 11), .inl (ka 0, 2, .inl le)), ((bd 3), .inr (0, [.ref (bd 12), .ref (bd 13), .ref (bd 14), .ref (bd 15), .ref (bd 16), .ref (bd 17), .ref (na 21), .ref (na 22), .ref (na 23), .ref (na 24)])), ((bd 14), .inl (ka 2, 3, .inl (kI kp)))] ++ nP na N) H locs := hB
    refine lv_if_eq (tgt := 19) hx hb dX7_drillAll_13 (by decide) (fun h13 => ?_) (fun h13 => ?_)
    · skip
      replace h13 := (b9_f h13)
      obtain ⟨wg, hwg2, hwg3⟩ := inI_of h13 (by decide)
      subst hwg3
      have rwg : aN (nI wg) = wg := aNn hwg2 (by decide)
      have hwg1 : inI (nI wg) 5 = true := h13
      refine lv_aload_n hx hb dX7_drillAll_19 rfl (lv_at hl 0 rfl) ?_
      refine zget zf_X7_47 hF hB 0 rfl rfl dX7_drillAll_20 ?_
      refine lv_aload_n hx hb dX7_drillAll_23 rfl (lv_at hl 0 rfl) ?_
      refine zget zf_X7_33 hF hB 0 rfl rfl dX7_drillAll_24 ?_
      refine lv_iload_n hx hb dX7_drillAll_27 rfl (lv_at hl 1 rfl) ?_
      refine lv_iload_n hx hb dX7_drillAll_28 rfl (lv_at hl 2 rfl) ?_
      refine zVv zm_X7_219 hF hB (c_X4_seek l D ka kb bd o cnt opb rch wnt zs bb sa ss sz9 re9 L mo an pl ho le na N pg wg (hpg2) (by omega) (hok) (hoh) (hre) (hB9)) ([1, 2, 3, 4, 5, 6, 7, 8, 9, 10, 11, 12, 13, 14] ++ npr 17) (zsel_pool rfl rfl) (va_nd_pool rfl rfl) ([(bd 4), (bd 18), (bd 19), (bd 20), (bd 21), (bd 22), (bd 23), (bd 24), (bd 2), (bd 7), (bd 8), (bd 9), (bd 10), (bd 11)] ++ nA na) (fun _ => zad_pool rfl) (zad_pool rfl) 1 4 rfl rfl rfl ⟨Nat.le_of_ble_eq_true rfl, Nat.le_of_ble_eq_true rfl⟩ rfl hl.1 (Nat.le_of_ble_eq_true rfl) ⟨Nat.le_refl _, Nat.le_refl _⟩ dX7_drillAll_29 ?_
      clear hB
      try clear locs
      try clear H
      intro u3 H locs hp hB
      obtain ⟨N93, sa93, ss93, o93, wn93⟩ := u3
      have hp3 : (∀ k9, (k9 < 34 ∨ 38 < k9) → N93 k9 = N k9) ∧ bB (seS (fun n b => clR (pulI pg L mo an pl ho) (aN re9) (mzN (lzC sz9 9) (fun i => aN (lzS sz9 zs 9 i))) (fun a9 => dB (lgX (opN (le pg) pg ho 12) a9 = 1)) (fun i => aN (lzS sz9 zs 9 i)) (lzC sz9 9) n 0 [] b) (wg + 1) ((-1 : Int32), bb.2)) := hp
      have HPP := hp3
      replace hB : zB D A s ([((bd 31), .inr (7, [.ref (bd 0), .ref (bd 1), .ref (na 6), .ref (na 7), .ref (bd 2), .ref (bd 3), .ref (bd 4), .ref (bd 5), .ref (bd 6)])), ((bd 4), .inr (4, [.ref (bd 18), .ref (bd 19), .int (nI (lzC sz9 9)), .int (opN (le pg) pg ho 12), .int (nI (aN re9)), .int wn93, .ref (bd 20), .ref (bd 21), .ref (bd 22), .int ((seS (fun n b => clR (pulI pg L mo an pl ho) (aN re9) (mzN (lzC sz9 9) (fun i => aN (lzS sz9 zs 9 i))) (fun a9 => dB (lgX (opN (le pg) pg ho 12) a9 = 1)) (fun i => aN (lzS sz9 zs 9 i)) (lzC sz9 9) n 0 [] b) (wg + 1) ((-1 : Int32), bb.2)).1), .ref (bd 23), .ref (bd 24), .long (Int64.ofInt (seS (fun n b => clR (pulI pg L mo an pl ho) (aN re9) (mzN (lzC sz9 9) (fun i => aN (lzS sz9 zs 9 i))) (fun a9 => dB (lgX (opN (le pg) pg ho 12) a9 = 1)) (fun i => aN (lzS sz9 zs 9 i)) (lzC sz9 9) n 0 [] b) (wg + 1) ((-1 : Int32), bb.2)).2.1), .long (Int64.ofInt (seS (fun n b => clR (pulI pg L mo an pl ho) (aN re9) (mzN (lzC sz9 9) (fun i => aN (lzS sz9 zs 9 i))) (fun a9 => dB (lgX (opN (le pg) pg ho 12) a9 = 1)) (fun i => aN (lzS sz9 zs 9 i)) (lzC sz9 9) n 0 [] b) (wg + 1) ((-1 : Int32), bb.2)).2.2.1)])), ((bd 18), .inr (2, [.int (bI o93), .ref (na 31), .ref (na 32), .ref (na 33)])), ((bd 19), .inl (ka 0, 3, .inl (lzS sz9 zs 9))), ((bd 20), .inl (ka 3, 5, .inr (.inr (.inr (.inr (nR na 34)))))), ((bd 21), .inl (ka 0, 4, .inl sa93)), ((bd 22), .inl (ka 0, 4, .inl ss93)), ((bd 23), .inl (ka 0, 4, .inl ((seS (fun n b => clR (pulI pg L mo an pl ho) (aN re9) (mzN (lzC sz9 9) (fun i => aN (lzS sz9 zs 9 i))) (fun a9 => dB (lgX (opN (le pg) pg ho 12) a9 = 1)) (fun i => aN (lzS sz9 zs 9 i)) (lzC sz9 9) n 0 [] b) (wg + 1) ((-1 : Int32), bb.2)).2.2.2.1))), ((bd 24), .inl (ka 0, 4, .inl ((seS (fun n b => clR (pulI pg L mo an pl ho) (aN re9) (mzN (lzC sz9 9) (fun i => aN (lzS sz9 zs 9 i))) (fun a9 => dB (lgX (opN (le pg) pg ho 12) a9 = 1)) (fun i => aN (lzS sz9 zs 9 i)) (lzC sz9 9) n 0 [] b) (wg + 1) ((-1 : Int32), bb.2)).2.2.2.2))), ((bd 2), .inr (3, [.int (nI L), .ref (bd 7), .ref (bd 8), .ref (bd 9), .ref (bd 10), .ref (bd 11), .int sz9, .int re9])), ((bd 7), .inl (ka 0, 8, .inl mo)), ((bd 8), .inl (ka 0, 8, .inl an)), ((bd 9), .inl (ka 0, 8, .inl pl)), ((bd 10), .inl (ka 0, 24, .inl ho)), ((bd 11), .inl (ka 0, 2, .inl le)), ((bd 3), .inr (0, [.ref (bd 12), .ref (bd 13), .ref (bd 14), .ref (bd 15), .ref (bd 16), .ref (bd 17), .ref (na 21), .ref (na 22), .ref (na 23), .ref (na 24)])), ((bd 14), .inl (ka 2, 3, .inl (kI kp)))] ++ nP na N93) H locs := zB_pool hB rfl rfl rfl rfl
      have hSK := HPP
      generalize hbb : (seS (fun n b => clR (pulI pg L mo an pl ho) (aN re9) (mzN (lzC sz9 9) (fun i => aN (lzS sz9 zs 9 i))) (fun a9 => dB (lgX (opN (le pg) pg ho 12) a9 = 1)) (fun i => aN (lzS sz9 zs 9 i)) (lzC sz9 9) n 0 [] b) (wg + 1) ((-1 : Int32), bb.2)) = b9 at hB hSK
      have hRS : b9 = (seS (fun n b => srR (okC sz9 pg le ho) (lkU (pulI pg L mo an pl ho) re9.toInt) n 1 [] b) (wg + 1) ((-1 : Int32), bb.2)) := by rw [← hbb]; have e9 := cl_all (zs := zs) (le := le) (ho := ho) (p := pg) (w := wg) (li := aN re9) hszk (fun k hk => pulI_B (p := pg) hpg2 hok hoh hk) (by omega) ((-1 : Int32), bb.2); rw [hAN] at e9; exact e9
      have hK9 : bK b9 := by rw [hRS]; exact seK (by omega)
      replace hB : zB D A s ([((bd 31), .inr (7, [.ref (bd 0), .ref (bd 1), .ref (na 6), .ref (na 7), .ref (bd 2), .ref (bd 3), .ref (bd 4), .ref (bd 5), .ref (bd 6)])), ((bd 4), .inr (4, [.ref (bd 18), .ref (bd 19), .int (nI (lzC sz9 9)), .int (opN (le pg) pg ho 12), .int (nI (aN re9)), .int wn93, .ref (bd 20), .ref (bd 21), .ref (bd 22), .int b9.1, .ref (bd 23), .ref (bd 24), .long (Int64.ofInt b9.2.1), .long (Int64.ofInt b9.2.2.1)])), ((bd 18), .inr (2, [.int (bI o93), .ref (na 31), .ref (na 32), .ref (na 33)])), ((bd 19), .inl (ka 0, 3, .inl (lzS sz9 zs 9))), ((bd 20), .inl (ka 3, 5, .inr (.inr (.inr (.inr (nR na 34)))))), ((bd 21), .inl (ka 0, 4, .inl sa93)), ((bd 22), .inl (ka 0, 4, .inl ss93)), ((bd 23), .inl (ka 0, 4, .inl b9.2.2.2.1)), ((bd 24), .inl (ka 0, 4, .inl b9.2.2.2.2)), ((bd 2), .inr (3, [.int (nI L), .ref (bd 7), .ref (bd 8), .ref (bd 9), .ref (bd 10), .ref (bd 11), .int sz9, .int re9])), ((bd 7), .inl (ka 0, 8, .inl mo)), ((bd 8), .inl (ka 0, 8, .inl an)), ((bd 9), .inl (ka 0, 8, .inl pl)), ((bd 10), .inl (ka 0, 24, .inl ho)), ((bd 11), .inl (ka 0, 2, .inl le)), ((bd 3), .inr (0, [.ref (bd 12), .ref (bd 13), .ref (bd 14), .ref (bd 15), .ref (bd 16), .ref (bd 17), .ref (na 21), .ref (na 22), .ref (na 23), .ref (na 24)])), ((bd 14), .inl (ka 2, 3, .inl (kI kp)))] ++ nP na N93) H locs := hB
      have hA9 : bA b9 := by rw [hRS]; exact seA (by omega)
      have hK : dkK (nI pg) (nI wg) = true := dB_t.mpr ⟨hpg1, hwg1⟩
      refine lv_aload_n hx hb dX7_drillAll_32 rfl (lv_at hl 0 rfl) ?_
      refine zget zf_X7_47 hF hB 0 rfl rfl dX7_drillAll_33 ?_
      refine lv_iconst (v := 0) hx hb dX7_drillAll_36 (by decide) ?_
      refine zVi zm_X7_223 hF hB (c_X4_told l D ka kb bd (nI (lzC sz9 9)) (opN (le pg) pg ho 12) (nI (aN re9)) wn93 b9 0 (by decide) (hK9)) [1, 7, 8] rfl (by decide) [(bd 4), (bd 23), (bd 24)] (fun _ => rfl) rfl 1 4 rfl rfl rfl ⟨Nat.le_of_ble_eq_true rfl, Nat.le_of_ble_eq_true rfl⟩ rfl hl.1 (Nat.le_of_ble_eq_true rfl) ⟨Nat.le_refl _, Nat.le_refl _⟩ dX7_drillAll_37 ?_
      clear hB
      try clear locs
      try clear H
      intro r4 u4 H locs hp hB
      obtain rfl : r4 = fwA 0 b9 := hp
      replace hB : zB D A s ([((bd 31), .inr (7, [.ref (bd 0), .ref (bd 1), .ref (na 6), .ref (na 7), .ref (bd 2), .ref (bd 3), .ref (bd 4), .ref (bd 5), .ref (bd 6)])), ((bd 4), .inr (4, [.ref (bd 18), .ref (bd 19), .int (nI (lzC sz9 9)), .int (opN (le pg) pg ho 12), .int (nI (aN re9)), .int wn93, .ref (bd 20), .ref (bd 21), .ref (bd 22), .int b9.1, .ref (bd 23), .ref (bd 24), .long (Int64.ofInt b9.2.1), .long (Int64.ofInt b9.2.2.1)])), ((bd 18), .inr (2, [.int (bI o93), .ref (na 31), .ref (na 32), .ref (na 33)])), ((bd 19), .inl (ka 0, 3, .inl (lzS sz9 zs 9))), ((bd 20), .inl (ka 3, 5, .inr (.inr (.inr (.inr (nR na 34)))))), ((bd 21), .inl (ka 0, 4, .inl sa93)), ((bd 22), .inl (ka 0, 4, .inl ss93)), ((bd 23), .inl (ka 0, 4, .inl b9.2.2.2.1)), ((bd 24), .inl (ka 0, 4, .inl b9.2.2.2.2)), ((bd 2), .inr (3, [.int (nI L), .ref (bd 7), .ref (bd 8), .ref (bd 9), .ref (bd 10), .ref (bd 11), .int sz9, .int re9])), ((bd 7), .inl (ka 0, 8, .inl mo)), ((bd 8), .inl (ka 0, 8, .inl an)), ((bd 9), .inl (ka 0, 8, .inl pl)), ((bd 10), .inl (ka 0, 24, .inl ho)), ((bd 11), .inl (ka 0, 2, .inl le)), ((bd 3), .inr (0, [.ref (bd 12), .ref (bd 13), .ref (bd 14), .ref (bd 15), .ref (bd 16), .ref (bd 17), .ref (na 21), .ref (na 22), .ref (na 23), .ref (na 24)])), ((bd 14), .inl (ka 2, 3, .inl (kI kp)))] ++ nP na N93) H locs := hB
      refine ztopi (y := (b9.1)) (by rw [fwA, if_pos rfl]) ?_
      refine lv_istore_n (lv' := [(3, .int (b9.1)), (0, .ref (bd 31)), (1, .int (nI pg)), (2, .int (nI wg))]) hx hb dX7_drillAll_40 rfl hl (by decide) rfl ?_
      clear hl
      clear ls
      intro ls hl
      refine lv_iload_n hx hb dX7_drillAll_41 rfl (lv_at hl 0 rfl) ?_
      refine lv_iconst (v := -1) hx hb dX7_drillAll_42 (by decide) ?_
      refine lv_icmp_ne (tgt := 49) hx hb dX7_drillAll_43 (by decide) (fun h43 => ?_) (fun h43 => ?_)
      · skip
        have hn1 : ¬ b9.1 = -1 := h43
        refine lv_iconst (v := 0) hx hb dX7_drillAll_49 (by decide) ?_
        refine lv_istore (lv' := [(4, .int (0 : Int32)), (3, .int (b9.1)), (0, .ref (bd 31)), (1, .int (nI pg)), (2, .int (nI wg))]) hx hb dX7_drillAll_50 hl (by decide) rfl ?_
        clear hl
        clear ls
        intro ls hl
        have lp52 : ∀ (fl : Nat) (i : Nat), (hi : i ≤ aN b9.1) → 4 - i < fl → ∀ (H : Heap) (locs : List Loc), zB D A s ([((bd 31), .inr (7, [.ref (bd 0), .ref (bd 1), .ref (na 6), .ref (na 7), .ref (bd 2), .ref (bd 3), .ref (bd 4), .ref (bd 5), .ref (bd 6)])), ((bd 4), .inr (4, [.ref (bd 18), .ref (bd 19), .int (nI (lzC sz9 9)), .int (opN (le pg) pg ho 12), .int (nI (aN re9)), .int wn93, .ref (bd 20), .ref (bd 21), .ref (bd 22), .int b9.1, .ref (bd 23), .ref (bd 24), .long (Int64.ofInt b9.2.1), .long (Int64.ofInt b9.2.2.1)])), ((bd 18), .inr (2, [.int (bI o93), .ref (na 31), .ref (na 32), .ref (na 33)])), ((bd 19), .inl (ka 0, 3, .inl (lzS sz9 zs 9))), ((bd 20), .inl (ka 3, 5, .inr (.inr (.inr (.inr (nR na 34)))))), ((bd 21), .inl (ka 0, 4, .inl sa93)), ((bd 22), .inl (ka 0, 4, .inl ss93)), ((bd 23), .inl (ka 0, 4, .inl b9.2.2.2.1)), ((bd 24), .inl (ka 0, 4, .inl b9.2.2.2.2)), ((bd 2), .inr (3, [.int (nI L), .ref (bd 7), .ref (bd 8), .ref (bd 9), .ref (bd 10), .ref (bd 11), .int sz9, .int re9])), ((bd 7), .inl (ka 0, 8, .inl mo)), ((bd 8), .inl (ka 0, 8, .inl an)), ((bd 9), .inl (ka 0, 8, .inl pl)), ((bd 10), .inl (ka 0, 24, .inl (dhS pg b9 i ho))), ((bd 11), .inl (ka 0, 2, .inl le)), ((bd 3), .inr (0, [.ref (bd 12), .ref (bd 13), .ref (bd 14), .ref (bd 15), .ref (bd 16), .ref (bd 17), .ref (na 21), .ref (na 22), .ref (na 23), .ref (na 24)])), ((bd 14), .inl (ka 2, 3, .inl (kI (if 0 < i then fgB kp 3 else kp))))] ++ nP na N93) H locs → ∀ ls : Array Slot, lv_has ls 5 [(4, .int (nI i)), (3, .int b9.1), (0, .ref (bd 31)), (1, .int (nI pg)), (2, .int (nI wg))] → W p l e (zRm 10 251 0 0) s m args below meth c H locs 0 0 Q (F0 m 52 ls []) := by
          intro fl
          induction fl with
          | zero => intro i hi hfl; exact absurd hfl (Nat.not_lt_zero _)
          | succ fl ih52 =>
            intro i hi hfl52 H locs hB ls hl
            refine lv_iload hx hb dX7_drillAll_52 (lv_at hl 0 rfl) ?_
            refine lv_iload_n hx hb dX7_drillAll_54 rfl (lv_at hl 1 rfl) ?_
            refine lv_icmp_ge (tgt := 87) hx hb dX7_drillAll_55 (by decide) (fun h55 => ?_) (fun h55 => ?_)
            · skip
              have hie : aN b9.1 = i := bK_e hK9 hi (Int32.le_iff_toInt_le.mp h55)
              refine lv_iload_n hx hb dX7_drillAll_87 rfl (lv_at hl 1 rfl) ?_
              exact zreti hF hB (N93, sa93, ss93, (o93), wn93, (nI (lzC sz9 9)), (opN (le pg) pg ho 12), (nI (aN re9)), (lzS sz9 zs 9), b9) (⟨by rw [if_pos hK, rpg, rwg, ← hRS, if_neg hn1], hSK.1, hSK.2⟩) (by rw [if_pos hK, rpg, rwg, ← hRS, hie, if_an2 hK] <;> rfl) (rfl) dX7_drillAll_88 hQ
            · skip
              have hi2 : i < aN b9.1 ∧ aN b9.1 ≤ 4 := bK_l hK9 hi (Int32.lt_iff_toInt_lt.mp (Int32.not_le.mp h55))
              obtain ⟨cd, hcd, hca, hcz⟩ := hA9 i hi2.1
              refine lv_aload_n hx hb dX7_drillAll_58 rfl (lv_at hl 2 rfl) ?_
              refine lv_iload_n hx hb dX7_drillAll_59 rfl (lv_at hl 3 rfl) ?_
              refine lv_aload_n hx hb dX7_drillAll_60 rfl (lv_at hl 2 rfl) ?_
              refine zget zf_X7_47 hF hB 0 rfl rfl dX7_drillAll_61 ?_
              refine lv_iload hx hb dX7_drillAll_64 (lv_at hl 0 rfl) ?_
              refine zVi zm_X7_226 hF hB (c_X4_angleOf l D ka kb bd (nI (lzC sz9 9)) (opN (le pg) pg ho 12) (nI (aN re9)) wn93 b9.1 (Int64.ofInt b9.2.1) (Int64.ofInt b9.2.2.1) b9.2.2.2.1 i (by omega)) [1, 7] rfl (by decide) [(bd 4), (bd 23)] (fun _ => rfl) rfl 1 4 rfl rfl rfl ⟨Nat.le_of_ble_eq_true rfl, Nat.le_of_ble_eq_true rfl⟩ rfl hl.1 (Nat.le_of_ble_eq_true rfl) ⟨Nat.le_refl _, Nat.le_refl _⟩ dX7_drillAll_66 ?_
              clear hB
              try clear locs
              try clear H
              intro r5 u5 H locs hp hB
              obtain rfl : r5 = b9.2.2.2.1 i := hp
              replace hB : zB D A s ([((bd 31), .inr (7, [.ref (bd 0), .ref (bd 1), .ref (na 6), .ref (na 7), .ref (bd 2), .ref (bd 3), .ref (bd 4), .ref (bd 5), .ref (bd 6)])), ((bd 4), .inr (4, [.ref (bd 18), .ref (bd 19), .int (nI (lzC sz9 9)), .int (opN (le pg) pg ho 12), .int (nI (aN re9)), .int wn93, .ref (bd 20), .ref (bd 21), .ref (bd 22), .int b9.1, .ref (bd 23), .ref (bd 24), .long (Int64.ofInt b9.2.1), .long (Int64.ofInt b9.2.2.1)])), ((bd 18), .inr (2, [.int (bI o93), .ref (na 31), .ref (na 32), .ref (na 33)])), ((bd 19), .inl (ka 0, 3, .inl (lzS sz9 zs 9))), ((bd 20), .inl (ka 3, 5, .inr (.inr (.inr (.inr (nR na 34)))))), ((bd 21), .inl (ka 0, 4, .inl sa93)), ((bd 22), .inl (ka 0, 4, .inl ss93)), ((bd 23), .inl (ka 0, 4, .inl b9.2.2.2.1)), ((bd 24), .inl (ka 0, 4, .inl b9.2.2.2.2)), ((bd 2), .inr (3, [.int (nI L), .ref (bd 7), .ref (bd 8), .ref (bd 9), .ref (bd 10), .ref (bd 11), .int sz9, .int re9])), ((bd 7), .inl (ka 0, 8, .inl mo)), ((bd 8), .inl (ka 0, 8, .inl an)), ((bd 9), .inl (ka 0, 8, .inl pl)), ((bd 10), .inl (ka 0, 24, .inl (dhS pg b9 i ho))), ((bd 11), .inl (ka 0, 2, .inl le)), ((bd 3), .inr (0, [.ref (bd 12), .ref (bd 13), .ref (bd 14), .ref (bd 15), .ref (bd 16), .ref (bd 17), .ref (na 21), .ref (na 22), .ref (na 23), .ref (na 24)])), ((bd 14), .inl (ka 2, 3, .inl (kI (if 0 < i then fgB kp 3 else kp))))] ++ nP na N93) H locs := hB
              refine ztopi (y := nI (cd / 10)) (hca) ?_
              refine lv_aload_n hx hb dX7_drillAll_69 rfl (lv_at hl 2 rfl) ?_
              refine zget zf_X7_47 hF hB 0 rfl rfl dX7_drillAll_70 ?_
              refine lv_iload hx hb dX7_drillAll_73 (lv_at hl 0 rfl) ?_
              refine zVi zm_X7_229 hF hB (c_X4_sizeOf l D ka kb bd (nI (lzC sz9 9)) (opN (le pg) pg ho 12) (nI (aN re9)) wn93 b9.1 (Int64.ofInt b9.2.1) (Int64.ofInt b9.2.2.1) b9.2.2.2.2 i (by omega)) [1, 8] rfl (by decide) [(bd 4), (bd 24)] (fun _ => rfl) rfl 1 4 rfl rfl rfl ⟨Nat.le_of_ble_eq_true rfl, Nat.le_of_ble_eq_true rfl⟩ rfl hl.1 (Nat.le_of_ble_eq_true rfl) ⟨Nat.le_refl _, Nat.le_refl _⟩ dX7_drillAll_75 ?_
              clear hB
              try clear locs
              try clear H
              intro r6 u6 H locs hp hB
              obtain rfl : r6 = b9.2.2.2.2 i := hp
              replace hB : zB D A s ([((bd 31), .inr (7, [.ref (bd 0), .ref (bd 1), .ref (na 6), .ref (na 7), .ref (bd 2), .ref (bd 3), .ref (bd 4), .ref (bd 5), .ref (bd 6)])), ((bd 4), .inr (4, [.ref (bd 18), .ref (bd 19), .int (nI (lzC sz9 9)), .int (opN (le pg) pg ho 12), .int (nI (aN re9)), .int wn93, .ref (bd 20), .ref (bd 21), .ref (bd 22), .int b9.1, .ref (bd 23), .ref (bd 24), .long (Int64.ofInt b9.2.1), .long (Int64.ofInt b9.2.2.1)])), ((bd 18), .inr (2, [.int (bI o93), .ref (na 31), .ref (na 32), .ref (na 33)])), ((bd 19), .inl (ka 0, 3, .inl (lzS sz9 zs 9))), ((bd 20), .inl (ka 3, 5, .inr (.inr (.inr (.inr (nR na 34)))))), ((bd 21), .inl (ka 0, 4, .inl sa93)), ((bd 22), .inl (ka 0, 4, .inl ss93)), ((bd 23), .inl (ka 0, 4, .inl b9.2.2.2.1)), ((bd 24), .inl (ka 0, 4, .inl b9.2.2.2.2)), ((bd 2), .inr (3, [.int (nI L), .ref (bd 7), .ref (bd 8), .ref (bd 9), .ref (bd 10), .ref (bd 11), .int sz9, .int re9])), ((bd 7), .inl (ka 0, 8, .inl mo)), ((bd 8), .inl (ka 0, 8, .inl an)), ((bd 9), .inl (ka 0, 8, .inl pl)), ((bd 10), .inl (ka 0, 24, .inl (dhS pg b9 i ho))), ((bd 11), .inl (ka 0, 2, .inl le)), ((bd 3), .inr (0, [.ref (bd 12), .ref (bd 13), .ref (bd 14), .ref (bd 15), .ref (bd 16), .ref (bd 17), .ref (na 21), .ref (na 22), .ref (na 23), .ref (na 24)])), ((bd 14), .inl (ka 2, 3, .inl (kI (if 0 < i then fgB kp 3 else kp))))] ++ nP na N93) H locs := hB
              refine ztopi (y := nI (cd % 10)) (hcz) ?_
              refine zVv zm_X7_143 hF hB (c_X7_makeHole l D ka kb bd na (nI L) sz9 re9 (dhS pg b9 i ho) (if 0 < i then fgB kp 3 else kp) pg (cd / 10) (nI (cd % 10)) (hpg2) (by omega)) [0, 9, 13, 15, 16] rfl (by decide) [(bd 31), (bd 2), (bd 10), (bd 3), (bd 14)] (fun _ => rfl) rfl 0 7 rfl rfl rfl ⟨Nat.le_of_ble_eq_true rfl, Nat.le_of_ble_eq_true rfl⟩ rfl hl.1 (Nat.le_of_ble_eq_true rfl) ⟨Nat.le_refl _, Nat.le_refl _⟩ dX7_drillAll_78 ?_
              clear hB
              try clear locs
              try clear H
              intro u7 H locs hp hB
              replace hB : zB D A s ([((bd 31), .inr (7, [.ref (bd 0), .ref (bd 1), .ref (na 6), .ref (na 7), .ref (bd 2), .ref (bd 3), .ref (bd 4), .ref (bd 5), .ref (bd 6)])), ((bd 4), .inr (4, [.ref (bd 18), .ref (bd 19), .int (nI (lzC sz9 9)), .int (opN (le pg) pg ho 12), .int (nI (aN re9)), .int wn93, .ref (bd 20), .ref (bd 21), .ref (bd 22), .int b9.1, .ref (bd 23), .ref (bd 24), .long (Int64.ofInt b9.2.1), .long (Int64.ofInt b9.2.2.1)])), ((bd 18), .inr (2, [.int (bI o93), .ref (na 31), .ref (na 32), .ref (na 33)])), ((bd 19), .inl (ka 0, 3, .inl (lzS sz9 zs 9))), ((bd 20), .inl (ka 3, 5, .inr (.inr (.inr (.inr (nR na 34)))))), ((bd 21), .inl (ka 0, 4, .inl sa93)), ((bd 22), .inl (ka 0, 4, .inl ss93)), ((bd 23), .inl (ka 0, 4, .inl b9.2.2.2.1)), ((bd 24), .inl (ka 0, 4, .inl b9.2.2.2.2)), ((bd 2), .inr (3, [.int (nI L), .ref (bd 7), .ref (bd 8), .ref (bd 9), .ref (bd 10), .ref (bd 11), .int sz9, .int re9])), ((bd 7), .inl (ka 0, 8, .inl mo)), ((bd 8), .inl (ka 0, 8, .inl an)), ((bd 9), .inl (ka 0, 8, .inl pl)), ((bd 10), .inl (ka 0, 24, .inl (upd (dhS pg b9 i ho) (12 * pg + (cd / 10)) (nI (cd % 10))))), ((bd 11), .inl (ka 0, 2, .inl le)), ((bd 3), .inr (0, [.ref (bd 12), .ref (bd 13), .ref (bd 14), .ref (bd 15), .ref (bd 16), .ref (bd 17), .ref (na 21), .ref (na 22), .ref (na 23), .ref (na 24)])), ((bd 14), .inl (ka 2, 3, .inl (kI (fgB (if 0 < i then fgB kp 3 else kp) 3))))] ++ nP na N93) H locs := hB
              refine lv_iinc (v := nI (i + 1)) (lv' := [(4, .int (nI (i + 1))), (3, .int b9.1), (0, .ref (bd 31)), (1, .int (nI pg)), (2, .int (nI wg))]) hx hb dX7_drillAll_81 hl (k := 0) rfl (nI_1 _) (by decide) rfl ?_
              clear hl
              clear ls
              intro ls hl
              refine lv_goto (tgt := 52) hx hb dX7_drillAll_84 (by decide) ?_
              exact ih52 (i + 1) (by omega) (by omega) _ _ (by rw [if_pos (Nat.succ_pos i), dhS, hca, hcz, aNn (n := 12) (by omega) (by decide)]; rw [fg_if] at hB; exact hB) _ (lv_sub hl [0, 1, 2, 3, 4] rfl)
        exact lp52 (4 - 0 + 1) 0 (Nat.zero_le _) (by omega) _ _ (by rw [if_neg (Nat.lt_irrefl 0)]; exact hB) _ (lv_sub hl [0, 1, 2, 3, 4] rfl)
      · skip
        have hn1 : b9.1 = -1 := h43
        refine lv_bipush (v := -3) hx hb dX7_drillAll_46 (by decide) ?_
        exact zreti hF hB (N93, sa93, ss93, (o93), wn93, (nI (lzC sz9 9)), (opN (le pg) pg ho 12), (nI (aN re9)), (lzS sz9 zs 9), b9) (⟨by rw [if_pos hK, rpg, rwg, ← hRS, if_pos hn1], hSK.1, hSK.2⟩) (by rw [if_pos hK, rpg, rwg, ← hRS, hn1, if_neg (fun e8 => absurd e8.2 (by decide))] <;> rfl) (rfl) dX7_drillAll_48 hQ
    · skip
      replace h13 := (b9_t h13)
      refine lv_bipush (v := -2) hx hb dX7_drillAll_16 (by decide) ?_
      have hK : dkK (nI pg) wq = false := dB_f.mpr (fun e8 => absurd (h13.symm.trans e8.2) (by decide))
      have hK2 : ¬ dkK (nI pg) wq = true := by rw [hK]; decide
      exact zreti hF hB (N, sa, ss, (o), wnt, cnt, opb, rch, zs, bb) (⟨by rw [if_neg hK2], fun _ _ => rfl, hB9⟩) (by rw [if_neg hK2, if_neg (fun e8 => hK2 e8.1)]) (rfl) dX7_drillAll_18 hQ

