theorem fg_fg {kp : Nat → Bool} : fgB (fgB kp 3) 3 = fgB kp 3 := funext fun j => by
  unfold fgB
  split <;> rfl
theorem fg_if {kp : Nat → Bool} {i : Nat} : fgB (if 0 < i then fgB kp 3 else kp) 3 = fgB kp 3 := by
  split
  · exact fg_fg
  · rfl
theorem spR_no {m : Int32} {a : Nat} {mq : Int32} {cc : Nat} (h : shO m a = false) : spR m a mq cc = -3 := by
  have h2 := dB_f.mp h
  unfold spR
  rw [if_neg (fun e => h2 (Or.inl e)), if_pos (Nat.not_lt.mp (fun e => h2 (Or.inr e)))]
theorem shP_k {m : Int32} {a : Nat} {mq : Int32} {N : Nat → N5} {k : Nat} (h : k < 39) : shP m a mq N k = N k := by
  unfold shP
  split
  · rw [upN_ne (by omega), upN_ne (by omega)]
  · split
    · rfl
    · rw [upN_ne (by omega), upN_ne (by omega)]
theorem i64_32 (x : Int32) : x.toInt64.toInt32 = x := by
  rw [i32_eq, Int64.toInt_toInt32, i32_w]
  exact i32_bmod (i32_rng x)
def spA_ok (dn up : Int32) (X Y : N5) (mq : Int32) : Prop := toW dn up X Y 0 = dn ∧ toW dn up X Y 1 = X.1.toInt32 ∧ toW dn up X Y 2 = X.2.1.toInt32 ∧ toW dn up X Y 3 = X.2.2.2.2.toInt32 ∧ toW dn up X Y 4 = up ∧ toW dn up X Y 5 = Y.1.toInt32 ∧ toW dn up X Y 6 = Y.2.1.toInt32 ∧ toW dn up X Y 7 = Y.2.2.2.2.toInt32
theorem if_an2 {α : Type} {p q : Prop} [Decidable p] [Decidable q] (h : p) {x y : α} : (if p ∧ q then x else y) = if q then x else y := by
  by_cases e : q
  · rw [if_pos ⟨h, e⟩, if_pos e]
  · rw [if_neg (fun e2 => e e2.2), if_neg e]
theorem toW_1 {dn up : Int32} {X Y : N5} {mq : Int32} : spA_ok dn up X Y mq := by
  unfold spA_ok
  exact ⟨rfl, rfl, rfl, rfl, rfl, rfl, rfl, rfl⟩
theorem spA_v (a : Nat) (mq : Int32) : spA a mq 0 = nI a ∧ spA a mq 1 = mq ∧ spA a mq 2 = 0 ∧ spA a mq 3 = 1 ∧ spA a mq 4 = -1 ∧ spA a mq 5 = 0 ∧ spA a mq 6 = 0 ∧ spA a mq 7 = 1 := by
  have e : ∀ k, k < 8 → (nI k = 0 ↔ k = 0) ∧ (nI k = 4 ↔ k = 4) ∧ (nI k = 1 ↔ k = 1) ∧ (nI k = 3 ↔ k = 3) ∧ (nI k = 7 ↔ k = 7) := by decide
  unfold spA
  refine ⟨?_, ?_, ?_, ?_, ?_, ?_, ?_, ?_⟩ <;> simp [e]
theorem spR_yes {m : Int32} {a : Nat} {mq dn up : Int32} {N : Nat → N5} {cc : Nat} (h : shO m a = true) (hc : cc < 8) : toW (shD m a dn) (shU m a up) (shP m a mq N 39) (shP m a mq N 40) cc = spR m a mq cc := by
  have h2 := dB_t.mp h
  have z0 : (0 : Int64).toInt32 = 0 := by decide
  have z1 : (1 : Int64).toInt32 = 1 := by decide
  unfold shD shU shP spR
  by_cases e : lgX m a = 1
  · rw [if_pos e, if_pos e, if_pos e, if_pos e, upN_ne (by decide), upN_eq, upN_eq]
    obtain ⟨s0, s1, s2, s3, s4, s5, s6, s7⟩ := spA_v a mq
    obtain ⟨t0, t1, t2, t3, t4, t5, t6, t7⟩ := toW_1 (dn := nI a) (up := -1) (X := (mq.toInt64, 0, 0, 0, 1)) (Y := (0, 0, 0, 0, 1)) (mq := mq)
    rcases (show cc = 0 ∨ cc = 1 ∨ cc = 2 ∨ cc = 3 ∨ cc = 4 ∨ cc = 5 ∨ cc = 6 ∨ cc = 7 by omega) with rfl | rfl | rfl | rfl | rfl | rfl | rfl | rfl
    · rw [t0, s0]
    · rw [t1, s1]; exact i64_32 mq
    · rw [t2, s2]; exact z0
    · rw [t3, s3]; exact z1
    · rw [t4, s4]
    · rw [t5, s5]; exact z0
    · rw [t6, s6]; exact z0
    · rw [t7, s7]; exact z1
  · have h6 : ¬ 6 ≤ faN m a false 12 + faN m a true 12 := Nat.not_le.mpr (h2.resolve_left e)
    rw [if_neg e, if_neg e, if_neg e, if_neg e, if_neg h6, if_neg h6, if_neg h6, if_neg h6, upN_ne (by decide), upN_eq, upN_eq]
    generalize shN mq (faN m a true 12) (faN m a false 12 + faN m a true 12) = V1
    generalize shN mq (faN m a false 12) (faN m a false 12 + faN m a true 12) = V2
    generalize nI ((a + 12 - faN m a false 12) % 12) = D1
    generalize nI ((a + faN m a true 12) % 12) = D2
    obtain ⟨t0, t1, t2, t3, t4, t5, t6, t7⟩ := toW_1 (dn := D1) (up := D2) (X := V1) (Y := V2) (mq := mq)
    have b0 : ∀ v : N5, shB (1 % 4 - 1) v = v.1 ∧ shB (2 % 4 - 1) v = v.2.1 ∧ shB (3 % 4 - 1) v = v.2.2.2.2 ∧ shB (5 % 4 - 1) v = v.1 ∧ shB (6 % 4 - 1) v = v.2.1 ∧ shB (7 % 4 - 1) v = v.2.2.2.2 := fun v => ⟨rfl, rfl, rfl, rfl, rfl, rfl⟩
    have n0 : nI (0 % 4) = 0 ∧ nI (4 % 4) = 0 ∧ ¬ nI (1 % 4) = 0 ∧ ¬ nI (2 % 4) = 0 ∧ ¬ nI (3 % 4) = 0 ∧ ¬ nI (5 % 4) = 0 ∧ ¬ nI (6 % 4) = 0 ∧ ¬ nI (7 % 4) = 0 ∧ nI 0 = 0 ∧ ¬ nI 4 = 0 := by decide
    obtain ⟨m0, m4, m1, m2, m3, m5, m6, m7, q0, q4⟩ := n0
    obtain ⟨g1, g2, g3, _⟩ := b0 V1
    obtain ⟨_, _, _, g5, g6, g7⟩ := b0 V2
    rcases (show cc = 0 ∨ cc = 1 ∨ cc = 2 ∨ cc = 3 ∨ cc = 4 ∨ cc = 5 ∨ cc = 6 ∨ cc = 7 by omega) with rfl | rfl | rfl | rfl | rfl | rfl | rfl | rfl
    · rw [t0, if_pos m0, if_pos q0]
    · rw [t1, if_neg m1, if_pos (by decide), g1]
    · rw [t2, if_neg m2, if_pos (by decide), g2]
    · rw [t3, if_neg m3, if_pos (by decide), g3]
    · rw [t4, if_pos m4, if_neg q4]
    · rw [t5, if_neg m5, if_neg (by decide), g5]
    · rw [t6, if_neg m6, if_neg (by decide), g6]
    · rw [t7, if_neg m7, if_neg (by decide), g7]
theorem nr_32 (v : Int32) : (FP.f2l (FP.i2f v) - FP.f2l (FP.i2f v) / 2880 * 2880).toInt32.toInt = (fvI v).tmod 2880 := by
  have h := i64_rem (FP.f2l (FP.i2f v)) 2880 (by decide)
  have ht := nr_tm v
  rw [Int64.toInt_toInt32, h]
  exact i32_bmod (by show -2147483648 ≤ (fvI v).tmod 2880 ∧ (fvI v).tmod 2880 ≤ 2147483647; omega)
theorem dA_32 {e : Int32} {x : Int} {k : Nat} (h : e.toInt = x) (hk : k < 12) (hx : 0 ≤ x ∧ x < 2880) : (if 0 ≤ e - nI (k * 30 * 8) then e - nI (k * 30 * 8) else 0 - (e - nI (k * 30 * 8))).toInt = dA x k := by
  have e0 : (0 : Int32).toInt = 0 := rfl
  have e1 : (e - nI (k * 30 * 8)).toInt = x - 240 * (k : Int) := by
    rw [i32_sub (by rw [nI_toInt (by omega)]; omega), h, nI_toInt (by omega)]; omega
  unfold dA
  by_cases h1 : 0 ≤ e - nI (k * 30 * 8)
  · rw [if_pos h1, e1]
    rw [i32_le_i, e1, e0] at h1
    rw [if_neg (by omega)]
  · rw [if_neg h1, i32_sub (by rw [e1, e0]; omega), e1, e0]
    rw [i32_le_i, e1, e0] at h1
    rw [if_pos (by omega)]
theorem dK_32 {d : Int32} {x : Int} {k : Nat} (h : d.toInt = dA x k) (hk : k < 12) (hx : 0 ≤ x ∧ x < 2880) : (if 2880 - d < d then 2880 - d else d).toInt = dK x k := by
  have e2 : (2880 : Int32).toInt = 2880 := rfl
  have hb : 0 ≤ dA x k ∧ dA x k ≤ 2880 := by unfold dA; split <;> omega
  have e1 : ((2880 : Int32) - d).toInt = 2880 - dA x k := by rw [i32_sub (by rw [e2, h]; omega), e2, h]
  unfold dK
  by_cases h1 : 2880 - d < d
  · rw [if_pos h1, e1]
    rw [i32_lt_i, e1, h] at h1
    rw [if_pos h1]
  · rw [if_neg h1, h]
    rw [i32_lt_i, e1, h] at h1
    rw [if_neg h1]
set_option maxHeartbeats 4000000 in
set_option maxRecDepth 100000 in
theorem c_X7_fewest (l : Launch) (D : va_G) (ka : Nat → ClassId) (kb : Nat → Nat) (bd : Nat → Nat) (na : Nat → Nat) (o : Bool) (cnt : Int32) (opb : Int32) (rch : Int32) (wnt : Int32) (zs : Nat → Int32) (bb : bT) (sa : Nat → Int32) (ss : Nat → Int32) (sz9 : Int32) (re9 : Int32) (L : Nat) (mo : Nat → Int32) (an : Nat → Int32) (pl : Nat → Int32) (ho : Nat → Int32) (le : Nat → Int32) (N : Nat → N5) (pq : Int32) (wq : Int32) (cq : Int32) (hok : okL L mo an pl) (hoh : okH ho) (hre : 0 ≤ re9.toInt ∧ re9.toInt ≤ 99) (hB9 : bB bb) (hszk : szK sz9 = true) : zI l D ka kb yX7_fewest cX7_fewest 4 .int 10 251 [.ref (bd 31), .int pq, .int wq, .int cq] ([((bd 31), .inr (7, [.ref (bd 0), .ref (bd 1), .ref (na 6), .ref (na 7), .ref (bd 2), .ref (bd 3), .ref (bd 4), .ref (bd 5), .ref (bd 6)])), ((bd 4), .inr (4, [.ref (bd 18), .ref (bd 19), .int cnt, .int opb, .int rch, .int wnt, .ref (bd 20), .ref (bd 21), .ref (bd 22), .int bb.1, .ref (bd 23), .ref (bd 24), .long (Int64.ofInt bb.2.1), .long (Int64.ofInt bb.2.2.1)])), ((bd 18), .inr (2, [.int (bI o), .ref (na 31), .ref (na 32), .ref (na 33)])), ((bd 19), .inl (ka 0, 3, .inl zs)), ((bd 20), .inl (ka 3, 5, .inr (.inr (.inr (.inr (nR na 34)))))), ((bd 21), .inl (ka 0, 4, .inl sa)), ((bd 22), .inl (ka 0, 4, .inl ss)), ((bd 23), .inl (ka 0, 4, .inl bb.2.2.2.1)), ((bd 24), .inl (ka 0, 4, .inl bb.2.2.2.2)), ((bd 2), .inr (3, [.int (nI L), .ref (bd 7), .ref (bd 8), .ref (bd 9), .ref (bd 10), .ref (bd 11), .int sz9, .int re9])), ((bd 7), .inl (ka 0, 8, .inl mo)), ((bd 8), .inl (ka 0, 8, .inl an)), ((bd 9), .inl (ka 0, 8, .inl pl)), ((bd 10), .inl (ka 0, 24, .inl ho)), ((bd 11), .inl (ka 0, 2, .inl le))] ++ nP na N) (fun (r : Int32) (u : (Nat → N5) × (Nat → Int32) × (Nat → Int32) × Bool × Int32 × Int32 × Int32 × Int32 × (Nat → Int32) × bT) => r = (if fwK pq wq cq = true then fwA (aN cq) (seS (fun n b => srR (okC sz9 (aN pq) le ho) (lkU (pulI (aN pq) L mo an pl ho) re9.toInt) n 1 [] b) (aN wq + 1) ((-1 : Int32), bb.2)) else -2) ∧ (∀ k9, (k9 < 34 ∨ 38 < k9) → u.1 k9 = N k9) ∧ bB u.2.2.2.2.2.2.2.2.2) (fun (u : (Nat → N5) × (Nat → Int32) × (Nat → Int32) × Bool × Int32 × Int32 × Int32 × Int32 × (Nat → Int32) × bT) => [((bd 31), .inr (7, [.ref (bd 0), .ref (bd 1), .ref (na 6), .ref (na 7), .ref (bd 2), .ref (bd 3), .ref (bd 4), .ref (bd 5), .ref (bd 6)])), ((bd 4), .inr (4, [.ref (bd 18), .ref (bd 19), .int u.2.2.2.2.2.1, .int u.2.2.2.2.2.2.1, .int u.2.2.2.2.2.2.2.1, .int u.2.2.2.2.1, .ref (bd 20), .ref (bd 21), .ref (bd 22), .int u.2.2.2.2.2.2.2.2.2.1, .ref (bd 23), .ref (bd 24), .long (Int64.ofInt u.2.2.2.2.2.2.2.2.2.2.1), .long (Int64.ofInt u.2.2.2.2.2.2.2.2.2.2.2.1)])), ((bd 18), .inr (2, [.int (bI u.2.2.2.1), .ref (na 31), .ref (na 32), .ref (na 33)])), ((bd 19), .inl (ka 0, 3, .inl u.2.2.2.2.2.2.2.2.1)), ((bd 20), .inl (ka 3, 5, .inr (.inr (.inr (.inr (nR na 34)))))), ((bd 21), .inl (ka 0, 4, .inl u.2.1)), ((bd 22), .inl (ka 0, 4, .inl u.2.2.1)), ((bd 23), .inl (ka 0, 4, .inl u.2.2.2.2.2.2.2.2.2.2.2.2.1)), ((bd 24), .inl (ka 0, 4, .inl u.2.2.2.2.2.2.2.2.2.2.2.2.2)), ((bd 2), .inr (3, [.int (nI L), .ref (bd 7), .ref (bd 8), .ref (bd 9), .ref (bd 10), .ref (bd 11), .int sz9, .int re9])), ((bd 7), .inl (ka 0, 8, .inl mo)), ((bd 8), .inl (ka 0, 8, .inl an)), ((bd 9), .inl (ka 0, 8, .inl pl)), ((bd 10), .inl (ka 0, 24, .inl ho)), ((bd 11), .inl (ka 0, 2, .inl le))] ++ nP na u.1) := by
  refine zI.mk RX7 (by decide +kernel) rfl (Nat.le_of_ble_eq_true rfl) ?_
  intro p e s m below meth c A ls args Q hQ hx hb hF hB hl
  replace hl : lv_has ls 4 [(0, .ref (bd 31)), (1, .int pq), (2, .int wq), (3, .int cq)] := hl
  have hAN : ((aN re9 : Nat) : Int) = re9.toInt := by unfold aN; omega
  refine lv_iload_n hx hb dX7_fewest_0 rfl (lv_at hl 1 rfl) ?_
  refine lv_iconst (v := 2) hx hb dX7_fewest_1 (by decide) ?_
  refine zSi zm_X7_65 hF hB (c_X7_isOutside l D ka kb pq 2 (by decide)) [] rfl (by decide) [] (fun _ => rfl) rfl rfl ⟨Nat.le_of_ble_eq_true rfl, Nat.le_of_ble_eq_true rfl⟩ rfl hl.1 (Nat.le_of_ble_eq_true rfl) ⟨Nat.le_refl _, Nat.le_refl _⟩ dX7_fewest_2 ?_
  clear hB
  try clear locs
  try clear H
  intro r1 u1 H locs hp hB
  obtain rfl : r1 = bI (!(inI pq 2)) := hp
  replace hB : zB D A s ([((bd 31), .inr (7, [.ref (bd 0), .ref (bd 1), .ref (na 6), .ref (na 7), .ref (bd 2), .ref (bd 3), .ref (bd 4), .ref (bd 5), .ref (bd 6)])), ((bd 4), .inr (4, [.ref (bd 18), .ref (bd 19), .int cnt, .int opb, .int rch, .int wnt, .ref (bd 20), .ref (bd 21), .ref (bd 22), .int bb.1, .ref (bd 23), .ref (bd 24), .long (Int64.ofInt bb.2.1), .long (Int64.ofInt bb.2.2.1)])), ((bd 18), .inr (2, [.int (bI o), .ref (na 31), .ref (na 32), .ref (na 33)])), ((bd 19), .inl (ka 0, 3, .inl zs)), ((bd 20), .inl (ka 3, 5, .inr (.inr (.inr (.inr (nR na 34)))))), ((bd 21), .inl (ka 0, 4, .inl sa)), ((bd 22), .inl (ka 0, 4, .inl ss)), ((bd 23), .inl (ka 0, 4, .inl bb.2.2.2.1)), ((bd 24), .inl (ka 0, 4, .inl bb.2.2.2.2)), ((bd 2), .inr (3, [.int (nI L), .ref (bd 7), .ref (bd 8), .ref (bd 9), .ref (bd 10), .ref (bd 11), .int sz9, .int re9])), ((bd 7), .inl (ka 0, 8, .inl mo)), ((bd 8), .inl (ka 0, 8, .inl an)), ((bd 9), .inl (ka 0, 8, .inl pl)), ((bd 10), .inl (ka 0, 24, .inl ho)), ((bd 11), .inl (ka 0, 2, .inl le))] ++ nP na N) H locs := hB
  refine lv_if_ne (tgt := 24) hx hb dX7_fewest_5 (by decide) (fun h5 => ?_) (fun h5 => ?_)
  · skip
    replace h5 := (b9_t h5)
    refine lv_bipush (v := -2) hx hb dX7_fewest_24 (by decide) ?_
    have hK : fwK pq wq cq = false := dB_f.mpr (fun e8 => absurd (h5.symm.trans e8.1) (by decide))
    exact zreti hF hB (N, sa, ss, (o), wnt, cnt, opb, rch, zs, bb) (⟨by rw [if_neg (by rw [hK]; decide)], fun _ _ => rfl, hB9⟩) (rfl) (rfl) dX7_fewest_26 hQ
  · skip
    replace h5 := (b9_f h5)
    obtain ⟨pg, hpg2, hpg3⟩ := inI_of h5 (by decide)
    subst hpg3
    have rpg : aN (nI pg) = pg := aNn hpg2 (by decide)
    have hpg1 : inI (nI pg) 2 = true := h5
    refine lv_iload_n hx hb dX7_fewest_8 rfl (lv_at hl 2 rfl) ?_
    refine lv_iconst (v := 5) hx hb dX7_fewest_9 (by decide) ?_
    refine zSi zm_X7_65 hF hB (c_X7_isOutside l D ka kb wq 5 (by decide)) [] rfl (by decide) [] (fun _ => rfl) rfl rfl ⟨Nat.le_of_ble_eq_true rfl, Nat.le_of_ble_eq_true rfl⟩ rfl hl.1 (Nat.le_of_ble_eq_true rfl) ⟨Nat.le_refl _, Nat.le_refl _⟩ dX7_fewest_10 ?_
    clear hB
    try clear locs
    try clear H
    intro r2 u2 H locs hp hB
    obtain rfl : r2 = bI (!(inI wq 5)) := hp
    replace hB : zB D A s ([((bd 31), .inr (7, [.ref (bd 0), .ref (bd 1), .ref (na 6), .ref (na 7), .ref (bd 2), .ref (bd 3), .ref (bd 4), .ref (bd 5), .ref (bd 6)])), ((bd 4), .inr (4, [.ref (bd 18), .ref (bd 19), .int cnt, .int opb, .int rch, .int wnt, .ref (bd 20), .ref (bd 21), .ref (bd 22), .int bb.1, .ref (bd 23), .ref (bd 24), .long (Int64.ofInt bb.2.1), .long (Int64.ofInt bb.2.2.1)])), ((bd 18), .inr (2, [.int (bI o), .ref (na 31), .ref (na 32), .ref (na 33)])), ((bd 19), .inl (ka 0, 3, .inl zs)), ((bd 20), .inl (ka 3, 5, .inr (.inr (.inr (.inr (nR na 34)))))), ((bd 21), .inl (ka 0, 4, .inl sa)), ((bd 22), .inl (ka 0, 4, .inl ss)), ((bd 23), .inl (ka 0, 4, .inl bb.2.2.2.1)), ((bd 24), .inl (ka 0, 4, .inl bb.2.2.2.2)), ((bd 2), .inr (3, [.int (nI L), .ref (bd 7), .ref (bd 8), .ref (bd 9), .ref (bd 10), .ref (bd 11), .int sz9, .int re9])), ((bd 7), .inl (ka 0, 8, .inl mo)), ((bd 8), .inl (ka 0, 8, .inl an)), ((bd 9), .inl (ka 0, 8, .inl pl)), ((bd 10), .inl (ka 0, 24, .inl ho)), ((bd 11), .inl (ka 0, 2, .inl le))] ++ nP na N) H locs := hB
    refine lv_if_ne (tgt := 24) hx hb dX7_fewest_13 (by decide) (fun h13 => ?_) (fun h13 => ?_)
    · skip
      replace h13 := (b9_t h13)
      refine lv_bipush (v := -2) hx hb dX7_fewest_24 (by decide) ?_
      have hK : fwK (nI pg) wq cq = false := dB_f.mpr (fun e8 => absurd (h13.symm.trans e8.2.1) (by decide))
      exact zreti hF hB (N, sa, ss, (o), wnt, cnt, opb, rch, zs, bb) (⟨by rw [if_neg (by rw [hK]; decide)], fun _ _ => rfl, hB9⟩) (rfl) (rfl) dX7_fewest_26 hQ
    · skip
      replace h13 := (b9_f h13)
      obtain ⟨wg, hwg2, hwg3⟩ := inI_of h13 (by decide)
      subst hwg3
      have rwg : aN (nI wg) = wg := aNn hwg2 (by decide)
      have hwg1 : inI (nI wg) 5 = true := h13
      refine lv_iload_n hx hb dX7_fewest_16 rfl (lv_at hl 3 rfl) ?_
      refine lv_iconst (v := 3) hx hb dX7_fewest_17 (by decide) ?_
      refine zSi zm_X7_65 hF hB (c_X7_isOutside l D ka kb cq 3 (by decide)) [] rfl (by decide) [] (fun _ => rfl) rfl rfl ⟨Nat.le_of_ble_eq_true rfl, Nat.le_of_ble_eq_true rfl⟩ rfl hl.1 (Nat.le_of_ble_eq_true rfl) ⟨Nat.le_refl _, Nat.le_refl _⟩ dX7_fewest_18 ?_
      clear hB
      try clear locs
      try clear H
      intro r3 u3 H locs hp hB
      obtain rfl : r3 = bI (!(inI cq 3)) := hp
      replace hB : zB D A s ([((bd 31), .inr (7, [.ref (bd 0), .ref (bd 1), .ref (na 6), .ref (na 7), .ref (bd 2), .ref (bd 3), .ref (bd 4), .ref (bd 5), .ref (bd 6)])), ((bd 4), .inr (4, [.ref (bd 18), .ref (bd 19), .int cnt, .int opb, .int rch, .int wnt, .ref (bd 20), .ref (bd 21), .ref (bd 22), .int bb.1, .ref (bd 23), .ref (bd 24), .long (Int64.ofInt bb.2.1), .long (Int64.ofInt bb.2.2.1)])), ((bd 18), .inr (2, [.int (bI o), .ref (na 31), .ref (na 32), .ref (na 33)])), ((bd 19), .inl (ka 0, 3, .inl zs)), ((bd 20), .inl (ka 3, 5, .inr (.inr (.inr (.inr (nR na 34)))))), ((bd 21), .inl (ka 0, 4, .inl sa)), ((bd 22), .inl (ka 0, 4, .inl ss)), ((bd 23), .inl (ka 0, 4, .inl bb.2.2.2.1)), ((bd 24), .inl (ka 0, 4, .inl bb.2.2.2.2)), ((bd 2), .inr (3, [.int (nI L), .ref (bd 7), .ref (bd 8), .ref (bd 9), .ref (bd 10), .ref (bd 11), .int sz9, .int re9])), ((bd 7), .inl (ka 0, 8, .inl mo)), ((bd 8), .inl (ka 0, 8, .inl an)), ((bd 9), .inl (ka 0, 8, .inl pl)), ((bd 10), .inl (ka 0, 24, .inl ho)), ((bd 11), .inl (ka 0, 2, .inl le))] ++ nP na N) H locs := hB
      refine lv_if_eq (tgt := 27) hx hb dX7_fewest_21 (by decide) (fun h21 => ?_) (fun h21 => ?_)
      · skip
        replace h21 := (b9_f h21)
        obtain ⟨cg, hcg2, hcg3⟩ := inI_of h21 (by decide)
        subst hcg3
        have rcg : aN (nI cg) = cg := aNn hcg2 (by decide)
        have hcg1 : inI (nI cg) 3 = true := h21
        refine lv_aload_n hx hb dX7_fewest_27 rfl (lv_at hl 0 rfl) ?_
        refine zget zf_X7_47 hF hB 0 rfl rfl dX7_fewest_28 ?_
        refine lv_aload_n hx hb dX7_fewest_31 rfl (lv_at hl 0 rfl) ?_
        refine zget zf_X7_33 hF hB 0 rfl rfl dX7_fewest_32 ?_
        refine lv_iload_n hx hb dX7_fewest_35 rfl (lv_at hl 1 rfl) ?_
        refine lv_iload_n hx hb dX7_fewest_36 rfl (lv_at hl 2 rfl) ?_
        refine zVv zm_X7_219 hF hB (c_X4_seek l D ka kb bd o cnt opb rch wnt zs bb sa ss sz9 re9 L mo an pl ho le na N pg wg (hpg2) (by omega) (hok) (hoh) (hre) (hB9)) ([1, 2, 3, 4, 5, 6, 7, 8, 9, 10, 11, 12, 13, 14] ++ npr 15) (zsel_pool rfl rfl) (va_nd_pool rfl rfl) ([(bd 4), (bd 18), (bd 19), (bd 20), (bd 21), (bd 22), (bd 23), (bd 24), (bd 2), (bd 7), (bd 8), (bd 9), (bd 10), (bd 11)] ++ nA na) (fun _ => zad_pool rfl) (zad_pool rfl) 1 4 rfl rfl rfl ⟨Nat.le_of_ble_eq_true rfl, Nat.le_of_ble_eq_true rfl⟩ rfl hl.1 (Nat.le_of_ble_eq_true rfl) ⟨Nat.le_refl _, Nat.le_refl _⟩ dX7_fewest_37 ?_
        clear hB
        try clear locs
        try clear H
        intro u4 H locs hp hB
        obtain ⟨N94, sa94, ss94, o94, wn94⟩ := u4
        have hp4 : (∀ k9, (k9 < 34 ∨ 38 < k9) → N94 k9 = N k9) ∧ bB (seS (fun n b => clR (pulI pg L mo an pl ho) (aN re9) (mzN (lzC sz9 9) (fun i => aN (lzS sz9 zs 9 i))) (fun a9 => dB (lgX (opN (le pg) pg ho 12) a9 = 1)) (fun i => aN (lzS sz9 zs 9 i)) (lzC sz9 9) n 0 [] b) (wg + 1) ((-1 : Int32), bb.2)) := hp
        have HPP := hp4
        replace hB : zB D A s ([((bd 31), .inr (7, [.ref (bd 0), .ref (bd 1), .ref (na 6), .ref (na 7), .ref (bd 2), .ref (bd 3), .ref (bd 4), .ref (bd 5), .ref (bd 6)])), ((bd 4), .inr (4, [.ref (bd 18), .ref (bd 19), .int (nI (lzC sz9 9)), .int (opN (le pg) pg ho 12), .int (nI (aN re9)), .int wn94, .ref (bd 20), .ref (bd 21), .ref (bd 22), .int ((seS (fun n b => clR (pulI pg L mo an pl ho) (aN re9) (mzN (lzC sz9 9) (fun i => aN (lzS sz9 zs 9 i))) (fun a9 => dB (lgX (opN (le pg) pg ho 12) a9 = 1)) (fun i => aN (lzS sz9 zs 9 i)) (lzC sz9 9) n 0 [] b) (wg + 1) ((-1 : Int32), bb.2)).1), .ref (bd 23), .ref (bd 24), .long (Int64.ofInt (seS (fun n b => clR (pulI pg L mo an pl ho) (aN re9) (mzN (lzC sz9 9) (fun i => aN (lzS sz9 zs 9 i))) (fun a9 => dB (lgX (opN (le pg) pg ho 12) a9 = 1)) (fun i => aN (lzS sz9 zs 9 i)) (lzC sz9 9) n 0 [] b) (wg + 1) ((-1 : Int32), bb.2)).2.1), .long (Int64.ofInt (seS (fun n b => clR (pulI pg L mo an pl ho) (aN re9) (mzN (lzC sz9 9) (fun i => aN (lzS sz9 zs 9 i))) (fun a9 => dB (lgX (opN (le pg) pg ho 12) a9 = 1)) (fun i => aN (lzS sz9 zs 9 i)) (lzC sz9 9) n 0 [] b) (wg + 1) ((-1 : Int32), bb.2)).2.2.1)])), ((bd 18), .inr (2, [.int (bI o94), .ref (na 31), .ref (na 32), .ref (na 33)])), ((bd 19), .inl (ka 0, 3, .inl (lzS sz9 zs 9))), ((bd 20), .inl (ka 3, 5, .inr (.inr (.inr (.inr (nR na 34)))))), ((bd 21), .inl (ka 0, 4, .inl sa94)), ((bd 22), .inl (ka 0, 4, .inl ss94)), ((bd 23), .inl (ka 0, 4, .inl ((seS (fun n b => clR (pulI pg L mo an pl ho) (aN re9) (mzN (lzC sz9 9) (fun i => aN (lzS sz9 zs 9 i))) (fun a9 => dB (lgX (opN (le pg) pg ho 12) a9 = 1)) (fun i => aN (lzS sz9 zs 9 i)) (lzC sz9 9) n 0 [] b) (wg + 1) ((-1 : Int32), bb.2)).2.2.2.1))), ((bd 24), .inl (ka 0, 4, .inl ((seS (fun n b => clR (pulI pg L mo an pl ho) (aN re9) (mzN (lzC sz9 9) (fun i => aN (lzS sz9 zs 9 i))) (fun a9 => dB (lgX (opN (le pg) pg ho 12) a9 = 1)) (fun i => aN (lzS sz9 zs 9 i)) (lzC sz9 9) n 0 [] b) (wg + 1) ((-1 : Int32), bb.2)).2.2.2.2))), ((bd 2), .inr (3, [.int (nI L), .ref (bd 7), .ref (bd 8), .ref (bd 9), .ref (bd 10), .ref (bd 11), .int sz9, .int re9])), ((bd 7), .inl (ka 0, 8, .inl mo)), ((bd 8), .inl (ka 0, 8, .inl an)), ((bd 9), .inl (ka 0, 8, .inl pl)), ((bd 10), .inl (ka 0, 24, .inl ho)), ((bd 11), .inl (ka 0, 2, .inl le))] ++ nP na N94) H locs := zB_pool hB rfl rfl rfl rfl
        have hSK := HPP
        generalize hbb : (seS (fun n b => clR (pulI pg L mo an pl ho) (aN re9) (mzN (lzC sz9 9) (fun i => aN (lzS sz9 zs 9 i))) (fun a9 => dB (lgX (opN (le pg) pg ho 12) a9 = 1)) (fun i => aN (lzS sz9 zs 9 i)) (lzC sz9 9) n 0 [] b) (wg + 1) ((-1 : Int32), bb.2)) = b9 at hB hSK
        have hRS : b9 = (seS (fun n b => srR (okC sz9 pg le ho) (lkU (pulI pg L mo an pl ho) re9.toInt) n 1 [] b) (wg + 1) ((-1 : Int32), bb.2)) := by rw [← hbb]; have e9 := cl_all (zs := zs) (le := le) (ho := ho) (p := pg) (w := wg) (li := aN re9) hszk (fun k hk => pulI_B (p := pg) hpg2 hok hoh hk) (by omega) ((-1 : Int32), bb.2); rw [hAN] at e9; exact e9
        have hK9 : bK b9 := by rw [hRS]; exact seK (by omega)
        replace hB : zB D A s ([((bd 31), .inr (7, [.ref (bd 0), .ref (bd 1), .ref (na 6), .ref (na 7), .ref (bd 2), .ref (bd 3), .ref (bd 4), .ref (bd 5), .ref (bd 6)])), ((bd 4), .inr (4, [.ref (bd 18), .ref (bd 19), .int (nI (lzC sz9 9)), .int (opN (le pg) pg ho 12), .int (nI (aN re9)), .int wn94, .ref (bd 20), .ref (bd 21), .ref (bd 22), .int b9.1, .ref (bd 23), .ref (bd 24), .long (Int64.ofInt b9.2.1), .long (Int64.ofInt b9.2.2.1)])), ((bd 18), .inr (2, [.int (bI o94), .ref (na 31), .ref (na 32), .ref (na 33)])), ((bd 19), .inl (ka 0, 3, .inl (lzS sz9 zs 9))), ((bd 20), .inl (ka 3, 5, .inr (.inr (.inr (.inr (nR na 34)))))), ((bd 21), .inl (ka 0, 4, .inl sa94)), ((bd 22), .inl (ka 0, 4, .inl ss94)), ((bd 23), .inl (ka 0, 4, .inl b9.2.2.2.1)), ((bd 24), .inl (ka 0, 4, .inl b9.2.2.2.2)), ((bd 2), .inr (3, [.int (nI L), .ref (bd 7), .ref (bd 8), .ref (bd 9), .ref (bd 10), .ref (bd 11), .int sz9, .int re9])), ((bd 7), .inl (ka 0, 8, .inl mo)), ((bd 8), .inl (ka 0, 8, .inl an)), ((bd 9), .inl (ka 0, 8, .inl pl)), ((bd 10), .inl (ka 0, 24, .inl ho)), ((bd 11), .inl (ka 0, 2, .inl le))] ++ nP na N94) H locs := hB
        refine lv_aload_n hx hb dX7_fewest_40 rfl (lv_at hl 0 rfl) ?_
        refine zget zf_X7_47 hF hB 0 rfl rfl dX7_fewest_41 ?_
        refine lv_iload_n hx hb dX7_fewest_44 rfl (lv_at hl 3 rfl) ?_
        refine zVi zm_X7_223 hF hB (c_X4_told l D ka kb bd (nI (lzC sz9 9)) (opN (le pg) pg ho 12) (nI (aN re9)) wn94 b9 cg (hcg2) (hK9)) [1, 7, 8] rfl (by decide) [(bd 4), (bd 23), (bd 24)] (fun _ => rfl) rfl 1 4 rfl rfl rfl ⟨Nat.le_of_ble_eq_true rfl, Nat.le_of_ble_eq_true rfl⟩ rfl hl.1 (Nat.le_of_ble_eq_true rfl) ⟨Nat.le_refl _, Nat.le_refl _⟩ dX7_fewest_45 ?_
        clear hB
        try clear locs
        try clear H
        intro r5 u5 H locs hp hB
        obtain rfl : r5 = fwA cg b9 := hp
        replace hB : zB D A s ([((bd 31), .inr (7, [.ref (bd 0), .ref (bd 1), .ref (na 6), .ref (na 7), .ref (bd 2), .ref (bd 3), .ref (bd 4), .ref (bd 5), .ref (bd 6)])), ((bd 4), .inr (4, [.ref (bd 18), .ref (bd 19), .int (nI (lzC sz9 9)), .int (opN (le pg) pg ho 12), .int (nI (aN re9)), .int wn94, .ref (bd 20), .ref (bd 21), .ref (bd 22), .int b9.1, .ref (bd 23), .ref (bd 24), .long (Int64.ofInt b9.2.1), .long (Int64.ofInt b9.2.2.1)])), ((bd 18), .inr (2, [.int (bI o94), .ref (na 31), .ref (na 32), .ref (na 33)])), ((bd 19), .inl (ka 0, 3, .inl (lzS sz9 zs 9))), ((bd 20), .inl (ka 3, 5, .inr (.inr (.inr (.inr (nR na 34)))))), ((bd 21), .inl (ka 0, 4, .inl sa94)), ((bd 22), .inl (ka 0, 4, .inl ss94)), ((bd 23), .inl (ka 0, 4, .inl b9.2.2.2.1)), ((bd 24), .inl (ka 0, 4, .inl b9.2.2.2.2)), ((bd 2), .inr (3, [.int (nI L), .ref (bd 7), .ref (bd 8), .ref (bd 9), .ref (bd 10), .ref (bd 11), .int sz9, .int re9])), ((bd 7), .inl (ka 0, 8, .inl mo)), ((bd 8), .inl (ka 0, 8, .inl an)), ((bd 9), .inl (ka 0, 8, .inl pl)), ((bd 10), .inl (ka 0, 24, .inl ho)), ((bd 11), .inl (ka 0, 2, .inl le))] ++ nP na N94) H locs := hB
        have hK : fwK (nI pg) (nI wg) (nI cg) = true := dB_t.mpr ⟨hpg1, hwg1, hcg1⟩
        exact zreti hF hB (N94, sa94, ss94, (o94), wn94, (nI (lzC sz9 9)), (opN (le pg) pg ho 12), (nI (aN re9)), (lzS sz9 zs 9), b9) (⟨by rw [if_pos hK, rpg, rwg, rcg, ← hRS], hSK.1, hSK.2⟩) (rfl) (rfl) dX7_fewest_48 hQ
      · skip
        replace h21 := (b9_t h21)
        refine lv_bipush (v := -2) hx hb dX7_fewest_24 (by decide) ?_
        have hK : fwK (nI pg) (nI wg) cq = false := dB_f.mpr (fun e8 => absurd (h21.symm.trans e8.2.2) (by decide))
        exact zreti hF hB (N, sa, ss, (o), wnt, cnt, opb, rch, zs, bb) (⟨by rw [if_neg (by rw [hK]; decide)], fun _ _ => rfl, hB9⟩) (rfl) (rfl) dX7_fewest_26 hQ

set_option maxHeartbeats 4000000 in
set_option maxRecDepth 100000 in
theorem c_X7_drillAll (l : Launch) (D : va_G) (ka : Nat → ClassId) (kb : Nat → Nat) (bd : Nat → Nat) (na : Nat → Nat) (o : Bool) (cnt : Int32) (opb : Int32) (rch : Int32) (wnt : Int32) (zs : Nat → Int32) (bb : bT) (sa : Nat → Int32) (ss : Nat → Int32) (sz9 : Int32) (re9 : Int32) (L : Nat) (mo : Nat → Int32) (an : Nat → Int32) (pl : Nat → Int32) (ho : Nat → Int32) (le : Nat → Int32) (N : Nat → N5) (kp : Nat → Bool) (pq : Int32) (wq : Int32) (hok : okL L mo an pl) (hoh : okH ho) (hre : 0 ≤ re9.toInt ∧ re9.toInt ≤ 99) (hB9 : bB bb) (hszk : szK sz9 = true) : zI l D ka kb yX7_drillAll cX7_drillAll 5 .int 10 251 [.ref (bd 31), .int pq, .int wq] ([((bd 31), .inr (7, [.ref (bd 0), .ref (bd 1), .ref (na 6), .ref (na 7), .ref (bd 2), .ref (bd 3), .ref (bd 4), .ref (bd 5), .ref (bd 6)])), ((bd 4), .inr (4, [.ref (bd 18), .ref (bd 19), .int cnt, .int opb, .int rch, .int wnt, .ref (bd 20), .ref (bd 21), .ref (bd 22), .int bb.1, .ref (bd 23), .ref (bd 24), .long (Int64.ofInt bb.2.1), .long (Int64.ofInt bb.2.2.1)])), ((bd 18), .inr (2, [.int (bI o), .ref (na 31), .ref (na 32), .ref (na 33)])), ((bd 19), .inl (ka 0, 3, .inl zs)), ((bd 20), .inl (ka 3, 5, .inr (.inr (.inr (.inr (nR na 34)))))), ((bd 21), .inl (ka 0, 4, .inl sa)), ((bd 22), .inl (ka 0, 4, .inl ss)), ((bd 23), .inl (ka 0, 4, .inl bb.2.2.2.1)), ((bd 24), .inl (ka 0, 4, .inl bb.2.2.2.2)), ((bd 2), .inr (3, [.int (nI L), .ref (bd 7), .ref (bd 8), .ref (bd 9), .ref (bd 10), .ref (bd 11), .int sz9, .int re9])), ((bd 7), .inl (ka 0, 8, .inl mo)), ((bd 8), .inl (ka 0, 8, .inl an)), ((bd 9), .inl (ka 0, 8, .inl pl)), ((bd 10), .inl (ka 0, 24, .inl ho)), ((bd 11), .inl (ka 0, 2, .inl le)), ((bd 3), .inr (0, [.ref (bd 12), .ref (bd 13), .ref (bd 14), .ref (bd 15), .ref (bd 16), .ref (bd 17), .ref (na 21), .ref (na 22), .ref (na 23), .ref (na 24)])), ((bd 14), .inl (ka 2, 3, .inl (kI kp)))] ++ nP na N) (fun (r : Int32) (u : (Nat → N5) × (Nat → Int32) × (Nat → Int32) × Bool × Int32 × Int32 × Int32 × Int32 × (Nat → Int32) × bT) => r = (if dkK pq wq = true then (if (seS (fun n b => srR (okC sz9 (aN pq) le ho) (lkU (pulI (aN pq) L mo an pl ho) re9.toInt) n 1 [] b) (aN wq + 1) ((-1 : Int32), bb.2)).1 = -1 then (-3 : Int32) else (seS (fun n b => srR (okC sz9 (aN pq) le ho) (lkU (pulI (aN pq) L mo an pl ho) re9.toInt) n 1 [] b) (aN wq + 1) ((-1 : Int32), bb.2)).1) else -2) ∧ (∀ k9, (k9 < 34 ∨ 38 < k9) → u.1 k9 = N k9) ∧ bB u.2.2.2.2.2.2.2.2.2) (fun (u : (Nat → N5) × (Nat → Int32) × (Nat → Int32) × Bool × Int32 × Int32 × Int32 × Int32 × (Nat → Int32) × bT) => [((bd 31), .inr (7, [.ref (bd 0), .ref (bd 1), .ref (na 6), .ref (na 7), .ref (bd 2), .ref (bd 3), .ref (bd 4), .ref (bd 5), .ref (bd 6)])), ((bd 4), .inr (4, [.ref (bd 18), .ref (bd 19), .int u.2.2.2.2.2.1, .int u.2.2.2.2.2.2.1, .int u.2.2.2.2.2.2.2.1, .int u.2.2.2.2.1, .ref (bd 20), .ref (bd 21), .ref (bd 22), .int u.2.2.2.2.2.2.2.2.2.1, .ref (bd 23), .ref (bd 24), .long (Int64.ofInt u.2.2.2.2.2.2.2.2.2.2.1), .long (Int64.ofInt u.2.2.2.2.2.2.2.2.2.2.2.1)])), ((bd 18), .inr (2, [.int (bI u.2.2.2.1), .ref (na 31), .ref (na 32), .ref (na 33)])), ((bd 19), .inl (ka 0, 3, .inl u.2.2.2.2.2.2.2.2.1)), ((bd 20), .inl (ka 3, 5, .inr (.inr (.inr (.inr (nR na 34)))))), ((bd 21), .inl (ka 0, 4, .inl u.2.1)), ((bd 22), .inl (ka 0, 4, .inl u.2.2.1)), ((bd 23), .inl (ka 0, 4, .inl u.2.2.2.2.2.2.2.2.2.2.2.2.1)), ((bd 24), .inl (ka 0, 4, .inl u.2.2.2.2.2.2.2.2.2.2.2.2.2)), ((bd 2), .inr (3, [.int (nI L), .ref (bd 7), .ref (bd 8), .ref (bd 9), .ref (bd 10), .ref (bd 11), .int sz9, .int re9])), ((bd 7), .inl (ka 0, 8, .inl mo)), ((bd 8), .inl (ka 0, 8, .inl an)), ((bd 9), .inl (ka 0, 8, .inl pl)), ((bd 10), .inl (ka 0, 24, .inl (if dkK pq wq = true then dhS (aN pq) (seS (fun n b => srR (okC sz9 (aN pq) le ho) (lkU (pulI (aN pq) L mo an pl ho) re9.toInt) n 1 [] b) (aN wq + 1) ((-1 : Int32), bb.2)) (aN (seS (fun n b => srR (okC sz9 (aN pq) le ho) (lkU (pulI (aN pq) L mo an pl ho) re9.toInt) n 1 [] b) (aN wq + 1) ((-1 : Int32), bb.2)).1) ho else ho))), ((bd 11), .inl (ka 0, 2, .inl le)), ((bd 3), .inr (0, [.ref (bd 12), .ref (bd 13), .ref (bd 14), .ref (bd 15), .ref (bd 16), .ref (bd 17), .ref (na 21), .ref (na 22), .ref (na 23), .ref (na 24)])), ((bd 14), .inl (ka 2, 3, .inl (kI (if dkK pq wq = true ∧ 0 < aN (seS (fun n b => srR (okC sz9 (aN pq) le ho) (lkU (pulI (aN pq) L mo an pl ho) re9.toInt) n 1 [] b) (aN wq + 1) ((-1 : Int32), bb.2)).1 then fgB kp 3 else kp))))] ++ nP na u.1) := by
  refine zI.mk RX7 (by decide +kernel) rfl (Nat.le_of_ble_eq_true rfl) ?_
  intro p e s m below meth c A ls args Q hQ hx hb hF hB hl
  replace hl : lv_has ls 5 [(0, .ref (bd 31)), (1, .int pq), (2, .int wq)] := hl
  have hAN : ((aN re9 : Nat) : Int) = re9.toInt := by unfold aN; omega
  refine lv_iload_n hx hb dX7_drillAll_0 rfl (lv_at hl 1 rfl) ?_
  refine lv_iconst (v := 2) hx hb dX7_drillAll_1 (by decide) ?_
  refine zSi zm_X7_65 hF hB (c_X7_isOutside l D ka kb pq 2 (by decide)) [] rfl (by decide) [] (fun _ => rfl) rfl rfl ⟨Nat.le_of_ble_eq_true rfl, Nat.le_of_ble_eq_true rfl⟩ rfl hl.1 (Nat.le_of_ble_eq_true rfl) ⟨Nat.le_refl _, Nat.le_refl _⟩ dX7_drillAll_2 ?_
  clear hB
  try clear locs
  try clear H
  intro r1 u1 H locs hp hB
  obtain rfl : r1 = bI (!(inI pq 2)) := hp
  replace hB : zB D A s ([((bd 31), .inr (7, [.ref (bd 0), .ref (bd 1), .ref (na 6), .ref (na 7), .ref (bd 2), .ref (bd 3), .ref (bd 4), .ref (bd 5), .ref (bd 6)])), ((bd 4), .inr (4, [.ref (bd 18), .ref (bd 19), .int cnt, .int opb, .int rch, .int wnt, .ref (bd 20), .ref (bd 21), .ref (bd 22), .int bb.1, .ref (bd 23), .ref (bd 24), .long (Int64.ofInt bb.2.1), .long (Int64.ofInt bb.2.2.1)])), ((bd 18), .inr (2, [.int (bI o), .ref (na 31), .ref (na 32), .ref (na 33)])), ((bd 19), .inl (ka 0, 3, .inl zs)), ((bd 20), .inl (ka 3, 5, .inr (.inr (.inr (.inr (nR na 34)))))), ((bd 21), .inl (ka 0, 4, .inl sa)), ((bd 22), .inl (ka 0, 4, .inl ss)), ((bd 23), .inl (ka 0, 4, .inl bb.2.2.2.1)), ((bd 24), .inl (ka 0, 4, .inl bb.2.2.2.2)), ((bd 2), .inr (3, [.int (nI L), .ref (bd 7), .ref (bd 8), .ref (bd 9), .ref (bd 10), .ref (bd 11), .int sz9, .int re9])), ((bd 7), .inl (ka 0, 8, .inl mo)), ((bd 8), .inl (ka 0, 8, .inl an)), ((bd 9), .inl (ka 0, 8, .inl pl)), ((bd 10), .inl (ka 0, 24, .inl ho)), ((bd 11), .inl (ka 0, 2, .inl le)), ((bd 3), .inr (0, [.ref (bd 12), .ref (bd 13), .ref (bd 14), .ref (bd 15), .ref (bd 16), .ref (bd 17), .ref (na 21), .ref (na 22), .ref (na 23), .ref (na 24)])), ((bd 14), .inl (ka 2, 3, .inl (kI kp)))] ++ nP na N) H locs := hB
  refine lv_if_ne (tgt := 16) hx hb dX7_drillAll_5 (by decide) (fun h5 => ?_) (fun h5 => ?_)
  · skip
    replace h5 := (b9_t h5)
    refine lv_bipush (v := -2) hx hb dX7_drillAll_16 (by decide) ?_
    have hK : dkK pq wq = false := dB_f.mpr (fun e8 => absurd (h5.symm.trans e8.1) (by decide))
    have hK2 : ¬ dkK pq wq = true := by rw [hK]; decide
    exact zreti hF hB (N, sa, ss, (o), wnt, cnt, opb, rch, zs, bb) (⟨by rw [if_neg hK2], fun _ _ => rfl, hB9⟩) (by rw [if_neg hK2, if_neg (fun e8 => hK2 e8.1)]) (rfl) dX7_drillAll_18 hQ
  · skip
    replace h5 := (b9_f h5)
    obtain ⟨pg, hpg2, hpg3⟩ := inI_of h5 (by decide)
    subst hpg3
    have rpg : aN (nI pg) = pg := aNn hpg2 (by decide)
    have hpg1 : inI (nI pg) 2 = true := h5
    refine lv_iload_n hx hb dX7_drillAll_8 rfl (lv_at hl 2 rfl) ?_
    refine lv_iconst (v := 5) hx hb dX7_drillAll_9 (by decide) ?_
    refine zSi zm_X7_65 hF hB (c_X7_isOutside l D ka kb wq 5 (by decide)) [] rfl (by decide) [] (fun _ => rfl) rfl rfl ⟨Nat.le_of_ble_eq_true rfl, Nat.le_of_ble_eq_true rfl⟩ rfl hl.1 (Nat.le_of_ble_eq_true rfl) ⟨Nat.le_refl _, Nat.le_refl _⟩ dX7_drillAll_10 ?_
    clear hB
    try clear locs
    try clear H
    intro r2 u2 H locs hp hB
    obtain rfl : r2 = bI (!(inI wq 5)) := hp
    replace hB : zB D A s ([((bd 31), .inr (7, [.ref (bd 0), .ref (bd 1), .ref (na 6), .ref (na 7), .ref (bd 2), .ref (bd 3), .ref (bd 4), .ref (bd 5), .ref (bd 6)])), ((bd 4), .inr (4, [.ref (bd 18), .ref (bd 19), .int cnt, .int opb, .int rch, .int wnt, .ref (bd 20), .ref (bd 21), .ref (bd 22), .int bb.1, .ref (bd 23), .ref (bd 24), .long (Int64.ofInt bb.2.1), .long (Int64.ofInt bb.2.2.1)])), ((bd 18), .inr (2, [.int (bI o), .ref (na 31), .ref (na 32), .ref (na 33)])), ((bd 19), .inl (ka 0, 3, .inl zs)), ((bd 20), .inl (ka 3, 5, .inr (.inr (.inr (.inr (nR na 34)))))), ((bd 21), .inl (ka 0, 4, .inl sa)), ((bd 22), .inl (ka 0, 4, .inl ss)), ((bd 23), .inl (ka 0, 4, .inl bb.2.2.2.1)), ((bd 24), .inl (ka 0, 4, .inl bb.2.2.2.2)), ((bd 2), .inr (3, [.int (nI L), .ref (bd 7), .ref (bd 8), .ref (bd 9), .ref (bd 10), .ref (bd 11), .int sz9, .int re9])), ((bd 7), .inl (ka 0, 8, .inl mo)), ((bd 8), .inl (ka 0, 8, .inl an)), ((bd 9), .inl (ka 0, 8, .inl pl)), ((bd 10), .inl (ka 0, 24, .inl ho)), ((bd 11), .inl (ka 0, 2, .inl le)), ((bd 3), .inr (0, [.ref (bd 12), .ref (bd 13), .ref (bd 14), .ref (bd 15), .ref (bd 16), .ref (bd 17), .ref (na 21), .ref (na 22), .ref (na 23), .ref (na 24)])), ((bd 14), .inl (ka 2, 3, .inl (kI kp)))] ++ nP na N) H locs := hB
    refine lv_if_eq (tgt := 19) hx hb dX7_drillAll_13 (by decide) (fun h13 => ?_) (fun h13 => ?_)
    · skip
      replace h13 := (b9_f h13)
      obtain ⟨wg, hwg2, hwg3⟩ := inI_of h13 (by decide)
      subst hwg3
      have rwg : aN (nI wg) = wg := aNn hwg2 (by decide)
      have hwg1 : inI (nI wg) 5 = true := h13
      refine lv_aload_n hx hb dX7_drillAll_19 rfl (lv_at hl 0 rfl) ?_
      refine zget zf_X7_47 hF hB 0 rfl rfl dX7_drillAll_20 ?_
      refine lv_aload_n hx hb dX7_drillAll_23 rfl (lv_at hl 0 rfl) ?_
      refine zget zf_X7_33 hF hB 0 rfl rfl dX7_drillAll_24 ?_
      refine lv_iload_n hx hb dX7_drillAll_27 rfl (lv_at hl 1 rfl) ?_
      refine lv_iload_n hx hb dX7_drillAll_28 rfl (lv_at hl 2 rfl) ?_
      refine zVv zm_X7_219 hF hB (c_X4_seek l D ka kb bd o cnt opb rch wnt zs bb sa ss sz9 re9 L mo an pl ho le na N pg wg (hpg2) (by omega) (hok) (hoh) (hre) (hB9)) ([1, 2, 3, 4, 5, 6, 7, 8, 9, 10, 11, 12, 13, 14] ++ npr 17) (zsel_pool rfl rfl) (va_nd_pool rfl rfl) ([(bd 4), (bd 18), (bd 19), (bd 20), (bd 21), (bd 22), (bd 23), (bd 24), (bd 2), (bd 7), (bd 8), (bd 9), (bd 10), (bd 11)] ++ nA na) (fun _ => zad_pool rfl) (zad_pool rfl) 1 4 rfl rfl rfl ⟨Nat.le_of_ble_eq_true rfl, Nat.le_of_ble_eq_true rfl⟩ rfl hl.1 (Nat.le_of_ble_eq_true rfl) ⟨Nat.le_refl _, Nat.le_refl _⟩ dX7_drillAll_29 ?_
      clear hB
      try clear locs
      try clear H
      intro u3 H locs hp hB
      obtain ⟨N93, sa93, ss93, o93, wn93⟩ := u3
      have hp3 : (∀ k9, (k9 < 34 ∨ 38 < k9) → N93 k9 = N k9) ∧ bB (seS (fun n b => clR (pulI pg L mo an pl ho) (aN re9) (mzN (lzC sz9 9) (fun i => aN (lzS sz9 zs 9 i))) (fun a9 => dB (lgX (opN (le pg) pg ho 12) a9 = 1)) (fun i => aN (lzS sz9 zs 9 i)) (lzC sz9 9) n 0 [] b) (wg + 1) ((-1 : Int32), bb.2)) := hp
      have HPP := hp3
      replace hB : zB D A s ([((bd 31), .inr (7, [.ref (bd 0), .ref (bd 1), .ref (na 6), .ref (na 7), .ref (bd 2), .ref (bd 3), .ref (bd 4), .ref (bd 5), .ref (bd 6)])), ((bd 4), .inr (4, [.ref (bd 18), .ref (bd 19), .int (nI (lzC sz9 9)), .int (opN (le pg) pg ho 12), .int (nI (aN re9)), .int wn93, .ref (bd 20), .ref (bd 21), .ref (bd 22), .int ((seS (fun n b => clR (pulI pg L mo an pl ho) (aN re9) (mzN (lzC sz9 9) (fun i => aN (lzS sz9 zs 9 i))) (fun a9 => dB (lgX (opN (le pg) pg ho 12) a9 = 1)) (fun i => aN (lzS sz9 zs 9 i)) (lzC sz9 9) n 0 [] b) (wg + 1) ((-1 : Int32), bb.2)).1), .ref (bd 23), .ref (bd 24), .long (Int64.ofInt (seS (fun n b => clR (pulI pg L mo an pl ho) (aN re9) (mzN (lzC sz9 9) (fun i => aN (lzS sz9 zs 9 i))) (fun a9 => dB (lgX (opN (le pg) pg ho 12) a9 = 1)) (fun i => aN (lzS sz9 zs 9 i)) (lzC sz9 9) n 0 [] b) (wg + 1) ((-1 : Int32), bb.2)).2.1), .long (Int64.ofInt (seS (fun n b => clR (pulI pg L mo an pl ho) (aN re9) (mzN (lzC sz9 9) (fun i => aN (lzS sz9 zs 9 i))) (fun a9 => dB (lgX (opN (le pg) pg ho 12) a9 = 1)) (fun i => aN (lzS sz9 zs 9 i)) (lzC sz9 9) n 0 [] b) (wg + 1) ((-1 : Int32), bb.2)).2.2.1)])), ((bd 18), .inr (2, [.int (bI o93), .ref (na 31), .ref (na 32), .ref (na 33)])), ((bd 19), .inl (ka 0, 3, .inl (lzS sz9 zs 9))), ((bd 20), .inl (ka 3, 5, .inr (.inr (.inr (.inr (nR na 34)))))), ((bd 21), .inl (ka 0, 4, .inl sa93)), ((bd 22), .inl (ka 0, 4, .inl ss93)), ((bd 23), .inl (ka 0, 4, .inl ((seS (fun n b => clR (pulI pg L mo an pl ho) (aN re9) (mzN (lzC sz9 9) (fun i => aN (lzS sz9 zs 9 i))) (fun a9 => dB (lgX (opN (le pg) pg ho 12) a9 = 1)) (fun i => aN (lzS sz9 zs 9 i)) (lzC sz9 9) n 0 [] b) (wg + 1) ((-1 : Int32), bb.2)).2.2.2.1))), ((bd 24), .inl (ka 0, 4, .inl ((seS (fun n b => clR (pulI pg L mo an pl ho) (aN re9) (mzN (lzC sz9 9) (fun i => aN (lzS sz9 zs 9 i))) (fun a9 => dB (lgX (opN (le pg) pg ho 12) a9 = 1)) (fun i => aN (lzS sz9 zs 9 i)) (lzC sz9 9) n 0 [] b) (wg + 1) ((-1 : Int32), bb.2)).2.2.2.2))), ((bd 2), .inr (3, [.int (nI L), .ref (bd 7), .ref (bd 8), .ref (bd 9), .ref (bd 10), .ref (bd 11), .int sz9, .int re9])), ((bd 7), .inl (ka 0, 8, .inl mo)), ((bd 8), .inl (ka 0, 8, .inl an)), ((bd 9), .inl (ka 0, 8, .inl pl)), ((bd 10), .inl (ka 0, 24, .inl ho)), ((bd 11), .inl (ka 0, 2, .inl le)), ((bd 3), .inr (0, [.ref (bd 12), .ref (bd 13), .ref (bd 14), .ref (bd 15), .ref (bd 16), .ref (bd 17), .ref (na 21), .ref (na 22), .ref (na 23), .ref (na 24)])), ((bd 14), .inl (ka 2, 3, .inl (kI kp)))] ++ nP na N93) H locs := zB_pool hB rfl rfl rfl rfl
      have hSK := HPP
      generalize hbb : (seS (fun n b => clR (pulI pg L mo an pl ho) (aN re9) (mzN (lzC sz9 9) (fun i => aN (lzS sz9 zs 9 i))) (fun a9 => dB (lgX (opN (le pg) pg ho 12) a9 = 1)) (fun i => aN (lzS sz9 zs 9 i)) (lzC sz9 9) n 0 [] b) (wg + 1) ((-1 : Int32), bb.2)) = b9 at hB hSK
      have hRS : b9 = (seS (fun n b => srR (okC sz9 pg le ho) (lkU (pulI pg L mo an pl ho) re9.toInt) n 1 [] b) (wg + 1) ((-1 : Int32), bb.2)) := by rw [← hbb]; have e9 := cl_all (zs := zs) (le := le) (ho := ho) (p := pg) (w := wg) (li := aN re9) hszk (fun k hk => pulI_B (p := pg) hpg2 hok hoh hk) (by omega) ((-1 : Int32), bb.2); rw [hAN] at e9; exact e9
      have hK9 : bK b9 := by rw [hRS]; exact seK (by omega)
      replace hB : zB D A s ([((bd 31), .inr (7, [.ref (bd 0), .ref (bd 1), .ref (na 6), .ref (na 7), .ref (bd 2), .ref (bd 3), .ref (bd 4), .ref (bd 5), .ref (bd 6)])), ((bd 4), .inr (4, [.ref (bd 18), .ref (bd 19), .int (nI (lzC sz9 9)), .int (opN (le pg) pg ho 12), .int (nI (aN re9)), .int wn93, .ref (bd 20), .ref (bd 21), .ref (bd 22), .int b9.1, .ref (bd 23), .ref (bd 24), .long (Int64.ofInt b9.2.1), .long (Int64.ofInt b9.2.2.1)])), ((bd 18), .inr (2, [.int (bI o93), .ref (na 31), .ref (na 32), .ref (na 33)])), ((bd 19), .inl (ka 0, 3, .inl (lzS sz9 zs 9))), ((bd 20), .inl (ka 3, 5, .inr (.inr (.inr (.inr (nR na 34)))))), ((bd 21), .inl (ka 0, 4, .inl sa93)), ((bd 22), .inl (ka 0, 4, .inl ss93)), ((bd 23), .inl (ka 0, 4, .inl b9.2.2.2.1)), ((bd 24), .inl (ka 0, 4, .inl b9.2.2.2.2)), ((bd 2), .inr (3, [.int (nI L), .ref (bd 7), .ref (bd 8), .ref (bd 9), .ref (bd 10), .ref (bd 11), .int sz9, .int re9])), ((bd 7), .inl (ka 0, 8, .inl mo)), ((bd 8), .inl (ka 0, 8, .inl an)), ((bd 9), .inl (ka 0, 8, .inl pl)), ((bd 10), .inl (ka 0, 24, .inl ho)), ((bd 11), .inl (ka 0, 2, .inl le)), ((bd 3), .inr (0, [.ref (bd 12), .ref (bd 13), .ref (bd 14), .ref (bd 15), .ref (bd 16), .ref (bd 17), .ref (na 21), .ref (na 22), .ref (na 23), .ref (na 24)])), ((bd 14), .inl (ka 2, 3, .inl (kI kp)))] ++ nP na N93) H locs := hB
      have hA9 : bA b9 := by rw [hRS]; exact seA (by omega)
      have hK : dkK (nI pg) (nI wg) = true := dB_t.mpr ⟨hpg1, hwg1⟩
      refine lv_aload_n hx hb dX7_drillAll_32 rfl (lv_at hl 0 rfl) ?_
      refine zget zf_X7_47 hF hB 0 rfl rfl dX7_drillAll_33 ?_
      refine lv_iconst (v := 0) hx hb dX7_drillAll_36 (by decide) ?_
      refine zVi zm_X7_223 hF hB (c_X4_told l D ka kb bd (nI (lzC sz9 9)) (opN (le pg) pg ho 12) (nI (aN re9)) wn93 b9 0 (by decide) (hK9)) [1, 7, 8] rfl (by decide) [(bd 4), (bd 23), (bd 24)] (fun _ => rfl) rfl 1 4 rfl rfl rfl ⟨Nat.le_of_ble_eq_true rfl, Nat.le_of_ble_eq_true rfl⟩ rfl hl.1 (Nat.le_of_ble_eq_true rfl) ⟨Nat.le_refl _, Nat.le_refl _⟩ dX7_drillAll_37 ?_
      clear hB
      try clear locs
      try clear H
      intro r4 u4 H locs hp hB
      obtain rfl : r4 = fwA 0 b9 := hp
      replace hB : zB D A s ([((bd 31), .inr (7, [.ref (bd 0), .ref (bd 1), .ref (na 6), .ref (na 7), .ref (bd 2), .ref (bd 3), .ref (bd 4), .ref (bd 5), .ref (bd 6)])), ((bd 4), .inr (4, [.ref (bd 18), .ref (bd 19), .int (nI (lzC sz9 9)), .int (opN (le pg) pg ho 12), .int (nI (aN re9)), .int wn93, .ref (bd 20), .ref (bd 21), .ref (bd 22), .int b9.1, .ref (bd 23), .ref (bd 24), .long (Int64.ofInt b9.2.1), .long (Int64.ofInt b9.2.2.1)])), ((bd 18), .inr (2, [.int (bI o93), .ref (na 31), .ref (na 32), .ref (na 33)])), ((bd 19), .inl (ka 0, 3, .inl (lzS sz9 zs 9))), ((bd 20), .inl (ka 3, 5, .inr (.inr (.inr (.inr (nR na 34)))))), ((bd 21), .inl (ka 0, 4, .inl sa93)), ((bd 22), .inl (ka 0, 4, .inl ss93)), ((bd 23), .inl (ka 0, 4, .inl b9.2.2.2.1)), ((bd 24), .inl (ka 0, 4, .inl b9.2.2.2.2)), ((bd 2), .inr (3, [.int (nI L), .ref (bd 7), .ref (bd 8), .ref (bd 9), .ref (bd 10), .ref (bd 11), .int sz9, .int re9])), ((bd 7), .inl (ka 0, 8, .inl mo)), ((bd 8), .inl (ka 0, 8, .inl an)), ((bd 9), .inl (ka 0, 8, .inl pl)), ((bd 10), .inl (ka 0, 24, .inl ho)), ((bd 11), .inl (ka 0, 2, .inl le)), ((bd 3), .inr (0, [.ref (bd 12), .ref (bd 13), .ref (bd 14), .ref (bd 15), .ref (bd 16), .ref (bd 17), .ref (na 21), .ref (na 22), .ref (na 23), .ref (na 24)])), ((bd 14), .inl (ka 2, 3, .inl (kI kp)))] ++ nP na N93) H locs := hB
      refine ztopi (y := (b9.1)) (by rw [fwA, if_pos rfl]) ?_
      refine lv_istore_n (lv' := [(3, .int (b9.1)), (0, .ref (bd 31)), (1, .int (nI pg)), (2, .int (nI wg))]) hx hb dX7_drillAll_40 rfl hl (by decide) rfl ?_
      clear hl
      clear ls
      intro ls hl
      refine lv_iload_n hx hb dX7_drillAll_41 rfl (lv_at hl 0 rfl) ?_
      refine lv_iconst (v := -1) hx hb dX7_drillAll_42 (by decide) ?_
      refine lv_icmp_ne (tgt := 49) hx hb dX7_drillAll_43 (by decide) (fun h43 => ?_) (fun h43 => ?_)
      · skip
        have hn1 : ¬ b9.1 = -1 := h43
        refine lv_iconst (v := 0) hx hb dX7_drillAll_49 (by decide) ?_
        refine lv_istore (lv' := [(4, .int (0 : Int32)), (3, .int (b9.1)), (0, .ref (bd 31)), (1, .int (nI pg)), (2, .int (nI wg))]) hx hb dX7_drillAll_50 hl (by decide) rfl ?_
        clear hl
        clear ls
        intro ls hl
        have lp52 : ∀ (fl : Nat) (i : Nat), (hi : i ≤ aN b9.1) → 4 - i < fl → ∀ (H : Heap) (locs : List Loc), zB D A s ([((bd 31), .inr (7, [.ref (bd 0), .ref (bd 1), .ref (na 6), .ref (na 7), .ref (bd 2), .ref (bd 3), .ref (bd 4), .ref (bd 5), .ref (bd 6)])), ((bd 4), .inr (4, [.ref (bd 18), .ref (bd 19), .int (nI (lzC sz9 9)), .int (opN (le pg) pg ho 12), .int (nI (aN re9)), .int wn93, .ref (bd 20), .ref (bd 21), .ref (bd 22), .int b9.1, .ref (bd 23), .ref (bd 24), .long (Int64.ofInt b9.2.1), .long (Int64.ofInt b9.2.2.1)])), ((bd 18), .inr (2, [.int (bI o93), .ref (na 31), .ref (na 32), .ref (na 33)])), ((bd 19), .inl (ka 0, 3, .inl (lzS sz9 zs 9))), ((bd 20), .inl (ka 3, 5, .inr (.inr (.inr (.inr (nR na 34)))))), ((bd 21), .inl (ka 0, 4, .inl sa93)), ((bd 22), .inl (ka 0, 4, .inl ss93)), ((bd 23), .inl (ka 0, 4, .inl b9.2.2.2.1)), ((bd 24), .inl (ka 0, 4, .inl b9.2.2.2.2)), ((bd 2), .inr (3, [.int (nI L), .ref (bd 7), .ref (bd 8), .ref (bd 9), .ref (bd 10), .ref (bd 11), .int sz9, .int re9])), ((bd 7), .inl (ka 0, 8, .inl mo)), ((bd 8), .inl (ka 0, 8, .inl an)), ((bd 9), .inl (ka 0, 8, .inl pl)), ((bd 10), .inl (ka 0, 24, .inl (dhS pg b9 i ho))), ((bd 11), .inl (ka 0, 2, .inl le)), ((bd 3), .inr (0, [.ref (bd 12), .ref (bd 13), .ref (bd 14), .ref (bd 15), .ref (bd 16), .ref (bd 17), .ref (na 21), .ref (na 22), .ref (na 23), .ref (na 24)])), ((bd 14), .inl (ka 2, 3, .inl (kI (if 0 < i then fgB kp 3 else kp))))] ++ nP na N93) H locs → ∀ ls : Array Slot, lv_has ls 5 [(4, .int (nI i)), (3, .int b9.1), (0, .ref (bd 31)), (1, .int (nI pg)), (2, .int (nI wg))] → W p l e (zRm 10 251 0 0) s m args below meth c H locs 0 0 Q (F0 m 52 ls []) := by
          intro fl
          induction fl with
          | zero => intro i hi hfl; exact absurd hfl (Nat.not_lt_zero _)
          | succ fl ih52 =>
            intro i hi hfl52 H locs hB ls hl
            refine lv_iload hx hb dX7_drillAll_52 (lv_at hl 0 rfl) ?_
            refine lv_iload_n hx hb dX7_drillAll_54 rfl (lv_at hl 1 rfl) ?_
            refine lv_icmp_ge (tgt := 87) hx hb dX7_drillAll_55 (by decide) (fun h55 => ?_) (fun h55 => ?_)
            · skip
              have hie : aN b9.1 = i := bK_e hK9 hi (Int32.le_iff_toInt_le.mp h55)
              refine lv_iload_n hx hb dX7_drillAll_87 rfl (lv_at hl 1 rfl) ?_
              exact zreti hF hB (N93, sa93, ss93, (o93), wn93, (nI (lzC sz9 9)), (opN (le pg) pg ho 12), (nI (aN re9)), (lzS sz9 zs 9), b9) (⟨by rw [if_pos hK, rpg, rwg, ← hRS, if_neg hn1], hSK.1, hSK.2⟩) (by rw [if_pos hK, rpg, rwg, ← hRS, hie, if_an2 hK] <;> rfl) (rfl) dX7_drillAll_88 hQ
            · skip
              have hi2 : i < aN b9.1 ∧ aN b9.1 ≤ 4 := bK_l hK9 hi (Int32.lt_iff_toInt_lt.mp (Int32.not_le.mp h55))
              obtain ⟨cd, hcd, hca, hcz⟩ := hA9 i hi2.1
              refine lv_aload_n hx hb dX7_drillAll_58 rfl (lv_at hl 2 rfl) ?_
              refine lv_iload_n hx hb dX7_drillAll_59 rfl (lv_at hl 3 rfl) ?_
              refine lv_aload_n hx hb dX7_drillAll_60 rfl (lv_at hl 2 rfl) ?_
              refine zget zf_X7_47 hF hB 0 rfl rfl dX7_drillAll_61 ?_
              refine lv_iload hx hb dX7_drillAll_64 (lv_at hl 0 rfl) ?_
              refine zVi zm_X7_226 hF hB (c_X4_angleOf l D ka kb bd (nI (lzC sz9 9)) (opN (le pg) pg ho 12) (nI (aN re9)) wn93 b9.1 (Int64.ofInt b9.2.1) (Int64.ofInt b9.2.2.1) b9.2.2.2.1 i (by omega)) [1, 7] rfl (by decide) [(bd 4), (bd 23)] (fun _ => rfl) rfl 1 4 rfl rfl rfl ⟨Nat.le_of_ble_eq_true rfl, Nat.le_of_ble_eq_true rfl⟩ rfl hl.1 (Nat.le_of_ble_eq_true rfl) ⟨Nat.le_refl _, Nat.le_refl _⟩ dX7_drillAll_66 ?_
              clear hB
              try clear locs
              try clear H
              intro r5 u5 H locs hp hB
              obtain rfl : r5 = b9.2.2.2.1 i := hp
              replace hB : zB D A s ([((bd 31), .inr (7, [.ref (bd 0), .ref (bd 1), .ref (na 6), .ref (na 7), .ref (bd 2), .ref (bd 3), .ref (bd 4), .ref (bd 5), .ref (bd 6)])), ((bd 4), .inr (4, [.ref (bd 18), .ref (bd 19), .int (nI (lzC sz9 9)), .int (opN (le pg) pg ho 12), .int (nI (aN re9)), .int wn93, .ref (bd 20), .ref (bd 21), .ref (bd 22), .int b9.1, .ref (bd 23), .ref (bd 24), .long (Int64.ofInt b9.2.1), .long (Int64.ofInt b9.2.2.1)])), ((bd 18), .inr (2, [.int (bI o93), .ref (na 31), .ref (na 32), .ref (na 33)])), ((bd 19), .inl (ka 0, 3, .inl (lzS sz9 zs 9))), ((bd 20), .inl (ka 3, 5, .inr (.inr (.inr (.inr (nR na 34)))))), ((bd 21), .inl (ka 0, 4, .inl sa93)), ((bd 22), .inl (ka 0, 4, .inl ss93)), ((bd 23), .inl (ka 0, 4, .inl b9.2.2.2.1)), ((bd 24), .inl (ka 0, 4, .inl b9.2.2.2.2)), ((bd 2), .inr (3, [.int (nI L), .ref (bd 7), .ref (bd 8), .ref (bd 9), .ref (bd 10), .ref (bd 11), .int sz9, .int re9])), ((bd 7), .inl (ka 0, 8, .inl mo)), ((bd 8), .inl (ka 0, 8, .inl an)), ((bd 9), .inl (ka 0, 8, .inl pl)), ((bd 10), .inl (ka 0, 24, .inl (dhS pg b9 i ho))), ((bd 11), .inl (ka 0, 2, .inl le)), ((bd 3), .inr (0, [.ref (bd 12), .ref (bd 13), .ref (bd 14), .ref (bd 15), .ref (bd 16), .ref (bd 17), .ref (na 21), .ref (na 22), .ref (na 23), .ref (na 24)])), ((bd 14), .inl (ka 2, 3, .inl (kI (if 0 < i then fgB kp 3 else kp))))] ++ nP na N93) H locs := hB
              refine ztopi (y := nI (cd / 10)) (hca) ?_
              refine lv_aload_n hx hb dX7_drillAll_69 rfl (lv_at hl 2 rfl) ?_
              refine zget zf_X7_47 hF hB 0 rfl rfl dX7_drillAll_70 ?_
              refine lv_iload hx hb dX7_drillAll_73 (lv_at hl 0 rfl) ?_
              refine zVi zm_X7_229 hF hB (c_X4_sizeOf l D ka kb bd (nI (lzC sz9 9)) (opN (le pg) pg ho 12) (nI (aN re9)) wn93 b9.1 (Int64.ofInt b9.2.1) (Int64.ofInt b9.2.2.1) b9.2.2.2.2 i (by omega)) [1, 8] rfl (by decide) [(bd 4), (bd 24)] (fun _ => rfl) rfl 1 4 rfl rfl rfl ⟨Nat.le_of_ble_eq_true rfl, Nat.le_of_ble_eq_true rfl⟩ rfl hl.1 (Nat.le_of_ble_eq_true rfl) ⟨Nat.le_refl _, Nat.le_refl _⟩ dX7_drillAll_75 ?_
              clear hB
              try clear locs
              try clear H
              intro r6 u6 H locs hp hB
              obtain rfl : r6 = b9.2.2.2.2 i := hp
              replace hB : zB D A s ([((bd 31), .inr (7, [.ref (bd 0), .ref (bd 1), .ref (na 6), .ref (na 7), .ref (bd 2), .ref (bd 3), .ref (bd 4), .ref (bd 5), .ref (bd 6)])), ((bd 4), .inr (4, [.ref (bd 18), .ref (bd 19), .int (nI (lzC sz9 9)), .int (opN (le pg) pg ho 12), .int (nI (aN re9)), .int wn93, .ref (bd 20), .ref (bd 21), .ref (bd 22), .int b9.1, .ref (bd 23), .ref (bd 24), .long (Int64.ofInt b9.2.1), .long (Int64.ofInt b9.2.2.1)])), ((bd 18), .inr (2, [.int (bI o93), .ref (na 31), .ref (na 32), .ref (na 33)])), ((bd 19), .inl (ka 0, 3, .inl (lzS sz9 zs 9))), ((bd 20), .inl (ka 3, 5, .inr (.inr (.inr (.inr (nR na 34)))))), ((bd 21), .inl (ka 0, 4, .inl sa93)), ((bd 22), .inl (ka 0, 4, .inl ss93)), ((bd 23), .inl (ka 0, 4, .inl b9.2.2.2.1)), ((bd 24), .inl (ka 0, 4, .inl b9.2.2.2.2)), ((bd 2), .inr (3, [.int (nI L), .ref (bd 7), .ref (bd 8), .ref (bd 9), .ref (bd 10), .ref (bd 11), .int sz9, .int re9])), ((bd 7), .inl (ka 0, 8, .inl mo)), ((bd 8), .inl (ka 0, 8, .inl an)), ((bd 9), .inl (ka 0, 8, .inl pl)), ((bd 10), .inl (ka 0, 24, .inl (dhS pg b9 i ho))), ((bd 11), .inl (ka 0, 2, .inl le)), ((bd 3), .inr (0, [.ref (bd 12), .ref (bd 13), .ref (bd 14), .ref (bd 15), .ref (bd 16), .ref (bd 17), .ref (na 21), .ref (na 22), .ref (na 23), .ref (na 24)])), ((bd 14), .inl (ka 2, 3, .inl (kI (if 0 < i then fgB kp 3 else kp))))] ++ nP na N93) H locs := hB
              refine ztopi (y := nI (cd % 10)) (hcz) ?_
              refine zVv zm_X7_143 hF hB (c_X7_makeHole l D ka kb bd na (nI L) sz9 re9 (dhS pg b9 i ho) (if 0 < i then fgB kp 3 else kp) pg (cd / 10) (nI (cd % 10)) (hpg2) (by omega)) [0, 9, 13, 15, 16] rfl (by decide) [(bd 31), (bd 2), (bd 10), (bd 3), (bd 14)] (fun _ => rfl) rfl 0 7 rfl rfl rfl ⟨Nat.le_of_ble_eq_true rfl, Nat.le_of_ble_eq_true rfl⟩ rfl hl.1 (Nat.le_of_ble_eq_true rfl) ⟨Nat.le_refl _, Nat.le_refl _⟩ dX7_drillAll_78 ?_
              clear hB
              try clear locs
              try clear H
              intro u7 H locs hp hB
              replace hB : zB D A s ([((bd 31), .inr (7, [.ref (bd 0), .ref (bd 1), .ref (na 6), .ref (na 7), .ref (bd 2), .ref (bd 3), .ref (bd 4), .ref (bd 5), .ref (bd 6)])), ((bd 4), .inr (4, [.ref (bd 18), .ref (bd 19), .int (nI (lzC sz9 9)), .int (opN (le pg) pg ho 12), .int (nI (aN re9)), .int wn93, .ref (bd 20), .ref (bd 21), .ref (bd 22), .int b9.1, .ref (bd 23), .ref (bd 24), .long (Int64.ofInt b9.2.1), .long (Int64.ofInt b9.2.2.1)])), ((bd 18), .inr (2, [.int (bI o93), .ref (na 31), .ref (na 32), .ref (na 33)])), ((bd 19), .inl (ka 0, 3, .inl (lzS sz9 zs 9))), ((bd 20), .inl (ka 3, 5, .inr (.inr (.inr (.inr (nR na 34)))))), ((bd 21), .inl (ka 0, 4, .inl sa93)), ((bd 22), .inl (ka 0, 4, .inl ss93)), ((bd 23), .inl (ka 0, 4, .inl b9.2.2.2.1)), ((bd 24), .inl (ka 0, 4, .inl b9.2.2.2.2)), ((bd 2), .inr (3, [.int (nI L), .ref (bd 7), .ref (bd 8), .ref (bd 9), .ref (bd 10), .ref (bd 11), .int sz9, .int re9])), ((bd 7), .inl (ka 0, 8, .inl mo)), ((bd 8), .inl (ka 0, 8, .inl an)), ((bd 9), .inl (ka 0, 8, .inl pl)), ((bd 10), .inl (ka 0, 24, .inl (upd (dhS pg b9 i ho) (12 * pg + (cd / 10)) (nI (cd % 10))))), ((bd 11), .inl (ka 0, 2, .inl le)), ((bd 3), .inr (0, [.ref (bd 12), .ref (bd 13), .ref (bd 14), .ref (bd 15), .ref (bd 16), .ref (bd 17), .ref (na 21), .ref (na 22), .ref (na 23), .ref (na 24)])), ((bd 14), .inl (ka 2, 3, .inl (kI (fgB (if 0 < i then fgB kp 3 else kp) 3))))] ++ nP na N93) H locs := hB
              refine lv_iinc (v := nI (i + 1)) (lv' := [(4, .int (nI (i + 1))), (3, .int b9.1), (0, .ref (bd 31)), (1, .int (nI pg)), (2, .int (nI wg))]) hx hb dX7_drillAll_81 hl (k := 0) rfl (nI_1 _) (by decide) rfl ?_
              clear hl
              clear ls
              intro ls hl
              refine lv_goto (tgt := 52) hx hb dX7_drillAll_84 (by decide) ?_
              exact ih52 (i + 1) (by omega) (by omega) _ _ (by rw [if_pos (Nat.succ_pos i), dhS, hca, hcz, aNn (n := 12) (by omega) (by decide)]; rw [fg_if] at hB; exact hB) _ (lv_sub hl [0, 1, 2, 3, 4] rfl)
        exact lp52 (4 - 0 + 1) 0 (Nat.zero_le _) (by omega) _ _ (by rw [if_neg (Nat.lt_irrefl 0)]; exact hB) _ (lv_sub hl [0, 1, 2, 3, 4] rfl)
      · skip
        have hn1 : b9.1 = -1 := h43
        refine lv_bipush (v := -3) hx hb dX7_drillAll_46 (by decide) ?_
        exact zreti hF hB (N93, sa93, ss93, (o93), wn93, (nI (lzC sz9 9)), (opN (le pg) pg ho 12), (nI (aN re9)), (lzS sz9 zs 9), b9) (⟨by rw [if_pos hK, rpg, rwg, ← hRS, if_pos hn1], hSK.1, hSK.2⟩) (by rw [if_pos hK, rpg, rwg, ← hRS, hn1, if_neg (fun e8 => absurd e8.2 (by decide))] <;> rfl) (rfl) dX7_drillAll_48 hQ
    · skip
      replace h13 := (b9_t h13)
      refine lv_bipush (v := -2) hx hb dX7_drillAll_16 (by decide) ?_
      have hK : dkK (nI pg) wq = false := dB_f.mpr (fun e8 => absurd (h13.symm.trans e8.2) (by decide))
      have hK2 : ¬ dkK (nI pg) wq = true := by rw [hK]; decide
      exact zreti hF hB (N, sa, ss, (o), wnt, cnt, opb, rch, zs, bb) (⟨by rw [if_neg hK2], fun _ _ => rfl, hB9⟩) (by rw [if_neg hK2, if_neg (fun e8 => hK2 e8.1)]) (rfl) dX7_drillAll_18 hQ

set_option maxHeartbeats 4000000 in
set_option maxRecDepth 100000 in
theorem c_X7_split (l : Launch) (D : va_G) (ka : Nat → ClassId) (kb : Nat → Nat) (bd : Nat → Nat) (na : Nat → Nat) (dn : Int32) (up9 : Int32) (lu : Int32) (sz9 : Int32) (re9 : Int32) (le : Nat → Int32) (N : Nat → N5) (pq : Int32) (aq : Int32) (mq : Int32) (cq : Int32)  : zI l D ka kb yX7_split cX7_split 5 .int 5 162 [.ref (bd 31), .int pq, .int aq, .int mq, .int cq] ([((bd 31), .inr (7, [.ref (bd 0), .ref (bd 1), .ref (na 6), .ref (na 7), .ref (bd 2), .ref (bd 3), .ref (bd 4), .ref (bd 5), .ref (bd 6)])), ((bd 5), .inr (6, [.int dn, .int up9, .ref (na 39), .ref (na 40)])), ((bd 2), .inr (3, [.int lu, .ref (bd 7), .ref (bd 8), .ref (bd 9), .ref (bd 10), .ref (bd 11), .int sz9, .int re9])), ((bd 11), .inl (ka 0, 2, .inl le))] ++ nP na N) (fun (r : Int32) (u : (Nat → N5) × Int32 × Int32) => r = (if spK pq aq mq cq = true then spR (le (aN pq)) (aN aq) mq (aN cq) else -2) ∧ (∀ k9, k9 < 39 → u.1 k9 = N k9)) (fun (u : (Nat → N5) × Int32 × Int32) => [((bd 31), .inr (7, [.ref (bd 0), .ref (bd 1), .ref (na 6), .ref (na 7), .ref (bd 2), .ref (bd 3), .ref (bd 4), .ref (bd 5), .ref (bd 6)])), ((bd 5), .inr (6, [.int u.2.1, .int u.2.2, .ref (na 39), .ref (na 40)])), ((bd 2), .inr (3, [.int lu, .ref (bd 7), .ref (bd 8), .ref (bd 9), .ref (bd 10), .ref (bd 11), .int sz9, .int re9])), ((bd 11), .inl (ka 0, 2, .inl le))] ++ nP na u.1) := by
  refine zI.mk RX7 (by decide +kernel) rfl (Nat.le_of_ble_eq_true rfl) ?_
  intro p e s m below meth c A ls args Q hQ hx hb hF hB hl
  replace hl : lv_has ls 5 [(0, .ref (bd 31)), (1, .int pq), (2, .int aq), (3, .int mq), (4, .int cq)] := hl
  refine lv_iload_n hx hb dX7_split_0 rfl (lv_at hl 1 rfl) ?_
  refine lv_iconst (v := 2) hx hb dX7_split_1 (by decide) ?_
  refine zSi zm_X7_65 hF hB (c_X7_isOutside l D ka kb pq 2 (by decide)) [] rfl (by decide) [] (fun _ => rfl) rfl rfl ⟨Nat.le_of_ble_eq_true rfl, Nat.le_of_ble_eq_true rfl⟩ rfl hl.1 (Nat.le_of_ble_eq_true rfl) ⟨Nat.le_refl _, Nat.le_refl _⟩ dX7_split_2 ?_
  clear hB
  try clear locs
  try clear H
  intro r1 u1 H locs hp hB
  obtain rfl : r1 = bI (!(inI pq 2)) := hp
  replace hB : zB D A s ([((bd 31), .inr (7, [.ref (bd 0), .ref (bd 1), .ref (na 6), .ref (na 7), .ref (bd 2), .ref (bd 3), .ref (bd 4), .ref (bd 5), .ref (bd 6)])), ((bd 5), .inr (6, [.int dn, .int up9, .ref (na 39), .ref (na 40)])), ((bd 2), .inr (3, [.int lu, .ref (bd 7), .ref (bd 8), .ref (bd 9), .ref (bd 10), .ref (bd 11), .int sz9, .int re9])), ((bd 11), .inl (ka 0, 2, .inl le))] ++ nP na N) H locs := hB
  refine lv_if_ne (tgt := 34) hx hb dX7_split_5 (by decide) (fun h5 => ?_) (fun h5 => ?_)
  · skip
    replace h5 := (b9_t h5)
    refine lv_bipush (v := -2) hx hb dX7_split_34 (by decide) ?_
    have hK : spK pq aq mq cq = false := dB_f.mpr (fun e8 => absurd (h5.symm.trans e8.1) (by decide))
    exact zreti hF hB (N, dn, up9) (⟨by rw [if_neg (by rw [hK]; decide)], fun _ _ => rfl⟩) (rfl) (rfl) dX7_split_36 hQ
  · skip
    replace h5 := (b9_f h5)
    obtain ⟨pg, hpg2, hpg3⟩ := inI_of h5 (by decide)
    subst hpg3
    have rpg : aN (nI pg) = pg := aNn hpg2 (by decide)
    have hpg1 : inI (nI pg) 2 = true := h5
    refine lv_iload_n hx hb dX7_split_8 rfl (lv_at hl 2 rfl) ?_
    refine lv_bipush (v := 12) hx hb dX7_split_9 (by decide) ?_
    refine zSi zm_X7_65 hF hB (c_X7_isOutside l D ka kb aq 12 (by decide)) [] rfl (by decide) [] (fun _ => rfl) rfl rfl ⟨Nat.le_of_ble_eq_true rfl, Nat.le_of_ble_eq_true rfl⟩ rfl hl.1 (Nat.le_of_ble_eq_true rfl) ⟨Nat.le_refl _, Nat.le_refl _⟩ dX7_split_11 ?_
    clear hB
    try clear locs
    try clear H
    intro r2 u2 H locs hp hB
    obtain rfl : r2 = bI (!(inI aq 12)) := hp
    replace hB : zB D A s ([((bd 31), .inr (7, [.ref (bd 0), .ref (bd 1), .ref (na 6), .ref (na 7), .ref (bd 2), .ref (bd 3), .ref (bd 4), .ref (bd 5), .ref (bd 6)])), ((bd 5), .inr (6, [.int dn, .int up9, .ref (na 39), .ref (na 40)])), ((bd 2), .inr (3, [.int lu, .ref (bd 7), .ref (bd 8), .ref (bd 9), .ref (bd 10), .ref (bd 11), .int sz9, .int re9])), ((bd 11), .inl (ka 0, 2, .inl le))] ++ nP na N) H locs := hB
    refine lv_if_ne (tgt := 34) hx hb dX7_split_14 (by decide) (fun h14 => ?_) (fun h14 => ?_)
    · skip
      replace h14 := (b9_t h14)
      refine lv_bipush (v := -2) hx hb dX7_split_34 (by decide) ?_
      have hK : spK (nI pg) aq mq cq = false := dB_f.mpr (fun e8 => absurd (h14.symm.trans e8.2.1) (by decide))
      exact zreti hF hB (N, dn, up9) (⟨by rw [if_neg (by rw [hK]; decide)], fun _ _ => rfl⟩) (rfl) (rfl) dX7_split_36 hQ
    · skip
      replace h14 := (b9_f h14)
      obtain ⟨ag, hag2, hag3⟩ := inI_of h14 (by decide)
      subst hag3
      have rag : aN (nI ag) = ag := aNn hag2 (by decide)
      have hag1 : inI (nI ag) 12 = true := h14
      refine lv_iload_n hx hb dX7_split_17 rfl (lv_at hl 3 rfl) ?_
      refine zSi zm_X7_123 hF hB (c_X7_isNoMoment l D ka kb mq ) [] rfl (by decide) [] (fun _ => rfl) rfl rfl ⟨Nat.le_of_ble_eq_true rfl, Nat.le_of_ble_eq_true rfl⟩ rfl hl.1 (Nat.le_of_ble_eq_true rfl) ⟨Nat.le_refl _, Nat.le_refl _⟩ dX7_split_18 ?_
      clear hB
      try clear locs
      try clear H
      intro r3 u3 H locs hp hB
      obtain rfl : r3 = bI (!(inM mq)) := hp
      replace hB : zB D A s ([((bd 31), .inr (7, [.ref (bd 0), .ref (bd 1), .ref (na 6), .ref (na 7), .ref (bd 2), .ref (bd 3), .ref (bd 4), .ref (bd 5), .ref (bd 6)])), ((bd 5), .inr (6, [.int dn, .int up9, .ref (na 39), .ref (na 40)])), ((bd 2), .inr (3, [.int lu, .ref (bd 7), .ref (bd 8), .ref (bd 9), .ref (bd 10), .ref (bd 11), .int sz9, .int re9])), ((bd 11), .inl (ka 0, 2, .inl le))] ++ nP na N) H locs := hB
      refine lv_if_ne (tgt := 34) hx hb dX7_split_21 (by decide) (fun h21 => ?_) (fun h21 => ?_)
      · skip
        replace h21 := (b9_t h21)
        refine lv_bipush (v := -2) hx hb dX7_split_34 (by decide) ?_
        have hK : spK (nI pg) (nI ag) mq cq = false := dB_f.mpr (fun e8 => absurd (h21.symm.trans e8.2.2.1) (by decide))
        exact zreti hF hB (N, dn, up9) (⟨by rw [if_neg (by rw [hK]; decide)], fun _ _ => rfl⟩) (rfl) (rfl) dX7_split_36 hQ
      · skip
        replace h21 := (b9_f h21)
        refine lv_iload hx hb dX7_split_24 (lv_at hl 4 rfl) ?_
        refine lv_bipush (v := 8) hx hb dX7_split_26 (by decide) ?_
        refine zSi zm_X7_65 hF hB (c_X7_isOutside l D ka kb cq 8 (by decide)) [] rfl (by decide) [] (fun _ => rfl) rfl rfl ⟨Nat.le_of_ble_eq_true rfl, Nat.le_of_ble_eq_true rfl⟩ rfl hl.1 (Nat.le_of_ble_eq_true rfl) ⟨Nat.le_refl _, Nat.le_refl _⟩ dX7_split_28 ?_
        clear hB
        try clear locs
        try clear H
        intro r4 u4 H locs hp hB
        obtain rfl : r4 = bI (!(inI cq 8)) := hp
        replace hB : zB D A s ([((bd 31), .inr (7, [.ref (bd 0), .ref (bd 1), .ref (na 6), .ref (na 7), .ref (bd 2), .ref (bd 3), .ref (bd 4), .ref (bd 5), .ref (bd 6)])), ((bd 5), .inr (6, [.int dn, .int up9, .ref (na 39), .ref (na 40)])), ((bd 2), .inr (3, [.int lu, .ref (bd 7), .ref (bd 8), .ref (bd 9), .ref (bd 10), .ref (bd 11), .int sz9, .int re9])), ((bd 11), .inl (ka 0, 2, .inl le))] ++ nP na N) H locs := hB
        refine lv_if_eq (tgt := 37) hx hb dX7_split_31 (by decide) (fun h31 => ?_) (fun h31 => ?_)
        · skip
          replace h31 := (b9_f h31)
          obtain ⟨cg, hcg2, hcg3⟩ := inI_of h31 (by decide)
          subst hcg3
          have rcg : aN (nI cg) = cg := aNn hcg2 (by decide)
          have hcg1 : inI (nI cg) 8 = true := h31
          refine lv_aload_n hx hb dX7_split_37 rfl (lv_at hl 0 rfl) ?_
          refine zget zf_X7_54 hF hB 0 rfl rfl dX7_split_38 ?_
          refine lv_aload_n hx hb dX7_split_41 rfl (lv_at hl 0 rfl) ?_
          refine zget zf_X7_33 hF hB 0 rfl rfl dX7_split_42 ?_
          refine lv_iload_n hx hb dX7_split_45 rfl (lv_at hl 1 rfl) ?_
          refine zVi zm_X7_153 hF hB (c_X3_lawfulBits l D ka kb bd lu sz9 re9 le pg (hpg2)) [2, 3] rfl (by decide) [(bd 2), (bd 11)] (fun _ => rfl) rfl 2 3 rfl rfl rfl ⟨Nat.le_of_ble_eq_true rfl, Nat.le_of_ble_eq_true rfl⟩ rfl hl.1 (Nat.le_of_ble_eq_true rfl) ⟨Nat.le_refl _, Nat.le_refl _⟩ dX7_split_46 ?_
          clear hB
          try clear locs
          try clear H
          intro r5 u5 H locs hp hB
          obtain rfl : r5 = le pg := hp
          replace hB : zB D A s ([((bd 31), .inr (7, [.ref (bd 0), .ref (bd 1), .ref (na 6), .ref (na 7), .ref (bd 2), .ref (bd 3), .ref (bd 4), .ref (bd 5), .ref (bd 6)])), ((bd 5), .inr (6, [.int dn, .int up9, .ref (na 39), .ref (na 40)])), ((bd 2), .inr (3, [.int lu, .ref (bd 7), .ref (bd 8), .ref (bd 9), .ref (bd 10), .ref (bd 11), .int sz9, .int re9])), ((bd 11), .inl (ka 0, 2, .inl le))] ++ nP na N) H locs := hB
          refine lv_iload_n hx hb dX7_split_49 rfl (lv_at hl 2 rfl) ?_
          refine lv_iload_n hx hb dX7_split_50 rfl (lv_at hl 3 rfl) ?_
          refine zVi zm_X7_232 hF hB (c_X6_share l D ka kb bd dn up9 na N (le pg) ag mq (hag2) (by have := dB_t.mp h21; omega)) ([1] ++ npr 4) (zsel_pool rfl rfl) (va_nd_pool rfl rfl) ([(bd 5)] ++ nA na) (fun _ => zad_pool rfl) (zad_pool rfl) 1 6 rfl rfl rfl ⟨Nat.le_of_ble_eq_true rfl, Nat.le_of_ble_eq_true rfl⟩ rfl hl.1 (Nat.le_of_ble_eq_true rfl) ⟨Nat.le_refl _, Nat.le_refl _⟩ dX7_split_51 ?_
          clear hB
          try clear locs
          try clear H
          intro r6 u6 H locs hp hB
          obtain rfl : r6 = bI (shO (le pg) ag) := hp
          replace hB : zB D A s ([((bd 31), .inr (7, [.ref (bd 0), .ref (bd 1), .ref (na 6), .ref (na 7), .ref (bd 2), .ref (bd 3), .ref (bd 4), .ref (bd 5), .ref (bd 6)])), ((bd 5), .inr (6, [.int (shD (le pg) ag dn), .int (shU (le pg) ag up9), .ref (na 39), .ref (na 40)])), ((bd 2), .inr (3, [.int lu, .ref (bd 7), .ref (bd 8), .ref (bd 9), .ref (bd 10), .ref (bd 11), .int sz9, .int re9])), ((bd 11), .inl (ka 0, 2, .inl le))] ++ nP na (shP (le pg) ag mq N)) H locs := zB_pool hB rfl rfl rfl rfl
          refine lv_if_ne (tgt := 60) hx hb dX7_split_54 (by decide) (fun h54 => ?_) (fun h54 => ?_)
          · skip
            have hso : shO (le pg) ag = true := bI_ne0 h54
            refine lv_aload_n hx hb dX7_split_60 rfl (lv_at hl 0 rfl) ?_
            refine zget zf_X7_54 hF hB 0 rfl rfl dX7_split_61 ?_
            refine lv_iload hx hb dX7_split_64 (lv_at hl 4 rfl) ?_
            refine zVi zm_X7_235 hF hB (c_X6_told l D ka kb bd (shD (le pg) ag dn) (shU (le pg) ag up9) na (shP (le pg) ag mq N) cg (hcg2)) ([1] ++ npr 4) (zsel_pool rfl rfl) (va_nd_pool rfl rfl) ([(bd 5)] ++ nA na) (fun _ => zad_pool rfl) (zad_pool rfl) 1 6 rfl rfl rfl ⟨Nat.le_of_ble_eq_true rfl, Nat.le_of_ble_eq_true rfl⟩ rfl hl.1 (Nat.le_of_ble_eq_true rfl) ⟨Nat.le_refl _, Nat.le_refl _⟩ dX7_split_66 ?_
            clear hB
            try clear locs
            try clear H
            intro r7 u7 H locs hp hB
            obtain rfl : r7 = toW (shD (le pg) ag dn) (shU (le pg) ag up9) ((shP (le pg) ag mq N) 39) ((shP (le pg) ag mq N) 40) cg := hp
            replace hB : zB D A s ([((bd 31), .inr (7, [.ref (bd 0), .ref (bd 1), .ref (na 6), .ref (na 7), .ref (bd 2), .ref (bd 3), .ref (bd 4), .ref (bd 5), .ref (bd 6)])), ((bd 5), .inr (6, [.int (shD (le pg) ag dn), .int (shU (le pg) ag up9), .ref (na 39), .ref (na 40)])), ((bd 2), .inr (3, [.int lu, .ref (bd 7), .ref (bd 8), .ref (bd 9), .ref (bd 10), .ref (bd 11), .int sz9, .int re9])), ((bd 11), .inl (ka 0, 2, .inl le))] ++ nP na (shP (le pg) ag mq N)) H locs := zB_pool hB rfl rfl rfl rfl
            have hK : spK (nI pg) (nI ag) mq (nI cg) = true := dB_t.mpr ⟨hpg1, hag1, h21, hcg1⟩
            exact zreti hF hB (shP (le pg) ag mq N, (shD (le pg) ag dn), (shU (le pg) ag up9)) (⟨by rw [if_pos hK, rpg, rag, rcg]; exact spR_yes hso hcg2, fun k9 h9 => shP_k h9⟩) (rfl) (rfl) dX7_split_69 hQ
          · skip
            have hso : shO (le pg) ag = false := bI_eq0 h54
            refine lv_bipush (v := -3) hx hb dX7_split_57 (by decide) ?_
            have hK : spK (nI pg) (nI ag) mq (nI cg) = true := dB_t.mpr ⟨hpg1, hag1, h21, hcg1⟩
            exact zreti hF hB (shP (le pg) ag mq N, (shD (le pg) ag dn), (shU (le pg) ag up9)) (⟨by rw [if_pos hK, rpg, rag, rcg]; exact (spR_no hso).symm, fun k9 h9 => shP_k h9⟩) (rfl) (rfl) dX7_split_59 hQ
        · skip
          replace h31 := (b9_t h31)
          refine lv_bipush (v := -2) hx hb dX7_split_34 (by decide) ?_
          have hK : spK (nI pg) (nI ag) mq cq = false := dB_f.mpr (fun e8 => absurd (h31.symm.trans e8.2.2.2) (by decide))
          exact zreti hF hB (N, dn, up9) (⟨by rw [if_neg (by rw [hK]; decide)], fun _ _ => rfl⟩) (rfl) (rfl) dX7_split_36 hQ

set_option maxHeartbeats 4000000 in
set_option maxRecDepth 100000 in
theorem c_X7_nearest (l : Launch) (D : va_G) (ka : Nat → ClassId) (kb : Nat → Nat) (bd : Nat → Nat) (na : Nat → Nat) (lu : Int32) (sz9 : Int32) (re9 : Int32) (le : Nat → Int32) (pq : Int32) (v : Int32)  : zI l D ka kb yX7_nearest cX7_nearest 8 .int 1 60 [.ref (bd 31), .int pq, .int v] ([((bd 31), .inr (7, [.ref (bd 0), .ref (bd 1), .ref (na 6), .ref (na 7), .ref (bd 2), .ref (bd 3), .ref (bd 4), .ref (bd 5), .ref (bd 6)])), ((bd 2), .inr (3, [.int lu, .ref (bd 7), .ref (bd 8), .ref (bd 9), .ref (bd 10), .ref (bd 11), .int sz9, .int re9])), ((bd 11), .inl (ka 0, 2, .inl le))]) (fun (r : Int32) (_ : Unit) => r = if inI pq 2 = true then (nrS (le (aN pq)) (nrE v) 12).1 else -2) (fun (_ : Unit) => [((bd 31), .inr (7, [.ref (bd 0), .ref (bd 1), .ref (na 6), .ref (na 7), .ref (bd 2), .ref (bd 3), .ref (bd 4), .ref (bd 5), .ref (bd 6)])), ((bd 2), .inr (3, [.int lu, .ref (bd 7), .ref (bd 8), .ref (bd 9), .ref (bd 10), .ref (bd 11), .int sz9, .int re9])), ((bd 11), .inl (ka 0, 2, .inl le))]) := by
  refine zI.mk RX7 (by decide +kernel) rfl (Nat.le_of_ble_eq_true rfl) ?_
  intro p e s m below meth c A ls args Q hQ hx hb hF hB hl
  replace hl : lv_has ls 8 [(0, .ref (bd 31)), (1, .int pq), (2, .int v)] := hl
  refine lv_iload_n hx hb dX7_nearest_0 rfl (lv_at hl 1 rfl) ?_
  refine lv_iconst (v := 2) hx hb dX7_nearest_1 (by decide) ?_
  refine zSi zm_X7_65 hF hB (c_X7_isOutside l D ka kb pq 2 (by decide)) [] rfl (by decide) [] (fun _ => rfl) rfl rfl ⟨Nat.le_of_ble_eq_true rfl, Nat.le_of_ble_eq_true rfl⟩ rfl hl.1 (Nat.le_of_ble_eq_true rfl) ⟨Nat.le_refl _, Nat.le_refl _⟩ dX7_nearest_2 ?_
  clear hB
  try clear locs
  try clear H
  intro r1 u1 H locs hp hB
  obtain rfl : r1 = bI (!(inI pq 2)) := hp
  replace hB : zB D A s ([((bd 31), .inr (7, [.ref (bd 0), .ref (bd 1), .ref (na 6), .ref (na 7), .ref (bd 2), .ref (bd 3), .ref (bd 4), .ref (bd 5), .ref (bd 6)])), ((bd 2), .inr (3, [.int lu, .ref (bd 7), .ref (bd 8), .ref (bd 9), .ref (bd 10), .ref (bd 11), .int sz9, .int re9])), ((bd 11), .inl (ka 0, 2, .inl le))]) H locs := hB
  refine lv_if_eq (tgt := 11) hx hb dX7_nearest_5 (by decide) (fun h5 => ?_) (fun h5 => ?_)
  · skip
    replace h5 := (b9_f h5)
    obtain ⟨pg, hpg2, hpg3⟩ := inI_of h5 (by decide)
    subst hpg3
    have rpg : aN (nI pg) = pg := aNn hpg2 (by decide)
    have hpg1 : inI (nI pg) 2 = true := h5
    refine lv_iload_n hx hb dX7_nearest_11 rfl (lv_at hl 2 rfl) ?_
    refine lv_i2f hx hb dX7_nearest_12 ?_
    refine lv_f2l hx hb dX7_nearest_13 ?_
    refine zldc2 (v := (2880 : Int64)) ww_39_0 hF dX7_nearest_14 ?_
    refine lv_lrem hx hb dX7_nearest_17 (by decide) ?_
    refine lv_l2i (v := ((FP.f2l (FP.i2f v)) - (FP.f2l (FP.i2f v)) / (2880 : Int64) * (2880 : Int64)).toInt32) hx hb dX7_nearest_18 rfl ?_
    refine lv_topi (fun e1 he1 => ?_)
    have he2 : e1.toInt = (fvI v).tmod 2880 := by rw [he1]; exact nr_32 v
    have htm := nr_tm v
    refine lv_istore_n (lv' := [(3, .int e1), (0, .ref (bd 31)), (1, .int (nI pg)), (2, .int v)]) hx hb dX7_nearest_19 rfl hl (by decide) rfl ?_
    clear hl
    clear ls
    intro ls hl
    refine lv_iload_n hx hb dX7_nearest_20 rfl (lv_at hl 0 rfl) ?_
    refine lv_if_ge (tgt := 30) hx hb dX7_nearest_21 (by decide) (fun h21 => ?_) (fun h21 => ?_)
    · skip
      have he3 : e1.toInt = nrE v := by have e7 := (i32_le_i _ _).mp h21; rw [show (0 : Int32).toInt = 0 from rfl] at e7; rw [nrE, if_neg (by omega)]; exact he2
      refine lv_iconst (v := -1) hx hb dX7_nearest_30 (by decide) ?_
      refine lv_istore (lv' := [(4, .int (-1 : Int32)), (3, .int e1), (0, .ref (bd 31)), (1, .int (nI pg)), (2, .int v)]) hx hb dX7_nearest_31 hl (by decide) rfl ?_
      clear hl
      clear ls
      intro ls hl
      refine lv_iconst (v := 0) hx hb dX7_nearest_33 (by decide) ?_
      refine lv_istore (lv' := [(5, .int (0 : Int32)), (4, .int (-1 : Int32)), (3, .int e1), (0, .ref (bd 31)), (1, .int (nI pg)), (2, .int v)]) hx hb dX7_nearest_34 hl (by decide) rfl ?_
      clear hl
      clear ls
      intro ls hl
      refine lv_iconst (v := 0) hx hb dX7_nearest_36 (by decide) ?_
      refine lv_istore (lv' := [(6, .int (0 : Int32)), (5, .int (0 : Int32)), (4, .int (-1 : Int32)), (3, .int e1), (0, .ref (bd 31)), (1, .int (nI pg)), (2, .int v)]) hx hb dX7_nearest_37 hl (by decide) rfl ?_
      clear hl
      clear ls
      intro ls hl
      have lp39 : ∀ (fl : Nat) (kc : Nat) (e9 : Int32) (b4 : Int32) (b5 : Int32), (hk : kc ≤ 12) → (he9 : e9.toInt = nrE v) → (hb4 : b4 = (nrS (le pg) (nrE v) kc).1) → (hb5 : b5.toInt = (nrS (le pg) (nrE v) kc).2) → 12 - kc < fl → ∀ (H : Heap) (locs : List Loc), zB D A s ([((bd 31), .inr (7, [.ref (bd 0), .ref (bd 1), .ref (na 6), .ref (na 7), .ref (bd 2), .ref (bd 3), .ref (bd 4), .ref (bd 5), .ref (bd 6)])), ((bd 2), .inr (3, [.int lu, .ref (bd 7), .ref (bd 8), .ref (bd 9), .ref (bd 10), .ref (bd 11), .int sz9, .int re9])), ((bd 11), .inl (ka 0, 2, .inl le))]) H locs → ∀ ls : Array Slot, lv_has ls 8 [(3, .int e9), (4, .int b4), (5, .int b5), (6, .int (nI kc)), (0, .ref (bd 31)), (1, .int (nI pg))] → W p l e (zRm 1 60 0 0) s m args below meth c H locs 0 0 Q (F0 m 39 ls []) := by
        intro fl
        induction fl with
        | zero => intro kc e9 b4 b5 hk he9 hb4 hb5 hfl; exact absurd hfl (Nat.not_lt_zero _)
        | succ fl ih39 =>
          intro kc e9 b4 b5 hk he9 hb4 hb5 hfl39 H locs hB ls hl
          refine lv_iload hx hb dX7_nearest_39 (lv_at hl 3 rfl) ?_
          refine lv_bipush (v := 12) hx hb dX7_nearest_41 (by decide) ?_
          refine lv_icmp_ge (tgt := 114) hx hb dX7_nearest_43 (by decide) (fun h43 => ?_) (fun h43 => ?_)
          · skip
            have hk2 : kc = 12 := by have := (nI_leI (a := 12) (b := kc) (by decide) (by omega)).mp h43; omega
            refine lv_iload hx hb dX7_nearest_114 (lv_at hl 1 rfl) ?_
            exact zreti hF hB () (by rw [if_pos hpg1, rpg, hb4, hk2]) (rfl) (rfl) dX7_nearest_116 hQ
          · skip
            have hk2 : kc < 12 := Nat.not_le.mp (fun e9 => h43 ((nI_leI (a := 12) (b := kc) (by decide) (by omega)).mpr e9))
            refine lv_iload_n hx hb dX7_nearest_46 rfl (lv_at hl 0 rfl) ?_
            refine lv_iload hx hb dX7_nearest_47 (lv_at hl 3 rfl) ?_
            refine lv_bipush (v := 30) hx hb dX7_nearest_49 (by decide) ?_
            refine lv_imul hx hb dX7_nearest_51 ?_
            refine ztopi (y := nI (kc * 30)) (pk_mul kc 30) ?_
            refine lv_bipush (v := 8) hx hb dX7_nearest_52 (by decide) ?_
            refine lv_imul hx hb dX7_nearest_54 ?_
            refine ztopi (y := nI ((kc * 30) * 8)) (pk_mul (kc * 30) 8) ?_
            refine lv_isub hx hb dX7_nearest_55 ?_
            refine zabsi ww_39_1 hF hl.1 (Nat.le_of_ble_eq_true rfl) (Nat.le_of_ble_eq_true rfl) ⟨Nat.le_refl _, Nat.le_refl _⟩ dX7_nearest_56 ?_
            refine lv_topi (fun d1 hd1 => ?_)
            have hnb := nrE_b v
            have hd1x : d1.toInt = dA (nrE v) kc := by rw [hd1]; exact dA_32 he9 hk2 hnb
            refine lv_istore (lv' := [(7, .int d1), (3, .int e9), (4, .int b4), (5, .int b5), (6, .int (nI kc)), (0, .ref (bd 31)), (1, .int (nI pg))]) hx hb dX7_nearest_59 hl (by decide) rfl ?_
            clear hl
            clear ls
            intro ls hl
            refine lv_iload hx hb dX7_nearest_61 (lv_at hl 0 rfl) ?_
            refine lv_sipush (v := 2880) hx hb dX7_nearest_63 (by decide) ?_
            refine lv_iload hx hb dX7_nearest_66 (lv_at hl 0 rfl) ?_
            refine lv_isub hx hb dX7_nearest_68 ?_
            refine zmini ww_39_4 hF hl.1 (Nat.le_of_ble_eq_true rfl) (Nat.le_of_ble_eq_true rfl) ⟨Nat.le_refl _, Nat.le_refl _⟩ dX7_nearest_69 ?_
            refine lv_topi (fun d2 hd2 => ?_)
            have hd2x : d2.toInt = dK (nrE v) kc := by rw [hd2]; exact dK_32 hd1x hk2 hnb
            refine lv_istore (lv' := [(7, .int d2), (3, .int e9), (4, .int b4), (5, .int b5), (6, .int (nI kc)), (0, .ref (bd 31)), (1, .int (nI pg))]) hx hb dX7_nearest_72 hl (by decide) rfl ?_
            clear hl
            clear ls
            intro ls hl
            refine lv_aload_n hx hb dX7_nearest_74 rfl (lv_at hl 5 rfl) ?_
            refine zget zf_X7_33 hF hB 0 rfl rfl dX7_nearest_75 ?_
            refine lv_iload_n hx hb dX7_nearest_78 rfl (lv_at hl 6 rfl) ?_
            refine lv_iload hx hb dX7_nearest_79 (lv_at hl 4 rfl) ?_
            refine zVi zm_X7_246 hF hB (c_X3_isLawful l D ka kb bd lu sz9 re9 le pg kc (hpg2) (hk2)) [1, 2] rfl (by decide) [(bd 2), (bd 11)] (fun _ => rfl) rfl 1 3 rfl rfl rfl ⟨Nat.le_of_ble_eq_true rfl, Nat.le_of_ble_eq_true rfl⟩ rfl hl.1 (Nat.le_of_ble_eq_true rfl) ⟨Nat.le_refl _, Nat.le_refl _⟩ dX7_nearest_81 ?_
            clear hB
            try clear locs
            try clear H
            intro r2 u2 H locs hp hB
            obtain rfl : r2 = bI (dB (lgX (le pg) kc = 1)) := hp
            replace hB : zB D A s ([((bd 31), .inr (7, [.ref (bd 0), .ref (bd 1), .ref (na 6), .ref (na 7), .ref (bd 2), .ref (bd 3), .ref (bd 4), .ref (bd 5), .ref (bd 6)])), ((bd 2), .inr (3, [.int lu, .ref (bd 7), .ref (bd 8), .ref (bd 9), .ref (bd 10), .ref (bd 11), .int sz9, .int re9])), ((bd 11), .inl (ka 0, 2, .inl le))]) H locs := hB
            refine lv_if_eq (tgt := 108) hx hb dX7_nearest_84 (by decide) (fun h84 => ?_) (fun h84 => ?_)
            · skip
              have hlg : ¬ lgX (le pg) kc = 1 := dB_f.mp (bI_eq0 h84)
              refine lv_iinc (v := nI (kc + 1)) (lv' := [(6, .int (nI (kc + 1))), (7, .int d2), (3, .int e9), (4, .int b4), (5, .int b5), (0, .ref (bd 31)), (1, .int (nI pg))]) hx hb dX7_nearest_108 hl (k := 4) rfl (nI_1 _) (by decide) rfl ?_
              clear hl
              clear ls
              intro ls hl
              refine lv_goto (tgt := 39) hx hb dX7_nearest_111 (by decide) ?_
              exact ih39 (kc + 1) e9 b4 b5 (by omega) (he9) (by rw [nrS_s, if_neg (fun e8 => hlg e8.1)]; exact hb4) (by rw [nrS_s, if_neg (fun e8 => hlg e8.1)]; exact hb5) (by omega) _ _ (hB) _ (lv_sub hl [2, 3, 4, 0, 5, 6] rfl)
            · skip
              have hlg : lgX (le pg) kc = 1 := dB_t.mp (bI_ne0 h84)
              refine lv_iload hx hb dX7_nearest_87 (lv_at hl 2 rfl) ?_
              refine lv_iconst (v := -1) hx hb dX7_nearest_89 (by decide) ?_
              refine lv_icmp_eq (tgt := 100) hx hb dX7_nearest_90 (by decide) (fun h90 => ?_) (fun h90 => ?_)
              · skip
                refine lv_iload hx hb dX7_nearest_100 (lv_at hl 4 rfl) ?_
                refine lv_istore (lv' := [(4, .int (nI kc)), (7, .int d2), (3, .int e9), (5, .int b5), (6, .int (nI kc)), (0, .ref (bd 31)), (1, .int (nI pg))]) hx hb dX7_nearest_102 hl (by decide) rfl ?_
                clear hl
                clear ls
                intro ls hl
                refine lv_iload hx hb dX7_nearest_104 (lv_at hl 1 rfl) ?_
                refine lv_istore (lv' := [(5, .int d2), (4, .int (nI kc)), (7, .int d2), (3, .int e9), (6, .int (nI kc)), (0, .ref (bd 31)), (1, .int (nI pg))]) hx hb dX7_nearest_106 hl (by decide) rfl ?_
                clear hl
                clear ls
                intro ls hl
                refine lv_iinc (v := nI (kc + 1)) (lv' := [(6, .int (nI (kc + 1))), (5, .int d2), (4, .int (nI kc)), (7, .int d2), (3, .int e9), (0, .ref (bd 31)), (1, .int (nI pg))]) hx hb dX7_nearest_108 hl (k := 4) rfl (nI_1 _) (by decide) rfl ?_
                clear hl
                clear ls
                intro ls hl
                refine lv_goto (tgt := 39) hx hb dX7_nearest_111 (by decide) ?_
                exact ih39 (kc + 1) e9 (nI kc) d2 (by omega) (he9) (by rw [nrS_s, if_pos ⟨hlg, Or.inl (hb4.symm.trans h90)⟩]) (by rw [nrS_s, if_pos ⟨hlg, Or.inl (hb4.symm.trans h90)⟩]; exact hd2x) (by omega) _ _ (hB) _ (lv_sub hl [4, 2, 1, 0, 5, 6] rfl)
              · skip
                refine lv_iload hx hb dX7_nearest_93 (lv_at hl 0 rfl) ?_
                refine lv_iload hx hb dX7_nearest_95 (lv_at hl 3 rfl) ?_
                refine lv_icmp_ge (tgt := 108) hx hb dX7_nearest_97 (by decide) (fun h97 => ?_) (fun h97 => ?_)
                · skip
                  have hfar : ¬ dK (nrE v) kc < (nrS (le pg) (nrE v) kc).2 := fun e8 => by have e7 := (i32_le_i _ _).mp h97; omega
                  refine lv_iinc (v := nI (kc + 1)) (lv' := [(6, .int (nI (kc + 1))), (7, .int d2), (3, .int e9), (4, .int b4), (5, .int b5), (0, .ref (bd 31)), (1, .int (nI pg))]) hx hb dX7_nearest_108 hl (k := 4) rfl (nI_1 _) (by decide) rfl ?_
                  clear hl
                  clear ls
                  intro ls hl
                  refine lv_goto (tgt := 39) hx hb dX7_nearest_111 (by decide) ?_
                  exact ih39 (kc + 1) e9 b4 b5 (by omega) (he9) (by rw [nrS_s, if_neg (fun e8 => e8.2.elim (fun e7 => h90 (hb4.trans e7)) hfar)]; exact hb4) (by rw [nrS_s, if_neg (fun e8 => e8.2.elim (fun e7 => h90 (hb4.trans e7)) hfar)]; exact hb5) (by omega) _ _ (hB) _ (lv_sub hl [2, 3, 4, 0, 5, 6] rfl)
                · skip
                  have hfar : dK (nrE v) kc < (nrS (le pg) (nrE v) kc).2 := by have e7 := mt (i32_le_i _ _).mpr h97; omega
                  refine lv_iload hx hb dX7_nearest_100 (lv_at hl 4 rfl) ?_
                  refine lv_istore (lv' := [(4, .int (nI kc)), (7, .int d2), (3, .int e9), (5, .int b5), (6, .int (nI kc)), (0, .ref (bd 31)), (1, .int (nI pg))]) hx hb dX7_nearest_102 hl (by decide) rfl ?_
                  clear hl
                  clear ls
                  intro ls hl
                  refine lv_iload hx hb dX7_nearest_104 (lv_at hl 1 rfl) ?_
                  refine lv_istore (lv' := [(5, .int d2), (4, .int (nI kc)), (7, .int d2), (3, .int e9), (6, .int (nI kc)), (0, .ref (bd 31)), (1, .int (nI pg))]) hx hb dX7_nearest_106 hl (by decide) rfl ?_
                  clear hl
                  clear ls
                  intro ls hl
                  refine lv_iinc (v := nI (kc + 1)) (lv' := [(6, .int (nI (kc + 1))), (5, .int d2), (4, .int (nI kc)), (7, .int d2), (3, .int e9), (0, .ref (bd 31)), (1, .int (nI pg))]) hx hb dX7_nearest_108 hl (k := 4) rfl (nI_1 _) (by decide) rfl ?_
                  clear hl
                  clear ls
                  intro ls hl
                  refine lv_goto (tgt := 39) hx hb dX7_nearest_111 (by decide) ?_
                  exact ih39 (kc + 1) e9 (nI kc) d2 (by omega) (he9) (by rw [nrS_s, if_pos ⟨hlg, Or.inr hfar⟩]) (by rw [nrS_s, if_pos ⟨hlg, Or.inr hfar⟩]; exact hd2x) (by omega) _ _ (hB) _ (lv_sub hl [4, 2, 1, 0, 5, 6] rfl)
      exact lp39 (12 - 0 + 1) 0 e1 (-1 : Int32) (0 : Int32) (Nat.zero_le _) (he3) (rfl) (rfl) (by omega) _ _ (hB) _ (lv_sub hl [3, 2, 1, 0, 4, 5] rfl)
    · skip
      have he3 : (e1 + 2880).toInt = nrE v := by have e7 := mt (i32_le_i _ _).mpr h21; rw [show (0 : Int32).toInt = 0 from rfl] at e7; rw [nrE, if_pos (by omega), i32_add (by rw [show (2880 : Int32).toInt = 2880 from rfl]; omega), he2]; rfl
      refine lv_iincW (v := e1 + 2880) (lv' := [(3, .int (e1 + 2880)), (0, .ref (bd 31)), (1, .int (nI pg)), (2, .int v)]) hx hb dX7_nearest_24 hl (k := 0) rfl (rfl) (by decide) rfl ?_
      clear hl
      clear ls
      intro ls hl
      refine lv_iconst (v := -1) hx hb dX7_nearest_30 (by decide) ?_
      refine lv_istore (lv' := [(4, .int (-1 : Int32)), (3, .int (e1 + 2880)), (0, .ref (bd 31)), (1, .int (nI pg)), (2, .int v)]) hx hb dX7_nearest_31 hl (by decide) rfl ?_
      clear hl
      clear ls
      intro ls hl
      refine lv_iconst (v := 0) hx hb dX7_nearest_33 (by decide) ?_
      refine lv_istore (lv' := [(5, .int (0 : Int32)), (4, .int (-1 : Int32)), (3, .int (e1 + 2880)), (0, .ref (bd 31)), (1, .int (nI pg)), (2, .int v)]) hx hb dX7_nearest_34 hl (by decide) rfl ?_
      clear hl
      clear ls
      intro ls hl
      refine lv_iconst (v := 0) hx hb dX7_nearest_36 (by decide) ?_
      refine lv_istore (lv' := [(6, .int (0 : Int32)), (5, .int (0 : Int32)), (4, .int (-1 : Int32)), (3, .int (e1 + 2880)), (0, .ref (bd 31)), (1, .int (nI pg)), (2, .int v)]) hx hb dX7_nearest_37 hl (by decide) rfl ?_
      clear hl
      clear ls
      intro ls hl
      have lp39 : ∀ (fl : Nat) (kc : Nat) (e9 : Int32) (b4 : Int32) (b5 : Int32), (hk : kc ≤ 12) → (he9 : e9.toInt = nrE v) → (hb4 : b4 = (nrS (le pg) (nrE v) kc).1) → (hb5 : b5.toInt = (nrS (le pg) (nrE v) kc).2) → 12 - kc < fl → ∀ (H : Heap) (locs : List Loc), zB D A s ([((bd 31), .inr (7, [.ref (bd 0), .ref (bd 1), .ref (na 6), .ref (na 7), .ref (bd 2), .ref (bd 3), .ref (bd 4), .ref (bd 5), .ref (bd 6)])), ((bd 2), .inr (3, [.int lu, .ref (bd 7), .ref (bd 8), .ref (bd 9), .ref (bd 10), .ref (bd 11), .int sz9, .int re9])), ((bd 11), .inl (ka 0, 2, .inl le))]) H locs → ∀ ls : Array Slot, lv_has ls 8 [(3, .int e9), (4, .int b4), (5, .int b5), (6, .int (nI kc)), (0, .ref (bd 31)), (1, .int (nI pg))] → W p l e (zRm 1 60 0 0) s m args below meth c H locs 0 0 Q (F0 m 39 ls []) := by
        intro fl
        induction fl with
        | zero => intro kc e9 b4 b5 hk he9 hb4 hb5 hfl; exact absurd hfl (Nat.not_lt_zero _)
        | succ fl ih39 =>
          intro kc e9 b4 b5 hk he9 hb4 hb5 hfl39 H locs hB ls hl
          refine lv_iload hx hb dX7_nearest_39 (lv_at hl 3 rfl) ?_
          refine lv_bipush (v := 12) hx hb dX7_nearest_41 (by decide) ?_
          refine lv_icmp_ge (tgt := 114) hx hb dX7_nearest_43 (by decide) (fun h43 => ?_) (fun h43 => ?_)
          · skip
            have hk2 : kc = 12 := by have := (nI_leI (a := 12) (b := kc) (by decide) (by omega)).mp h43; omega
            refine lv_iload hx hb dX7_nearest_114 (lv_at hl 1 rfl) ?_
            exact zreti hF hB () (by rw [if_pos hpg1, rpg, hb4, hk2]) (rfl) (rfl) dX7_nearest_116 hQ
          · skip
            have hk2 : kc < 12 := Nat.not_le.mp (fun e9 => h43 ((nI_leI (a := 12) (b := kc) (by decide) (by omega)).mpr e9))
            refine lv_iload_n hx hb dX7_nearest_46 rfl (lv_at hl 0 rfl) ?_
            refine lv_iload hx hb dX7_nearest_47 (lv_at hl 3 rfl) ?_
            refine lv_bipush (v := 30) hx hb dX7_nearest_49 (by decide) ?_
            refine lv_imul hx hb dX7_nearest_51 ?_
            refine ztopi (y := nI (kc * 30)) (pk_mul kc 30) ?_
            refine lv_bipush (v := 8) hx hb dX7_nearest_52 (by decide) ?_
            refine lv_imul hx hb dX7_nearest_54 ?_
            refine ztopi (y := nI ((kc * 30) * 8)) (pk_mul (kc * 30) 8) ?_
            refine lv_isub hx hb dX7_nearest_55 ?_
            refine zabsi ww_39_1 hF hl.1 (Nat.le_of_ble_eq_true rfl) (Nat.le_of_ble_eq_true rfl) ⟨Nat.le_refl _, Nat.le_refl _⟩ dX7_nearest_56 ?_
            refine lv_topi (fun d1 hd1 => ?_)
            have hnb := nrE_b v
            have hd1x : d1.toInt = dA (nrE v) kc := by rw [hd1]; exact dA_32 he9 hk2 hnb
            refine lv_istore (lv' := [(7, .int d1), (3, .int e9), (4, .int b4), (5, .int b5), (6, .int (nI kc)), (0, .ref (bd 31)), (1, .int (nI pg))]) hx hb dX7_nearest_59 hl (by decide) rfl ?_
            clear hl
            clear ls
            intro ls hl
            refine lv_iload hx hb dX7_nearest_61 (lv_at hl 0 rfl) ?_
            refine lv_sipush (v := 2880) hx hb dX7_nearest_63 (by decide) ?_
            refine lv_iload hx hb dX7_nearest_66 (lv_at hl 0 rfl) ?_
            refine lv_isub hx hb dX7_nearest_68 ?_
            refine zmini ww_39_4 hF hl.1 (Nat.le_of_ble_eq_true rfl) (Nat.le_of_ble_eq_true rfl) ⟨Nat.le_refl _, Nat.le_refl _⟩ dX7_nearest_69 ?_
            refine lv_topi (fun d2 hd2 => ?_)
            have hd2x : d2.toInt = dK (nrE v) kc := by rw [hd2]; exact dK_32 hd1x hk2 hnb
            refine lv_istore (lv' := [(7, .int d2), (3, .int e9), (4, .int b4), (5, .int b5), (6, .int (nI kc)), (0, .ref (bd 31)), (1, .int (nI pg))]) hx hb dX7_nearest_72 hl (by decide) rfl ?_
            clear hl
            clear ls
            intro ls hl
            refine lv_aload_n hx hb dX7_nearest_74 rfl (lv_at hl 5 rfl) ?_
            refine zget zf_X7_33 hF hB 0 rfl rfl dX7_nearest_75 ?_
            refine lv_iload_n hx hb dX7_nearest_78 rfl (lv_at hl 6 rfl) ?_
            refine lv_iload hx hb dX7_nearest_79 (lv_at hl 4 rfl) ?_
            refine zVi zm_X7_246 hF hB (c_X3_isLawful l D ka kb bd lu sz9 re9 le pg kc (hpg2) (hk2)) [1, 2] rfl (by decide) [(bd 2), (bd 11)] (fun _ => rfl) rfl 1 3 rfl rfl rfl ⟨Nat.le_of_ble_eq_true rfl, Nat.le_of_ble_eq_true rfl⟩ rfl hl.1 (Nat.le_of_ble_eq_true rfl) ⟨Nat.le_refl _, Nat.le_refl _⟩ dX7_nearest_81 ?_
            clear hB
            try clear locs
            try clear H
            intro r3 u3 H locs hp hB
            obtain rfl : r3 = bI (dB (lgX (le pg) kc = 1)) := hp
            replace hB : zB D A s ([((bd 31), .inr (7, [.ref (bd 0), .ref (bd 1), .ref (na 6), .ref (na 7), .ref (bd 2), .ref (bd 3), .ref (bd 4), .ref (bd 5), .ref (bd 6)])), ((bd 2), .inr (3, [.int lu, .ref (bd 7), .ref (bd 8), .ref (bd 9), .ref (bd 10), .ref (bd 11), .int sz9, .int re9])), ((bd 11), .inl (ka 0, 2, .inl le))]) H locs := hB
            refine lv_if_eq (tgt := 108) hx hb dX7_nearest_84 (by decide) (fun h84 => ?_) (fun h84 => ?_)
            · skip
              have hlg : ¬ lgX (le pg) kc = 1 := dB_f.mp (bI_eq0 h84)
              refine lv_iinc (v := nI (kc + 1)) (lv' := [(6, .int (nI (kc + 1))), (7, .int d2), (3, .int e9), (4, .int b4), (5, .int b5), (0, .ref (bd 31)), (1, .int (nI pg))]) hx hb dX7_nearest_108 hl (k := 4) rfl (nI_1 _) (by decide) rfl ?_
              clear hl
              clear ls
              intro ls hl
              refine lv_goto (tgt := 39) hx hb dX7_nearest_111 (by decide) ?_
              exact ih39 (kc + 1) e9 b4 b5 (by omega) (he9) (by rw [nrS_s, if_neg (fun e8 => hlg e8.1)]; exact hb4) (by rw [nrS_s, if_neg (fun e8 => hlg e8.1)]; exact hb5) (by omega) _ _ (hB) _ (lv_sub hl [2, 3, 4, 0, 5, 6] rfl)
            · skip
              have hlg : lgX (le pg) kc = 1 := dB_t.mp (bI_ne0 h84)
              refine lv_iload hx hb dX7_nearest_87 (lv_at hl 2 rfl) ?_
              refine lv_iconst (v := -1) hx hb dX7_nearest_89 (by decide) ?_
              refine lv_icmp_eq (tgt := 100) hx hb dX7_nearest_90 (by decide) (fun h90 => ?_) (fun h90 => ?_)
              · skip
                refine lv_iload hx hb dX7_nearest_100 (lv_at hl 4 rfl) ?_
                refine lv_istore (lv' := [(4, .int (nI kc)), (7, .int d2), (3, .int e9), (5, .int b5), (6, .int (nI kc)), (0, .ref (bd 31)), (1, .int (nI pg))]) hx hb dX7_nearest_102 hl (by decide) rfl ?_
                clear hl
                clear ls
                intro ls hl
                refine lv_iload hx hb dX7_nearest_104 (lv_at hl 1 rfl) ?_
                refine lv_istore (lv' := [(5, .int d2), (4, .int (nI kc)), (7, .int d2), (3, .int e9), (6, .int (nI kc)), (0, .ref (bd 31)), (1, .int (nI pg))]) hx hb dX7_nearest_106 hl (by decide) rfl ?_
                clear hl
                clear ls
                intro ls hl
                refine lv_iinc (v := nI (kc + 1)) (lv' := [(6, .int (nI (kc + 1))), (5, .int d2), (4, .int (nI kc)), (7, .int d2), (3, .int e9), (0, .ref (bd 31)), (1, .int (nI pg))]) hx hb dX7_nearest_108 hl (k := 4) rfl (nI_1 _) (by decide) rfl ?_
                clear hl
                clear ls
                intro ls hl
                refine lv_goto (tgt := 39) hx hb dX7_nearest_111 (by decide) ?_
                exact ih39 (kc + 1) e9 (nI kc) d2 (by omega) (he9) (by rw [nrS_s, if_pos ⟨hlg, Or.inl (hb4.symm.trans h90)⟩]) (by rw [nrS_s, if_pos ⟨hlg, Or.inl (hb4.symm.trans h90)⟩]; exact hd2x) (by omega) _ _ (hB) _ (lv_sub hl [4, 2, 1, 0, 5, 6] rfl)
              · skip
                refine lv_iload hx hb dX7_nearest_93 (lv_at hl 0 rfl) ?_
                refine lv_iload hx hb dX7_nearest_95 (lv_at hl 3 rfl) ?_
                refine lv_icmp_ge (tgt := 108) hx hb dX7_nearest_97 (by decide) (fun h97 => ?_) (fun h97 => ?_)
                · skip
                  have hfar : ¬ dK (nrE v) kc < (nrS (le pg) (nrE v) kc).2 := fun e8 => by have e7 := (i32_le_i _ _).mp h97; omega
                  refine lv_iinc (v := nI (kc + 1)) (lv' := [(6, .int (nI (kc + 1))), (7, .int d2), (3, .int e9), (4, .int b4), (5, .int b5), (0, .ref (bd 31)), (1, .int (nI pg))]) hx hb dX7_nearest_108 hl (k := 4) rfl (nI_1 _) (by decide) rfl ?_
                  clear hl
                  clear ls
                  intro ls hl
                  refine lv_goto (tgt := 39) hx hb dX7_nearest_111 (by decide) ?_
                  exact ih39 (kc + 1) e9 b4 b5 (by omega) (he9) (by rw [nrS_s, if_neg (fun e8 => e8.2.elim (fun e7 => h90 (hb4.trans e7)) hfar)]; exact hb4) (by rw [nrS_s, if_neg (fun e8 => e8.2.elim (fun e7 => h90 (hb4.trans e7)) hfar)]; exact hb5) (by omega) _ _ (hB) _ (lv_sub hl [2, 3, 4, 0, 5, 6] rfl)
                · skip
                  have hfar : dK (nrE v) kc < (nrS (le pg) (nrE v) kc).2 := by have e7 := mt (i32_le_i _ _).mpr h97; omega
                  refine lv_iload hx hb dX7_nearest_100 (lv_at hl 4 rfl) ?_
                  refine lv_istore (lv' := [(4, .int (nI kc)), (7, .int d2), (3, .int e9), (5, .int b5), (6, .int (nI kc)), (0, .ref (bd 31)), (1, .int (nI pg))]) hx hb dX7_nearest_102 hl (by decide) rfl ?_
                  clear hl
                  clear ls
                  intro ls hl
                  refine lv_iload hx hb dX7_nearest_104 (lv_at hl 1 rfl) ?_
                  refine lv_istore (lv' := [(5, .int d2), (4, .int (nI kc)), (7, .int d2), (3, .int e9), (6, .int (nI kc)), (0, .ref (bd 31)), (1, .int (nI pg))]) hx hb dX7_nearest_106 hl (by decide) rfl ?_
                  clear hl
                  clear ls
                  intro ls hl
                  refine lv_iinc (v := nI (kc + 1)) (lv' := [(6, .int (nI (kc + 1))), (5, .int d2), (4, .int (nI kc)), (7, .int d2), (3, .int e9), (0, .ref (bd 31)), (1, .int (nI pg))]) hx hb dX7_nearest_108 hl (k := 4) rfl (nI_1 _) (by decide) rfl ?_
                  clear hl
                  clear ls
                  intro ls hl
                  refine lv_goto (tgt := 39) hx hb dX7_nearest_111 (by decide) ?_
                  exact ih39 (kc + 1) e9 (nI kc) d2 (by omega) (he9) (by rw [nrS_s, if_pos ⟨hlg, Or.inr hfar⟩]) (by rw [nrS_s, if_pos ⟨hlg, Or.inr hfar⟩]; exact hd2x) (by omega) _ _ (hB) _ (lv_sub hl [4, 2, 1, 0, 5, 6] rfl)
      exact lp39 (12 - 0 + 1) 0 (e1 + 2880) (-1 : Int32) (0 : Int32) (Nat.zero_le _) (he3) (rfl) (rfl) (by omega) _ _ (hB) _ (lv_sub hl [3, 2, 1, 0, 4, 5] rfl)
  · skip
    replace h5 := (b9_t h5)
    refine lv_bipush (v := -2) hx hb dX7_nearest_8 (by decide) ?_
    exact zreti hF hB () (by rw [if_neg (by rw [h5]; decide)]) (rfl) (rfl) dX7_nearest_10 hQ
