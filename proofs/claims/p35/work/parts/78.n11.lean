/-- the class's readings where the reference has them -/
def gC (N : Nat → N5) : Nat → N5 := fun j => N (j + 2)
theorem efS_1 {N : Nat → N5} {p b : Nat} : efS (gC N) p b = sumV true (N (8 + (2 * (p + 1) + b))) (N (8 + (2 * 0 + b))) := by
  unfold efS gC
  rw [show 6 + 2 * (p + 1) + b + 2 = 8 + (2 * (p + 1) + b) by omega, show 6 + b + 2 = 8 + (2 * 0 + b) by omega]
theorem efO_1 {N : Nat → N5} {m a : Nat → Int32} {p b : Nat} : efO (gC N) m a p b = (sumO true (N (8 + (2 * (p + 1) + b))) (N (8 + (2 * 0 + b))) || quoO (sumV true (N (8 + (2 * (p + 1) + b))) (N (8 + (2 * 0 + b)))) (wyN (m (p + 1)).toInt (aN (a (p + 1))))) := by
  unfold efO
  rw [efS_1]
  unfold gC
  rw [show 6 + 2 * (p + 1) + b + 2 = 8 + (2 * (p + 1) + b) by omega, show 6 + b + 2 = 8 + (2 * 0 + b) by omega]
set_option maxHeartbeats 4000000 in
set_option maxRecDepth 100000 in
theorem c_X0_effectOf (l : Launch) (D : va_G) (ka : Nat → ClassId) (kb : Nat → Nat) (bd : Nat → Nat) (na : Nat → Nat) (o : Bool) (pm : Nat → Int32) (pa : Nat → Int32) (N : Nat → N5) (p9 : Nat) (b : Nat) (t : Nat) (hp9 : p9 < 2) (hb2 : b < 2) (ht : t = 6 ∨ (17 ≤ t ∧ t < 21)) (hdr : ∀ j, j < 6 → 0 < (N (8 + j)).2.2.2.2.toInt) (hwt : N (14 + (p9 + 1)) = wyN (pm (p9 + 1)).toInt (aN (pa (p9 + 1)))) (hpm : (1 ≤ (pm (p9 + 1)).toInt ∧ (pm (p9 + 1)).toInt ≤ 99) ∧ aN (pa (p9 + 1)) < 12) : zI l D ka kb yX0_effectOf cX0_effectOf 4 .boolean 6 199 [.ref (bd 3), .int (nI p9), .int (nI b), .ref (na t)] ([((bd 3), .inr (0, [.ref (bd 12), .ref (bd 13), .ref (bd 14), .ref (bd 15), .ref (bd 16), .ref (bd 17), .ref (na 21), .ref (na 22), .ref (na 23), .ref (na 24)])), ((bd 12), .inr (2, [.int (bI o), .ref (na 28), .ref (na 29), .ref (na 30)])), ((bd 15), .inl (ka 3, 6, .inr (.inr (.inr (.inr (nR na 8)))))), ((bd 16), .inl (ka 3, 3, .inr (.inr (.inr (.inr (nR na 14))))))] ++ nP na N) (fun (r : Int32) (u : (Nat → N5) × Bool) => r = bI (!(efO (gC N) pm pa p9 b)) ∧ (∀ k9, k9 ≠ 28 → k9 ≠ 29 → k9 ≠ 30 → k9 ≠ t → u.1 k9 = N k9) ∧ (efO (gC N) pm pa p9 b = false → u.1 t = efV (gC N) pm pa p9 b)) (fun (u : (Nat → N5) × Bool) => [((bd 3), .inr (0, [.ref (bd 12), .ref (bd 13), .ref (bd 14), .ref (bd 15), .ref (bd 16), .ref (bd 17), .ref (na 21), .ref (na 22), .ref (na 23), .ref (na 24)])), ((bd 12), .inr (2, [.int (bI u.2), .ref (na 28), .ref (na 29), .ref (na 30)])), ((bd 15), .inl (ka 3, 6, .inr (.inr (.inr (.inr (nR na 8)))))), ((bd 16), .inl (ka 3, 3, .inr (.inr (.inr (.inr (nR na 14))))))] ++ nP na u.1) := by
  refine zI.mk RX0 (by decide +kernel) rfl (Nat.le_of_ble_eq_true rfl) ?_
  intro p e s m below meth c A ls args Q hQ hx hb hF hB hl
  replace hl : lv_has ls 4 [(0, .ref (bd 3)), (1, .int (nI p9)), (2, .int (nI b)), (3, .ref (na t))] := hl
  refine lv_aload_n hx hb dX0_effectOf_0 rfl (lv_at hl 0 rfl) ?_
  refine zget zf_X0_12 hF hB 0 rfl rfl dX0_effectOf_1 ?_
  refine lv_aload_n hx hb dX0_effectOf_4 rfl (lv_at hl 0 rfl) ?_
  refine lv_iload_n hx hb dX0_effectOf_5 rfl (lv_at hl 1 rfl) ?_
  refine lv_iconst (v := 1) hx hb dX0_effectOf_6 (by decide) ?_
  refine lv_iadd hx hb dX0_effectOf_7 ?_
  refine ztopi (y := nI (p9 + 1)) (nI_add p9 1) ?_
  refine lv_iload_n hx hb dX0_effectOf_8 rfl (lv_at hl 2 rfl) ?_
  refine zVr zm_X0_59 hF hB (c_X0_readingOf l D ka kb bd na (p9 + 1) b (by omega) (hb2)) [0, 2] rfl (by decide) [(bd 3), (bd 15)] (fun _ => rfl) rfl 0 0 rfl rfl rfl ⟨Nat.le_of_ble_eq_true rfl, Nat.le_of_ble_eq_true rfl⟩ rfl hl.1 (Nat.le_of_ble_eq_true rfl) ⟨Nat.le_refl _, Nat.le_refl _⟩ dX0_effectOf_9 ?_
  clear hB
  try clear locs
  try clear H
  intro u1 H locs hp hB
  replace hB : zB D A s ([((bd 3), .inr (0, [.ref (bd 12), .ref (bd 13), .ref (bd 14), .ref (bd 15), .ref (bd 16), .ref (bd 17), .ref (na 21), .ref (na 22), .ref (na 23), .ref (na 24)])), ((bd 12), .inr (2, [.int (bI o), .ref (na 28), .ref (na 29), .ref (na 30)])), ((bd 15), .inl (ka 3, 6, .inr (.inr (.inr (.inr (nR na 8)))))), ((bd 16), .inl (ka 3, 3, .inr (.inr (.inr (.inr (nR na 14))))))] ++ nP na N) H locs := hB
  refine lv_aload_n hx hb dX0_effectOf_12 rfl (lv_at hl 0 rfl) ?_
  refine lv_iconst (v := 0) hx hb dX0_effectOf_13 (by decide) ?_
  refine lv_iload_n hx hb dX0_effectOf_14 rfl (lv_at hl 2 rfl) ?_
  refine zVr zm_X0_59 hF hB (c_X0_readingOf l D ka kb bd na 0 b (by decide) (hb2)) [0, 2] rfl (by decide) [(bd 3), (bd 15)] (fun _ => rfl) rfl 0 0 rfl rfl rfl ⟨Nat.le_of_ble_eq_true rfl, Nat.le_of_ble_eq_true rfl⟩ rfl hl.1 (Nat.le_of_ble_eq_true rfl) ⟨Nat.le_refl _, Nat.le_refl _⟩ dX0_effectOf_15 ?_
  clear hB
  try clear locs
  try clear H
  intro u2 H locs hp hB
  replace hB : zB D A s ([((bd 3), .inr (0, [.ref (bd 12), .ref (bd 13), .ref (bd 14), .ref (bd 15), .ref (bd 16), .ref (bd 17), .ref (na 21), .ref (na 22), .ref (na 23), .ref (na 24)])), ((bd 12), .inr (2, [.int (bI o), .ref (na 28), .ref (na 29), .ref (na 30)])), ((bd 15), .inl (ka 3, 6, .inr (.inr (.inr (.inr (nR na 8)))))), ((bd 16), .inl (ka 3, 3, .inr (.inr (.inr (.inr (nR na 14))))))] ++ nP na N) H locs := hB
  refine lv_aload_n hx hb dX0_effectOf_18 rfl (lv_at hl 3 rfl) ?_
  refine zVi zm_X0_91 hF hB (c_X2_difference l D ka kb (bd 12) na o 28 29 30 N t (8 + (2 * (p9 + 1) + b)) (8 + (2 * 0 + b)) (by omega) (by omega) (by omega) (hdr _ (by omega)) (hdr _ (by omega))) ([1] ++ npr 4) (zsel_pool rfl rfl) (va_nd_pool rfl rfl) ([(bd 12)] ++ nA na) (fun _ => zad_pool rfl) (zad_pool rfl) 1 2 rfl rfl rfl ⟨Nat.le_of_ble_eq_true rfl, Nat.le_of_ble_eq_true rfl⟩ rfl hl.1 (Nat.le_of_ble_eq_true rfl) ⟨Nat.le_refl _, Nat.le_refl _⟩ dX0_effectOf_19 ?_
  clear hB
  try clear locs
  try clear H
  intro r3 u3 H locs hp hB
  obtain rfl : r3 = bI (!(sumO true (N (8 + (2 * (p9 + 1) + b))) (N (8 + (2 * 0 + b))))) := hp
  replace hB : zB D A s ([((bd 3), .inr (0, [.ref (bd 12), .ref (bd 13), .ref (bd 14), .ref (bd 15), .ref (bd 16), .ref (bd 17), .ref (na 21), .ref (na 22), .ref (na 23), .ref (na 24)])), ((bd 12), .inr (2, [.int (bI (sumO true (N (8 + (2 * (p9 + 1) + b))) (N (8 + (2 * 0 + b))))), .ref (na 28), .ref (na 29), .ref (na 30)])), ((bd 15), .inl (ka 3, 6, .inr (.inr (.inr (.inr (nR na 8)))))), ((bd 16), .inl (ka 3, 3, .inr (.inr (.inr (.inr (nR na 14))))))] ++ nP na (if sumO true (N (8 + (2 * (p9 + 1) + b))) (N (8 + (2 * 0 + b))) = true then N else upN N t (sumV true (N (8 + (2 * (p9 + 1) + b))) (N (8 + (2 * 0 + b)))))) H locs := zB_pool hB rfl rfl rfl rfl
  obtain ⟨M1, hM1⟩ : ∃ M, M = (if sumO true (N (8 + (2 * (p9 + 1) + b))) (N (8 + (2 * 0 + b))) = true then N else upN N t (sumV true (N (8 + (2 * (p9 + 1) + b))) (N (8 + (2 * 0 + b))))) := ⟨_, rfl⟩
  rw [← hM1] at hB
  refine lv_if_eq (tgt := 49) hx hb dX0_effectOf_22 (by decide) (fun h22 => ?_) (fun h22 => ?_)
  · skip
    have hs1 : sumO true (N (8 + (2 * (p9 + 1) + b))) (N (8 + (2 * 0 + b))) = true := by have e8 := bI_eq0 h22; simp only [Bool.not_eq_false'] at e8; exact e8
    rw [if_pos hs1] at hM1
    have hq9 : efO (gC N) pm pa p9 b = true := by rw [efO_1, hs1, Bool.true_or]
    refine lv_iconst (v := 0) hx hb dX0_effectOf_49 (by decide) ?_
    exact zreti hF hB (M1, sumO true (N (8 + (2 * (p9 + 1) + b))) (N (8 + (2 * 0 + b)))) (⟨by rw [hq9] <;> rfl, fun k9 _ _ _ _ => congrFun hM1 k9, fun e8 => by rw [hq9] at e8; exact absurd e8 (by decide)⟩) (rfl) (rfl) dX0_effectOf_50 hQ
  · skip
    have hs1 : sumO true (N (8 + (2 * (p9 + 1) + b))) (N (8 + (2 * 0 + b))) = false := by have e8 := bI_ne0 h22; simp only [Bool.not_eq_true'] at e8; exact e8
    rw [if_neg (by rw [hs1]; decide)] at hM1
    have v1 : M1 t = efS (gC N) p9 b := by rw [hM1, upN_eq, efS_1]
    have k1 : ∀ k9, k9 ≠ t → M1 k9 = N k9 := fun k9 h0 => by rw [hM1, upN_ne h0]
    have hwe : M1 (14 + (p9 + 1)) = wyN (pm (p9 + 1)).toInt (aN (pa (p9 + 1))) := by rw [k1 _ (by omega)]; exact hwt
    have hpe := hpm
    have hde : 0 < (M1 t).2.2.2.2.toInt := by rw [hM1, upN_eq]; exact sumV_d hs1 (hdr _ (by omega)) (hdr _ (by omega))
    refine lv_aload_n hx hb dX0_effectOf_25 rfl (lv_at hl 0 rfl) ?_
    refine zget zf_X0_12 hF hB 0 rfl rfl dX0_effectOf_26 ?_
    refine lv_aload_n hx hb dX0_effectOf_29 rfl (lv_at hl 3 rfl) ?_
    refine lv_aload_n hx hb dX0_effectOf_30 rfl (lv_at hl 0 rfl) ?_
    refine zget zf_X0_32 hF hB 0 rfl rfl dX0_effectOf_31 ?_
    refine lv_iload_n hx hb dX0_effectOf_34 rfl (lv_at hl 1 rfl) ?_
    refine lv_iconst (v := 1) hx hb dX0_effectOf_35 (by decide) ?_
    refine lv_iadd hx hb dX0_effectOf_36 ?_
    refine ztopi (y := nI (p9 + 1)) (nI_add p9 1) ?_
    refine zaald hF hB 3 rfl (t0 := 3) rfl (p9 + 1) (rfl) (by omega) (by decide) (r := na (14 + (p9 + 1))) (rfl) dX0_effectOf_37 ?_
    refine lv_aload_n hx hb dX0_effectOf_38 rfl (lv_at hl 3 rfl) ?_
    refine zVi zm_X0_94 hF hB (c_X2_quotient l D ka kb (bd 12) na (sumO true (N (8 + (2 * (p9 + 1) + b))) (N (8 + (2 * 0 + b)))) 28 29 30 M1 t t (14 + (p9 + 1)) (by omega) (by omega) (by omega) (hde) (by rw [hwe]; have := (wyN_bd hpe.2 (y := (pm (p9 + 1)).toInt) (Y := 99) (by omega) (by omega)).2.2.2.2; omega) (by rw [hwe]; exact wyN_nz hpe.2 hpe.1) (by omega) (by omega) (by omega) (by omega)) ([1] ++ npr 4) (zsel_pool rfl rfl) (va_nd_pool rfl rfl) ([(bd 12)] ++ nA na) (fun _ => zad_pool rfl) (zad_pool rfl) 1 2 rfl rfl rfl ⟨Nat.le_of_ble_eq_true rfl, Nat.le_of_ble_eq_true rfl⟩ rfl hl.1 (Nat.le_of_ble_eq_true rfl) ⟨Nat.le_refl _, Nat.le_refl _⟩ dX0_effectOf_39 ?_
    clear hB
    try clear locs
    try clear H
    intro r4 u4 H locs hp hB
    obtain ⟨N94, o94⟩ := u4
    have hp4 : r4 = bI (!(quoO (M1 t) (M1 (14 + (p9 + 1))))) ∧ (∀ k9, k9 ≠ 28 → k9 ≠ 29 → k9 ≠ 30 → k9 ≠ t → N94 k9 = M1 k9) ∧ N94 t = (if quoO (M1 t) (M1 (14 + (p9 + 1))) = true then M1 t else quoV (M1 t) (M1 (14 + (p9 + 1)))) := hp
    have HPP := hp4
    replace hB : zB D A s ([((bd 3), .inr (0, [.ref (bd 12), .ref (bd 13), .ref (bd 14), .ref (bd 15), .ref (bd 16), .ref (bd 17), .ref (na 21), .ref (na 22), .ref (na 23), .ref (na 24)])), ((bd 12), .inr (2, [.int (bI o94), .ref (na 28), .ref (na 29), .ref (na 30)])), ((bd 15), .inl (ka 3, 6, .inr (.inr (.inr (.inr (nR na 8)))))), ((bd 16), .inl (ka 3, 3, .inr (.inr (.inr (.inr (nR na 14))))))] ++ nP na N94) H locs := zB_pool hB rfl rfl rfl rfl
    have hQ9 := HPP
    refine lv_if_eq (tgt := 49) hx hb dX0_effectOf_42 (by decide) (fun h42 => ?_) (fun h42 => ?_)
    · skip
      have hqq : quoO (M1 t) (M1 (14 + (p9 + 1))) = true := by have e8 := bI_eq0 (hQ9.1.symm.trans h42); simp only [Bool.not_eq_false'] at e8; exact e8
      refine lv_iconst (v := 0) hx hb dX0_effectOf_49 (by decide) ?_
      have hq9 : efO (gC N) pm pa p9 b = true := by rw [efO_1, hs1, Bool.false_or, ← efS_1, ← v1, ← hwe]; exact hqq
      exact zreti hF hB (N94, o94) (⟨by rw [hq9] <;> rfl, fun k9 h1 h2 h3 h4 => (hQ9.2.1 k9 h1 h2 h3 h4).trans (k1 k9 h4), fun e8 => by
        rw [hq9] at e8; exact absurd e8 (by decide)⟩) (rfl) (rfl) dX0_effectOf_50 hQ
    · skip
      have hqq : quoO (M1 t) (M1 (14 + (p9 + 1))) = false := by have e8 := bI_ne0 (fun e9 => h42 (hQ9.1.trans e9)); simp only [Bool.not_eq_true'] at e8; exact e8
      refine lv_iconst (v := 1) hx hb dX0_effectOf_45 (by decide) ?_
      refine lv_goto (tgt := 50) hx hb dX0_effectOf_46 (by decide) ?_
      have hq9 : efO (gC N) pm pa p9 b = false := by rw [efO_1, hs1, Bool.false_or, ← efS_1, ← v1, ← hwe]; exact hqq
      exact zreti hF hB (N94, o94) (⟨by rw [hq9] <;> rfl, fun k9 h1 h2 h3 h4 => (hQ9.2.1 k9 h1 h2 h3 h4).trans (k1 k9 h4), fun e8 => by
        show N94 t = _
        rw [hQ9.2.2, if_neg (by rw [hqq]; decide), v1, hwe, efV]⟩) (rfl) (rfl) dX0_effectOf_50 hQ

set_option maxHeartbeats 4000000 in
set_option maxRecDepth 100000 in
theorem c_X0_cross (l : Launch) (D : va_G) (ka : Nat → ClassId) (kb : Nat → Nat) (bd : Nat → Nat) (na : Nat → Nat) (o : Bool) (N : Nat → N5) (i : Nat) (j : Nat) (k : Nat) (w : Nat) (t : Nat) (hi : i < 41) (hj : j < 41) (hk : k < 41 ∧ k ≠ 24 ∧ k ≠ t) (hw : w < 41 ∧ w ≠ 24 ∧ w ≠ t) (ht : t < 41 ∧ t ≠ 24) (hdi : 0 < (N i).2.2.2.2.toInt) (hdj : 0 < (N j).2.2.2.2.toInt) (hdk : 0 < (N k).2.2.2.2.toInt) (hdw : 0 < (N w).2.2.2.2.toInt) : zI l D ka kb yX0_cross cX0_cross 6 .boolean 5 174 [.ref (bd 3), .ref (na i), .ref (na j), .ref (na k), .ref (na w), .ref (na t)] ([((bd 3), .inr (0, [.ref (bd 12), .ref (bd 13), .ref (bd 14), .ref (bd 15), .ref (bd 16), .ref (bd 17), .ref (na 21), .ref (na 22), .ref (na 23), .ref (na 24)])), ((bd 12), .inr (2, [.int (bI o), .ref (na 28), .ref (na 29), .ref (na 30)]))] ++ nP na N) (fun (r : Int32) (u : (Nat → N5) × Bool) => r = bI (!(crO (N i) (N j) (N k) (N w))) ∧ (∀ k9, k9 ≠ 24 → k9 ≠ t → u.1 k9 = N k9) ∧ (crO (N i) (N j) (N k) (N w) = false → u.1 t = crV (N i) (N j) (N k) (N w))) (fun (u : (Nat → N5) × Bool) => [((bd 3), .inr (0, [.ref (bd 12), .ref (bd 13), .ref (bd 14), .ref (bd 15), .ref (bd 16), .ref (bd 17), .ref (na 21), .ref (na 22), .ref (na 23), .ref (na 24)])), ((bd 12), .inr (2, [.int (bI u.2), .ref (na 28), .ref (na 29), .ref (na 30)]))] ++ nP na u.1) := by
  refine zI.mk RX0 (by decide +kernel) rfl (Nat.le_of_ble_eq_true rfl) ?_
  intro p e s m below meth c A ls args Q hQ hx hb hF hB hl
  replace hl : lv_has ls 6 [(0, .ref (bd 3)), (1, .ref (na i)), (2, .ref (na j)), (3, .ref (na k)), (4, .ref (na w)), (5, .ref (na t))] := hl
  refine lv_aload_n hx hb dX0_cross_0 rfl (lv_at hl 0 rfl) ?_
  refine zget zf_X0_12 hF hB 0 rfl rfl dX0_cross_1 ?_
  refine lv_aload_n hx hb dX0_cross_4 rfl (lv_at hl 1 rfl) ?_
  refine lv_aload_n hx hb dX0_cross_5 rfl (lv_at hl 2 rfl) ?_
  refine lv_aload hx hb dX0_cross_6 (lv_at hl 5 rfl) ?_
  refine zVi zm_X0_88 hF hB (c_X2_product l D ka kb (bd 12) na o 28 29 30 N t i j (ht.1) (hi) (hj) (hdi) (hdj)) ([1] ++ npr 2) (zsel_pool rfl rfl) (va_nd_pool rfl rfl) ([(bd 12)] ++ nA na) (fun _ => zad_pool rfl) (zad_pool rfl) 1 2 rfl rfl rfl ⟨Nat.le_of_ble_eq_true rfl, Nat.le_of_ble_eq_true rfl⟩ rfl hl.1 (Nat.le_of_ble_eq_true rfl) ⟨Nat.le_refl _, Nat.le_refl _⟩ dX0_cross_8 ?_
  clear hB
  try clear locs
  try clear H
  intro r1 u1 H locs hp hB
  obtain rfl : r1 = bI (!(prodO (N i) (N j))) := hp
  replace hB : zB D A s ([((bd 3), .inr (0, [.ref (bd 12), .ref (bd 13), .ref (bd 14), .ref (bd 15), .ref (bd 16), .ref (bd 17), .ref (na 21), .ref (na 22), .ref (na 23), .ref (na 24)])), ((bd 12), .inr (2, [.int (bI (prodO (N i) (N j))), .ref (na 28), .ref (na 29), .ref (na 30)]))] ++ nP na (if prodO (N i) (N j) = true then N else upN N t (prodV (N i) (N j)))) H locs := zB_pool hB rfl rfl rfl rfl
  obtain ⟨M1, hM1⟩ : ∃ M, M = (if prodO (N i) (N j) = true then N else upN N t (prodV (N i) (N j))) := ⟨_, rfl⟩
  rw [← hM1] at hB
  refine lv_if_eq (tgt := 53) hx hb dX0_cross_11 (by decide) (fun h11 => ?_) (fun h11 => ?_)
  · skip
    have hs1 : prodO (N i) (N j) = true := by have e8 := bI_eq0 h11; simp only [Bool.not_eq_false'] at e8; exact e8
    rw [if_pos hs1] at hM1
    have kx : ∀ k9, k9 ≠ 24 → k9 ≠ t → M1 k9 = N k9 := fun k9 _ _ => congrFun hM1 k9
    have hq9 : crO (N i) (N j) (N k) (N w) = true := by rw [crO, hs1, Bool.true_or, Bool.true_or]
    refine lv_iconst (v := 0) hx hb dX0_cross_53 (by decide) ?_
    exact zreti hF hB (M1, prodO (N i) (N j)) (⟨by rw [hq9] <;> rfl, kx, fun e8 => absurd (hq9.symm.trans e8) (by decide)⟩) (rfl) (rfl) dX0_cross_54 hQ
  · skip
    have hs1 : prodO (N i) (N j) = false := by have e8 := bI_ne0 h11; simp only [Bool.not_eq_true'] at e8; exact e8
    rw [if_neg (by rw [hs1]; decide)] at hM1
    have v1 : M1 t = prodV (N i) (N j) := by rw [hM1, upN_eq]
    have k1 : ∀ k9, k9 ≠ 24 → k9 ≠ t → M1 k9 = N k9 := fun k9 _ h0 => by rw [hM1, upN_ne h0]
    have ek : M1 k = N k := k1 k hk.2.1 hk.2.2
    have ew : M1 w = N w := k1 w hw.2.1 hw.2.2
    refine lv_aload_n hx hb dX0_cross_14 rfl (lv_at hl 0 rfl) ?_
    refine zget zf_X0_12 hF hB 0 rfl rfl dX0_cross_15 ?_
    refine lv_aload_n hx hb dX0_cross_18 rfl (lv_at hl 3 rfl) ?_
    refine lv_aload hx hb dX0_cross_19 (lv_at hl 4 rfl) ?_
    refine lv_aload_n hx hb dX0_cross_21 rfl (lv_at hl 0 rfl) ?_
    refine zget zf_X0_49 hF hB 0 rfl rfl dX0_cross_22 ?_
    refine zVi zm_X0_88 hF hB (c_X2_product l D ka kb (bd 12) na (prodO (N i) (N j)) 28 29 30 M1 24 k w (by decide) (hk.1) (hw.1) (by rw [ek]; exact hdk) (by rw [ew]; exact hdw)) ([1] ++ npr 2) (zsel_pool rfl rfl) (va_nd_pool rfl rfl) ([(bd 12)] ++ nA na) (fun _ => zad_pool rfl) (zad_pool rfl) 1 2 rfl rfl rfl ⟨Nat.le_of_ble_eq_true rfl, Nat.le_of_ble_eq_true rfl⟩ rfl hl.1 (Nat.le_of_ble_eq_true rfl) ⟨Nat.le_refl _, Nat.le_refl _⟩ dX0_cross_25 ?_
    clear hB
    try clear locs
    try clear H
    intro r2 u2 H locs hp hB
    obtain rfl : r2 = bI (!(prodO (M1 k) (M1 w))) := hp
    replace hB : zB D A s ([((bd 3), .inr (0, [.ref (bd 12), .ref (bd 13), .ref (bd 14), .ref (bd 15), .ref (bd 16), .ref (bd 17), .ref (na 21), .ref (na 22), .ref (na 23), .ref (na 24)])), ((bd 12), .inr (2, [.int (bI (prodO (M1 k) (M1 w))), .ref (na 28), .ref (na 29), .ref (na 30)]))] ++ nP na (if prodO (M1 k) (M1 w) = true then M1 else upN M1 24 (prodV (M1 k) (M1 w)))) H locs := zB_pool hB rfl rfl rfl rfl
    obtain ⟨M2, hM2⟩ : ∃ M, M = (if prodO (M1 k) (M1 w) = true then M1 else upN M1 24 (prodV (M1 k) (M1 w))) := ⟨_, rfl⟩
    rw [← hM2] at hB
    refine lv_if_eq (tgt := 53) hx hb dX0_cross_28 (by decide) (fun h28 => ?_) (fun h28 => ?_)
    · skip
      have hs2 : prodO (N k) (N w) = true := by have e8 := bI_eq0 h28; simp only [Bool.not_eq_false'] at e8; rw [ek, ew] at e8; exact e8
      rw [if_pos (by rw [ek, ew]; exact hs2)] at hM2
      have kx : ∀ k9, k9 ≠ 24 → k9 ≠ t → M2 k9 = N k9 := fun k9 h1 h0 => (congrFun hM2 k9).trans (k1 k9 h1 h0)
      have hq9 : crO (N i) (N j) (N k) (N w) = true := by rw [crO, hs2, Bool.or_true, Bool.true_or]
      refine lv_iconst (v := 0) hx hb dX0_cross_53 (by decide) ?_
      exact zreti hF hB (M2, prodO (M1 k) (M1 w)) (⟨by rw [hq9] <;> rfl, kx, fun e8 => absurd (hq9.symm.trans e8) (by decide)⟩) (rfl) (rfl) dX0_cross_54 hQ
    · skip
      have hs2 : prodO (N k) (N w) = false := by have e8 := bI_ne0 h28; simp only [Bool.not_eq_true'] at e8; rw [ek, ew] at e8; exact e8
      rw [if_neg (by rw [ek, ew, hs2]; decide)] at hM2
      have v2 : M2 24 = prodV (N k) (N w) := by rw [hM2, upN_eq, ek, ew]
      have v2t : M2 t = prodV (N i) (N j) := by rw [hM2, upN_ne ht.2]; exact v1
      have k2 : ∀ k9, k9 ≠ 24 → k9 ≠ t → M2 k9 = N k9 := fun k9 h1 h0 => by rw [hM2, upN_ne h1]; exact k1 k9 h1 h0
      refine lv_aload_n hx hb dX0_cross_31 rfl (lv_at hl 0 rfl) ?_
      refine zget zf_X0_12 hF hB 0 rfl rfl dX0_cross_32 ?_
      refine lv_aload hx hb dX0_cross_35 (lv_at hl 5 rfl) ?_
      refine lv_aload_n hx hb dX0_cross_37 rfl (lv_at hl 0 rfl) ?_
      refine zget zf_X0_49 hF hB 0 rfl rfl dX0_cross_38 ?_
      refine lv_aload hx hb dX0_cross_41 (lv_at hl 5 rfl) ?_
      refine zVi zm_X0_91 hF hB (c_X2_difference l D ka kb (bd 12) na (prodO (M1 k) (M1 w)) 28 29 30 M2 t t 24 (ht.1) (ht.1) (by decide) (by rw [v2t]; exact prodV_d hs1 hdi hdj) (by rw [v2]; exact prodV_d hs2 hdk hdw)) ([1] ++ npr 2) (zsel_pool rfl rfl) (va_nd_pool rfl rfl) ([(bd 12)] ++ nA na) (fun _ => zad_pool rfl) (zad_pool rfl) 1 2 rfl rfl rfl ⟨Nat.le_of_ble_eq_true rfl, Nat.le_of_ble_eq_true rfl⟩ rfl hl.1 (Nat.le_of_ble_eq_true rfl) ⟨Nat.le_refl _, Nat.le_refl _⟩ dX0_cross_43 ?_
      clear hB
      try clear locs
      try clear H
      intro r3 u3 H locs hp hB
      obtain rfl : r3 = bI (!(sumO true (M2 t) (M2 24))) := hp
      replace hB : zB D A s ([((bd 3), .inr (0, [.ref (bd 12), .ref (bd 13), .ref (bd 14), .ref (bd 15), .ref (bd 16), .ref (bd 17), .ref (na 21), .ref (na 22), .ref (na 23), .ref (na 24)])), ((bd 12), .inr (2, [.int (bI (sumO true (M2 t) (M2 24))), .ref (na 28), .ref (na 29), .ref (na 30)]))] ++ nP na (if sumO true (M2 t) (M2 24) = true then M2 else upN M2 t (sumV true (M2 t) (M2 24)))) H locs := zB_pool hB rfl rfl rfl rfl
      obtain ⟨M3, hM3⟩ : ∃ M, M = (if sumO true (M2 t) (M2 24) = true then M2 else upN M2 t (sumV true (M2 t) (M2 24))) := ⟨_, rfl⟩
      rw [← hM3] at hB
      refine lv_if_eq (tgt := 53) hx hb dX0_cross_46 (by decide) (fun h46 => ?_) (fun h46 => ?_)
      · skip
        have hs3 : sumO true (prodV (N i) (N j)) (prodV (N k) (N w)) = true := by have e8 := bI_eq0 h46; simp only [Bool.not_eq_false'] at e8; rw [v2, v2t] at e8; exact e8
        rw [if_pos (by rw [v2, v2t]; exact hs3)] at hM3
        have kx : ∀ k9, k9 ≠ 24 → k9 ≠ t → M3 k9 = N k9 := fun k9 h1 h0 => (congrFun hM3 k9).trans (k2 k9 h1 h0)
        have hq9 : crO (N i) (N j) (N k) (N w) = true := by rw [crO, hs3, Bool.or_true]
        refine lv_iconst (v := 0) hx hb dX0_cross_53 (by decide) ?_
        exact zreti hF hB (M3, sumO true (M2 t) (M2 24)) (⟨by rw [hq9] <;> rfl, kx, fun e8 => absurd (hq9.symm.trans e8) (by decide)⟩) (rfl) (rfl) dX0_cross_54 hQ
      · skip
        have hs3 : sumO true (prodV (N i) (N j)) (prodV (N k) (N w)) = false := by have e8 := bI_ne0 h46; simp only [Bool.not_eq_true'] at e8; rw [v2, v2t] at e8; exact e8
        rw [if_neg (by rw [v2, v2t, hs3]; decide)] at hM3
        have kx : ∀ k9, k9 ≠ 24 → k9 ≠ t → M3 k9 = N k9 := fun k9 h1 h0 => by rw [hM3, upN_ne h0]; exact k2 k9 h1 h0
        have v3 : M3 t = crV (N i) (N j) (N k) (N w) := by rw [hM3, upN_eq, v2, v2t, crV]
        have hq9 : crO (N i) (N j) (N k) (N w) = false := by rw [crO, hs1, hs2, hs3] <;> rfl
        refine lv_iconst (v := 1) hx hb dX0_cross_49 (by decide) ?_
        refine lv_goto (tgt := 54) hx hb dX0_cross_50 (by decide) ?_
        exact zreti hF hB (M3, sumO true (M2 t) (M2 24)) (⟨by rw [hq9] <;> rfl, kx, fun e8 => v3⟩) (rfl) (rfl) dX0_cross_54 hQ

