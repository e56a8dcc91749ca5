noncomputable def tnN (X : N5) : Bool := dB (X.2.2.1 ≠ 0 ∨ X.2.2.2.1 ≠ 0)
def awN (X : N5) (t : Int32) (a : Nat) : N5 := (X.1 + t.toInt64 * (zways.getD (4 * a) 0).toInt64, X.2.1 + t.toInt64 * (zways.getD (4 * a + 1) 0).toInt64, X.2.2.1 + t.toInt64 * (zways.getD (4 * a + 2) 0).toInt64, X.2.2.2.1 + t.toInt64 * (zways.getD (4 * a + 3) 0).toInt64, X.2.2.2.2)
theorem sh_b {x : Int64} (h : 0 < x.toInt) : x.toInt.natAbs < 2 ^ 63 := by have := i64_rng x; omega
theorem sh_g {u : Nat} (h : 0 < u ∧ u < 2 ^ 63) (x : Nat) : 0 < Nat.gcd u x ∧ Nat.gcd u x < 2 ^ 63 := ⟨Nat.gcd_pos_of_pos_left _ h.1, Nat.lt_of_le_of_lt (Nat.gcd_le_left x h.1) h.2⟩
theorem lowN_g1 {a b c e d : Int64} (h : 0 < gc a b c e d ∧ gc a b c e d < 2 ^ 63) (h1 : lN (gc a b c e d) ≤ 1) : lowN a b c e d = (a, b, c, e, d) := by
  have h2 : gc a b c e d = 1 := by
    rw [Int64.le_iff_toInt_le, lN_int h.2, show (1 : Int64).toInt = 1 from rfl] at h1
    omega
  unfold lowN
  rw [h2, i64_div1, i64_div1, i64_div1, i64_div1, i64_div1]
def bwN (t : Int32) (a : Nat) : N5 := lowN (awN (0, 0, 0, 0, 2) t a).1 (awN (0, 0, 0, 0, 2) t a).2.1 (awN (0, 0, 0, 0, 2) t a).2.2.1 (awN (0, 0, 0, 0, 2) t a).2.2.2.1 2
set_option maxHeartbeats 4000000 in
set_option maxRecDepth 100000 in
theorem c_X1_become (l : Launch) (D : va_G) (ka : Nat → ClassId) (kb : Nat → Nat) (b : Nat) (X : N5) (v1 : Int64) (v2 : Int64) (v3 : Int64) (v4 : Int64) (v5 : Int64)  : zV l D ka kb yX1_become cX1_become 11 0 0 [.ref b, .long v1, .long v2, .long v3, .long v4, .long v5] ([(b, .inr (1, nF X))]) (fun (_ : Unit) => True) (fun (_ : Unit) => [(b, .inr (1, nF (v1, v2, v3, v4, v5)))]) := by
  refine zV.mk RX1 (by decide +kernel) rfl (Nat.le_of_ble_eq_true rfl) ?_
  intro p e s m below meth c A ls args Q hQ hx hb hF hB hl
  replace hl : lv_has ls 11 [(0, .ref b), (1, .long v1), (3, .long v2), (5, .long v3), (7, .long v4), (9, .long v5)] := hl
  refine lv_aload_n hx hb dX1_become_0 rfl (lv_at hl 0 rfl) ?_
  refine lv_lload_n hx hb dX1_become_1 rfl (lv_at hl 1 rfl) ?_
  refine zput_f zp_X1_13 hF hB 0 rfl (rfl) (rfl) (Nat.le_of_ble_eq_true rfl) dX1_become_2 ?_
  clear hB
  try clear locs
  try clear H
  intro H locs hB
  replace hB : zB D A s ([(b, .inr (1, nF (v1, X.2.1, X.2.2.1, X.2.2.2.1, X.2.2.2.2)))]) H locs := hB
  refine lv_aload_n hx hb dX1_become_5 rfl (lv_at hl 0 rfl) ?_
  refine lv_lload_n hx hb dX1_become_6 rfl (lv_at hl 2 rfl) ?_
  refine zput_f zp_X1_16 hF hB 0 rfl (rfl) (rfl) (Nat.le_of_ble_eq_true rfl) dX1_become_7 ?_
  clear hB
  try clear locs
  try clear H
  intro H locs hB
  replace hB : zB D A s ([(b, .inr (1, nF (v1, v2, X.2.2.1, X.2.2.2.1, X.2.2.2.2)))]) H locs := hB
  refine lv_aload_n hx hb dX1_become_10 rfl (lv_at hl 0 rfl) ?_
  refine lv_lload hx hb dX1_become_11 (lv_at hl 3 rfl) ?_
  refine zput_f zp_X1_19 hF hB 0 rfl (rfl) (rfl) (Nat.le_of_ble_eq_true rfl) dX1_become_13 ?_
  clear hB
  try clear locs
  try clear H
  intro H locs hB
  replace hB : zB D A s ([(b, .inr (1, nF (v1, v2, v3, X.2.2.2.1, X.2.2.2.2)))]) H locs := hB
  refine lv_aload_n hx hb dX1_become_16 rfl (lv_at hl 0 rfl) ?_
  refine lv_lload hx hb dX1_become_17 (lv_at hl 4 rfl) ?_
  refine zput_f zp_X1_22 hF hB 0 rfl (rfl) (rfl) (Nat.le_of_ble_eq_true rfl) dX1_become_19 ?_
  clear hB
  try clear locs
  try clear H
  intro H locs hB
  replace hB : zB D A s ([(b, .inr (1, nF (v1, v2, v3, v4, X.2.2.2.2)))]) H locs := hB
  refine lv_aload_n hx hb dX1_become_22 rfl (lv_at hl 0 rfl) ?_
  refine lv_lload hx hb dX1_become_23 (lv_at hl 5 rfl) ?_
  refine zput_f zp_X1_7 hF hB 0 rfl (rfl) (rfl) (Nat.le_of_ble_eq_true rfl) dX1_become_25 ?_
  clear hB
  try clear locs
  try clear H
  intro H locs hB
  replace hB : zB D A s ([(b, .inr (1, nF (v1, v2, v3, v4, v5)))]) H locs := hB
  exact zretv hF hB () (trivial) (rfl) dX1_become_28 hQ

set_option maxHeartbeats 4000000 in
set_option maxRecDepth 100000 in
theorem c_X1_item (l : Launch) (D : va_G) (ka : Nat → ClassId) (kb : Nat → Nat) (b : Nat) (X : N5) (k : Nat) (hk : k < 5) : zL l D ka kb yX1_item cX1_item 2 0 0 [.ref b, .int (nI k)] ([(b, .inr (1, nF X))]) (fun (r : Int64) (_ : Unit) => r = cmp5 X k) (fun (_ : Unit) => [(b, .inr (1, nF X))]) := by
  refine zL.mk RX1 (by decide +kernel) rfl (Nat.le_of_ble_eq_true rfl) ?_
  intro p e s m below meth c A ls args Q hQ hx hb hF hB hl
  replace hl : lv_has ls 2 [(0, .ref b), (1, .int (nI k))] := hl
  refine lv_iload_n hx hb dX1_item_0 rfl (lv_at hl 1 rfl) ?_
  rcases zsw (nI k) 0 3 with hsw | hsw
  · skip
    refine lv_tableOut (tgt := 52) hx hb dX1_item_1 hsw (by decide) ?_
    have hk9 : k = 4 := by rw [nI_toInt (by omega)] at hsw; omega
    refine lv_aload_n hx hb dX1_item_52 rfl (lv_at hl 0 rfl) ?_
    refine zget zf_X1_7 hF hB 0 rfl rfl dX1_item_53 ?_
    exact zretl hF hB () (by rw [hk9] <;> rfl) (rfl) dX1_item_56 hQ
  · skip
    rcases (show Int32.toInt (nI k) = 0 ∨ Int32.toInt (nI k) = 1 ∨ Int32.toInt (nI k) = 2 ∨ Int32.toInt (nI k) = 3 by omega) with hc9 | hc9 | hc9 | hc9
    · skip
      refine lv_tableIn (tgt := 32) hx hb dX1_item_1 (by omega) (by omega) (by rw [hc9]; rfl) (by decide) ?_
      have hk9 : k = 0 := by rw [nI_toInt (by omega)] at hc9; omega
      refine lv_aload_n hx hb dX1_item_32 rfl (lv_at hl 0 rfl) ?_
      refine zget zf_X1_13 hF hB 0 rfl rfl dX1_item_33 ?_
      exact zretl hF hB () (by rw [hk9] <;> rfl) (rfl) dX1_item_36 hQ
    · skip
      refine lv_tableIn (tgt := 37) hx hb dX1_item_1 (by omega) (by omega) (by rw [hc9]; rfl) (by decide) ?_
      have hk9 : k = 1 := by rw [nI_toInt (by omega)] at hc9; omega
      refine lv_aload_n hx hb dX1_item_37 rfl (lv_at hl 0 rfl) ?_
      refine zget zf_X1_16 hF hB 0 rfl rfl dX1_item_38 ?_
      exact zretl hF hB () (by rw [hk9] <;> rfl) (rfl) dX1_item_41 hQ
    · skip
      refine lv_tableIn (tgt := 42) hx hb dX1_item_1 (by omega) (by omega) (by rw [hc9]; rfl) (by decide) ?_
      have hk9 : k = 2 := by rw [nI_toInt (by omega)] at hc9; omega
      refine lv_aload_n hx hb dX1_item_42 rfl (lv_at hl 0 rfl) ?_
      refine zget zf_X1_19 hF hB 0 rfl rfl dX1_item_43 ?_
      exact zretl hF hB () (by rw [hk9] <;> rfl) (rfl) dX1_item_46 hQ
    · skip
      refine lv_tableIn (tgt := 47) hx hb dX1_item_1 (by omega) (by omega) (by rw [hc9]; rfl) (by decide) ?_
      have hk9 : k = 3 := by rw [nI_toInt (by omega)] at hc9; omega
      refine lv_aload_n hx hb dX1_item_47 rfl (lv_at hl 0 rfl) ?_
      refine zget zf_X1_22 hF hB 0 rfl rfl dX1_item_48 ?_
      exact zretl hF hB () (by rw [hk9] <;> rfl) (rfl) dX1_item_51 hQ

set_option maxHeartbeats 4000000 in
set_option maxRecDepth 100000 in
theorem c_X1_isTurned (l : Launch) (D : va_G) (ka : Nat → ClassId) (kb : Nat → Nat) (b : Nat) (X : N5)  : zI l D ka kb yX1_isTurned cX1_isTurned 1 .boolean 0 0 [.ref b] ([(b, .inr (1, nF X))]) (fun (r : Int32) (_ : Unit) => r = bI (tnN X)) (fun (_ : Unit) => [(b, .inr (1, nF X))]) := by
  refine zI.mk RX1 (by decide +kernel) rfl (Nat.le_of_ble_eq_true rfl) ?_
  intro p e s m below meth c A ls args Q hQ hx hb hF hB hl
  replace hl : lv_has ls 1 [(0, .ref b)] := hl
  refine lv_aload_n hx hb dX1_isTurned_0 rfl (lv_at hl 0 rfl) ?_
  refine zget zf_X1_19 hF hB 0 rfl rfl dX1_isTurned_1 ?_
  refine lv_lconst (v := 0) hx hb dX1_isTurned_4 (by decide) ?_
  refine W.lcmp hx hb dX1_isTurned_5 ?_
  refine lv_if_ne (tgt := 18) hx hb dX1_isTurned_6 (by decide) (fun h6 => ?_) (fun h6 => ?_)
  · skip
    replace h6 := (fun e9 => h6 ((lg_cmp_eq _ _).mpr e9))
    refine lv_iconst (v := 1) hx hb dX1_isTurned_18 (by decide) ?_
    refine ztopi (y := bI (tnN X)) (bI_1 (dB_t.mpr (Or.inl h6))) ?_
    refine lv_goto (tgt := 23) hx hb dX1_isTurned_19 (by decide) ?_
    exact zreti hF hB () (rfl) (rfl) (zbI_n _) dX1_isTurned_23 hQ
  · skip
    replace h6 := (lg_cmp_eq _ _).mp h6
    refine lv_aload_n hx hb dX1_isTurned_9 rfl (lv_at hl 0 rfl) ?_
    refine zget zf_X1_22 hF hB 0 rfl rfl dX1_isTurned_10 ?_
    refine lv_lconst (v := 0) hx hb dX1_isTurned_13 (by decide) ?_
    refine W.lcmp hx hb dX1_isTurned_14 ?_
    refine lv_if_eq (tgt := 22) hx hb dX1_isTurned_15 (by decide) (fun h15 => ?_) (fun h15 => ?_)
    · skip
      replace h15 := (lg_cmp_eq _ _).mp h15
      refine lv_iconst (v := 0) hx hb dX1_isTurned_22 (by decide) ?_
      refine ztopi (y := bI (tnN X)) (bI_0 (dB_f.mpr (fun e8 => e8.elim (fun e7 => e7 h6) (fun e7 => e7 h15)))) ?_
      exact zreti hF hB () (rfl) (rfl) (zbI_n _) dX1_isTurned_23 hQ
    · skip
      replace h15 := (fun e9 => h15 ((lg_cmp_eq _ _).mpr e9))
      refine lv_iconst (v := 1) hx hb dX1_isTurned_18 (by decide) ?_
      refine ztopi (y := bI (tnN X)) (bI_1 (dB_t.mpr (Or.inr h15))) ?_
      refine lv_goto (tgt := 23) hx hb dX1_isTurned_19 (by decide) ?_
      exact zreti hF hB () (rfl) (rfl) (zbI_n _) dX1_isTurned_23 hQ

set_option maxHeartbeats 4000000 in
set_option maxRecDepth 100000 in
theorem c_X1_isZero (l : Launch) (D : va_G) (ka : Nat → ClassId) (kb : Nat → Nat) (b : Nat) (X : N5)  : zI l D ka kb yX1_isZero cX1_isZero 1 .boolean 1 20 [.ref b] ([(b, .inr (1, nF X))]) (fun (r : Int32) (_ : Unit) => r = bI (zeroN X)) (fun (_ : Unit) => [(b, .inr (1, nF X))]) := by
  refine zI.mk RX1 (by decide +kernel) rfl (Nat.le_of_ble_eq_true rfl) ?_
  intro p e s m below meth c A ls args Q hQ hx hb hF hB hl
  replace hl : lv_has ls 1 [(0, .ref b)] := hl
  refine lv_aload_n hx hb dX1_isZero_0 rfl (lv_at hl 0 rfl) ?_
  refine zget zf_X1_13 hF hB 0 rfl rfl dX1_isZero_1 ?_
  refine lv_lconst (v := 0) hx hb dX1_isZero_4 (by decide) ?_
  refine W.lcmp hx hb dX1_isZero_5 ?_
  refine lv_if_ne (tgt := 29) hx hb dX1_isZero_6 (by decide) (fun h6 => ?_) (fun h6 => ?_)
  · skip
    replace h6 := (fun e9 => h6 ((lg_cmp_eq _ _).mpr e9))
    refine lv_iconst (v := 0) hx hb dX1_isZero_29 (by decide) ?_
    refine ztopi (y := bI (zeroN X)) (bI_0 (dB_f.mpr (fun e8 => h6 e8.1))) ?_
    exact zreti hF hB () (rfl) (rfl) (zbI_n _) dX1_isZero_30 hQ
  · skip
    replace h6 := (lg_cmp_eq _ _).mp h6
    refine lv_aload_n hx hb dX1_isZero_9 rfl (lv_at hl 0 rfl) ?_
    refine zget zf_X1_16 hF hB 0 rfl rfl dX1_isZero_10 ?_
    refine lv_lconst (v := 0) hx hb dX1_isZero_13 (by decide) ?_
    refine W.lcmp hx hb dX1_isZero_14 ?_
    refine lv_if_ne (tgt := 29) hx hb dX1_isZero_15 (by decide) (fun h15 => ?_) (fun h15 => ?_)
    · skip
      replace h15 := (fun e9 => h15 ((lg_cmp_eq _ _).mpr e9))
      refine lv_iconst (v := 0) hx hb dX1_isZero_29 (by decide) ?_
      refine ztopi (y := bI (zeroN X)) (bI_0 (dB_f.mpr (fun e8 => h15 e8.2.1))) ?_
      exact zreti hF hB () (rfl) (rfl) (zbI_n _) dX1_isZero_30 hQ
    · skip
      replace h15 := (lg_cmp_eq _ _).mp h15
      refine lv_aload_n hx hb dX1_isZero_18 rfl (lv_at hl 0 rfl) ?_
      refine zVi zm_X1_29 hF hB (c_X1_isTurned l D ka kb b X ) [0] rfl (by decide) [b] (fun _ => rfl) rfl 0 1 rfl rfl rfl ⟨Nat.le_of_ble_eq_true rfl, Nat.le_of_ble_eq_true rfl⟩ rfl hl.1 (Nat.le_of_ble_eq_true rfl) ⟨Nat.le_refl _, Nat.le_refl _⟩ dX1_isZero_19 ?_
      clear hB
      try clear locs
      try clear H
      intro r1 u1 H locs hp hB
      obtain rfl : r1 = bI (tnN X) := hp
      replace hB : zB D A s ([(b, .inr (1, nF X))]) H locs := hB
      refine lv_if_ne (tgt := 29) hx hb dX1_isZero_22 (by decide) (fun h22 => ?_) (fun h22 => ?_)
      · skip
        refine lv_iconst (v := 0) hx hb dX1_isZero_29 (by decide) ?_
        refine ztopi (y := bI (zeroN X)) (bI_0 (dB_f.mpr (fun e8 => (dB_t.mp (bI_ne0 h22)).elim (fun e7 => e7 e8.2.2.1) (fun e7 => e7 e8.2.2.2)))) ?_
        exact zreti hF hB () (rfl) (rfl) (zbI_n _) dX1_isZero_30 hQ
      · skip
        refine lv_iconst (v := 1) hx hb dX1_isZero_25 (by decide) ?_
        refine ztopi (y := bI (zeroN X)) (bI_1 (dB_t.mpr ⟨h6, h15, Decidable.of_not_not (fun e8 => dB_f.mp (bI_eq0 h22) (Or.inl e8)), Decidable.of_not_not (fun e8 => dB_f.mp (bI_eq0 h22) (Or.inr e8))⟩)) ?_
        refine lv_goto (tgt := 30) hx hb dX1_isZero_26 (by decide) ?_
        exact zreti hF hB () (rfl) (rfl) (zbI_n _) dX1_isZero_30 hQ

set_option maxHeartbeats 4000000 in
set_option maxRecDepth 100000 in
theorem c_X1_mirror (l : Launch) (D : va_G) (ka : Nat → ClassId) (kb : Nat → Nat) (b : Nat) (X : N5)  : zV l D ka kb yX1_mirror cX1_mirror 1 0 0 [.ref b] ([(b, .inr (1, nF X))]) (fun (_ : Unit) => True) (fun (_ : Unit) => [(b, .inr (1, nF (X.1, X.2.1, -X.2.2.1, -X.2.2.2.1, X.2.2.2.2)))]) := by
  refine zV.mk RX1 (by decide +kernel) rfl (Nat.le_of_ble_eq_true rfl) ?_
  intro p e s m below meth c A ls args Q hQ hx hb hF hB hl
  replace hl : lv_has ls 1 [(0, .ref b)] := hl
  refine lv_aload_n hx hb dX1_mirror_0 rfl (lv_at hl 0 rfl) ?_
  refine lv_aload_n hx hb dX1_mirror_1 rfl (lv_at hl 0 rfl) ?_
  refine zget zf_X1_19 hF hB 0 rfl rfl dX1_mirror_2 ?_
  refine lv_lneg hx hb dX1_mirror_5 ?_
  refine zput_f zp_X1_19 hF hB 0 rfl (rfl) (rfl) (Nat.le_of_ble_eq_true rfl) dX1_mirror_6 ?_
  clear hB
  try clear locs
  try clear H
  intro H locs hB
  replace hB : zB D A s ([(b, .inr (1, nF (X.1, X.2.1, (-X.2.2.1), X.2.2.2.1, X.2.2.2.2)))]) H locs := hB
  refine lv_aload_n hx hb dX1_mirror_9 rfl (lv_at hl 0 rfl) ?_
  refine lv_aload_n hx hb dX1_mirror_10 rfl (lv_at hl 0 rfl) ?_
  refine zget zf_X1_22 hF hB 0 rfl rfl dX1_mirror_11 ?_
  refine lv_lneg hx hb dX1_mirror_14 ?_
  refine zput_f zp_X1_22 hF hB 0 rfl (rfl) (rfl) (Nat.le_of_ble_eq_true rfl) dX1_mirror_15 ?_
  clear hB
  try clear locs
  try clear H
  intro H locs hB
  replace hB : zB D A s ([(b, .inr (1, nF (X.1, X.2.1, (-X.2.2.1), (-X.2.2.2.1), X.2.2.2.2)))]) H locs := hB
  exact zretv hF hB () (trivial) (rfl) dX1_mirror_18 hQ

set_option maxHeartbeats 4000000 in
set_option maxRecDepth 100000 in
theorem c_X1_addWay (l : Launch) (D : va_G) (ka : Nat → ClassId) (kb : Nat → Nat) (b : Nat) (X : N5) (t : Int32) (a : Nat) (ha : a < 12) : zV l D ka kb yX1_addWay cX1_addWay 4 0 0 [.ref b, .int t, .int (nI a)] ([(b, .inr (1, nF X))]) (fun (_ : Unit) => True) (fun (_ : Unit) => [(b, .inr (1, nF (awN X t a)))]) := by
  refine zV.mk RX1 (by decide +kernel) rfl (Nat.le_of_ble_eq_true rfl) ?_
  intro p e s m below meth c A ls args Q hQ hx hb hF hB hl
  replace hl : lv_has ls 4 [(0, .ref b), (1, .int t), (2, .int (nI a))] := hl
  refine lv_iconst (v := 4) hx hb dX1_addWay_0 (by decide) ?_
  refine lv_iload_n hx hb dX1_addWay_1 rfl (lv_at hl 2 rfl) ?_
  refine lv_imul hx hb dX1_addWay_2 ?_
  refine ztopi (y := nI (4 * a)) (pk_mul 4 a) ?_
  refine lv_istore_n (lv' := [(3, .int (nI (4 * a))), (0, .ref b), (1, .int t), (2, .int (nI a))]) hx hb dX1_addWay_3 rfl hl (by decide) rfl ?_
  clear hl
  clear ls
  intro ls hl
  refine lv_aload_n hx hb dX1_addWay_4 rfl (lv_at hl 1 rfl) ?_
  refine lv_dup hx hb dX1_addWay_5 rfl ?_
  refine zget zf_X1_13 hF hB 0 rfl rfl dX1_addWay_6 ?_
  refine lv_iload_n hx hb dX1_addWay_9 rfl (lv_at hl 2 rfl) ?_
  refine lv_i2l (v := t.toInt64) hx hb dX1_addWay_10 rfl ?_
  refine zways_get hF hB dX1_addWay_11 ?_
  refine lv_iload_n hx hb dX1_addWay_14 rfl (lv_at hl 0 rfl) ?_
  refine zways_at hF hB (4 * a) (rfl) (by omega) dX1_addWay_15 ?_
  refine lv_i2l (v := (zways.getD (4 * a) 0).toInt64) hx hb dX1_addWay_16 rfl ?_
  refine lv_lmul hx hb dX1_addWay_17 ?_
  refine lv_ladd hx hb dX1_addWay_18 ?_
  refine zput_f zp_X1_13 hF hB 0 rfl (rfl) (rfl) (Nat.le_of_ble_eq_true rfl) dX1_addWay_19 ?_
  clear hB
  try clear locs
  try clear H
  intro H locs hB
  replace hB : zB D A s ([(b, .inr (1, nF ((X.1 + (t.toInt64 * (zways.getD (4 * a) 0).toInt64)), X.2.1, X.2.2.1, X.2.2.2.1, X.2.2.2.2)))]) H locs := hB
  refine lv_aload_n hx hb dX1_addWay_22 rfl (lv_at hl 1 rfl) ?_
  refine lv_dup hx hb dX1_addWay_23 rfl ?_
  refine zget zf_X1_16 hF hB 0 rfl rfl dX1_addWay_24 ?_
  refine lv_iload_n hx hb dX1_addWay_27 rfl (lv_at hl 2 rfl) ?_
  refine lv_i2l (v := t.toInt64) hx hb dX1_addWay_28 rfl ?_
  refine zways_get hF hB dX1_addWay_29 ?_
  refine lv_iload_n hx hb dX1_addWay_32 rfl (lv_at hl 0 rfl) ?_
  refine lv_iconst (v := 1) hx hb dX1_addWay_33 (by decide) ?_
  refine lv_iadd hx hb dX1_addWay_34 ?_
  refine ztopi (y := nI ((4 * a) + 1)) (nI_add (4 * a) 1) ?_
  refine zways_at hF hB ((4 * a) + 1) (rfl) (by omega) dX1_addWay_35 ?_
  refine lv_i2l (v := (zways.getD ((4 * a) + 1) 0).toInt64) hx hb dX1_addWay_36 rfl ?_
  refine lv_lmul hx hb dX1_addWay_37 ?_
  refine lv_ladd hx hb dX1_addWay_38 ?_
  refine zput_f zp_X1_16 hF hB 0 rfl (rfl) (rfl) (Nat.le_of_ble_eq_true rfl) dX1_addWay_39 ?_
  clear hB
  try clear locs
  try clear H
  intro H locs hB
  replace hB : zB D A s ([(b, .inr (1, nF ((X.1 + (t.toInt64 * (zways.getD (4 * a) 0).toInt64)), (X.2.1 + (t.toInt64 * (zways.getD ((4 * a) + 1) 0).toInt64)), X.2.2.1, X.2.2.2.1, X.2.2.2.2)))]) H locs := hB
  refine lv_aload_n hx hb dX1_addWay_42 rfl (lv_at hl 1 rfl) ?_
  refine lv_dup hx hb dX1_addWay_43 rfl ?_
  refine zget zf_X1_19 hF hB 0 rfl rfl dX1_addWay_44 ?_
  refine lv_iload_n hx hb dX1_addWay_47 rfl (lv_at hl 2 rfl) ?_
  refine lv_i2l (v := t.toInt64) hx hb dX1_addWay_48 rfl ?_
  refine zways_get hF hB dX1_addWay_49 ?_
  refine lv_iload_n hx hb dX1_addWay_52 rfl (lv_at hl 0 rfl) ?_
  refine lv_iconst (v := 2) hx hb dX1_addWay_53 (by decide) ?_
  refine lv_iadd hx hb dX1_addWay_54 ?_
  refine ztopi (y := nI ((4 * a) + 2)) (nI_add (4 * a) 2) ?_
  refine zways_at hF hB ((4 * a) + 2) (rfl) (by omega) dX1_addWay_55 ?_
  refine lv_i2l (v := (zways.getD ((4 * a) + 2) 0).toInt64) hx hb dX1_addWay_56 rfl ?_
  refine lv_lmul hx hb dX1_addWay_57 ?_
  refine lv_ladd hx hb dX1_addWay_58 ?_
  refine zput_f zp_X1_19 hF hB 0 rfl (rfl) (rfl) (Nat.le_of_ble_eq_true rfl) dX1_addWay_59 ?_
  clear hB
  try clear locs
  try clear H
  intro H locs hB
  replace hB : zB D A s ([(b, .inr (1, nF ((X.1 + (t.toInt64 * (zways.getD (4 * a) 0).toInt64)), (X.2.1 + (t.toInt64 * (zways.getD ((4 * a) + 1) 0).toInt64)), (X.2.2.1 + (t.toInt64 * (zways.getD ((4 * a) + 2) 0).toInt64)), X.2.2.2.1, X.2.2.2.2)))]) H locs := hB
  refine lv_aload_n hx hb dX1_addWay_62 rfl (lv_at hl 1 rfl) ?_
  refine lv_dup hx hb dX1_addWay_63 rfl ?_
  refine zget zf_X1_22 hF hB 0 rfl rfl dX1_addWay_64 ?_
  refine lv_iload_n hx hb dX1_addWay_67 rfl (lv_at hl 2 rfl) ?_
  refine lv_i2l (v := t.toInt64) hx hb dX1_addWay_68 rfl ?_
  refine zways_get hF hB dX1_addWay_69 ?_
  refine lv_iload_n hx hb dX1_addWay_72 rfl (lv_at hl 0 rfl) ?_
  refine lv_iconst (v := 3) hx hb dX1_addWay_73 (by decide) ?_
  refine lv_iadd hx hb dX1_addWay_74 ?_
  refine ztopi (y := nI ((4 * a) + 3)) (nI_add (4 * a) 3) ?_
  refine zways_at hF hB ((4 * a) + 3) (rfl) (by omega) dX1_addWay_75 ?_
  refine lv_i2l (v := (zways.getD ((4 * a) + 3) 0).toInt64) hx hb dX1_addWay_76 rfl ?_
  refine lv_lmul hx hb dX1_addWay_77 ?_
  refine lv_ladd hx hb dX1_addWay_78 ?_
  refine zput_f zp_X1_22 hF hB 0 rfl (rfl) (rfl) (Nat.le_of_ble_eq_true rfl) dX1_addWay_79 ?_
  clear hB
  try clear locs
  try clear H
  intro H locs hB
  replace hB : zB D A s ([(b, .inr (1, nF ((X.1 + (t.toInt64 * (zways.getD (4 * a) 0).toInt64)), (X.2.1 + (t.toInt64 * (zways.getD ((4 * a) + 1) 0).toInt64)), (X.2.2.1 + (t.toInt64 * (zways.getD ((4 * a) + 2) 0).toInt64)), (X.2.2.2.1 + (t.toInt64 * (zways.getD ((4 * a) + 3) 0).toInt64)), X.2.2.2.2)))]) H locs := hB
  exact zretv hF hB () (trivial) (rfl) dX1_addWay_82 hQ

set_option maxHeartbeats 4000000 in
set_option maxRecDepth 100000 in
theorem c_X1_common (l : Launch) (D : va_G) (ka : Nat → ClassId) (kb : Nat → Nat) (u : Nat) (x : Int64) (hu : u < 2 ^ 63) (h0 : 0 < u) : zL l D ka kb yX1_common cX1_common 11 1 60 [.long (lN u), .long x] ([]) (fun (r : Int64) (_ : Unit) => r = lN (Nat.gcd u x.toInt.natAbs)) (fun (_ : Unit) => []) := by
  refine zL.mk RX1 (by decide +kernel) rfl (Nat.le_of_ble_eq_true rfl) ?_
  intro p e s m below meth c A ls args Q hQ hx hb hF hB hl
  replace hl : lv_has ls 11 [(0, .long (lN u)), (2, .long x)] := hl
  refine lv_lload_n hx hb dX1_common_0 rfl (lv_at hl 0 rfl) ?_
  refine lv_lstore (lv' := [(4, .long (lN u)), (0, .long (lN u)), (2, .long x)]) hx hb dX1_common_1 hl (by decide) rfl ?_
  clear hl
  clear ls
  intro ls hl
  refine lv_lload hx hb dX1_common_3 (lv_at hl 0 rfl) ?_
  refine lv_lconst (v := 0) hx hb dX1_common_5 (by decide) ?_
  refine W.lcmp hx hb dX1_common_6 ?_
  refine lv_if_le (tgt := 20) hx hb dX1_common_7 (by decide) (fun h7 => ?_) (fun h7 => ?_)
  · skip
    replace h7 := (lg_cmp_le _ _).mp h7
    exact absurd ((lN_pos hu).mpr h0) (Int64.not_lt.mpr h7)
  · skip
    replace h7 := (fun e9 => h7 ((lg_cmp_le _ _).mpr e9))
    refine lv_lload_n hx hb dX1_common_10 rfl (lv_at hl 2 rfl) ?_
    refine lv_lload hx hb dX1_common_11 (lv_at hl 0 rfl) ?_
    refine lv_lrem hx hb dX1_common_13 (lN_ne0 hu h0) ?_
    refine zabsl ww_6_22 hF hl.1 (Nat.le_of_ble_eq_true rfl) (Nat.le_of_ble_eq_true rfl) ⟨Nat.le_refl _, Nat.le_refl _⟩ dX1_common_14 ?_
    refine ztopl (y := lN (x.toInt.natAbs % u)) (abs_rem hu h0) ?_
    refine lv_goto (tgt := 21) hx hb dX1_common_17 (by decide) ?_
    refine lv_lstore (lv' := [(6, .long (lN (x.toInt.natAbs % u))), (4, .long (lN u)), (0, .long (lN u)), (2, .long x)]) hx hb dX1_common_21 hl (by decide) rfl ?_
    clear hl
    clear ls
    intro ls hl
    refine lv_iconst (v := 0) hx hb dX1_common_23 (by decide) ?_
    refine lv_istore (lv' := [(8, .int (0 : Int32)), (6, .long (lN (x.toInt.natAbs % u))), (4, .long (lN u)), (0, .long (lN u)), (2, .long x)]) hx hb dX1_common_24 hl (by decide) rfl ?_
    clear hl
    clear ls
    intro ls hl
    have lp26 : ∀ (fl : Nat) (k9 : Nat) (u9 : Nat) (v9 : Nat), (hk : k9 ≤ 1000) → (hu9 : u9 < 2 ^ 63) → (hv : v9 < 2 ^ 63) → (hi : gInv k9 u9 v9) → (hg : Nat.gcd u9 v9 = Nat.gcd u x.toInt.natAbs) → 1000 - k9 < fl → ∀ (H : Heap) (locs : List Loc), zB D A s ([]) H locs → ∀ ls : Array Slot, lv_has ls 11 [(8, .int (nI k9)), (6, .long (lN v9)), (4, .long (lN u9))] → W p l e (zRm 1 60 0 0) s m args below meth c H locs 0 0 Q (F0 m 26 ls []) := by
      intro fl
      induction fl with
      | zero => intro k9 u9 v9 hk hu9 hv hi hg hfl; exact absurd hfl (Nat.not_lt_zero _)
      | succ fl ih26 =>
        intro k9 u9 v9 hk hu9 hv hi hg hfl26 H locs hB ls hl
        refine lv_lload hx hb dX1_common_26 (lv_at hl 1 rfl) ?_
        refine lv_lconst (v := 0) hx hb dX1_common_28 (by decide) ?_
        refine W.lcmp hx hb dX1_common_29 ?_
        refine lv_if_le (tgt := 62) hx hb dX1_common_30 (by decide) (fun h30 => ?_) (fun h30 => ?_)
        · skip
          replace h30 := (lg_cmp_le _ _).mp h30
          have hv0 : v9 = 0 := Nat.eq_zero_of_not_pos (fun e8 => absurd ((lN_pos hv).mpr e8) (Int64.not_lt.mpr h30))
          refine lv_lload hx hb dX1_common_62 (lv_at hl 2 rfl) ?_
          exact zretl hF hB () (by subst hv0; rw [← hg, Nat.gcd_zero_right]) (rfl) dX1_common_64 hQ
        · skip
          replace h30 := (fun e9 => h30 ((lg_cmp_le _ _).mpr e9))
          have hv0 : 0 < v9 := (lN_pos hv).mp (Int64.not_le.mp h30)
          refine lv_iload hx hb dX1_common_33 (lv_at hl 0 rfl) ?_
          refine lv_sipush (v := 1000) hx hb dX1_common_35 (by decide) ?_
          refine lv_icmp_ge (tgt := 62) hx hb dX1_common_38 (by decide) (fun h38 => ?_) (fun h38 => ?_)
          · skip
            have hv1 : v9 = 0 := gInv_end hi (by have := (nI_leI (a := 1000) (b := k9) (by decide) (by omega)).mp h38; omega)
            omega
          · skip
            have hk2 : k9 < 1000 := by have := mt (nI_leI (a := 1000) (b := k9) (by decide) (by omega)).mpr h38; omega
            refine lv_lload hx hb dX1_common_41 (lv_at hl 2 rfl) ?_
            refine lv_lload hx hb dX1_common_43 (lv_at hl 1 rfl) ?_
            refine lv_lrem hx hb dX1_common_45 (lN_ne0 hv hv0) ?_
            refine ztopl (y := lN (u9 % v9)) (lN_rem hu9 hv hv0) ?_
            refine lv_lstore (lv' := [(9, .long (lN (u9 % v9))), (8, .int (nI k9)), (6, .long (lN v9)), (4, .long (lN u9))]) hx hb dX1_common_46 hl (by decide) rfl ?_
            clear hl
            clear ls
            intro ls hl
            refine lv_lload hx hb dX1_common_48 (lv_at hl 2 rfl) ?_
            refine lv_lstore (lv' := [(4, .long (lN v9)), (9, .long (lN (u9 % v9))), (8, .int (nI k9)), (6, .long (lN v9))]) hx hb dX1_common_50 hl (by decide) rfl ?_
            clear hl
            clear ls
            intro ls hl
            refine lv_lload hx hb dX1_common_52 (lv_at hl 1 rfl) ?_
            refine lv_lstore (lv' := [(6, .long (lN (u9 % v9))), (4, .long (lN v9)), (9, .long (lN (u9 % v9))), (8, .int (nI k9))]) hx hb dX1_common_54 hl (by decide) rfl ?_
            clear hl
            clear ls
            intro ls hl
            refine lv_iinc (v := nI (k9 + 1)) (lv' := [(8, .int (nI (k9 + 1))), (6, .long (lN (u9 % v9))), (4, .long (lN v9)), (9, .long (lN (u9 % v9)))]) hx hb dX1_common_56 hl (k := 3) rfl (nI_1 _) (by decide) rfl ?_
            clear hl
            clear ls
            intro ls hl
            refine lv_goto (tgt := 26) hx hb dX1_common_59 (by decide) ?_
            exact ih26 (k9 + 1) v9 (u9 % v9) (by omega) (hv) (Nat.lt_of_le_of_lt (Nat.mod_le u9 v9) hu9) (gInv_step hi hv0) (by rw [← hg, Nat.gcd_comm u9 v9, Nat.gcd_rec v9 u9, Nat.gcd_comm]) (by omega) _ _ (hB) _ (lv_sub hl [0, 1, 2] rfl)
    exact lp26 (1000 - 0 + 1) 0 u (x.toInt.natAbs % u) (by decide) (hu) (Nat.lt_trans (Nat.mod_lt _ h0) hu) (gInv_0 (Nat.le_of_lt hu) (Nat.le_of_lt (Nat.lt_trans (Nat.mod_lt _ h0) hu))) (by rw [Nat.gcd_comm u (x.toInt.natAbs % u), ← Nat.gcd_rec u x.toInt.natAbs]) (by omega) _ _ (hB) _ (lv_sub hl [0, 1, 2] rfl)

set_option maxHeartbeats 4000000 in
set_option maxRecDepth 100000 in
theorem c_X1_shorten (l : Launch) (D : va_G) (ka : Nat → ClassId) (kb : Nat → Nat) (b : Nat) (X : N5) (hd : 0 < X.2.2.2.2.toInt) : zV l D ka kb yX1_shorten cX1_shorten 3 2 90 [.ref b] ([(b, .inr (1, nF X))]) (fun (_ : Unit) => True) (fun (_ : Unit) => [(b, .inr (1, nF (lowN X.1 X.2.1 X.2.2.1 X.2.2.2.1 X.2.2.2.2)))]) := by
  refine zV.mk RX1 (by decide +kernel) rfl (Nat.le_of_ble_eq_true rfl) ?_
  intro p e s m below meth c A ls args Q hQ hx hb hF hB hl
  replace hl : lv_has ls 3 [(0, .ref b)] := hl
  have p0 : 0 < X.2.2.2.2.toInt.natAbs ∧ X.2.2.2.2.toInt.natAbs < 2 ^ 63 := ⟨by omega, sh_b hd⟩
  have p1 := sh_g p0 X.1.toInt.natAbs
  have p2 := sh_g p1 X.2.1.toInt.natAbs
  have p3 := sh_g p2 X.2.2.1.toInt.natAbs
  have p4 := sh_g p3 X.2.2.2.1.toInt.natAbs
  refine lv_aload_n hx hb dX1_shorten_0 rfl (lv_at hl 0 rfl) ?_
  refine zget zf_X1_7 hF hB 0 rfl rfl dX1_shorten_1 ?_
  refine ztopl (y := lN X.2.2.2.2.toInt.natAbs) (lN_of (by omega)) ?_
  refine lv_aload_n hx hb dX1_shorten_4 rfl (lv_at hl 0 rfl) ?_
  refine zget zf_X1_13 hF hB 0 rfl rfl dX1_shorten_5 ?_
  refine zSl zm_X1_48 hF hB (c_X1_common l D ka kb X.2.2.2.2.toInt.natAbs X.1 (p0.2) (p0.1)) [] rfl (by decide) [] (fun _ => rfl) rfl rfl ⟨Nat.le_of_ble_eq_true rfl, Nat.le_of_ble_eq_true rfl⟩ rfl hl.1 (Nat.le_of_ble_eq_true rfl) ⟨Nat.le_refl _, Nat.le_refl _⟩ dX1_shorten_8 ?_
  clear hB
  try clear locs
  try clear H
  intro r1 u1 H locs hp hB
  obtain rfl : r1 = lN (Nat.gcd X.2.2.2.2.toInt.natAbs X.1.toInt.natAbs) := hp
  replace hB : zB D A s ([(b, .inr (1, nF X))]) H locs := hB
  refine lv_aload_n hx hb dX1_shorten_11 rfl (lv_at hl 0 rfl) ?_
  refine zget zf_X1_16 hF hB 0 rfl rfl dX1_shorten_12 ?_
  refine zSl zm_X1_48 hF hB (c_X1_common l D ka kb (Nat.gcd X.2.2.2.2.toInt.natAbs X.1.toInt.natAbs) X.2.1 (p1.2) (p1.1)) [] rfl (by decide) [] (fun _ => rfl) rfl rfl ⟨Nat.le_of_ble_eq_true rfl, Nat.le_of_ble_eq_true rfl⟩ rfl hl.1 (Nat.le_of_ble_eq_true rfl) ⟨Nat.le_refl _, Nat.le_refl _⟩ dX1_shorten_15 ?_
  clear hB
  try clear locs
  try clear H
  intro r2 u2 H locs hp hB
  obtain rfl : r2 = lN (Nat.gcd (Nat.gcd X.2.2.2.2.toInt.natAbs X.1.toInt.natAbs) X.2.1.toInt.natAbs) := hp
  replace hB : zB D A s ([(b, .inr (1, nF X))]) H locs := hB
  refine lv_aload_n hx hb dX1_shorten_18 rfl (lv_at hl 0 rfl) ?_
  refine zget zf_X1_19 hF hB 0 rfl rfl dX1_shorten_19 ?_
  refine zSl zm_X1_48 hF hB (c_X1_common l D ka kb (Nat.gcd (Nat.gcd X.2.2.2.2.toInt.natAbs X.1.toInt.natAbs) X.2.1.toInt.natAbs) X.2.2.1 (p2.2) (p2.1)) [] rfl (by decide) [] (fun _ => rfl) rfl rfl ⟨Nat.le_of_ble_eq_true rfl, Nat.le_of_ble_eq_true rfl⟩ rfl hl.1 (Nat.le_of_ble_eq_true rfl) ⟨Nat.le_refl _, Nat.le_refl _⟩ dX1_shorten_22 ?_
  clear hB
  try clear locs
  try clear H
  intro r3 u3 H locs hp hB
  obtain rfl : r3 = lN (Nat.gcd (Nat.gcd (Nat.gcd X.2.2.2.2.toInt.natAbs X.1.toInt.natAbs) X.2.1.toInt.natAbs) X.2.2.1.toInt.natAbs) := hp
  replace hB : zB D A s ([(b, .inr (1, nF X))]) H locs := hB
  refine lv_aload_n hx hb dX1_shorten_25 rfl (lv_at hl 0 rfl) ?_
  refine zget zf_X1_22 hF hB 0 rfl rfl dX1_shorten_26 ?_
  refine zSl zm_X1_48 hF hB (c_X1_common l D ka kb (Nat.gcd (Nat.gcd (Nat.gcd X.2.2.2.2.toInt.natAbs X.1.toInt.natAbs) X.2.1.toInt.natAbs) X.2.2.1.toInt.natAbs) X.2.2.2.1 (p3.2) (p3.1)) [] rfl (by decide) [] (fun _ => rfl) rfl rfl ⟨Nat.le_of_ble_eq_true rfl, Nat.le_of_ble_eq_true rfl⟩ rfl hl.1 (Nat.le_of_ble_eq_true rfl) ⟨Nat.le_refl _, Nat.le_refl _⟩ dX1_shorten_29 ?_
  clear hB
  try clear locs
  try clear H
  intro r4 u4 H locs hp hB
  obtain rfl : r4 = lN (Nat.gcd (Nat.gcd (Nat.gcd (Nat.gcd X.2.2.2.2.toInt.natAbs X.1.toInt.natAbs) X.2.1.toInt.natAbs) X.2.2.1.toInt.natAbs) X.2.2.2.1.toInt.natAbs) := hp
  replace hB : zB D A s ([(b, .inr (1, nF X))]) H locs := hB
  refine ztopl (y := lN (gc X.1 X.2.1 X.2.2.1 X.2.2.2.1 X.2.2.2.2)) (rfl) ?_
  refine lv_lstore_n (lv' := [(1, .long (lN (gc X.1 X.2.1 X.2.2.1 X.2.2.2.1 X.2.2.2.2))), (0, .ref b)]) hx hb dX1_shorten_32 rfl hl (by decide) rfl ?_
  clear hl
  clear ls
  intro ls hl
  refine lv_lload_n hx hb dX1_shorten_33 rfl (lv_at hl 0 rfl) ?_
  refine lv_lconst (v := 1) hx hb dX1_shorten_34 (by decide) ?_
  refine W.lcmp hx hb dX1_shorten_35 ?_
  refine lv_if_le (tgt := 73) hx hb dX1_shorten_36 (by decide) (fun h36 => ?_) (fun h36 => ?_)
  · skip
    replace h36 := (lg_cmp_le _ _).mp h36
    exact zretv hF hB () (trivial) (by rw [lowN_g1 p4 (Int64.not_lt.mp (Int64.not_lt.mpr h36))]) dX1_shorten_73 hQ
  · skip
    replace h36 := (fun e9 => h36 ((lg_cmp_le _ _).mpr e9))
    refine lv_aload_n hx hb dX1_shorten_39 rfl (lv_at hl 1 rfl) ?_
    refine lv_aload_n hx hb dX1_shorten_40 rfl (lv_at hl 1 rfl) ?_
    refine zget zf_X1_13 hF hB 0 rfl rfl dX1_shorten_41 ?_
    refine lv_lload_n hx hb dX1_shorten_44 rfl (lv_at hl 0 rfl) ?_
    refine lv_ldiv hx hb dX1_shorten_45 (lN_ne0 p4.2 p4.1) ?_
    refine lv_aload_n hx hb dX1_shorten_46 rfl (lv_at hl 1 rfl) ?_
    refine zget zf_X1_16 hF hB 0 rfl rfl dX1_shorten_47 ?_
    refine lv_lload_n hx hb dX1_shorten_50 rfl (lv_at hl 0 rfl) ?_
    refine lv_ldiv hx hb dX1_shorten_51 (lN_ne0 p4.2 p4.1) ?_
    refine lv_aload_n hx hb dX1_shorten_52 rfl (lv_at hl 1 rfl) ?_
    refine zget zf_X1_19 hF hB 0 rfl rfl dX1_shorten_53 ?_
    refine lv_lload_n hx hb dX1_shorten_56 rfl (lv_at hl 0 rfl) ?_
    refine lv_ldiv hx hb dX1_shorten_57 (lN_ne0 p4.2 p4.1) ?_
    refine lv_aload_n hx hb dX1_shorten_58 rfl (lv_at hl 1 rfl) ?_
    refine zget zf_X1_22 hF hB 0 rfl rfl dX1_shorten_59 ?_
    refine lv_lload_n hx hb dX1_shorten_62 rfl (lv_at hl 0 rfl) ?_
    refine lv_ldiv hx hb dX1_shorten_63 (lN_ne0 p4.2 p4.1) ?_
    refine lv_aload_n hx hb dX1_shorten_64 rfl (lv_at hl 1 rfl) ?_
    refine zget zf_X1_7 hF hB 0 rfl rfl dX1_shorten_65 ?_
    refine lv_lload_n hx hb dX1_shorten_68 rfl (lv_at hl 0 rfl) ?_
    refine lv_ldiv hx hb dX1_shorten_69 (lN_ne0 p4.2 p4.1) ?_
    refine zVv zm_X1_25 hF hB (c_X1_become l D ka kb b X (X.1 / lN (gc X.1 X.2.1 X.2.2.1 X.2.2.2.1 X.2.2.2.2)) (X.2.1 / lN (gc X.1 X.2.1 X.2.2.1 X.2.2.2.1 X.2.2.2.2)) (X.2.2.1 / lN (gc X.1 X.2.1 X.2.2.1 X.2.2.2.1 X.2.2.2.2)) (X.2.2.2.1 / lN (gc X.1 X.2.1 X.2.2.1 X.2.2.2.1 X.2.2.2.2)) (X.2.2.2.2 / lN (gc X.1 X.2.1 X.2.2.1 X.2.2.2.1 X.2.2.2.2)) ) [0] rfl (by decide) [b] (fun _ => rfl) rfl 0 1 rfl rfl rfl ⟨Nat.le_of_ble_eq_true rfl, Nat.le_of_ble_eq_true rfl⟩ rfl hl.1 (Nat.le_of_ble_eq_true rfl) ⟨Nat.le_refl _, Nat.le_refl _⟩ dX1_shorten_70 ?_
    clear hB
    try clear locs
    try clear H
    intro u5 H locs hp hB
    replace hB : zB D A s ([(b, .inr (1, nF ((X.1 / lN (gc X.1 X.2.1 X.2.2.1 X.2.2.2.1 X.2.2.2.2)), (X.2.1 / lN (gc X.1 X.2.1 X.2.2.1 X.2.2.2.1 X.2.2.2.2)), (X.2.2.1 / lN (gc X.1 X.2.1 X.2.2.1 X.2.2.2.1 X.2.2.2.2)), (X.2.2.2.1 / lN (gc X.1 X.2.1 X.2.2.1 X.2.2.2.1 X.2.2.2.2)), (X.2.2.2.2 / lN (gc X.1 X.2.1 X.2.2.1 X.2.2.2.1 X.2.2.2.2)))))]) H locs := hB
    exact zretv hF hB () (trivial) (rfl) dX1_shorten_73 hQ

set_option maxHeartbeats 4000000 in
set_option maxRecDepth 100000 in
theorem c_X1_becomeWay (l : Launch) (D : va_G) (ka : Nat → ClassId) (kb : Nat → Nat) (b : Nat) (X : N5) (t : Int32) (a : Nat) (ha : a < 12) : zV l D ka kb yX1_becomeWay cX1_becomeWay 3 3 112 [.ref b, .int t, .int (nI a)] ([(b, .inr (1, nF X))]) (fun (_ : Unit) => True) (fun (_ : Unit) => [(b, .inr (1, nF (bwN t a)))]) := by
  refine zV.mk RX1 (by decide +kernel) rfl (Nat.le_of_ble_eq_true rfl) ?_
  intro p e s m below meth c A ls args Q hQ hx hb hF hB hl
  replace hl : lv_has ls 3 [(0, .ref b), (1, .int t), (2, .int (nI a))] := hl
  refine lv_aload_n hx hb dX1_becomeWay_0 rfl (lv_at hl 0 rfl) ?_
  refine lv_lconst (v := 0) hx hb dX1_becomeWay_1 (by decide) ?_
  refine lv_lconst (v := 0) hx hb dX1_becomeWay_2 (by decide) ?_
  refine lv_lconst (v := 0) hx hb dX1_becomeWay_3 (by decide) ?_
  refine lv_lconst (v := 0) hx hb dX1_becomeWay_4 (by decide) ?_
  refine zldc2 (v := (2 : Int64)) ww_16_13 hF dX1_becomeWay_5 ?_
  refine zVv zm_X1_25 hF hB (c_X1_become l D ka kb b X (0 : Int64) (0 : Int64) (0 : Int64) (0 : Int64) (2 : Int64) ) [0] rfl (by decide) [b] (fun _ => rfl) rfl 0 1 rfl rfl rfl ⟨Nat.le_of_ble_eq_true rfl, Nat.le_of_ble_eq_true rfl⟩ rfl hl.1 (Nat.le_of_ble_eq_true rfl) ⟨Nat.le_refl _, Nat.le_refl _⟩ dX1_becomeWay_8 ?_
  clear hB
  try clear locs
  try clear H
  intro u1 H locs hp hB
  replace hB : zB D A s ([(b, .inr (1, nF ((0 : Int64), (0 : Int64), (0 : Int64), (0 : Int64), (2 : Int64))))]) H locs := hB
  refine lv_aload_n hx hb dX1_becomeWay_11 rfl (lv_at hl 0 rfl) ?_
  refine lv_iload_n hx hb dX1_becomeWay_12 rfl (lv_at hl 1 rfl) ?_
  refine lv_iload_n hx hb dX1_becomeWay_13 rfl (lv_at hl 2 rfl) ?_
  refine zVv zm_X1_41 hF hB (c_X1_addWay l D ka kb b ((0 : Int64), (0 : Int64), (0 : Int64), (0 : Int64), (2 : Int64)) t a (ha)) [0] rfl (by decide) [b] (fun _ => rfl) rfl 0 1 rfl rfl rfl ⟨Nat.le_of_ble_eq_true rfl, Nat.le_of_ble_eq_true rfl⟩ rfl hl.1 (Nat.le_of_ble_eq_true rfl) ⟨Nat.le_refl _, Nat.le_refl _⟩ dX1_becomeWay_14 ?_
  clear hB
  try clear locs
  try clear H
  intro u2 H locs hp hB
  replace hB : zB D A s ([(b, .inr (1, nF (awN ((0 : Int64), (0 : Int64), (0 : Int64), (0 : Int64), (2 : Int64)) t a)))]) H locs := hB
  refine lv_aload_n hx hb dX1_becomeWay_17 rfl (lv_at hl 0 rfl) ?_
  refine zVv zm_X1_45 hF hB (c_X1_shorten l D ka kb b (awN ((0 : Int64), (0 : Int64), (0 : Int64), (0 : Int64), (2 : Int64)) t a) (show 0 < (2 : Int64).toInt by decide)) [0] rfl (by decide) [b] (fun _ => rfl) rfl 0 1 rfl rfl rfl ⟨Nat.le_of_ble_eq_true rfl, Nat.le_of_ble_eq_true rfl⟩ rfl hl.1 (Nat.le_of_ble_eq_true rfl) ⟨Nat.le_refl _, Nat.le_refl _⟩ dX1_becomeWay_18 ?_
  clear hB
  try clear locs
  try clear H
  intro u3 H locs hp hB
  replace hB : zB D A s ([(b, .inr (1, nF (lowN (awN ((0 : Int64), (0 : Int64), (0 : Int64), (0 : Int64), (2 : Int64)) t a).1 (awN ((0 : Int64), (0 : Int64), (0 : Int64), (0 : Int64), (2 : Int64)) t a).2.1 (awN ((0 : Int64), (0 : Int64), (0 : Int64), (0 : Int64), (2 : Int64)) t a).2.2.1 (awN ((0 : Int64), (0 : Int64), (0 : Int64), (0 : Int64), (2 : Int64)) t a).2.2.2.1 (awN ((0 : Int64), (0 : Int64), (0 : Int64), (0 : Int64), (2 : Int64)) t a).2.2.2.2)))]) H locs := hB
  exact zretv hF hB () (trivial) (rfl) dX1_becomeWay_21 hQ

set_option maxHeartbeats 4000000 in
set_option maxRecDepth 100000 in
theorem c_X1_take (l : Launch) (D : va_G) (ka : Nat → ClassId) (kb : Nat → Nat) (na : Nat → Nat) (N : Nat → N5) (i : Nat) (j : Nat) (hi : i < 41) (hj : j < 41) : zV l D ka kb yX1_take cX1_take 2 1 30 [.ref (na i), .ref (na j)] ([] ++ nP na N) (fun (_ : Unit) => True) (fun (_ : Unit) => [] ++ nP na (upN N i (N j))) := by
  refine zV.mk RX1 (by decide +kernel) rfl (Nat.le_of_ble_eq_true rfl) ?_
  intro p e s m below meth c A ls args Q hQ hx hb hF hB hl
  replace hl : lv_has ls 2 [(0, .ref (na i)), (1, .ref (na j))] := hl
  refine lv_aload_n hx hb dX1_take_0 rfl (lv_at hl 0 rfl) ?_
  refine lv_aload_n hx hb dX1_take_1 rfl (lv_at hl 1 rfl) ?_
  refine zgetN zf_X1_13 hF hB j (by omega) rfl dX1_take_2 ?_
  refine lv_aload_n hx hb dX1_take_5 rfl (lv_at hl 1 rfl) ?_
  refine zgetN zf_X1_16 hF hB j (by omega) rfl dX1_take_6 ?_
  refine lv_aload_n hx hb dX1_take_9 rfl (lv_at hl 1 rfl) ?_
  refine zgetN zf_X1_19 hF hB j (by omega) rfl dX1_take_10 ?_
  refine lv_aload_n hx hb dX1_take_13 rfl (lv_at hl 1 rfl) ?_
  refine zgetN zf_X1_22 hF hB j (by omega) rfl dX1_take_14 ?_
  refine lv_aload_n hx hb dX1_take_17 rfl (lv_at hl 1 rfl) ?_
  refine zgetN zf_X1_7 hF hB j (by omega) rfl dX1_take_18 ?_
  refine zVv zm_X1_25 hF hB (c_X1_become l D ka kb (na i) (N i) ((N j).1) ((N j).2.1) ((N j).2.2.1) ((N j).2.2.2.1) ((N j).2.2.2.2) ) [0 + i] (zsel_num rfl (by omega)) (va_nd_1 _) [na i] (fun _ => rfl) rfl (0 + i) 1 rfl (nP_atn rfl (by omega)) rfl ⟨Nat.le_of_ble_eq_true rfl, Nat.le_of_ble_eq_true rfl⟩ rfl hl.1 (Nat.le_of_ble_eq_true rfl) ⟨Nat.le_refl _, Nat.le_refl _⟩ dX1_take_21 ?_
  clear hB
  try clear locs
  try clear H
  intro u1 H locs hp hB
  replace hB : zB D A s ([] ++ nP na (upN N i (N j))) H locs := zB_num (X := (N j)) hB rfl (by omega)
  exact zretv hF hB () (trivial) (rfl) dX1_take_24 hQ

