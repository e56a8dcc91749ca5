noncomputable def exK (p b r : Int32) : Bool := dB (inI p 2 = true ∧ inI b 2 = true ∧ inI r 6 = true)
noncomputable def exW (p b r t : Int32) (m a : Nat → Int32) (G : Nat → N5) : Int32 × Option (Nat × N5) :=
  if exK p b r = false then (-2, none) else
  if ¬ (kpB t 0 = true ∧ kpB t (aN p + 1) = true) then (-3, none) else
  if efO G m a (aN p) (aN b) = true then (-5, none) else
  (1, some (aN r, efV G m a (aN p) (aN b)))
set_option maxHeartbeats 4000000 in
set_option maxRecDepth 100000 in
theorem c_X8_effectTo (l : Launch) (D : va_G) (ka : Nat → ClassId) (kb : Nat → Nat) (q : Nat) (ad : Nat → Nat) (z : mZ) (nu : Nat → Int64) (pm : Nat → Int32) (pa : Nat → Int32) (t : Nat) (p9 : Nat) (b : Nat) (ht : t < 40) (hpl : p9 < 2) (hb2 : b < 2) (hd8 : 0 < (getN nu (6 + 2 * (p9 + 1) + b)).2.2.2.2.toInt) (hd6 : 0 < (getN nu (6 + b)).2.2.2.2.toInt) (hm9 : 1 ≤ (pm (p9 + 1)).toInt ∧ (pm (p9 + 1)).toInt ≤ 99) (ha9 : ∃ a, a < 12 ∧ pa (p9 + 1) = nI a) : zV l D ka kb yX8_effectTo cX8_effectTo 4 5 167 [.ref q, .int (nI t), .int (nI p9), .int (nI b)] ([(q, .inr (8, mO ad false z)), ((ad 3), .inl (ka 1, 200, .inr (.inl nu))), ((ad 12), .inl (ka 0, 3, .inl pm)), ((ad 13), .inl (ka 0, 3, .inl pa))]) (fun (nu2 : Nat → Int64) => keepN [20, 21, 30, 31, 32, 33, 34, 35, 36, 37, t] nu nu2 ∧ (efO (getN nu) pm pa p9 b = false → getN nu2 t = efV (getN nu) pm pa p9 b)) (fun (nu2 : Nat → Int64) => [(q, .inr (8, mO ad (efO (getN nu) pm pa p9 b) z)), ((ad 3), .inl (ka 1, 200, .inr (.inl nu2))), ((ad 12), .inl (ka 0, 3, .inl pm)), ((ad 13), .inl (ka 0, 3, .inl pa))]) := by
  refine zV.mk RX8 (by decide +kernel) rfl (Nat.le_of_ble_eq_true rfl) ?_
  intro p e s m below meth c A ls args Q hQ hx hb hF hB hl
  replace hl : lv_has ls 4 [(0, .ref q), (1, .int (nI t)), (2, .int (nI p9)), (3, .int (nI b))] := hl
  obtain ⟨a8, ha8, ha82⟩ := ha9
  have ra8 : pa (p9 + 1) = nI (aN (pa (p9 + 1))) := by rw [ha82, aNn ha8 (by decide)]
  have ra9 : aN (pa (p9 + 1)) < 12 := by rw [ha82, aNn ha8 (by decide)]; exact ha8
  refine lv_aload_n hx hb dX8_effectTo_0 rfl (lv_at hl 0 rfl) ?_
  refine lv_bipush (v := 20) hx hb dX8_effectTo_1 (by decide) ?_
  refine lv_bipush (v := 6) hx hb dX8_effectTo_3 (by decide) ?_
  refine lv_iconst (v := 2) hx hb dX8_effectTo_5 (by decide) ?_
  refine lv_iload_n hx hb dX8_effectTo_6 rfl (lv_at hl 2 rfl) ?_
  refine lv_iconst (v := 1) hx hb dX8_effectTo_7 (by decide) ?_
  refine lv_iadd hx hb dX8_effectTo_8 ?_
  refine ztopi (y := nI (p9 + 1)) (nI_add p9 1) ?_
  refine lv_imul hx hb dX8_effectTo_9 ?_
  refine ztopi (y := nI (2 * (p9 + 1))) (pk_mul 2 (p9 + 1)) ?_
  refine lv_iadd hx hb dX8_effectTo_10 ?_
  refine ztopi (y := nI (6 + (2 * (p9 + 1)))) (nI_add 6 (2 * (p9 + 1))) ?_
  refine lv_iload_n hx hb dX8_effectTo_11 rfl (lv_at hl 3 rfl) ?_
  refine lv_iadd hx hb dX8_effectTo_12 ?_
  refine ztopi (y := nI ((6 + (2 * (p9 + 1))) + b)) (nI_add (6 + (2 * (p9 + 1))) b) ?_
  refine lv_bipush (v := 6) hx hb dX8_effectTo_13 (by decide) ?_
  refine lv_iload_n hx hb dX8_effectTo_15 rfl (lv_at hl 3 rfl) ?_
  refine lv_iadd hx hb dX8_effectTo_16 ?_
  refine ztopi (y := nI (6 + b)) (nI_add 6 b) ?_
  refine lv_iconst (v := 1) hx hb dX8_effectTo_17 (by decide) ?_
  refine zVv zm_X8_170 hF hB (c_X8_sum l D ka kb q ad false z nu 20 ((6 + (2 * (p9 + 1))) + b) (6 + b) true (by decide) (by omega) (by omega) (hd8) (hd6)) [0, 1] rfl (by decide) [q, (ad 3)] (fun _ => rfl) rfl 0 8 rfl rfl rfl ⟨Nat.le_of_ble_eq_true rfl, Nat.le_of_ble_eq_true rfl⟩ rfl hl.1 (Nat.le_of_ble_eq_true rfl) ⟨Nat.le_refl _, Nat.le_refl _⟩ dX8_effectTo_18 ?_
  clear hB
  try clear locs
  try clear H
  intro u1 H locs hp hB
  replace hB : zB D A s ([(q, .inr (8, mO ad (false || sumO true (getN nu ((6 + (2 * (p9 + 1))) + b)) (getN nu (6 + b))) z)), ((ad 3), .inl (ka 1, 200, .inr (.inl (if (false || sumO true (getN nu ((6 + (2 * (p9 + 1))) + b)) (getN nu (6 + b))) = true then nu else setN nu 20 (sumV true (getN nu ((6 + (2 * (p9 + 1))) + b)) (getN nu (6 + b))))))), ((ad 12), .inl (ka 0, 3, .inl pm)), ((ad 13), .inl (ka 0, 3, .inl pa))]) H locs := hB
  generalize hn1 : (if (false || sumO true (getN nu ((6 + (2 * (p9 + 1))) + b)) (getN nu (6 + b))) = true then nu else setN nu 20 (sumV true (getN nu ((6 + (2 * (p9 + 1))) + b)) (getN nu (6 + b)))) = n1 at hB
  have K1 : keepN [20, 21, 30, 31, 32, 33, 34, 35, 36, 37, t] nu n1 := by rw [← hn1]; split; exact keepN.rf; exact keepN.rf.set (by simp) _
  refine lv_aload_n hx hb dX8_effectTo_21 rfl (lv_at hl 0 rfl) ?_
  refine lv_bipush (v := 21) hx hb dX8_effectTo_22 (by decide) ?_
  refine lv_aload_n hx hb dX8_effectTo_24 rfl (lv_at hl 0 rfl) ?_
  refine zget zf_X8_50 hF hB 0 rfl rfl dX8_effectTo_25 ?_
  refine lv_iload_n hx hb dX8_effectTo_28 rfl (lv_at hl 2 rfl) ?_
  refine lv_iconst (v := 1) hx hb dX8_effectTo_29 (by decide) ?_
  refine lv_iadd hx hb dX8_effectTo_30 ?_
  refine ztopi (y := nI (p9 + 1)) (nI_add p9 1) ?_
  refine ziald hF hB 3 rfl (p9 + 1) (rfl) (by omega) (by decide) (v := (nI (aN (pa (p9 + 1))))) (ra8) dX8_effectTo_31 ?_
  refine lv_aload_n hx hb dX8_effectTo_32 rfl (lv_at hl 0 rfl) ?_
  refine zget zf_X8_47 hF hB 0 rfl rfl dX8_effectTo_33 ?_
  refine lv_iload_n hx hb dX8_effectTo_36 rfl (lv_at hl 2 rfl) ?_
  refine lv_iconst (v := 1) hx hb dX8_effectTo_37 (by decide) ?_
  refine lv_iadd hx hb dX8_effectTo_38 ?_
  refine ztopi (y := nI (p9 + 1)) (nI_add p9 1) ?_
  refine ziald hF hB 2 rfl (p9 + 1) (rfl) (by omega) (by decide) (v := (pm (p9 + 1))) (rfl) dX8_effectTo_39 ?_
  refine lv_i2l (v := (pm (p9 + 1)).toInt64) hx hb dX8_effectTo_40 rfl ?_
  refine ztopl (y := Int64.ofInt (pm (p9 + 1)).toInt) (i64_w _) ?_
  refine zVv zm_X8_258 hF hB (c_X8_wayTo l D ka kb q ad (false || sumO true (getN nu ((6 + (2 * (p9 + 1))) + b)) (getN nu (6 + b))) z n1 21 (aN (pa (p9 + 1))) ((pm (p9 + 1)).toInt) (by decide) (ra9)) [0, 1] rfl (by decide) [q, (ad 3)] (fun _ => rfl) rfl 0 8 rfl rfl rfl ⟨Nat.le_of_ble_eq_true rfl, Nat.le_of_ble_eq_true rfl⟩ rfl hl.1 (Nat.le_of_ble_eq_true rfl) ⟨Nat.le_refl _, Nat.le_refl _⟩ dX8_effectTo_41 ?_
  clear hB
  try clear locs
  try clear H
  intro u2 H locs hp hB
  replace hB : zB D A s ([(q, .inr (8, mO ad (false || sumO true (getN nu ((6 + (2 * (p9 + 1))) + b)) (getN nu (6 + b))) z)), ((ad 3), .inl (ka 1, 200, .inr (.inl (setN n1 21 (wyN ((pm (p9 + 1)).toInt) (aN (pa (p9 + 1)))))))), ((ad 12), .inl (ka 0, 3, .inl pm)), ((ad 13), .inl (ka 0, 3, .inl pa))]) H locs := hB
  generalize hn2 : (setN n1 21 (wyN ((pm (p9 + 1)).toInt) (aN (pa (p9 + 1))))) = n2 at hB
  have K2 : keepN [20, 21, 30, 31, 32, 33, 34, 35, 36, 37, t] nu n2 := by rw [← hn2]; exact K1.set (by simp) _
  have B2 : getN n2 21 = wyN (pm (p9 + 1)).toInt (aN (pa (p9 + 1))) := by rw [← hn2, getN_same]
  refine lv_aload_n hx hb dX8_effectTo_44 rfl (lv_at hl 0 rfl) ?_
  refine zget zf_X8_105 hF hB 0 rfl rfl dX8_effectTo_45 ?_
  refine lv_if_ne (tgt := 60) hx hb dX8_effectTo_48 (by decide) (fun h48 => ?_) (fun h48 => ?_)
  · skip
    have hO := bI_ne0 h48
    have hO2 : sumO true (getN nu (6 + 2 * (p9 + 1) + b)) (getN nu (6 + b)) = true := by simpa using hO
    have hE : efO (getN nu) pm pa p9 b = true := by unfold efO; rw [hO2]; rfl
    rw [hO] at hB
    replace hB : zB D A s ([(q, .inr (8, mO ad true z)), ((ad 3), .inl (ka 1, 200, .inr (.inl n2))), ((ad 12), .inl (ka 0, 3, .inl pm)), ((ad 13), .inl (ka 0, 3, .inl pa))]) H locs := hB
    exact zretv hF hB n2 (⟨K2, fun e9 => absurd (hE.symm.trans e9) (by decide)⟩) (by rw [hE] <;> rfl) dX8_effectTo_60 hQ
  · skip
    have hO := bI_eq0 h48
    have hO2 : sumO true (getN nu (6 + 2 * (p9 + 1) + b)) (getN nu (6 + b)) = false := by simpa using hO
    have A2 : getN n2 20 = efS (getN nu) p9 b := by rw [← hn2, getN_ne _ _ _ _ (by decide), ← hn1, if_neg (by rw [hO]; decide), getN_same]; rfl
    rw [hO] at hB
    replace hB : zB D A s ([(q, .inr (8, mO ad false z)), ((ad 3), .inl (ka 1, 200, .inr (.inl n2))), ((ad 12), .inl (ka 0, 3, .inl pm)), ((ad 13), .inl (ka 0, 3, .inl pa))]) H locs := hB
    refine lv_aload_n hx hb dX8_effectTo_51 rfl (lv_at hl 0 rfl) ?_
    refine lv_iload_n hx hb dX8_effectTo_52 rfl (lv_at hl 1 rfl) ?_
    refine lv_bipush (v := 20) hx hb dX8_effectTo_53 (by decide) ?_
    refine lv_bipush (v := 21) hx hb dX8_effectTo_55 (by decide) ?_
    refine zVv zm_X8_174 hF hB (c_X8_quotient l D ka kb q ad z n2 t 20 21 (ht) (by decide) (by decide) (by decide) (by decide) (by rw [B2]; exact wyN_nz ra9 hm9) (by
        rw [show n2 (5 * 20 + 4) = (efS (getN nu) p9 b).2.2.2.2 from congrArg (fun v : N5 => v.2.2.2.2) A2]
        exact sumV_d hO2 hd8 hd6)) [0, 1] rfl (by decide) [q, (ad 3)] (fun _ => rfl) rfl 0 8 rfl rfl rfl ⟨Nat.le_of_ble_eq_true rfl, Nat.le_of_ble_eq_true rfl⟩ rfl hl.1 (Nat.le_of_ble_eq_true rfl) ⟨Nat.le_refl _, Nat.le_refl _⟩ dX8_effectTo_57 ?_
    clear hB
    try clear locs
    try clear H
    intro u3 H locs hp hB
    obtain ⟨nu23, rfl⟩ : ∃ z, z = u3 := ⟨_, rfl⟩
    have hp3 : keepN [30, 31, 32, 33, 34, 35, 36, 37, t] n2 nu23 ∧ (quoO (getN n2 20) (getN n2 21) = false → getN nu23 t = quoV (getN n2 20) (getN n2 21)) := hp
    have HPP := hp3
    replace hB : zB D A s ([(q, .inr (8, mO ad (quoO (getN n2 20) (getN n2 21)) z)), ((ad 3), .inl (ka 1, 200, .inr (.inl nu23))), ((ad 12), .inl (ka 0, 3, .inl pm)), ((ad 13), .inl (ka 0, 3, .inl pa))]) H locs := hB
    obtain ⟨K3, R3⟩ := hp3
    have K4 : keepN [20, 21, 30, 31, 32, 33, 34, 35, 36, 37, t] nu nu23 := K2.tr (K3.mono (by intro x9 h9; simp at h9 ⊢; omega))
    have hE : efO (getN nu) pm pa p9 b = quoO (getN n2 20) (getN n2 21) := by rw [A2, B2]; unfold efO; rw [hO2]; rfl
    have R4 : efO (getN nu) pm pa p9 b = false → getN nu23 t = efV (getN nu) pm pa p9 b := fun e9 => by rw [R3 (hE.symm.trans e9), A2, B2]; rfl
    exact zretv hF hB nu23 (⟨K4, R4⟩) (by rw [hE] <;> rfl) dX8_effectTo_60 hQ

set_option maxHeartbeats 4000000 in
set_option maxRecDepth 100000 in
theorem c_X8_crossTo (l : Launch) (D : va_G) (ka : Nat → ClassId) (kb : Nat → Nat) (q : Nat) (ad : Nat → Nat) (z : mZ) (nu : Nat → Int64) (t : Nat) (i : Nat) (j : Nat) (k : Nat) (m9 : Nat) (ht : t < 40) (hi : i < 40) (hj : j < 40) (hk : k < 40) (hm9 : m9 < 40) (hk20 : k ≠ 20) (hm20 : m9 ≠ 20) (hdi : 0 < (getN nu i).2.2.2.2.toInt) (hdj : 0 < (getN nu j).2.2.2.2.toInt) (hdk : 0 < (getN nu k).2.2.2.2.toInt) (hdm : 0 < (getN nu m9).2.2.2.2.toInt) : zV l D ka kb yX8_crossTo cX8_crossTo 6 3 112 [.ref q, .int (nI t), .int (nI i), .int (nI j), .int (nI k), .int (nI m9)] ([(q, .inr (8, mO ad false z)), ((ad 3), .inl (ka 1, 200, .inr (.inl nu)))]) (fun (nu2 : Nat → Int64) => keepN [20, 21, t] nu nu2 ∧ (crO (getN nu i) (getN nu j) (getN nu k) (getN nu m9) = false → getN nu2 t = crV (getN nu i) (getN nu j) (getN nu k) (getN nu m9))) (fun (nu2 : Nat → Int64) => [(q, .inr (8, mO ad (crO (getN nu i) (getN nu j) (getN nu k) (getN nu m9)) z)), ((ad 3), .inl (ka 1, 200, .inr (.inl nu2)))]) := by
  refine zV.mk RX8 (by decide +kernel) rfl (Nat.le_of_ble_eq_true rfl) ?_
  intro p e s m below meth c A ls args Q hQ hx hb hF hB hl
  replace hl : lv_has ls 6 [(0, .ref q), (1, .int (nI t)), (2, .int (nI i)), (3, .int (nI j)), (4, .int (nI k)), (5, .int (nI m9))] := hl
  refine lv_aload_n hx hb dX8_crossTo_0 rfl (lv_at hl 0 rfl) ?_
  refine lv_bipush (v := 20) hx hb dX8_crossTo_1 (by decide) ?_
  refine lv_iload_n hx hb dX8_crossTo_3 rfl (lv_at hl 2 rfl) ?_
  refine lv_iload_n hx hb dX8_crossTo_4 rfl (lv_at hl 3 rfl) ?_
  refine zVv zm_X8_148 hF hB (c_X8_product l D ka kb q ad false z nu 20 i j (by decide) (hi) (hj) (hdi) (hdj)) [0, 1] rfl (by decide) [q, (ad 3)] (fun _ => rfl) rfl 0 8 rfl rfl rfl ⟨Nat.le_of_ble_eq_true rfl, Nat.le_of_ble_eq_true rfl⟩ rfl hl.1 (Nat.le_of_ble_eq_true rfl) ⟨Nat.le_refl _, Nat.le_refl _⟩ dX8_crossTo_5 ?_
  clear hB
  try clear locs
  try clear H
  intro u1 H locs hp hB
  replace hB : zB D A s ([(q, .inr (8, mO ad (false || prodO (getN nu i) (getN nu j)) z)), ((ad 3), .inl (ka 1, 200, .inr (.inl (if (false || prodO (getN nu i) (getN nu j)) = true then nu else setN nu 20 (prodV (getN nu i) (getN nu j))))))]) H locs := hB
  generalize hn1 : (if (false || prodO (getN nu i) (getN nu j)) = true then nu else setN nu 20 (prodV (getN nu i) (getN nu j))) = n1 at hB
  have K1 : keepN [20, 21, t] nu n1 := by rw [← hn1]; split; exact keepN.rf; exact keepN.rf.set (by simp) _
  refine lv_aload_n hx hb dX8_crossTo_8 rfl (lv_at hl 0 rfl) ?_
  refine zget zf_X8_105 hF hB 0 rfl rfl dX8_crossTo_9 ?_
  refine lv_if_ne (tgt := 25) hx hb dX8_crossTo_12 (by decide) (fun h12 => ?_) (fun h12 => ?_)
  · skip
    have hO := bI_ne0 h12
    have hO2 : prodO (getN nu i) (getN nu j) = true := by simpa using hO
    have hE : crO (getN nu i) (getN nu j) (getN nu k) (getN nu m9) = true := by unfold crO; rw [hO2]; rfl
    rw [hO] at hB
    replace hB : zB D A s ([(q, .inr (8, mO ad true z)), ((ad 3), .inl (ka 1, 200, .inr (.inl n1)))]) H locs := hB
    refine lv_aload_n hx hb dX8_crossTo_25 rfl (lv_at hl 0 rfl) ?_
    refine zget zf_X8_105 hF hB 0 rfl rfl dX8_crossTo_26 ?_
    refine lv_if_ne (tgt := 42) hx hb dX8_crossTo_29 (by decide) (fun h29 => ?_) (fun h29 => ?_)
    · skip
      exact zretv hF hB n1 (⟨K1, fun e9 => absurd (hE.symm.trans e9) (by decide)⟩) (by rw [hE] <;> rfl) dX8_crossTo_42 hQ
    · skip
      exact absurd h29 (by decide)
  · skip
    have hO := bI_eq0 h12
    have hO2 : prodO (getN nu i) (getN nu j) = false := by simpa using hO
    have A1 : getN n1 20 = prodV (getN nu i) (getN nu j) := by rw [← hn1, if_neg (by rw [hO]; decide), getN_same]
    have Ck : getN n1 k = getN nu k := by rw [← hn1, if_neg (by rw [hO]; decide), getN_ne _ _ _ _ hk20]
    have Cm : getN n1 m9 = getN nu m9 := by rw [← hn1, if_neg (by rw [hO]; decide), getN_ne _ _ _ _ hm20]
    rw [hO] at hB
    replace hB : zB D A s ([(q, .inr (8, mO ad false z)), ((ad 3), .inl (ka 1, 200, .inr (.inl n1)))]) H locs := hB
    refine lv_aload_n hx hb dX8_crossTo_15 rfl (lv_at hl 0 rfl) ?_
    refine lv_bipush (v := 21) hx hb dX8_crossTo_16 (by decide) ?_
    refine lv_iload hx hb dX8_crossTo_18 (lv_at hl 4 rfl) ?_
    refine lv_iload hx hb dX8_crossTo_20 (lv_at hl 5 rfl) ?_
    refine zVv zm_X8_148 hF hB (c_X8_product l D ka kb q ad false z n1 21 k m9 (by decide) (hk) (hm9) (by
        rw [show n1 (5 * k + 4) = (getN nu k).2.2.2.2 from congrArg (fun v : N5 => v.2.2.2.2) Ck]
        exact hdk) (by
        rw [show n1 (5 * m9 + 4) = (getN nu m9).2.2.2.2 from congrArg (fun v : N5 => v.2.2.2.2) Cm]
        exact hdm)) [0, 1] rfl (by decide) [q, (ad 3)] (fun _ => rfl) rfl 0 8 rfl rfl rfl ⟨Nat.le_of_ble_eq_true rfl, Nat.le_of_ble_eq_true rfl⟩ rfl hl.1 (Nat.le_of_ble_eq_true rfl) ⟨Nat.le_refl _, Nat.le_refl _⟩ dX8_crossTo_22 ?_
    clear hB
    try clear locs
    try clear H
    intro u2 H locs hp hB
    replace hB : zB D A s ([(q, .inr (8, mO ad (false || prodO (getN n1 k) (getN n1 m9)) z)), ((ad 3), .inl (ka 1, 200, .inr (.inl (if (false || prodO (getN n1 k) (getN n1 m9)) = true then n1 else setN n1 21 (prodV (getN n1 k) (getN n1 m9))))))]) H locs := hB
    generalize hn2 : (if (false || prodO (getN n1 k) (getN n1 m9)) = true then n1 else setN n1 21 (prodV (getN n1 k) (getN n1 m9))) = n2 at hB
    have K2 : keepN [20, 21, t] nu n2 := by rw [← hn2]; split; exact K1; exact K1.set (by simp) _
    refine lv_aload_n hx hb dX8_crossTo_25 rfl (lv_at hl 0 rfl) ?_
    refine zget zf_X8_105 hF hB 0 rfl rfl dX8_crossTo_26 ?_
    refine lv_if_ne (tgt := 42) hx hb dX8_crossTo_29 (by decide) (fun h29 => ?_) (fun h29 => ?_)
    · skip
      have hO3 := bI_ne0 h29
      have hO4 : prodO (getN nu k) (getN nu m9) = true := by rw [Ck, Cm] at hO3; simpa using hO3
      have hE : crO (getN nu i) (getN nu j) (getN nu k) (getN nu m9) = true := by unfold crO; rw [hO2, hO4]; rfl
      rw [hO3] at hB
      replace hB : zB D A s ([(q, .inr (8, mO ad true z)), ((ad 3), .inl (ka 1, 200, .inr (.inl n2)))]) H locs := hB
      exact zretv hF hB n2 (⟨K2, fun e9 => absurd (hE.symm.trans e9) (by decide)⟩) (by rw [hE] <;> rfl) dX8_crossTo_42 hQ
    · skip
      have hO3 := bI_eq0 h29
      have hO4 : prodO (getN nu k) (getN nu m9) = false := by rw [Ck, Cm] at hO3; simpa using hO3
      have A2 : getN n2 20 = prodV (getN nu i) (getN nu j) := by rw [← hn2, if_neg (by rw [hO3]; decide), getN_ne _ _ _ _ (by decide)]; exact A1
      have B2 : getN n2 21 = prodV (getN nu k) (getN nu m9) := by rw [← hn2, if_neg (by rw [hO3]; decide), getN_same, Ck, Cm]
      rw [hO3] at hB
      replace hB : zB D A s ([(q, .inr (8, mO ad false z)), ((ad 3), .inl (ka 1, 200, .inr (.inl n2)))]) H locs := hB
      refine lv_aload_n hx hb dX8_crossTo_32 rfl (lv_at hl 0 rfl) ?_
      refine lv_iload_n hx hb dX8_crossTo_33 rfl (lv_at hl 1 rfl) ?_
      refine lv_bipush (v := 20) hx hb dX8_crossTo_34 (by decide) ?_
      refine lv_bipush (v := 21) hx hb dX8_crossTo_36 (by decide) ?_
      refine lv_iconst (v := 1) hx hb dX8_crossTo_38 (by decide) ?_
      refine zVv zm_X8_170 hF hB (c_X8_sum l D ka kb q ad false z n2 t 20 21 true (ht) (by decide) (by decide) (by
          rw [show n2 (5 * 20 + 4) = (prodV (getN nu i) (getN nu j)).2.2.2.2 from congrArg (fun v : N5 => v.2.2.2.2) A2]
          exact prodV_d hO2 hdi hdj) (by
          rw [show n2 (5 * 21 + 4) = (prodV (getN nu k) (getN nu m9)).2.2.2.2 from congrArg (fun v : N5 => v.2.2.2.2) B2]
          exact prodV_d hO4 hdk hdm)) [0, 1] rfl (by decide) [q, (ad 3)] (fun _ => rfl) rfl 0 8 rfl rfl rfl ⟨Nat.le_of_ble_eq_true rfl, Nat.le_of_ble_eq_true rfl⟩ rfl hl.1 (Nat.le_of_ble_eq_true rfl) ⟨Nat.le_refl _, Nat.le_refl _⟩ dX8_crossTo_39 ?_
      clear hB
      try clear locs
      try clear H
      intro u3 H locs hp hB
      replace hB : zB D A s ([(q, .inr (8, mO ad (false || sumO true (getN n2 20) (getN n2 21)) z)), ((ad 3), .inl (ka 1, 200, .inr (.inl (if (false || sumO true (getN n2 20) (getN n2 21)) = true then n2 else setN n2 t (sumV true (getN n2 20) (getN n2 21))))))]) H locs := hB
      generalize hn3 : (if (false || sumO true (getN n2 20) (getN n2 21)) = true then n2 else setN n2 t (sumV true (getN n2 20) (getN n2 21))) = n3 at hB
      have hE : crO (getN nu i) (getN nu j) (getN nu k) (getN nu m9) = (false || sumO true (getN n2 20) (getN n2 21)) := by rw [A2, B2]; unfold crO; rw [hO2, hO4]; rfl
      have K3 : keepN [20, 21, t] nu n3 := by rw [← hn3]; split; exact K2; exact K2.set (by simp) _
      have R3 : crO (getN nu i) (getN nu j) (getN nu k) (getN nu m9) = false → getN n3 t = crV (getN nu i) (getN nu j) (getN nu k) (getN nu m9) := fun e9 => by rw [← hn3, if_neg (by rw [hE.symm.trans e9]; decide), getN_same, A2, B2]; rfl
      exact zretv hF hB n3 (⟨K3, R3⟩) (by rw [hE] <;> rfl) dX8_crossTo_42 hQ

set_option maxHeartbeats 4000000 in
set_option maxRecDepth 100000 in
theorem c_X8_effect (l : Launch) (D : va_G) (ka : Nat → ClassId) (kb : Nat → Nat) (q : Nat) (ad : Nat → Nat) (o : Bool) (z : mZ) (nu : Nat → Int64) (pm : Nat → Int32) (pa : Nat → Int32) (pq : Int32) (bq : Int32) (rq : Int32) (hdp : ∀ k9, k9 < 12 → 0 < (nu (5 * k9 + 4)).toInt) (hMA : ∀ k9, k9 < 3 → k9 ≠ 0 → kpB z.2.2.2.2.1 k9 = true → (1 ≤ (pm k9).toInt ∧ (pm k9).toInt ≤ 99) ∧ ∃ a, a < 12 ∧ pa k9 = nI a) : zI l D ka kb yX8_effect cX8_effect 4 .int 6 190 [.ref q, .int pq, .int bq, .int rq] ([(q, .inr (8, mO ad o z)), ((ad 3), .inl (ka 1, 200, .inr (.inl nu))), ((ad 12), .inl (ka 0, 3, .inl pm)), ((ad 13), .inl (ka 0, 3, .inl pa))]) (fun (r : Int32) (u : Bool × (Nat → Int64)) => r = (exW pq bq rq z.2.2.2.2.1 pm pa (getN nu)).1 ∧ ∀ k9, k9 < 12 → getN u.2 k9 = upG (getN nu) (exW pq bq rq z.2.2.2.2.1 pm pa (getN nu)).2 k9) (fun (u : Bool × (Nat → Int64)) => [(q, .inr (8, mO ad u.1 z)), ((ad 3), .inl (ka 1, 200, .inr (.inl u.2))), ((ad 12), .inl (ka 0, 3, .inl pm)), ((ad 13), .inl (ka 0, 3, .inl pa))]) := by
  refine zI.mk RX8 (by decide +kernel) rfl (Nat.le_of_ble_eq_true rfl) ?_
  intro p e s m below meth c A ls args Q hQ hx hb hF hB hl
  replace hl : lv_has ls 4 [(0, .ref q), (1, .int pq), (2, .int bq), (3, .int rq)] := hl
  refine lv_iload_n hx hb dX8_effect_0 rfl (lv_at hl 1 rfl) ?_
  refine zSi zm_X8_226 hF hB (c_X8_isTwo l D ka kb pq ) [] rfl (by decide) [] (fun _ => rfl) rfl rfl ⟨Nat.le_of_ble_eq_true rfl, Nat.le_of_ble_eq_true rfl⟩ rfl hl.1 (Nat.le_of_ble_eq_true rfl) ⟨Nat.le_refl _, Nat.le_refl _⟩ dX8_effect_1 ?_
  clear hB
  try clear locs
  try clear H
  intro r1 u1 H locs hp hB
  obtain rfl : r1 = bI (inI pq 2) := hp
  replace hB : zB D A s ([(q, .inr (8, mO ad o z)), ((ad 3), .inl (ka 1, 200, .inr (.inl nu))), ((ad 12), .inl (ka 0, 3, .inl pm)), ((ad 13), .inl (ka 0, 3, .inl pa))]) H locs := hB
  refine lv_if_eq (tgt := 21) hx hb dX8_effect_4 (by decide) (fun h4 => ?_) (fun h4 => ?_)
  · skip
    refine lv_bipush (v := -2) hx hb dX8_effect_21 (by decide) ?_
    have hk9 : exK pq bq rq = false := dB_f.mpr (fun e8 => by rw [bI_eq0 h4] at e8; exact absurd e8.1 (by decide))
    exact zreti hF hB (o, nu) (⟨by unfold exW; rw [if_pos hk9], fun k9 _ => by unfold exW; rw [if_pos (by assumption)]; rfl⟩) (rfl) (rfl) dX8_effect_23 hQ
  · skip
    have hp91 : inI pq 2 = true := bI_ne0 h4
    obtain ⟨p9, hp92, hp93⟩ := inI_of hp91 (by decide)
    subst hp93
    have rp9 : aN (nI p9) = p9 := aNn hp92 (by decide)
    refine lv_iload_n hx hb dX8_effect_7 rfl (lv_at hl 2 rfl) ?_
    refine zSi zm_X8_226 hF hB (c_X8_isTwo l D ka kb bq ) [] rfl (by decide) [] (fun _ => rfl) rfl rfl ⟨Nat.le_of_ble_eq_true rfl, Nat.le_of_ble_eq_true rfl⟩ rfl hl.1 (Nat.le_of_ble_eq_true rfl) ⟨Nat.le_refl _, Nat.le_refl _⟩ dX8_effect_8 ?_
    clear hB
    try clear locs
    try clear H
    intro r2 u2 H locs hp hB
    obtain rfl : r2 = bI (inI bq 2) := hp
    replace hB : zB D A s ([(q, .inr (8, mO ad o z)), ((ad 3), .inl (ka 1, 200, .inr (.inl nu))), ((ad 12), .inl (ka 0, 3, .inl pm)), ((ad 13), .inl (ka 0, 3, .inl pa))]) H locs := hB
    refine lv_if_eq (tgt := 21) hx hb dX8_effect_11 (by decide) (fun h11 => ?_) (fun h11 => ?_)
    · skip
      refine lv_bipush (v := -2) hx hb dX8_effect_21 (by decide) ?_
      have hk9 : exK (nI p9) bq rq = false := dB_f.mpr (fun e8 => by rw [bI_eq0 h11] at e8; exact absurd e8.2.1 (by decide))
      exact zreti hF hB (o, nu) (⟨by unfold exW; rw [if_pos hk9], fun k9 _ => by unfold exW; rw [if_pos (by assumption)]; rfl⟩) (rfl) (rfl) dX8_effect_23 hQ
    · skip
      have hb1 : inI bq 2 = true := bI_ne0 h11
      obtain ⟨b, hb2, hb3⟩ := inI_of hb1 (by decide)
      subst hb3
      have rb : aN (nI b) = b := aNn hb2 (by decide)
      refine lv_iload_n hx hb dX8_effect_14 rfl (lv_at hl 3 rfl) ?_
      refine zSi zm_X8_162 hF hB (c_X8_isRegister l D ka kb rq ) [] rfl (by decide) [] (fun _ => rfl) rfl rfl ⟨Nat.le_of_ble_eq_true rfl, Nat.le_of_ble_eq_true rfl⟩ rfl hl.1 (Nat.le_of_ble_eq_true rfl) ⟨Nat.le_refl _, Nat.le_refl _⟩ dX8_effect_15 ?_
      clear hB
      try clear locs
      try clear H
      intro r3 u3 H locs hp hB
      obtain rfl : r3 = bI (inI rq 6) := hp
      replace hB : zB D A s ([(q, .inr (8, mO ad o z)), ((ad 3), .inl (ka 1, 200, .inr (.inl nu))), ((ad 12), .inl (ka 0, 3, .inl pm)), ((ad 13), .inl (ka 0, 3, .inl pa))]) H locs := hB
      refine lv_if_ne (tgt := 24) hx hb dX8_effect_18 (by decide) (fun h18 => ?_) (fun h18 => ?_)
      · skip
        have hi1 : inI rq 6 = true := bI_ne0 h18
        obtain ⟨i, hi2, hi3⟩ := inI_of hi1 (by decide)
        subst hi3
        have ri : aN (nI i) = i := aNn hi2 (by decide)
        have hk8 : exK (nI p9) (nI b) (nI i) = true := dB_t.mpr ⟨hp91, hb1, hi1⟩
        refine lv_aload_n hx hb dX8_effect_24 rfl (lv_at hl 0 rfl) ?_
        refine lv_iconst (v := 0) hx hb dX8_effect_25 (by decide) ?_
        refine zVi zm_X8_265 hF hB (c_X8_isKept l D ka kb q ad o z 0 ) [0] rfl (by decide) [q] (fun _ => rfl) rfl 0 8 rfl rfl rfl ⟨Nat.le_of_ble_eq_true rfl, Nat.le_of_ble_eq_true rfl⟩ rfl hl.1 (Nat.le_of_ble_eq_true rfl) ⟨Nat.le_refl _, Nat.le_refl _⟩ dX8_effect_26 ?_
        clear hB
        try clear locs
        try clear H
        intro r4 u4 H locs hp hB
        obtain rfl : r4 = bI (kpB z.2.2.2.2.1 0) := hp
        replace hB : zB D A s ([(q, .inr (8, mO ad o z)), ((ad 3), .inl (ka 1, 200, .inr (.inl nu))), ((ad 12), .inl (ka 0, 3, .inl pm)), ((ad 13), .inl (ka 0, 3, .inl pa))]) H locs := hB
        refine lv_if_eq (tgt := 42) hx hb dX8_effect_29 (by decide) (fun h29 => ?_) (fun h29 => ?_)
        · skip
          refine lv_bipush (v := -3) hx hb dX8_effect_42 (by decide) ?_
          have hkk : ¬ (kpB z.2.2.2.2.1 0 = true ∧ kpB z.2.2.2.2.1 (aN (nI p9) + 1) = true) := fun e8 => by have e7 := e8.1; rw [bI_eq0 h29] at e7; exact absurd e7 (by decide)
          exact zreti hF hB (o, nu) (⟨by unfold exW; rw [if_neg (by rw [hk8]; decide), if_pos hkk], fun k9 _ => by unfold exW; rw [if_neg (by rw [hk8]; decide), if_pos hkk]; rfl⟩) (rfl) (rfl) dX8_effect_44 hQ
        · skip
          refine lv_aload_n hx hb dX8_effect_32 rfl (lv_at hl 0 rfl) ?_
          refine lv_iload_n hx hb dX8_effect_33 rfl (lv_at hl 1 rfl) ?_
          refine lv_iconst (v := 1) hx hb dX8_effect_34 (by decide) ?_
          refine lv_iadd hx hb dX8_effect_35 ?_
          refine ztopi (y := nI (p9 + 1)) (nI_add p9 1) ?_
          refine zVi zm_X8_265 hF hB (c_X8_isKept l D ka kb q ad o z (p9 + 1) ) [0] rfl (by decide) [q] (fun _ => rfl) rfl 0 8 rfl rfl rfl ⟨Nat.le_of_ble_eq_true rfl, Nat.le_of_ble_eq_true rfl⟩ rfl hl.1 (Nat.le_of_ble_eq_true rfl) ⟨Nat.le_refl _, Nat.le_refl _⟩ dX8_effect_36 ?_
          clear hB
          try clear locs
          try clear H
          intro r5 u5 H locs hp hB
          obtain rfl : r5 = bI (kpB z.2.2.2.2.1 (p9 + 1)) := hp
          replace hB : zB D A s ([(q, .inr (8, mO ad o z)), ((ad 3), .inl (ka 1, 200, .inr (.inl nu))), ((ad 12), .inl (ka 0, 3, .inl pm)), ((ad 13), .inl (ka 0, 3, .inl pa))]) H locs := hB
          refine lv_if_ne (tgt := 45) hx hb dX8_effect_39 (by decide) (fun h39 => ?_) (fun h39 => ?_)
          · skip
            have hk1 := bI_ne0 h39
            refine lv_aload_n hx hb dX8_effect_45 rfl (lv_at hl 0 rfl) ?_
            refine lv_iconst (v := 0) hx hb dX8_effect_46 (by decide) ?_
            refine zput_f zp_X8_105 hF hB 0 rfl (rfl) (rfl) (Nat.le_of_ble_eq_true rfl) dX8_effect_47 ?_
            clear hB
            try clear locs
            try clear H
            intro H locs hB
            replace hB : zB D A s ([(q, .inr (8, mX ad (0 : Int32) z.1 z.2.1 z.2.2.1 z.2.2.2.1 z.2.2.2.2.1 z.2.2.2.2.2.1 z.2.2.2.2.2.2.1 z.2.2.2.2.2.2.2)), ((ad 3), .inl (ka 1, 200, .inr (.inl nu))), ((ad 12), .inl (ka 0, 3, .inl pm)), ((ad 13), .inl (ka 0, 3, .inl pa))]) H locs := hB
            refine lv_aload_n hx hb dX8_effect_50 rfl (lv_at hl 0 rfl) ?_
            refine lv_bipush (v := 12) hx hb dX8_effect_51 (by decide) ?_
            refine lv_iload_n hx hb dX8_effect_53 rfl (lv_at hl 1 rfl) ?_
            refine lv_iload_n hx hb dX8_effect_54 rfl (lv_at hl 2 rfl) ?_
            refine zVv zm_X8_272 hF hB (c_X8_effectTo l D ka kb q ad z nu pm pa 12 p9 b (by decide) (hp92) (hb2) (hdp _ (by omega)) (hdp _ (by omega)) ((hMA _ (by omega) (by omega) hk1).1) ((hMA _ (by omega) (by omega) hk1).2)) [0, 1, 2, 3] rfl (by decide) [q, (ad 3), (ad 12), (ad 13)] (fun _ => rfl) rfl 0 8 rfl rfl rfl ⟨Nat.le_of_ble_eq_true rfl, Nat.le_of_ble_eq_true rfl⟩ rfl hl.1 (Nat.le_of_ble_eq_true rfl) ⟨Nat.le_refl _, Nat.le_refl _⟩ dX8_effect_55 ?_
            clear hB
            try clear locs
            try clear H
            intro u6 H locs hp hB
            obtain ⟨nu26, rfl⟩ : ∃ z, z = u6 := ⟨_, rfl⟩
            have hp6 : keepN [20, 21, 30, 31, 32, 33, 34, 35, 36, 37, 12] nu nu26 ∧ (efO (getN nu) pm pa p9 b = false → getN nu26 12 = efV (getN nu) pm pa p9 b) := hp
            have HPP := hp6
            replace hB : zB D A s ([(q, .inr (8, mO ad (efO (getN nu) pm pa p9 b) z)), ((ad 3), .inl (ka 1, 200, .inr (.inl nu26))), ((ad 12), .inl (ka 0, 3, .inl pm)), ((ad 13), .inl (ka 0, 3, .inl pa))]) H locs := hB
            obtain ⟨K1, R1⟩ := hp6
            refine lv_aload_n hx hb dX8_effect_58 rfl (lv_at hl 0 rfl) ?_
            refine zget zf_X8_105 hF hB 0 rfl rfl dX8_effect_59 ?_
            refine lv_if_eq (tgt := 68) hx hb dX8_effect_62 (by decide) (fun h62 => ?_) (fun h62 => ?_)
            · skip
              have hE : efO (getN nu) pm pa p9 b = false := bI_eq0 h62
              rw [hE] at hB
              replace hB : zB D A s ([(q, .inr (8, mO ad false z)), ((ad 3), .inl (ka 1, 200, .inr (.inl nu26))), ((ad 12), .inl (ka 0, 3, .inl pm)), ((ad 13), .inl (ka 0, 3, .inl pa))]) H locs := hB
              have R1 := R1 hE
              refine lv_aload_n hx hb dX8_effect_68 rfl (lv_at hl 0 rfl) ?_
              refine lv_iload_n hx hb dX8_effect_69 rfl (lv_at hl 3 rfl) ?_
              refine lv_bipush (v := 12) hx hb dX8_effect_70 (by decide) ?_
              refine zVv zm_X8_177 hF hB (c_X8_moves l D ka kb q ad false z nu26 i 12 (by omega) (by decide) (by omega)) [0, 1] rfl (by decide) [q, (ad 3)] (fun _ => rfl) rfl 0 8 rfl rfl rfl ⟨Nat.le_of_ble_eq_true rfl, Nat.le_of_ble_eq_true rfl⟩ rfl hl.1 (Nat.le_of_ble_eq_true rfl) ⟨Nat.le_refl _, Nat.le_refl _⟩ dX8_effect_72 ?_
              clear hB
              try clear locs
              try clear H
              intro u7 H locs hp hB
              replace hB : zB D A s ([(q, .inr (8, mO ad false z)), ((ad 3), .inl (ka 1, 200, .inr (.inl (setN nu26 i (getN nu26 12))))), ((ad 12), .inl (ka 0, 3, .inl pm)), ((ad 13), .inl (ka 0, 3, .inl pa))]) H locs := hB
              refine lv_iconst (v := 1) hx hb dX8_effect_75 (by decide) ?_
              exact zreti hF hB (false, setN nu26 i (getN nu26 12)) (⟨by unfold exW; rw [if_neg (by rw [hk8]; decide), if_neg (not_not_intro ⟨bI_ne0 h29, by rw [rp9]; exact hk1⟩), rp9, rb, ri, if_neg (by rw [hE]; decide)], fun k9 h9 => by
                  unfold exW; rw [if_neg (by rw [hk8]; decide), if_neg (not_not_intro ⟨bI_ne0 h29, by rw [rp9]; exact hk1⟩), rp9, rb, ri, if_neg (by rw [hE]; decide)]
                  show getN (setN nu26 i (getN nu26 12)) k9 = if k9 = i then efV (getN nu) pm pa p9 b else getN nu k9
                  by_cases e8 : k9 = i
                  · rw [if_pos e8, e8, getN_same, R1]
                  · rw [if_neg e8, getN_ne _ _ _ _ e8]; exact K1.get (by simp; omega)⟩) (rfl) (rfl) dX8_effect_76 hQ
            · skip
              have hE : efO (getN nu) pm pa p9 b = true := bI_ne0 h62
              rw [hE] at hB
              replace hB : zB D A s ([(q, .inr (8, mO ad true z)), ((ad 3), .inl (ka 1, 200, .inr (.inl nu26))), ((ad 12), .inl (ka 0, 3, .inl pm)), ((ad 13), .inl (ka 0, 3, .inl pa))]) H locs := hB
              refine lv_bipush (v := -5) hx hb dX8_effect_65 (by decide) ?_
              exact zreti hF hB (true, nu26) (⟨by unfold exW; rw [if_neg (by rw [hk8]; decide), if_neg (not_not_intro ⟨bI_ne0 h29, by rw [rp9]; exact hk1⟩), rp9, rb, if_pos hE], fun k9 h9 => by unfold exW; rw [if_neg (by rw [hk8]; decide), if_neg (not_not_intro ⟨bI_ne0 h29, by rw [rp9]; exact hk1⟩), rp9, rb, if_pos hE]; exact K1.get (by simp; omega)⟩) (rfl) (rfl) dX8_effect_67 hQ
          · skip
            refine lv_bipush (v := -3) hx hb dX8_effect_42 (by decide) ?_
            have hkk : ¬ (kpB z.2.2.2.2.1 0 = true ∧ kpB z.2.2.2.2.1 (aN (nI p9) + 1) = true) := fun e8 => by have e7 := e8.2; rw [rp9, bI_eq0 h39] at e7; exact absurd e7 (by decide)
            exact zreti hF hB (o, nu) (⟨by unfold exW; rw [if_neg (by rw [hk8]; decide), if_pos hkk], fun k9 _ => by unfold exW; rw [if_neg (by rw [hk8]; decide), if_pos hkk]; rfl⟩) (rfl) (rfl) dX8_effect_44 hQ
      · skip
        refine lv_bipush (v := -2) hx hb dX8_effect_21 (by decide) ?_
        have hk9 : exK (nI p9) (nI b) rq = false := dB_f.mpr (fun e8 => by rw [bI_eq0 h18] at e8; exact absurd e8.2.2 (by decide))
        exact zreti hF hB (o, nu) (⟨by unfold exW; rw [if_pos hk9], fun k9 _ => by unfold exW; rw [if_pos (by assumption)]; rfl⟩) (rfl) (rfl) dX8_effect_23 hQ
