set_option maxHeartbeats 4000000 in
set_option maxRecDepth 100000 in
theorem c_X0_takeReading (l : Launch) (D : va_G) (ka : Nat → ClassId) (kb : Nat → Nat) (bd : Nat → Nat) (na : Nat → Nat) (o : Bool) (sz9 : Int32) (re9 : Int32) (L : Nat) (mo : Nat → Int32) (an : Nat → Int32) (pl : Nat → Int32) (ho : Nat → Int32) (st : Nat → Int32) (ga : Nat → Int32) (lg : Nat → Int32) (N : Nat → N5) (k : Nat) (b : Nat) (t : Nat) (y9 : Int) (a9 : Nat) (hk : k < 3) (hb2 : b < 2) (ht : t < 21) (hok : okL L mo an pl) (hoh : okH ho) (hst : ∀ j, j < 4 → st (2 * j) = ga j ∧ st (2 * j + 1) = lg j) (hga : ∀ i, i < 4 → 0 ≤ (ga i).toInt ∧ (ga i).toInt ≤ 9) (hlg : ∀ i, i < 4 → ∃ l9, l9 < 12 ∧ lg i = nI l9) (hy9 : 0 ≤ y9 ∧ y9 ≤ 99) (ha9 : a9 < 12) (hwk : ∀ p, p < 2 → k = p + 1 → N (14 + k) = wyN y9 a9) (htk : t ≠ 14 + k) : zV l D ka kb yX0_takeReading cX0_takeReading 6 5 174 [.ref (bd 3), .ref (bd 2), .int (nI k), .int (nI b), .ref (na t)] ([((bd 3), .inr (0, [.ref (bd 12), .ref (bd 13), .ref (bd 14), .ref (bd 15), .ref (bd 16), .ref (bd 17), .ref (na 21), .ref (na 22), .ref (na 23), .ref (na 24)])), ((bd 12), .inr (2, [.int (bI o), .ref (na 28), .ref (na 29), .ref (na 30)])), ((bd 13), .inl (ka 0, 8, .inl st)), ((bd 16), .inl (ka 3, 3, .inr (.inr (.inr (.inr (nR na 14)))))), ((bd 2), .inr (3, [.int (nI L), .ref (bd 7), .ref (bd 8), .ref (bd 9), .ref (bd 10), .ref (bd 11), .int sz9, .int re9])), ((bd 7), .inl (ka 0, 8, .inl mo)), ((bd 8), .inl (ka 0, 8, .inl an)), ((bd 9), .inl (ka 0, 8, .inl pl)), ((bd 10), .inl (ka 0, 24, .inl ho))] ++ nP na N) (fun (u : (Nat → N5) × Bool) => (∀ k9, k9 ≠ 21 → k9 ≠ 22 → k9 ≠ t → u.1 k9 = N k9) ∧ u.1 t = sumV false (rd2 (pulI 0 L mo an pl ho) (if k = 0 + 1 then y9 else 0) a9 (ga (2 * b + 0)).toInt (aN (lg (2 * b + 0)))) (rd2 (pulI 1 L mo an pl ho) (if k = 1 + 1 then y9 else 0) a9 (ga (2 * b + 1)).toInt (aN (lg (2 * b + 1))))) (fun (u : (Nat → N5) × Bool) => [((bd 3), .inr (0, [.ref (bd 12), .ref (bd 13), .ref (bd 14), .ref (bd 15), .ref (bd 16), .ref (bd 17), .ref (na 21), .ref (na 22), .ref (na 23), .ref (na 24)])), ((bd 12), .inr (2, [.int (bI u.2), .ref (na 28), .ref (na 29), .ref (na 30)])), ((bd 13), .inl (ka 0, 8, .inl st)), ((bd 16), .inl (ka 3, 3, .inr (.inr (.inr (.inr (nR na 14)))))), ((bd 2), .inr (3, [.int (nI L), .ref (bd 7), .ref (bd 8), .ref (bd 9), .ref (bd 10), .ref (bd 11), .int sz9, .int re9])), ((bd 7), .inl (ka 0, 8, .inl mo)), ((bd 8), .inl (ka 0, 8, .inl an)), ((bd 9), .inl (ka 0, 8, .inl pl)), ((bd 10), .inl (ka 0, 24, .inl ho))] ++ nP na u.1) := by
  refine zV.mk RX0 (by decide +kernel) rfl (Nat.le_of_ble_eq_true rfl) ?_
  intro p e s m below meth c A ls args Q hQ hx hb hF hB hl
  replace hl : lv_has ls 6 [(0, .ref (bd 3)), (1, .ref (bd 2)), (2, .int (nI k)), (3, .int (nI b)), (4, .ref (na t))] := hl
  have hbd : ∀ p, p < 2 → bdP (pulI p L mo an pl ho) := fun p h => pulI_bd h hok hoh
  have hyp : ∀ p, 0 ≤ (if k = p + 1 then y9 else 0) ∧ (if k = p + 1 then y9 else 0) ≤ 99 := fun p => by split <;> omega
  have hgb : ∀ p, p < 2 → 0 ≤ (ga (2 * b + p)).toInt ∧ (ga (2 * b + p)).toInt ≤ 9 := fun p h => hga _ (by omega)
  have hlb : ∀ p, p < 2 → aN (lg (2 * b + p)) < 12 ∧ lg (2 * b + p) = nI (aN (lg (2 * b + p))) := fun p h => by
    obtain ⟨l9, h1, h2⟩ := hlg (2 * b + p) (by omega)
    rw [h2, aN_nI h1]; exact ⟨h1, rfl⟩
  refine lv_aload hx hb dX0_takeReading_0 (lv_at hl 4 rfl) ?_
  refine lv_lconst (v := 0) hx hb dX0_takeReading_2 (by decide) ?_
  refine lv_lconst (v := 0) hx hb dX0_takeReading_3 (by decide) ?_
  refine lv_lconst (v := 0) hx hb dX0_takeReading_4 (by decide) ?_
  refine lv_lconst (v := 0) hx hb dX0_takeReading_5 (by decide) ?_
  refine lv_lconst (v := 1) hx hb dX0_takeReading_6 (by decide) ?_
  refine zVv zm_X0_67 hF hB (c_X1_become l D ka kb (na t) (N t) (0 : Int64) (0 : Int64) (0 : Int64) (0 : Int64) (1 : Int64) ) [9 + t] (zsel_num rfl (by omega)) (va_nd_1 _) [na t] (fun _ => rfl) rfl (9 + t) 1 rfl (nP_atn rfl (by omega)) rfl ⟨Nat.le_of_ble_eq_true rfl, Nat.le_of_ble_eq_true rfl⟩ rfl hl.1 (Nat.le_of_ble_eq_true rfl) ⟨Nat.le_refl _, Nat.le_refl _⟩ dX0_takeReading_7 ?_
  clear hB
  try clear locs
  try clear H
  intro u1 H locs hp hB
  replace hB : zB D A s ([((bd 3), .inr (0, [.ref (bd 12), .ref (bd 13), .ref (bd 14), .ref (bd 15), .ref (bd 16), .ref (bd 17), .ref (na 21), .ref (na 22), .ref (na 23), .ref (na 24)])), ((bd 12), .inr (2, [.int (bI o), .ref (na 28), .ref (na 29), .ref (na 30)])), ((bd 13), .inl (ka 0, 8, .inl st)), ((bd 16), .inl (ka 3, 3, .inr (.inr (.inr (.inr (nR na 14)))))), ((bd 2), .inr (3, [.int (nI L), .ref (bd 7), .ref (bd 8), .ref (bd 9), .ref (bd 10), .ref (bd 11), .int sz9, .int re9])), ((bd 7), .inl (ka 0, 8, .inl mo)), ((bd 8), .inl (ka 0, 8, .inl an)), ((bd 9), .inl (ka 0, 8, .inl pl)), ((bd 10), .inl (ka 0, 24, .inl ho))] ++ nP na (upN N t ((0 : Int64), (0 : Int64), (0 : Int64), (0 : Int64), (1 : Int64)))) H locs := zB_num (X := ((0 : Int64), (0 : Int64), (0 : Int64), (0 : Int64), (1 : Int64))) hB rfl (by omega)
  obtain ⟨M1, hM1⟩ : ∃ M, M = (upN N t ((0 : Int64), (0 : Int64), (0 : Int64), (0 : Int64), (1 : Int64))) := ⟨_, rfl⟩
  rw [← hM1] at hB
  have kM1 : ∀ k9, k9 ≠ 21 → k9 ≠ 22 → k9 ≠ t → M1 k9 = N k9 := fun k9 h0 h1 h2 => by rw [hM1, upN_ne h2]
  have vM1_t : M1 t = zer := by rw [hM1, upN_eq]; rfl
  refine lv_iconst (v := 0) hx hb dX0_takeReading_10 (by decide) ?_
  refine lv_istore (lv' := [(5, .int (0 : Int32)), (0, .ref (bd 3)), (1, .ref (bd 2)), (2, .int (nI k)), (3, .int (nI b)), (4, .ref (na t))]) hx hb dX0_takeReading_11 hl (by decide) rfl ?_
  clear hl
  clear ls
  intro ls hl
  refine lv_iload hx hb dX0_takeReading_13 (lv_at hl 0 rfl) ?_
  refine lv_iconst (v := 2) hx hb dX0_takeReading_15 (by decide) ?_
  refine lv_icmp_ge (tgt := 131) hx hb dX0_takeReading_16 (by decide) (fun h16 => ?_) (fun h16 => ?_)
  · skip
    exact absurd h16 (by decide)
  · skip
    refine lv_aload_n hx hb dX0_takeReading_19 rfl (lv_at hl 2 rfl) ?_
    refine lv_iload hx hb dX0_takeReading_20 (lv_at hl 0 rfl) ?_
    refine lv_aload_n hx hb dX0_takeReading_22 rfl (lv_at hl 1 rfl) ?_
    refine zget zf_X0_39 hF hB 0 rfl rfl dX0_takeReading_23 ?_
    refine zVv zm_X0_71 hF hB (c_X3_takePullBy20 l D ka kb bd sz9 re9 L mo an pl ho na M1 21 0 (by decide) (by decide) (hok) (hoh)) ([4, 5, 6, 7, 8] ++ npr 9) (zsel_pool rfl rfl) (va_nd_pool rfl rfl) ([(bd 2), (bd 7), (bd 8), (bd 9), (bd 10)] ++ nA na) (fun _ => zad_pool rfl) (zad_pool rfl) 4 3 rfl rfl rfl ⟨Nat.le_of_ble_eq_true rfl, Nat.le_of_ble_eq_true rfl⟩ rfl hl.1 (Nat.le_of_ble_eq_true rfl) ⟨Nat.le_refl _, Nat.le_refl _⟩ dX0_takeReading_26 ?_
    clear hB
    try clear locs
    try clear H
    intro u2 H locs hp hB
    replace hB : zB D A s ([((bd 3), .inr (0, [.ref (bd 12), .ref (bd 13), .ref (bd 14), .ref (bd 15), .ref (bd 16), .ref (bd 17), .ref (na 21), .ref (na 22), .ref (na 23), .ref (na 24)])), ((bd 12), .inr (2, [.int (bI o), .ref (na 28), .ref (na 29), .ref (na 30)])), ((bd 13), .inl (ka 0, 8, .inl st)), ((bd 16), .inl (ka 3, 3, .inr (.inr (.inr (.inr (nR na 14)))))), ((bd 2), .inr (3, [.int (nI L), .ref (bd 7), .ref (bd 8), .ref (bd 9), .ref (bd 10), .ref (bd 11), .int sz9, .int re9])), ((bd 7), .inl (ka 0, 8, .inl mo)), ((bd 8), .inl (ka 0, 8, .inl an)), ((bd 9), .inl (ka 0, 8, .inl pl)), ((bd 10), .inl (ka 0, 24, .inl ho))] ++ nP na (upN M1 21 (p20N (pulI 0 L mo an pl ho)))) H locs := zB_pool hB rfl rfl rfl rfl
    obtain ⟨M2, hM2⟩ : ∃ M, M = (upN M1 21 (p20N (pulI 0 L mo an pl ho))) := ⟨_, rfl⟩
    rw [← hM2] at hB
    have kM2 : ∀ k9, k9 ≠ 21 → k9 ≠ 22 → k9 ≠ t → M2 k9 = N k9 := fun k9 h0 h1 h2 => by rw [hM2, upN_ne h0]; exact kM1 k9 h0 h1 h2
    have vM2_t : M2 t = zer := by rw [hM2, upN_ne (by omega)]; exact vM1_t
    have vM2_21 : M2 21 = p20N (pulI 0 L mo an pl ho) := by rw [hM2, upN_eq]
    refine lv_aload_n hx hb dX0_takeReading_29 rfl (lv_at hl 1 rfl) ?_
    refine zget zf_X0_39 hF hB 0 rfl rfl dX0_takeReading_30 ?_
    refine zVv zm_X0_77 hF hB (c_X1_shorten l D ka kb (na 21) (M2 21) (by rw [vM2_21]; exact (show 0 < (20 : Int64).toInt by decide))) [9 + 21] (zsel_num rfl (by omega)) (va_nd_1 _) [na 21] (fun _ => rfl) rfl (9 + 21) 1 rfl (nP_atn rfl (by omega)) rfl ⟨Nat.le_of_ble_eq_true rfl, Nat.le_of_ble_eq_true rfl⟩ rfl hl.1 (Nat.le_of_ble_eq_true rfl) ⟨Nat.le_refl _, Nat.le_refl _⟩ dX0_takeReading_33 ?_
    clear hB
    try clear locs
    try clear H
    intro u3 H locs hp hB
    replace hB : zB D A s ([((bd 3), .inr (0, [.ref (bd 12), .ref (bd 13), .ref (bd 14), .ref (bd 15), .ref (bd 16), .ref (bd 17), .ref (na 21), .ref (na 22), .ref (na 23), .ref (na 24)])), ((bd 12), .inr (2, [.int (bI o), .ref (na 28), .ref (na 29), .ref (na 30)])), ((bd 13), .inl (ka 0, 8, .inl st)), ((bd 16), .inl (ka 3, 3, .inr (.inr (.inr (.inr (nR na 14)))))), ((bd 2), .inr (3, [.int (nI L), .ref (bd 7), .ref (bd 8), .ref (bd 9), .ref (bd 10), .ref (bd 11), .int sz9, .int re9])), ((bd 7), .inl (ka 0, 8, .inl mo)), ((bd 8), .inl (ka 0, 8, .inl an)), ((bd 9), .inl (ka 0, 8, .inl pl)), ((bd 10), .inl (ka 0, 24, .inl ho))] ++ nP na (upN M2 21 (lowN (M2 21).1 (M2 21).2.1 (M2 21).2.2.1 (M2 21).2.2.2.1 (M2 21).2.2.2.2))) H locs := zB_num (X := (lowN (M2 21).1 (M2 21).2.1 (M2 21).2.2.1 (M2 21).2.2.2.1 (M2 21).2.2.2.2)) hB rfl (by omega)
    obtain ⟨M3, hM3⟩ : ∃ M, M = (upN M2 21 (lowN (M2 21).1 (M2 21).2.1 (M2 21).2.2.1 (M2 21).2.2.2.1 (M2 21).2.2.2.2)) := ⟨_, rfl⟩
    rw [← hM3] at hB
    have kM3 : ∀ k9, k9 ≠ 21 → k9 ≠ 22 → k9 ≠ t → M3 k9 = N k9 := fun k9 h0 h1 h2 => by rw [hM3, upN_ne h0]; exact kM2 k9 h0 h1 h2
    have vM3_t : M3 t = zer := by rw [hM3, upN_ne (by omega)]; exact vM2_t
    have vM3_21 : M3 21 = plN (pulI 0 L mo an pl ho) := by rw [hM3, upN_eq]; rw [vM2_21] <;> rfl
    refine lv_iload_n hx hb dX0_takeReading_36 rfl (lv_at hl 3 rfl) ?_
    refine lv_iload hx hb dX0_takeReading_37 (lv_at hl 0 rfl) ?_
    refine lv_iconst (v := 1) hx hb dX0_takeReading_39 (by decide) ?_
    refine lv_iadd hx hb dX0_takeReading_40 ?_
    refine ztopi (y := (1 : Int32)) (by decide) ?_
    refine lv_icmp_ne (tgt := 66) hx hb dX0_takeReading_41 (by decide) (fun h41 => ?_) (fun h41 => ?_)
    · skip
      have hkp0 : ¬ k = 0 + 1 := fun e8 => h41 (by rw [e8]; rfl)
      have w21_0 : M3 21 = rd1 (pulI 0 L mo an pl ho) (if k = 0 + 1 then y9 else 0) a9 := by rw [if_neg hkp0, rd1_0]; exact vM3_21
      refine lv_aload_n hx hb dX0_takeReading_66 rfl (lv_at hl 1 rfl) ?_
      refine zget zf_X0_43 hF hB 0 rfl rfl dX0_takeReading_67 ?_
      refine lv_aload_n hx hb dX0_takeReading_70 rfl (lv_at hl 1 rfl) ?_
      refine lv_iload_n hx hb dX0_takeReading_71 rfl (lv_at hl 4 rfl) ?_
      refine lv_iload hx hb dX0_takeReading_72 (lv_at hl 0 rfl) ?_
      refine lv_iconst (v := 0) hx hb dX0_takeReading_74 (by decide) ?_
      refine zVi zm_X0_84 hF hB (c_X0_setting l D ka kb bd na st b 0 0 (hb2) (by decide) (by decide)) [0, 2] rfl (by decide) [(bd 3), (bd 13)] (fun _ => rfl) rfl 0 0 rfl rfl rfl ⟨Nat.le_of_ble_eq_true rfl, Nat.le_of_ble_eq_true rfl⟩ rfl hl.1 (Nat.le_of_ble_eq_true rfl) ⟨Nat.le_refl _, Nat.le_refl _⟩ dX0_takeReading_75 ?_
      clear hB
      try clear locs
      try clear H
      intro r4 u4 H locs hp hB
      obtain rfl : r4 = st (2 * (2 * b + 0) + 0) := hp
      replace hB : zB D A s ([((bd 3), .inr (0, [.ref (bd 12), .ref (bd 13), .ref (bd 14), .ref (bd 15), .ref (bd 16), .ref (bd 17), .ref (na 21), .ref (na 22), .ref (na 23), .ref (na 24)])), ((bd 12), .inr (2, [.int (bI o), .ref (na 28), .ref (na 29), .ref (na 30)])), ((bd 13), .inl (ka 0, 8, .inl st)), ((bd 16), .inl (ka 3, 3, .inr (.inr (.inr (.inr (nR na 14)))))), ((bd 2), .inr (3, [.int (nI L), .ref (bd 7), .ref (bd 8), .ref (bd 9), .ref (bd 10), .ref (bd 11), .int sz9, .int re9])), ((bd 7), .inl (ka 0, 8, .inl mo)), ((bd 8), .inl (ka 0, 8, .inl an)), ((bd 9), .inl (ka 0, 8, .inl pl)), ((bd 10), .inl (ka 0, 24, .inl ho))] ++ nP na M3) H locs := hB
      refine ztopi (y := (ga (2 * b + 0))) ((hst _ (by omega)).1) ?_
      refine lv_aload_n hx hb dX0_takeReading_78 rfl (lv_at hl 1 rfl) ?_
      refine lv_iload_n hx hb dX0_takeReading_79 rfl (lv_at hl 4 rfl) ?_
      refine lv_iload hx hb dX0_takeReading_80 (lv_at hl 0 rfl) ?_
      refine lv_iconst (v := 1) hx hb dX0_takeReading_82 (by decide) ?_
      refine zVi zm_X0_84 hF hB (c_X0_setting l D ka kb bd na st b 0 1 (hb2) (by decide) (by decide)) [0, 2] rfl (by decide) [(bd 3), (bd 13)] (fun _ => rfl) rfl 0 0 rfl rfl rfl ⟨Nat.le_of_ble_eq_true rfl, Nat.le_of_ble_eq_true rfl⟩ rfl hl.1 (Nat.le_of_ble_eq_true rfl) ⟨Nat.le_refl _, Nat.le_refl _⟩ dX0_takeReading_83 ?_
      clear hB
      try clear locs
      try clear H
      intro r5 u5 H locs hp hB
      obtain rfl : r5 = st (2 * (2 * b + 0) + 1) := hp
      replace hB : zB D A s ([((bd 3), .inr (0, [.ref (bd 12), .ref (bd 13), .ref (bd 14), .ref (bd 15), .ref (bd 16), .ref (bd 17), .ref (na 21), .ref (na 22), .ref (na 23), .ref (na 24)])), ((bd 12), .inr (2, [.int (bI o), .ref (na 28), .ref (na 29), .ref (na 30)])), ((bd 13), .inl (ka 0, 8, .inl st)), ((bd 16), .inl (ka 3, 3, .inr (.inr (.inr (.inr (nR na 14)))))), ((bd 2), .inr (3, [.int (nI L), .ref (bd 7), .ref (bd 8), .ref (bd 9), .ref (bd 10), .ref (bd 11), .int sz9, .int re9])), ((bd 7), .inl (ka 0, 8, .inl mo)), ((bd 8), .inl (ka 0, 8, .inl an)), ((bd 9), .inl (ka 0, 8, .inl pl)), ((bd 10), .inl (ka 0, 24, .inl ho))] ++ nP na M3) H locs := hB
      refine ztopi (y := nI (aN (lg (2 * b + 0)))) (((hst (2 * b + 0) (by omega)).2).trans (hlb 0 (by decide)).2) ?_
      refine zVv zm_X0_55 hF hB (c_X1_becomeWay l D ka kb (na 22) (M3 22) (ga (2 * b + 0)) (aN (lg (2 * b + 0))) ((hlb 0 (by decide)).1)) [9 + 22] (zsel_num rfl (by omega)) (va_nd_1 _) [na 22] (fun _ => rfl) rfl (9 + 22) 1 rfl (nP_atn rfl (by omega)) rfl ⟨Nat.le_of_ble_eq_true rfl, Nat.le_of_ble_eq_true rfl⟩ rfl hl.1 (Nat.le_of_ble_eq_true rfl) ⟨Nat.le_refl _, Nat.le_refl _⟩ dX0_takeReading_86 ?_
      clear hB
      try clear locs
      try clear H
      intro u6 H locs hp hB
      replace hB : zB D A s ([((bd 3), .inr (0, [.ref (bd 12), .ref (bd 13), .ref (bd 14), .ref (bd 15), .ref (bd 16), .ref (bd 17), .ref (na 21), .ref (na 22), .ref (na 23), .ref (na 24)])), ((bd 12), .inr (2, [.int (bI o), .ref (na 28), .ref (na 29), .ref (na 30)])), ((bd 13), .inl (ka 0, 8, .inl st)), ((bd 16), .inl (ka 3, 3, .inr (.inr (.inr (.inr (nR na 14)))))), ((bd 2), .inr (3, [.int (nI L), .ref (bd 7), .ref (bd 8), .ref (bd 9), .ref (bd 10), .ref (bd 11), .int sz9, .int re9])), ((bd 7), .inl (ka 0, 8, .inl mo)), ((bd 8), .inl (ka 0, 8, .inl an)), ((bd 9), .inl (ka 0, 8, .inl pl)), ((bd 10), .inl (ka 0, 24, .inl ho))] ++ nP na (upN M3 22 (bwN (ga (2 * b + 0)) (aN (lg (2 * b + 0)))))) H locs := zB_num (X := (bwN (ga (2 * b + 0)) (aN (lg (2 * b + 0))))) hB rfl (by omega)
      obtain ⟨M4, hM4⟩ : ∃ M, M = (upN M3 22 (bwN (ga (2 * b + 0)) (aN (lg (2 * b + 0))))) := ⟨_, rfl⟩
      rw [← hM4] at hB
      have kM4 : ∀ k9, k9 ≠ 21 → k9 ≠ 22 → k9 ≠ t → M4 k9 = N k9 := fun k9 h0 h1 h2 => by rw [hM4, upN_ne h1]; exact kM3 k9 h0 h1 h2
      have vM4_t : M4 t = zer := by rw [hM4, upN_ne (by omega)]; exact vM3_t
      have vM4_21 : M4 21 = rd1 (pulI 0 L mo an pl ho) (if k = 0 + 1 then y9 else 0) a9 := by rw [hM4, upN_ne (by decide)]; exact w21_0
      have vM4_22 : M4 22 = wyN (ga (2 * b + 0)).toInt (aN (lg (2 * b + 0))) := by rw [hM4, upN_eq]; exact bw_wy _ _
      refine lv_aload_n hx hb dX0_takeReading_89 rfl (lv_at hl 1 rfl) ?_
      refine zget zf_X0_12 hF hB 0 rfl rfl dX0_takeReading_90 ?_
      refine lv_aload_n hx hb dX0_takeReading_93 rfl (lv_at hl 1 rfl) ?_
      refine zget zf_X0_39 hF hB 0 rfl rfl dX0_takeReading_94 ?_
      refine lv_aload_n hx hb dX0_takeReading_97 rfl (lv_at hl 1 rfl) ?_
      refine zget zf_X0_43 hF hB 0 rfl rfl dX0_takeReading_98 ?_
      refine lv_aload_n hx hb dX0_takeReading_101 rfl (lv_at hl 1 rfl) ?_
      refine zget zf_X0_39 hF hB 0 rfl rfl dX0_takeReading_102 ?_
      refine zVi zm_X0_88 hF hB (c_X2_product l D ka kb (bd 12) na o 28 29 30 M4 21 21 22 (by decide) (by decide) (by decide) (by rw [vM4_21]; have := (rd1_o (hbd 0 (by decide)) ha9 (hyp 0)).2.2.2.2.2; omega) (by rw [vM4_22]; have := (wyN_bd (hlb 0 (by decide)).1 (y := (ga (2 * b + 0)).toInt) (Y := 9) (by have := hgb 0 (by decide); omega) (by omega)).2.2.2.2; omega)) ([1] ++ npr 9) (zsel_pool rfl rfl) (va_nd_pool rfl rfl) ([(bd 12)] ++ nA na) (fun _ => zad_pool rfl) (zad_pool rfl) 1 2 rfl rfl rfl ⟨Nat.le_of_ble_eq_true rfl, Nat.le_of_ble_eq_true rfl⟩ rfl hl.1 (Nat.le_of_ble_eq_true rfl) ⟨Nat.le_refl _, Nat.le_refl _⟩ dX0_takeReading_105 ?_
      clear hB
      try clear locs
      try clear H
      intro r7 u7 H locs hp hB
      obtain rfl : r7 = bI (!(prodO (M4 21) (M4 22))) := hp
      replace hB : zB D A s ([((bd 3), .inr (0, [.ref (bd 12), .ref (bd 13), .ref (bd 14), .ref (bd 15), .ref (bd 16), .ref (bd 17), .ref (na 21), .ref (na 22), .ref (na 23), .ref (na 24)])), ((bd 12), .inr (2, [.int (bI (prodO (M4 21) (M4 22))), .ref (na 28), .ref (na 29), .ref (na 30)])), ((bd 13), .inl (ka 0, 8, .inl st)), ((bd 16), .inl (ka 3, 3, .inr (.inr (.inr (.inr (nR na 14)))))), ((bd 2), .inr (3, [.int (nI L), .ref (bd 7), .ref (bd 8), .ref (bd 9), .ref (bd 10), .ref (bd 11), .int sz9, .int re9])), ((bd 7), .inl (ka 0, 8, .inl mo)), ((bd 8), .inl (ka 0, 8, .inl an)), ((bd 9), .inl (ka 0, 8, .inl pl)), ((bd 10), .inl (ka 0, 24, .inl ho))] ++ nP na (if prodO (M4 21) (M4 22) = true then M4 else upN M4 21 (prodV (M4 21) (M4 22)))) H locs := zB_pool hB rfl rfl rfl rfl
      have hsM4 : prodO (M4 21) (M4 22) = false := by rw [vM4_21, vM4_22]; exact (rd2_o (hbd 0 (by decide)) ha9 (hyp 0) (hgb 0 (by decide)) (hlb 0 (by decide)).1).1
      obtain ⟨M5, hM5⟩ : ∃ M, M = (if prodO (M4 21) (M4 22) = true then M4 else upN M4 21 (prodV (M4 21) (M4 22))) := ⟨_, rfl⟩
      rw [← hM5] at hB
      rw [if_neg (by rw [hsM4]; decide)] at hM5
      have kM5 : ∀ k9, k9 ≠ 21 → k9 ≠ 22 → k9 ≠ t → M5 k9 = N k9 := fun k9 h0 h1 h2 => by rw [hM5, upN_ne h0]; exact kM4 k9 h0 h1 h2
      have vM5_t : M5 t = zer := by rw [hM5, upN_ne (by omega)]; exact vM4_t
      have vM5_22 : M5 22 = wyN (ga (2 * b + 0)).toInt (aN (lg (2 * b + 0))) := by rw [hM5, upN_ne (by decide)]; exact vM4_22
      have vM5_21 : M5 21 = rd2 (pulI 0 L mo an pl ho) (if k = 0 + 1 then y9 else 0) a9 (ga (2 * b + 0)).toInt (aN (lg (2 * b + 0))) := by rw [hM5, upN_eq]; rw [vM4_21, vM4_22] <;> rfl
      refine lv_pop hx hb dX0_takeReading_108 rfl ?_
      refine lv_aload_n hx hb dX0_takeReading_109 rfl (lv_at hl 1 rfl) ?_
      refine zget zf_X0_12 hF hB 0 rfl rfl dX0_takeReading_110 ?_
      refine lv_aload hx hb dX0_takeReading_113 (lv_at hl 5 rfl) ?_
      refine lv_aload_n hx hb dX0_takeReading_115 rfl (lv_at hl 1 rfl) ?_
      refine zget zf_X0_39 hF hB 0 rfl rfl dX0_takeReading_116 ?_
      refine lv_aload hx hb dX0_takeReading_119 (lv_at hl 5 rfl) ?_
      refine zVi zm_X0_80 hF hB (c_X2_sum l D ka kb (bd 12) na (prodO (M4 21) (M4 22)) 28 29 30 M5 t t 21 (by omega) (by omega) (by decide) (by rw [vM5_t]; decide) (by rw [vM5_21]; have := (rd2_o (hbd 0 (by decide)) ha9 (hyp 0) (hgb 0 (by decide)) (hlb 0 (by decide)).1).2.2.2.2.2; omega)) ([1] ++ npr 9) (zsel_pool rfl rfl) (va_nd_pool rfl rfl) ([(bd 12)] ++ nA na) (fun _ => zad_pool rfl) (zad_pool rfl) 1 2 rfl rfl rfl ⟨Nat.le_of_ble_eq_true rfl, Nat.le_of_ble_eq_true rfl⟩ rfl hl.1 (Nat.le_of_ble_eq_true rfl) ⟨Nat.le_refl _, Nat.le_refl _⟩ dX0_takeReading_121 ?_
      clear hB
      try clear locs
      try clear H
      intro r8 u8 H locs hp hB
      obtain rfl : r8 = bI (!(sumO false (M5 t) (M5 21))) := hp
      replace hB : zB D A s ([((bd 3), .inr (0, [.ref (bd 12), .ref (bd 13), .ref (bd 14), .ref (bd 15), .ref (bd 16), .ref (bd 17), .ref (na 21), .ref (na 22), .ref (na 23), .ref (na 24)])), ((bd 12), .inr (2, [.int (bI (sumO false (M5 t) (M5 21))), .ref (na 28), .ref (na 29), .ref (na 30)])), ((bd 13), .inl (ka 0, 8, .inl st)), ((bd 16), .inl (ka 3, 3, .inr (.inr (.inr (.inr (nR na 14)))))), ((bd 2), .inr (3, [.int (nI L), .ref (bd 7), .ref (bd 8), .ref (bd 9), .ref (bd 10), .ref (bd 11), .int sz9, .int re9])), ((bd 7), .inl (ka 0, 8, .inl mo)), ((bd 8), .inl (ka 0, 8, .inl an)), ((bd 9), .inl (ka 0, 8, .inl pl)), ((bd 10), .inl (ka 0, 24, .inl ho))] ++ nP na (if sumO false (M5 t) (M5 21) = true then M5 else upN M5 t (sumV false (M5 t) (M5 21)))) H locs := zB_pool hB rfl rfl rfl rfl
      have hsM5 : sumO false (M5 t) (M5 21) = false := by rw [vM5_t, vM5_21]; exact sumO_z (by have := (rd2_o (hbd 0 (by decide)) ha9 (hyp 0) (hgb 0 (by decide)) (hlb 0 (by decide)).1).2.2.2.2.2; omega)
      obtain ⟨M6, hM6⟩ : ∃ M, M = (if sumO false (M5 t) (M5 21) = true then M5 else upN M5 t (sumV false (M5 t) (M5 21))) := ⟨_, rfl⟩
      rw [← hM6] at hB
      rw [if_neg (by rw [hsM5]; decide)] at hM6
      have kM6 : ∀ k9, k9 ≠ 21 → k9 ≠ 22 → k9 ≠ t → M6 k9 = N k9 := fun k9 h0 h1 h2 => by rw [hM6, upN_ne h2]; exact kM5 k9 h0 h1 h2
      have vM6_22 : M6 22 = wyN (ga (2 * b + 0)).toInt (aN (lg (2 * b + 0))) := by rw [hM6, upN_ne (by omega)]; exact vM5_22
      have vM6_21 : M6 21 = rd2 (pulI 0 L mo an pl ho) (if k = 0 + 1 then y9 else 0) a9 (ga (2 * b + 0)).toInt (aN (lg (2 * b + 0))) := by rw [hM6, upN_ne (by omega)]; exact vM5_21
      have vM6_t : M6 t = rd2 (pulI 0 L mo an pl ho) (if k = 0 + 1 then y9 else 0) a9 (ga (2 * b + 0)).toInt (aN (lg (2 * b + 0))) := by rw [hM6, upN_eq]; rw [vM5_t, vM5_21]; exact sum_zl (rd2_L (hbd 0 (by decide)) ha9 (hyp 0) (hgb 0 (by decide)) (hlb 0 (by decide)).1)
      refine lv_pop hx hb dX0_takeReading_124 rfl ?_
      refine lv_iinc (v := (1 : Int32)) (lv' := [(5, .int (1 : Int32)), (0, .ref (bd 3)), (1, .ref (bd 2)), (2, .int (nI k)), (3, .int (nI b)), (4, .ref (na t))]) hx hb dX0_takeReading_125 hl (k := 0) rfl (by decide) (by decide) rfl ?_
      clear hl
      clear ls
      intro ls hl
      refine lv_goto (tgt := 13) hx hb dX0_takeReading_128 (by decide) ?_
      refine lv_iload hx hb dX0_takeReading_13 (lv_at hl 0 rfl) ?_
      refine lv_iconst (v := 2) hx hb dX0_takeReading_15 (by decide) ?_
      refine lv_icmp_ge (tgt := 131) hx hb dX0_takeReading_16 (by decide) (fun h16 => ?_) (fun h16 => ?_)
      · skip
        exact absurd h16 (by decide)
      · skip
        refine lv_aload_n hx hb dX0_takeReading_19 rfl (lv_at hl 2 rfl) ?_
        refine lv_iload hx hb dX0_takeReading_20 (lv_at hl 0 rfl) ?_
        refine lv_aload_n hx hb dX0_takeReading_22 rfl (lv_at hl 1 rfl) ?_
        refine zget zf_X0_39 hF hB 0 rfl rfl dX0_takeReading_23 ?_
        refine zVv zm_X0_71 hF hB (c_X3_takePullBy20 l D ka kb bd sz9 re9 L mo an pl ho na M6 21 1 (by decide) (by decide) (hok) (hoh)) ([4, 5, 6, 7, 8] ++ npr 9) (zsel_pool rfl rfl) (va_nd_pool rfl rfl) ([(bd 2), (bd 7), (bd 8), (bd 9), (bd 10)] ++ nA na) (fun _ => zad_pool rfl) (zad_pool rfl) 4 3 rfl rfl rfl ⟨Nat.le_of_ble_eq_true rfl, Nat.le_of_ble_eq_true rfl⟩ rfl hl.1 (Nat.le_of_ble_eq_true rfl) ⟨Nat.le_refl _, Nat.le_refl _⟩ dX0_takeReading_26 ?_
        clear hB
        try clear locs
        try clear H
        intro u9 H locs hp hB
        replace hB : zB D A s ([((bd 3), .inr (0, [.ref (bd 12), .ref (bd 13), .ref (bd 14), .ref (bd 15), .ref (bd 16), .ref (bd 17), .ref (na 21), .ref (na 22), .ref (na 23), .ref (na 24)])), ((bd 12), .inr (2, [.int (bI (sumO false (M5 t) (M5 21))), .ref (na 28), .ref (na 29), .ref (na 30)])), ((bd 13), .inl (ka 0, 8, .inl st)), ((bd 16), .inl (ka 3, 3, .inr (.inr (.inr (.inr (nR na 14)))))), ((bd 2), .inr (3, [.int (nI L), .ref (bd 7), .ref (bd 8), .ref (bd 9), .ref (bd 10), .ref (bd 11), .int sz9, .int re9])), ((bd 7), .inl (ka 0, 8, .inl mo)), ((bd 8), .inl (ka 0, 8, .inl an)), ((bd 9), .inl (ka 0, 8, .inl pl)), ((bd 10), .inl (ka 0, 24, .inl ho))] ++ nP na (upN M6 21 (p20N (pulI 1 L mo an pl ho)))) H locs := zB_pool hB rfl rfl rfl rfl
        obtain ⟨M7, hM7⟩ : ∃ M, M = (upN M6 21 (p20N (pulI 1 L mo an pl ho))) := ⟨_, rfl⟩
        rw [← hM7] at hB
        have kM7 : ∀ k9, k9 ≠ 21 → k9 ≠ 22 → k9 ≠ t → M7 k9 = N k9 := fun k9 h0 h1 h2 => by rw [hM7, upN_ne h0]; exact kM6 k9 h0 h1 h2
        have vM7_22 : M7 22 = wyN (ga (2 * b + 0)).toInt (aN (lg (2 * b + 0))) := by rw [hM7, upN_ne (by decide)]; exact vM6_22
        have vM7_t : M7 t = rd2 (pulI 0 L mo an pl ho) (if k = 0 + 1 then y9 else 0) a9 (ga (2 * b + 0)).toInt (aN (lg (2 * b + 0))) := by rw [hM7, upN_ne (by omega)]; exact vM6_t
        have vM7_21 : M7 21 = p20N (pulI 1 L mo an pl ho) := by rw [hM7, upN_eq]
        refine lv_aload_n hx hb dX0_takeReading_29 rfl (lv_at hl 1 rfl) ?_
        refine zget zf_X0_39 hF hB 0 rfl rfl dX0_takeReading_30 ?_
        refine zVv zm_X0_77 hF hB (c_X1_shorten l D ka kb (na 21) (M7 21) (by rw [vM7_21]; exact (show 0 < (20 : Int64).toInt by decide))) [9 + 21] (zsel_num rfl (by omega)) (va_nd_1 _) [na 21] (fun _ => rfl) rfl (9 + 21) 1 rfl (nP_atn rfl (by omega)) rfl ⟨Nat.le_of_ble_eq_true rfl, Nat.le_of_ble_eq_true rfl⟩ rfl hl.1 (Nat.le_of_ble_eq_true rfl) ⟨Nat.le_refl _, Nat.le_refl _⟩ dX0_takeReading_33 ?_
        clear hB
        try clear locs
        try clear H
        intro u10 H locs hp hB
        replace hB : zB D A s ([((bd 3), .inr (0, [.ref (bd 12), .ref (bd 13), .ref (bd 14), .ref (bd 15), .ref (bd 16), .ref (bd 17), .ref (na 21), .ref (na 22), .ref (na 23), .ref (na 24)])), ((bd 12), .inr (2, [.int (bI (sumO false (M5 t) (M5 21))), .ref (na 28), .ref (na 29), .ref (na 30)])), ((bd 13), .inl (ka 0, 8, .inl st)), ((bd 16), .inl (ka 3, 3, .inr (.inr (.inr (.inr (nR na 14)))))), ((bd 2), .inr (3, [.int (nI L), .ref (bd 7), .ref (bd 8), .ref (bd 9), .ref (bd 10), .ref (bd 11), .int sz9, .int re9])), ((bd 7), .inl (ka 0, 8, .inl mo)), ((bd 8), .inl (ka 0, 8, .inl an)), ((bd 9), .inl (ka 0, 8, .inl pl)), ((bd 10), .inl (ka 0, 24, .inl ho))] ++ nP na (upN M7 21 (lowN (M7 21).1 (M7 21).2.1 (M7 21).2.2.1 (M7 21).2.2.2.1 (M7 21).2.2.2.2))) H locs := zB_num (X := (lowN (M7 21).1 (M7 21).2.1 (M7 21).2.2.1 (M7 21).2.2.2.1 (M7 21).2.2.2.2)) hB rfl (by omega)
        obtain ⟨M8, hM8⟩ : ∃ M, M = (upN M7 21 (lowN (M7 21).1 (M7 21).2.1 (M7 21).2.2.1 (M7 21).2.2.2.1 (M7 21).2.2.2.2)) := ⟨_, rfl⟩
        rw [← hM8] at hB
        have kM8 : ∀ k9, k9 ≠ 21 → k9 ≠ 22 → k9 ≠ t → M8 k9 = N k9 := fun k9 h0 h1 h2 => by rw [hM8, upN_ne h0]; exact kM7 k9 h0 h1 h2
        have vM8_22 : M8 22 = wyN (ga (2 * b + 0)).toInt (aN (lg (2 * b + 0))) := by rw [hM8, upN_ne (by decide)]; exact vM7_22
        have vM8_t : M8 t = rd2 (pulI 0 L mo an pl ho) (if k = 0 + 1 then y9 else 0) a9 (ga (2 * b + 0)).toInt (aN (lg (2 * b + 0))) := by rw [hM8, upN_ne (by omega)]; exact vM7_t
        have vM8_21 : M8 21 = plN (pulI 1 L mo an pl ho) := by rw [hM8, upN_eq]; rw [vM7_21] <;> rfl
        refine lv_iload_n hx hb dX0_takeReading_36 rfl (lv_at hl 3 rfl) ?_
        refine lv_iload hx hb dX0_takeReading_37 (lv_at hl 0 rfl) ?_
        refine lv_iconst (v := 1) hx hb dX0_takeReading_39 (by decide) ?_
        refine lv_iadd hx hb dX0_takeReading_40 ?_
        refine ztopi (y := (2 : Int32)) (by decide) ?_
        refine lv_icmp_ne (tgt := 66) hx hb dX0_takeReading_41 (by decide) (fun h41 => ?_) (fun h41 => ?_)
        · skip
          have hkp1 : ¬ k = 1 + 1 := fun e8 => h41 (by rw [e8]; rfl)
          have w21_1 : M8 21 = rd1 (pulI 1 L mo an pl ho) (if k = 1 + 1 then y9 else 0) a9 := by rw [if_neg hkp1, rd1_0]; exact vM8_21
          refine lv_aload_n hx hb dX0_takeReading_66 rfl (lv_at hl 1 rfl) ?_
          refine zget zf_X0_43 hF hB 0 rfl rfl dX0_takeReading_67 ?_
          refine lv_aload_n hx hb dX0_takeReading_70 rfl (lv_at hl 1 rfl) ?_
          refine lv_iload_n hx hb dX0_takeReading_71 rfl (lv_at hl 4 rfl) ?_
          refine lv_iload hx hb dX0_takeReading_72 (lv_at hl 0 rfl) ?_
          refine lv_iconst (v := 0) hx hb dX0_takeReading_74 (by decide) ?_
          refine zVi zm_X0_84 hF hB (c_X0_setting l D ka kb bd na st b 1 0 (hb2) (by decide) (by decide)) [0, 2] rfl (by decide) [(bd 3), (bd 13)] (fun _ => rfl) rfl 0 0 rfl rfl rfl ⟨Nat.le_of_ble_eq_true rfl, Nat.le_of_ble_eq_true rfl⟩ rfl hl.1 (Nat.le_of_ble_eq_true rfl) ⟨Nat.le_refl _, Nat.le_refl _⟩ dX0_takeReading_75 ?_
          clear hB
          try clear locs
          try clear H
          intro r11 u11 H locs hp hB
          obtain rfl : r11 = st (2 * (2 * b + 1) + 0) := hp
          replace hB : zB D A s ([((bd 3), .inr (0, [.ref (bd 12), .ref (bd 13), .ref (bd 14), .ref (bd 15), .ref (bd 16), .ref (bd 17), .ref (na 21), .ref (na 22), .ref (na 23), .ref (na 24)])), ((bd 12), .inr (2, [.int (bI (sumO false (M5 t) (M5 21))), .ref (na 28), .ref (na 29), .ref (na 30)])), ((bd 13), .inl (ka 0, 8, .inl st)), ((bd 16), .inl (ka 3, 3, .inr (.inr (.inr (.inr (nR na 14)))))), ((bd 2), .inr (3, [.int (nI L), .ref (bd 7), .ref (bd 8), .ref (bd 9), .ref (bd 10), .ref (bd 11), .int sz9, .int re9])), ((bd 7), .inl (ka 0, 8, .inl mo)), ((bd 8), .inl (ka 0, 8, .inl an)), ((bd 9), .inl (ka 0, 8, .inl pl)), ((bd 10), .inl (ka 0, 24, .inl ho))] ++ nP na M8) H locs := hB
          refine ztopi (y := (ga (2 * b + 1))) ((hst _ (by omega)).1) ?_
          refine lv_aload_n hx hb dX0_takeReading_78 rfl (lv_at hl 1 rfl) ?_
          refine lv_iload_n hx hb dX0_takeReading_79 rfl (lv_at hl 4 rfl) ?_
          refine lv_iload hx hb dX0_takeReading_80 (lv_at hl 0 rfl) ?_
          refine lv_iconst (v := 1) hx hb dX0_takeReading_82 (by decide) ?_
          refine zVi zm_X0_84 hF hB (c_X0_setting l D ka kb bd na st b 1 1 (hb2) (by decide) (by decide)) [0, 2] rfl (by decide) [(bd 3), (bd 13)] (fun _ => rfl) rfl 0 0 rfl rfl rfl ⟨Nat.le_of_ble_eq_true rfl, Nat.le_of_ble_eq_true rfl⟩ rfl hl.1 (Nat.le_of_ble_eq_true rfl) ⟨Nat.le_refl _, Nat.le_refl _⟩ dX0_takeReading_83 ?_
          clear hB
          try clear locs
          try clear H
          intro r12 u12 H locs hp hB
          obtain rfl : r12 = st (2 * (2 * b + 1) + 1) := hp
          replace hB : zB D A s ([((bd 3), .inr (0, [.ref (bd 12), .ref (bd 13), .ref (bd 14), .ref (bd 15), .ref (bd 16), .ref (bd 17), .ref (na 21), .ref (na 22), .ref (na 23), .ref (na 24)])), ((bd 12), .inr (2, [.int (bI (sumO false (M5 t) (M5 21))), .ref (na 28), .ref (na 29), .ref (na 30)])), ((bd 13), .inl (ka 0, 8, .inl st)), ((bd 16), .inl (ka 3, 3, .inr (.inr (.inr (.inr (nR na 14)))))), ((bd 2), .inr (3, [.int (nI L), .ref (bd 7), .ref (bd 8), .ref (bd 9), .ref (bd 10), .ref (bd 11), .int sz9, .int re9])), ((bd 7), .inl (ka 0, 8, .inl mo)), ((bd 8), .inl (ka 0, 8, .inl an)), ((bd 9), .inl (ka 0, 8, .inl pl)), ((bd 10), .inl (ka 0, 24, .inl ho))] ++ nP na M8) H locs := hB
          refine ztopi (y := nI (aN (lg (2 * b + 1)))) (((hst (2 * b + 1) (by omega)).2).trans (hlb 1 (by decide)).2) ?_
          refine zVv zm_X0_55 hF hB (c_X1_becomeWay l D ka kb (na 22) (M8 22) (ga (2 * b + 1)) (aN (lg (2 * b + 1))) ((hlb 1 (by decide)).1)) [9 + 22] (zsel_num rfl (by omega)) (va_nd_1 _) [na 22] (fun _ => rfl) rfl (9 + 22) 1 rfl (nP_atn rfl (by omega)) rfl ⟨Nat.le_of_ble_eq_true rfl, Nat.le_of_ble_eq_true rfl⟩ rfl hl.1 (Nat.le_of_ble_eq_true rfl) ⟨Nat.le_refl _, Nat.le_refl _⟩ dX0_takeReading_86 ?_
          clear hB
          try clear locs
          try clear H
          intro u13 H locs hp hB
          replace hB : zB D A s ([((bd 3), .inr (0, [.ref (bd 12), .ref (bd 13), .ref (bd 14), .ref (bd 15), .ref (bd 16), .ref (bd 17), .ref (na 21), .ref (na 22), .ref (na 23), .ref (na 24)])), ((bd 12), .inr (2, [.int (bI (sumO false (M5 t) (M5 21))), .ref (na 28), .ref (na 29), .ref (na 30)])), ((bd 13), .inl (ka 0, 8, .inl st)), ((bd 16), .inl (ka 3, 3, .inr (.inr (.inr (.inr (nR na 14)))))), ((bd 2), .inr (3, [.int (nI L), .ref (bd 7), .ref (bd 8), .ref (bd 9), .ref (bd 10), .ref (bd 11), .int sz9, .int re9])), ((bd 7), .inl (ka 0, 8, .inl mo)), ((bd 8), .inl (ka 0, 8, .inl an)), ((bd 9), .inl (ka 0, 8, .inl pl)), ((bd 10), .inl (ka 0, 24, .inl ho))] ++ nP na (upN M8 22 (bwN (ga (2 * b + 1)) (aN (lg (2 * b + 1)))))) H locs := zB_num (X := (bwN (ga (2 * b + 1)) (aN (lg (2 * b + 1))))) hB rfl (by omega)
          obtain ⟨M9, hM9⟩ : ∃ M, M = (upN M8 22 (bwN (ga (2 * b + 1)) (aN (lg (2 * b + 1))))) := ⟨_, rfl⟩
          rw [← hM9] at hB
          have kM9 : ∀ k9, k9 ≠ 21 → k9 ≠ 22 → k9 ≠ t → M9 k9 = N k9 := fun k9 h0 h1 h2 => by rw [hM9, upN_ne h1]; exact kM8 k9 h0 h1 h2
          have vM9_t : M9 t = rd2 (pulI 0 L mo an pl ho) (if k = 0 + 1 then y9 else 0) a9 (ga (2 * b + 0)).toInt (aN (lg (2 * b + 0))) := by rw [hM9, upN_ne (by omega)]; exact vM8_t
          have vM9_21 : M9 21 = rd1 (pulI 1 L mo an pl ho) (if k = 1 + 1 then y9 else 0) a9 := by rw [hM9, upN_ne (by decide)]; exact w21_1
          have vM9_22 : M9 22 = wyN (ga (2 * b + 1)).toInt (aN (lg (2 * b + 1))) := by rw [hM9, upN_eq]; exact bw_wy _ _
          refine lv_aload_n hx hb dX0_takeReading_89 rfl (lv_at hl 1 rfl) ?_
          refine zget zf_X0_12 hF hB 0 rfl rfl dX0_takeReading_90 ?_
          refine lv_aload_n hx hb dX0_takeReading_93 rfl (lv_at hl 1 rfl) ?_
          refine zget zf_X0_39 hF hB 0 rfl rfl dX0_takeReading_94 ?_
          refine lv_aload_n hx hb dX0_takeReading_97 rfl (lv_at hl 1 rfl) ?_
          refine zget zf_X0_43 hF hB 0 rfl rfl dX0_takeReading_98 ?_
          refine lv_aload_n hx hb dX0_takeReading_101 rfl (lv_at hl 1 rfl) ?_
          refine zget zf_X0_39 hF hB 0 rfl rfl dX0_takeReading_102 ?_
          refine zVi zm_X0_88 hF hB (c_X2_product l D ka kb (bd 12) na (sumO false (M5 t) (M5 21)) 28 29 30 M9 21 21 22 (by decide) (by decide) (by decide) (by rw [vM9_21]; have := (rd1_o (hbd 1 (by decide)) ha9 (hyp 1)).2.2.2.2.2; omega) (by rw [vM9_22]; have := (wyN_bd (hlb 1 (by decide)).1 (y := (ga (2 * b + 1)).toInt) (Y := 9) (by have := hgb 1 (by decide); omega) (by omega)).2.2.2.2; omega)) ([1] ++ npr 9) (zsel_pool rfl rfl) (va_nd_pool rfl rfl) ([(bd 12)] ++ nA na) (fun _ => zad_pool rfl) (zad_pool rfl) 1 2 rfl rfl rfl ⟨Nat.le_of_ble_eq_true rfl, Nat.le_of_ble_eq_true rfl⟩ rfl hl.1 (Nat.le_of_ble_eq_true rfl) ⟨Nat.le_refl _, Nat.le_refl _⟩ dX0_takeReading_105 ?_
          clear hB
          try clear locs
          try clear H
          intro r14 u14 H locs hp hB
          obtain rfl : r14 = bI (!(prodO (M9 21) (M9 22))) := hp
          replace hB : zB D A s ([((bd 3), .inr (0, [.ref (bd 12), .ref (bd 13), .ref (bd 14), .ref (bd 15), .ref (bd 16), .ref (bd 17), .ref (na 21), .ref (na 22), .ref (na 23), .ref (na 24)])), ((bd 12), .inr (2, [.int (bI (prodO (M9 21) (M9 22))), .ref (na 28), .ref (na 29), .ref (na 30)])), ((bd 13), .inl (ka 0, 8, .inl st)), ((bd 16), .inl (ka 3, 3, .inr (.inr (.inr (.inr (nR na 14)))))), ((bd 2), .inr (3, [.int (nI L), .ref (bd 7), .ref (bd 8), .ref (bd 9), .ref (bd 10), .ref (bd 11), .int sz9, .int re9])), ((bd 7), .inl (ka 0, 8, .inl mo)), ((bd 8), .inl (ka 0, 8, .inl an)), ((bd 9), .inl (ka 0, 8, .inl pl)), ((bd 10), .inl (ka 0, 24, .inl ho))] ++ nP na (if prodO (M9 21) (M9 22) = true then M9 else upN M9 21 (prodV (M9 21) (M9 22)))) H locs := zB_pool hB rfl rfl rfl rfl
          have hsM9 : prodO (M9 21) (M9 22) = false := by rw [vM9_21, vM9_22]; exact (rd2_o (hbd 1 (by decide)) ha9 (hyp 1) (hgb 1 (by decide)) (hlb 1 (by decide)).1).1
          obtain ⟨M10, hM10⟩ : ∃ M, M = (if prodO (M9 21) (M9 22) = true then M9 else upN M9 21 (prodV (M9 21) (M9 22))) := ⟨_, rfl⟩
          rw [← hM10] at hB
          rw [if_neg (by rw [hsM9]; decide)] at hM10
          have kM10 : ∀ k9, k9 ≠ 21 → k9 ≠ 22 → k9 ≠ t → M10 k9 = N k9 := fun k9 h0 h1 h2 => by rw [hM10, upN_ne h0]; exact kM9 k9 h0 h1 h2
          have vM10_t : M10 t = rd2 (pulI 0 L mo an pl ho) (if k = 0 + 1 then y9 else 0) a9 (ga (2 * b + 0)).toInt (aN (lg (2 * b + 0))) := by rw [hM10, upN_ne (by omega)]; exact vM9_t
          have vM10_22 : M10 22 = wyN (ga (2 * b + 1)).toInt (aN (lg (2 * b + 1))) := by rw [hM10, upN_ne (by decide)]; exact vM9_22
          have vM10_21 : M10 21 = rd2 (pulI 1 L mo an pl ho) (if k = 1 + 1 then y9 else 0) a9 (ga (2 * b + 1)).toInt (aN (lg (2 * b + 1))) := by rw [hM10, upN_eq]; rw [vM9_21, vM9_22] <;> rfl
          refine lv_pop hx hb dX0_takeReading_108 rfl ?_
          refine lv_aload_n hx hb dX0_takeReading_109 rfl (lv_at hl 1 rfl) ?_
          refine zget zf_X0_12 hF hB 0 rfl rfl dX0_takeReading_110 ?_
          refine lv_aload hx hb dX0_takeReading_113 (lv_at hl 5 rfl) ?_
          refine lv_aload_n hx hb dX0_takeReading_115 rfl (lv_at hl 1 rfl) ?_
          refine zget zf_X0_39 hF hB 0 rfl rfl dX0_takeReading_116 ?_
          refine lv_aload hx hb dX0_takeReading_119 (lv_at hl 5 rfl) ?_
          refine zVi zm_X0_80 hF hB (c_X2_sum l D ka kb (bd 12) na (prodO (M9 21) (M9 22)) 28 29 30 M10 t t 21 (by omega) (by omega) (by decide) (by rw [vM10_t]; have := (rd2_o (hbd 0 (by decide)) ha9 (hyp 0) (hgb 0 (by decide)) (hlb 0 (by decide)).1).2.2.2.2.2; omega) (by rw [vM10_21]; have := (rd2_o (hbd 1 (by decide)) ha9 (hyp 1) (hgb 1 (by decide)) (hlb 1 (by decide)).1).2.2.2.2.2; omega)) ([1] ++ npr 9) (zsel_pool rfl rfl) (va_nd_pool rfl rfl) ([(bd 12)] ++ nA na) (fun _ => zad_pool rfl) (zad_pool rfl) 1 2 rfl rfl rfl ⟨Nat.le_of_ble_eq_true rfl, Nat.le_of_ble_eq_true rfl⟩ rfl hl.1 (Nat.le_of_ble_eq_true rfl) ⟨Nat.le_refl _, Nat.le_refl _⟩ dX0_takeReading_121 ?_
          clear hB
          try clear locs
          try clear H
          intro r15 u15 H locs hp hB
          obtain rfl : r15 = bI (!(sumO false (M10 t) (M10 21))) := hp
          replace hB : zB D A s ([((bd 3), .inr (0, [.ref (bd 12), .ref (bd 13), .ref (bd 14), .ref (bd 15), .ref (bd 16), .ref (bd 17), .ref (na 21), .ref (na 22), .ref (na 23), .ref (na 24)])), ((bd 12), .inr (2, [.int (bI (sumO false (M10 t) (M10 21))), .ref (na 28), .ref (na 29), .ref (na 30)])), ((bd 13), .inl (ka 0, 8, .inl st)), ((bd 16), .inl (ka 3, 3, .inr (.inr (.inr (.inr (nR na 14)))))), ((bd 2), .inr (3, [.int (nI L), .ref (bd 7), .ref (bd 8), .ref (bd 9), .ref (bd 10), .ref (bd 11), .int sz9, .int re9])), ((bd 7), .inl (ka 0, 8, .inl mo)), ((bd 8), .inl (ka 0, 8, .inl an)), ((bd 9), .inl (ka 0, 8, .inl pl)), ((bd 10), .inl (ka 0, 24, .inl ho))] ++ nP na (if sumO false (M10 t) (M10 21) = true then M10 else upN M10 t (sumV false (M10 t) (M10 21)))) H locs := zB_pool hB rfl rfl rfl rfl
          have hsM10 : sumO false (M10 t) (M10 21) = false := by rw [vM10_t, vM10_21]; exact (rd3_o (hbd 0 (by decide)) (hbd 1 (by decide)) ha9 (hyp 0) (hyp 1) (hgb 0 (by decide)) (hgb 1 (by decide)) (hlb 0 (by decide)).1 (hlb 1 (by decide)).1).1
          obtain ⟨M11, hM11⟩ : ∃ M, M = (if sumO false (M10 t) (M10 21) = true then M10 else upN M10 t (sumV false (M10 t) (M10 21))) := ⟨_, rfl⟩
          rw [← hM11] at hB
          rw [if_neg (by rw [hsM10]; decide)] at hM11
          have kM11 : ∀ k9, k9 ≠ 21 → k9 ≠ 22 → k9 ≠ t → M11 k9 = N k9 := fun k9 h0 h1 h2 => by rw [hM11, upN_ne h2]; exact kM10 k9 h0 h1 h2
          have vM11_22 : M11 22 = wyN (ga (2 * b + 1)).toInt (aN (lg (2 * b + 1))) := by rw [hM11, upN_ne (by omega)]; exact vM10_22
          have vM11_21 : M11 21 = rd2 (pulI 1 L mo an pl ho) (if k = 1 + 1 then y9 else 0) a9 (ga (2 * b + 1)).toInt (aN (lg (2 * b + 1))) := by rw [hM11, upN_ne (by omega)]; exact vM10_21
          have vM11_t : M11 t = sumV false (rd2 (pulI 0 L mo an pl ho) (if k = 0 + 1 then y9 else 0) a9 (ga (2 * b + 0)).toInt (aN (lg (2 * b + 0)))) (rd2 (pulI 1 L mo an pl ho) (if k = 1 + 1 then y9 else 0) a9 (ga (2 * b + 1)).toInt (aN (lg (2 * b + 1)))) := by rw [hM11, upN_eq]; rw [vM10_t, vM10_21]
          refine lv_pop hx hb dX0_takeReading_124 rfl ?_
          refine lv_iinc (v := (2 : Int32)) (lv' := [(5, .int (2 : Int32)), (0, .ref (bd 3)), (1, .ref (bd 2)), (2, .int (nI k)), (3, .int (nI b)), (4, .ref (na t))]) hx hb dX0_takeReading_125 hl (k := 0) rfl (by decide) (by decide) rfl ?_
          clear hl
          clear ls
          intro ls hl
          refine lv_goto (tgt := 13) hx hb dX0_takeReading_128 (by decide) ?_
          refine lv_iload hx hb dX0_takeReading_13 (lv_at hl 0 rfl) ?_
          refine lv_iconst (v := 2) hx hb dX0_takeReading_15 (by decide) ?_
          refine lv_icmp_ge (tgt := 131) hx hb dX0_takeReading_16 (by decide) (fun h16 => ?_) (fun h16 => ?_)
          · skip
            exact zretv hF hB (M11, sumO false (M10 t) (M10 21)) (⟨kM11, vM11_t⟩) (rfl) dX0_takeReading_131 hQ
          · skip
            exact absurd (by decide) h16
        · skip
          have hkp1 : k = 1 + 1 := (nI_eq (b := 2) (by omega) (by decide)).mp h41
          refine lv_aload_n hx hb dX0_takeReading_44 rfl (lv_at hl 1 rfl) ?_
          refine zget zf_X0_12 hF hB 0 rfl rfl dX0_takeReading_45 ?_
          refine lv_aload_n hx hb dX0_takeReading_48 rfl (lv_at hl 1 rfl) ?_
          refine zget zf_X0_39 hF hB 0 rfl rfl dX0_takeReading_49 ?_
          refine lv_aload_n hx hb dX0_takeReading_52 rfl (lv_at hl 1 rfl) ?_
          refine zget zf_X0_32 hF hB 0 rfl rfl dX0_takeReading_53 ?_
          refine lv_iload_n hx hb dX0_takeReading_56 rfl (lv_at hl 3 rfl) ?_
          refine zaald hF hB 3 rfl (t0 := 3) rfl k (rfl) (by omega) (by decide) (r := na (14 + k)) (rfl) dX0_takeReading_57 ?_
          refine lv_aload_n hx hb dX0_takeReading_58 rfl (lv_at hl 1 rfl) ?_
          refine zget zf_X0_39 hF hB 0 rfl rfl dX0_takeReading_59 ?_
          have hwM8 : M8 (14 + k) = wyN y9 a9 := by rw [kM8 _ (by omega) (by omega) (by omega)]; exact hwk 1 (by decide) hkp1
          refine zVi zm_X0_80 hF hB (c_X2_sum l D ka kb (bd 12) na (sumO false (M5 t) (M5 21)) 28 29 30 M8 21 21 (14 + k) (by decide) (by decide) (by omega) (by rw [vM8_21]; have := (plN_bd (hbd 1 (by decide))).2.2.2.2; omega) (by rw [hwM8]; have := (wyN_bd ha9 (y := y9) (Y := 99) (by omega) (by omega)).2.2.2.2; omega)) ([1] ++ npr 9) (zsel_pool rfl rfl) (va_nd_pool rfl rfl) ([(bd 12)] ++ nA na) (fun _ => zad_pool rfl) (zad_pool rfl) 1 2 rfl rfl rfl ⟨Nat.le_of_ble_eq_true rfl, Nat.le_of_ble_eq_true rfl⟩ rfl hl.1 (Nat.le_of_ble_eq_true rfl) ⟨Nat.le_refl _, Nat.le_refl _⟩ dX0_takeReading_62 ?_
          clear hB
          try clear locs
          try clear H
          intro r16 u16 H locs hp hB
          obtain rfl : r16 = bI (!(sumO false (M8 21) (M8 (14 + k)))) := hp
          replace hB : zB D A s ([((bd 3), .inr (0, [.ref (bd 12), .ref (bd 13), .ref (bd 14), .ref (bd 15), .ref (bd 16), .ref (bd 17), .ref (na 21), .ref (na 22), .ref (na 23), .ref (na 24)])), ((bd 12), .inr (2, [.int (bI (sumO false (M8 21) (M8 (14 + k)))), .ref (na 28), .ref (na 29), .ref (na 30)])), ((bd 13), .inl (ka 0, 8, .inl st)), ((bd 16), .inl (ka 3, 3, .inr (.inr (.inr (.inr (nR na 14)))))), ((bd 2), .inr (3, [.int (nI L), .ref (bd 7), .ref (bd 8), .ref (bd 9), .ref (bd 10), .ref (bd 11), .int sz9, .int re9])), ((bd 7), .inl (ka 0, 8, .inl mo)), ((bd 8), .inl (ka 0, 8, .inl an)), ((bd 9), .inl (ka 0, 8, .inl pl)), ((bd 10), .inl (ka 0, 24, .inl ho))] ++ nP na (if sumO false (M8 21) (M8 (14 + k)) = true then M8 else upN M8 21 (sumV false (M8 21) (M8 (14 + k))))) H locs := zB_pool hB rfl rfl rfl rfl
          have hsM8 : sumO false (M8 21) (M8 (14 + k)) = false := by rw [vM8_21, hwM8]; exact (rd1_o (hbd 1 (by decide)) ha9 hy9).1
          obtain ⟨M12, hM12⟩ : ∃ M, M = (if sumO false (M8 21) (M8 (14 + k)) = true then M8 else upN M8 21 (sumV false (M8 21) (M8 (14 + k)))) := ⟨_, rfl⟩
          rw [← hM12] at hB
          rw [if_neg (by rw [hsM8]; decide)] at hM12
          have kM12 : ∀ k9, k9 ≠ 21 → k9 ≠ 22 → k9 ≠ t → M12 k9 = N k9 := fun k9 h0 h1 h2 => by rw [hM12, upN_ne h0]; exact kM8 k9 h0 h1 h2
          have vM12_22 : M12 22 = wyN (ga (2 * b + 0)).toInt (aN (lg (2 * b + 0))) := by rw [hM12, upN_ne (by decide)]; exact vM8_22
          have vM12_t : M12 t = rd2 (pulI 0 L mo an pl ho) (if k = 0 + 1 then y9 else 0) a9 (ga (2 * b + 0)).toInt (aN (lg (2 * b + 0))) := by rw [hM12, upN_ne (by omega)]; exact vM8_t
          have vM12_21 : M12 21 = rd1 (pulI 1 L mo an pl ho) (if k = 1 + 1 then y9 else 0) a9 := by rw [hM12, upN_eq]; rw [vM8_21, hwM8, if_pos hkp1] <;> rfl
          refine lv_pop hx hb dX0_takeReading_65 rfl ?_
          refine lv_aload_n hx hb dX0_takeReading_66 rfl (lv_at hl 1 rfl) ?_
          refine zget zf_X0_43 hF hB 0 rfl rfl dX0_takeReading_67 ?_
          refine lv_aload_n hx hb dX0_takeReading_70 rfl (lv_at hl 1 rfl) ?_
          refine lv_iload_n hx hb dX0_takeReading_71 rfl (lv_at hl 4 rfl) ?_
          refine lv_iload hx hb dX0_takeReading_72 (lv_at hl 0 rfl) ?_
          refine lv_iconst (v := 0) hx hb dX0_takeReading_74 (by decide) ?_
          refine zVi zm_X0_84 hF hB (c_X0_setting l D ka kb bd na st b 1 0 (hb2) (by decide) (by decide)) [0, 2] rfl (by decide) [(bd 3), (bd 13)] (fun _ => rfl) rfl 0 0 rfl rfl rfl ⟨Nat.le_of_ble_eq_true rfl, Nat.le_of_ble_eq_true rfl⟩ rfl hl.1 (Nat.le_of_ble_eq_true rfl) ⟨Nat.le_refl _, Nat.le_refl _⟩ dX0_takeReading_75 ?_
          clear hB
          try clear locs
          try clear H
          intro r17 u17 H locs hp hB
          obtain rfl : r17 = st (2 * (2 * b + 1) + 0) := hp
          replace hB : zB D A s ([((bd 3), .inr (0, [.ref (bd 12), .ref (bd 13), .ref (bd 14), .ref (bd 15), .ref (bd 16), .ref (bd 17), .ref (na 21), .ref (na 22), .ref (na 23), .ref (na 24)])), ((bd 12), .inr (2, [.int (bI (sumO false (M8 21) (M8 (14 + k)))), .ref (na 28), .ref (na 29), .ref (na 30)])), ((bd 13), .inl (ka 0, 8, .inl st)), ((bd 16), .inl (ka 3, 3, .inr (.inr (.inr (.inr (nR na 14)))))), ((bd 2), .inr (3, [.int (nI L), .ref (bd 7), .ref (bd 8), .ref (bd 9), .ref (bd 10), .ref (bd 11), .int sz9, .int re9])), ((bd 7), .inl (ka 0, 8, .inl mo)), ((bd 8), .inl (ka 0, 8, .inl an)), ((bd 9), .inl (ka 0, 8, .inl pl)), ((bd 10), .inl (ka 0, 24, .inl ho))] ++ nP na M12) H locs := hB
          refine ztopi (y := (ga (2 * b + 1))) ((hst _ (by omega)).1) ?_
          refine lv_aload_n hx hb dX0_takeReading_78 rfl (lv_at hl 1 rfl) ?_
          refine lv_iload_n hx hb dX0_takeReading_79 rfl (lv_at hl 4 rfl) ?_
          refine lv_iload hx hb dX0_takeReading_80 (lv_at hl 0 rfl) ?_
          refine lv_iconst (v := 1) hx hb dX0_takeReading_82 (by decide) ?_
          refine zVi zm_X0_84 hF hB (c_X0_setting l D ka kb bd na st b 1 1 (hb2) (by decide) (by decide)) [0, 2] rfl (by decide) [(bd 3), (bd 13)] (fun _ => rfl) rfl 0 0 rfl rfl rfl ⟨Nat.le_of_ble_eq_true rfl, Nat.le_of_ble_eq_true rfl⟩ rfl hl.1 (Nat.le_of_ble_eq_true rfl) ⟨Nat.le_refl _, Nat.le_refl _⟩ dX0_takeReading_83 ?_
          clear hB
          try clear locs
          try clear H
          intro r18 u18 H locs hp hB
          obtain rfl : r18 = st (2 * (2 * b + 1) + 1) := hp
          replace hB : zB D A s ([((bd 3), .inr (0, [.ref (bd 12), .ref (bd 13), .ref (bd 14), .ref (bd 15), .ref (bd 16), .ref (bd 17), .ref (na 21), .ref (na 22), .ref (na 23), .ref (na 24)])), ((bd 12), .inr (2, [.int (bI (sumO false (M8 21) (M8 (14 + k)))), .ref (na 28), .ref (na 29), .ref (na 30)])), ((bd 13), .inl (ka 0, 8, .inl st)), ((bd 16), .inl (ka 3, 3, .inr (.inr (.inr (.inr (nR na 14)))))), ((bd 2), .inr (3, [.int (nI L), .ref (bd 7), .ref (bd 8), .ref (bd 9), .ref (bd 10), .ref (bd 11), .int sz9, .int re9])), ((bd 7), .inl (ka 0, 8, .inl mo)), ((bd 8), .inl (ka 0, 8, .inl an)), ((bd 9), .inl (ka 0, 8, .inl pl)), ((bd 10), .inl (ka 0, 24, .inl ho))] ++ nP na M12) H locs := hB
          refine ztopi (y := nI (aN (lg (2 * b + 1)))) (((hst (2 * b + 1) (by omega)).2).trans (hlb 1 (by decide)).2) ?_
          refine zVv zm_X0_55 hF hB (c_X1_becomeWay l D ka kb (na 22) (M12 22) (ga (2 * b + 1)) (aN (lg (2 * b + 1))) ((hlb 1 (by decide)).1)) [9 + 22] (zsel_num rfl (by omega)) (va_nd_1 _) [na 22] (fun _ => rfl) rfl (9 + 22) 1 rfl (nP_atn rfl (by omega)) rfl ⟨Nat.le_of_ble_eq_true rfl, Nat.le_of_ble_eq_true rfl⟩ rfl hl.1 (Nat.le_of_ble_eq_true rfl) ⟨Nat.le_refl _, Nat.le_refl _⟩ dX0_takeReading_86 ?_
          clear hB
          try clear locs
          try clear H
          intro u19 H locs hp hB
          replace hB : zB D A s ([((bd 3), .inr (0, [.ref (bd 12), .ref (bd 13), .ref (bd 14), .ref (bd 15), .ref (bd 16), .ref (bd 17), .ref (na 21), .ref (na 22), .ref (na 23), .ref (na 24)])), ((bd 12), .inr (2, [.int (bI (sumO false (M8 21) (M8 (14 + k)))), .ref (na 28), .ref (na 29), .ref (na 30)])), ((bd 13), .inl (ka 0, 8, .inl st)), ((bd 16), .inl (ka 3, 3, .inr (.inr (.inr (.inr (nR na 14)))))), ((bd 2), .inr (3, [.int (nI L), .ref (bd 7), .ref (bd 8), .ref (bd 9), .ref (bd 10), .ref (bd 11), .int sz9, .int re9])), ((bd 7), .inl (ka 0, 8, .inl mo)), ((bd 8), .inl (ka 0, 8, .inl an)), ((bd 9), .inl (ka 0, 8, .inl pl)), ((bd 10), .inl (ka 0, 24, .inl ho))] ++ nP na (upN M12 22 (bwN (ga (2 * b + 1)) (aN (lg (2 * b + 1)))))) H locs := zB_num (X := (bwN (ga (2 * b + 1)) (aN (lg (2 * b + 1))))) hB rfl (by omega)
          obtain ⟨M13, hM13⟩ : ∃ M, M = (upN M12 22 (bwN (ga (2 * b + 1)) (aN (lg (2 * b + 1))))) := ⟨_, rfl⟩
          rw [← hM13] at hB
          have kM13 : ∀ k9, k9 ≠ 21 → k9 ≠ 22 → k9 ≠ t → M13 k9 = N k9 := fun k9 h0 h1 h2 => by rw [hM13, upN_ne h1]; exact kM12 k9 h0 h1 h2
          have vM13_t : M13 t = rd2 (pulI 0 L mo an pl ho) (if k = 0 + 1 then y9 else 0) a9 (ga (2 * b + 0)).toInt (aN (lg (2 * b + 0))) := by rw [hM13, upN_ne (by omega)]; exact vM12_t
          have vM13_21 : M13 21 = rd1 (pulI 1 L mo an pl ho) (if k = 1 + 1 then y9 else 0) a9 := by rw [hM13, upN_ne (by decide)]; exact vM12_21
          have vM13_22 : M13 22 = wyN (ga (2 * b + 1)).toInt (aN (lg (2 * b + 1))) := by rw [hM13, upN_eq]; exact bw_wy _ _
          refine lv_aload_n hx hb dX0_takeReading_89 rfl (lv_at hl 1 rfl) ?_
          refine zget zf_X0_12 hF hB 0 rfl rfl dX0_takeReading_90 ?_
          refine lv_aload_n hx hb dX0_takeReading_93 rfl (lv_at hl 1 rfl) ?_
          refine zget zf_X0_39 hF hB 0 rfl rfl dX0_takeReading_94 ?_
          refine lv_aload_n hx hb dX0_takeReading_97 rfl (lv_at hl 1 rfl) ?_
          refine zget zf_X0_43 hF hB 0 rfl rfl dX0_takeReading_98 ?_
          refine lv_aload_n hx hb dX0_takeReading_101 rfl (lv_at hl 1 rfl) ?_
          refine zget zf_X0_39 hF hB 0 rfl rfl dX0_takeReading_102 ?_
          refine zVi zm_X0_88 hF hB (c_X2_product l D ka kb (bd 12) na (sumO false (M8 21) (M8 (14 + k))) 28 29 30 M13 21 21 22 (by decide) (by decide) (by decide) (by rw [vM13_21]; have := (rd1_o (hbd 1 (by decide)) ha9 (hyp 1)).2.2.2.2.2; omega) (by rw [vM13_22]; have := (wyN_bd (hlb 1 (by decide)).1 (y := (ga (2 * b + 1)).toInt) (Y := 9) (by have := hgb 1 (by decide); omega) (by omega)).2.2.2.2; omega)) ([1] ++ npr 9) (zsel_pool rfl rfl) (va_nd_pool rfl rfl) ([(bd 12)] ++ nA na) (fun _ => zad_pool rfl) (zad_pool rfl) 1 2 rfl rfl rfl ⟨Nat.le_of_ble_eq_true rfl, Nat.le_of_ble_eq_true rfl⟩ rfl hl.1 (Nat.le_of_ble_eq_true rfl) ⟨Nat.le_refl _, Nat.le_refl _⟩ dX0_takeReading_105 ?_
          clear hB
          try clear locs
          try clear H
          intro r20 u20 H locs hp hB
          obtain rfl : r20 = bI (!(prodO (M13 21) (M13 22))) := hp
          replace hB : zB D A s ([((bd 3), .inr (0, [.ref (bd 12), .ref (bd 13), .ref (bd 14), .ref (bd 15), .ref (bd 16), .ref (bd 17), .ref (na 21), .ref (na 22), .ref (na 23), .ref (na 24)])), ((bd 12), .inr (2, [.int (bI (prodO (M13 21) (M13 22))), .ref (na 28), .ref (na 29), .ref (na 30)])), ((bd 13), .inl (ka 0, 8, .inl st)), ((bd 16), .inl (ka 3, 3, .inr (.inr (.inr (.inr (nR na 14)))))), ((bd 2), .inr (3, [.int (nI L), .ref (bd 7), .ref (bd 8), .ref (bd 9), .ref (bd 10), .ref (bd 11), .int sz9, .int re9])), ((bd 7), .inl (ka 0, 8, .inl mo)), ((bd 8), .inl (ka 0, 8, .inl an)), ((bd 9), .inl (ka 0, 8, .inl pl)), ((bd 10), .inl (ka 0, 24, .inl ho))] ++ nP na (if prodO (M13 21) (M13 22) = true then M13 else upN M13 21 (prodV (M13 21) (M13 22)))) H locs := zB_pool hB rfl rfl rfl rfl
          have hsM13 : prodO (M13 21) (M13 22) = false := by rw [vM13_21, vM13_22]; exact (rd2_o (hbd 1 (by decide)) ha9 (hyp 1) (hgb 1 (by decide)) (hlb 1 (by decide)).1).1
          obtain ⟨M14, hM14⟩ : ∃ M, M = (if prodO (M13 21) (M13 22) = true then M13 else upN M13 21 (prodV (M13 21) (M13 22))) := ⟨_, rfl⟩
          rw [← hM14] at hB
          rw [if_neg (by rw [hsM13]; decide)] at hM14
          have kM14 : ∀ k9, k9 ≠ 21 → k9 ≠ 22 → k9 ≠ t → M14 k9 = N k9 := fun k9 h0 h1 h2 => by rw [hM14, upN_ne h0]; exact kM13 k9 h0 h1 h2
          have vM14_t : M14 t = rd2 (pulI 0 L mo an pl ho) (if k = 0 + 1 then y9 else 0) a9 (ga (2 * b + 0)).toInt (aN (lg (2 * b + 0))) := by rw [hM14, upN_ne (by omega)]; exact vM13_t
          have vM14_22 : M14 22 = wyN (ga (2 * b + 1)).toInt (aN (lg (2 * b + 1))) := by rw [hM14, upN_ne (by decide)]; exact vM13_22
          have vM14_21 : M14 21 = rd2 (pulI 1 L mo an pl ho) (if k = 1 + 1 then y9 else 0) a9 (ga (2 * b + 1)).toInt (aN (lg (2 * b + 1))) := by rw [hM14, upN_eq]; rw [vM13_21, vM13_22] <;> rfl
          refine lv_pop hx hb dX0_takeReading_108 rfl ?_
          refine lv_aload_n hx hb dX0_takeReading_109 rfl (lv_at hl 1 rfl) ?_
          refine zget zf_X0_12 hF hB 0 rfl rfl dX0_takeReading_110 ?_
          refine lv_aload hx hb dX0_takeReading_113 (lv_at hl 5 rfl) ?_
          refine lv_aload_n hx hb dX0_takeReading_115 rfl (lv_at hl 1 rfl) ?_
          refine zget zf_X0_39 hF hB 0 rfl rfl dX0_takeReading_116 ?_
          refine lv_aload hx hb dX0_takeReading_119 (lv_at hl 5 rfl) ?_
          refine zVi zm_X0_80 hF hB (c_X2_sum l D ka kb (bd 12) na (prodO (M13 21) (M13 22)) 28 29 30 M14 t t 21 (by omega) (by omega) (by decide) (by rw [vM14_t]; have := (rd2_o (hbd 0 (by decide)) ha9 (hyp 0) (hgb 0 (by decide)) (hlb 0 (by decide)).1).2.2.2.2.2; omega) (by rw [vM14_21]; have := (rd2_o (hbd 1 (by decide)) ha9 (hyp 1) (hgb 1 (by decide)) (hlb 1 (by decide)).1).2.2.2.2.2; omega)) ([1] ++ npr 9) (zsel_pool rfl rfl) (va_nd_pool rfl rfl) ([(bd 12)] ++ nA na) (fun _ => zad_pool rfl) (zad_pool rfl) 1 2 rfl rfl rfl ⟨Nat.le_of_ble_eq_true rfl, Nat.le_of_ble_eq_true rfl⟩ rfl hl.1 (Nat.le_of_ble_eq_true rfl) ⟨Nat.le_refl _, Nat.le_refl _⟩ dX0_takeReading_121 ?_
          clear hB
          try clear locs
          try clear H
          intro r21 u21 H locs hp hB
          obtain rfl : r21 = bI (!(sumO false (M14 t) (M14 21))) := hp
          replace hB : zB D A s ([((bd 3), .inr (0, [.ref (bd 12), .ref (bd 13), .ref (bd 14), .ref (bd 15), .ref (bd 16), .ref (bd 17), .ref (na 21), .ref (na 22), .ref (na 23), .ref (na 24)])), ((bd 12), .inr (2, [.int (bI (sumO false (M14 t) (M14 21))), .ref (na 28), .ref (na 29), .ref (na 30)])), ((bd 13), .inl (ka 0, 8, .inl st)), ((bd 16), .inl (ka 3, 3, .inr (.inr (.inr (.inr (nR na 14)))))), ((bd 2), .inr (3, [.int (nI L), .ref (bd 7), .ref (bd 8), .ref (bd 9), .ref (bd 10), .ref (bd 11), .int sz9, .int re9])), ((bd 7), .inl (ka 0, 8, .inl mo)), ((bd 8), .inl (ka 0, 8, .inl an)), ((bd 9), .inl (ka 0, 8, .inl pl)), ((bd 10), .inl (ka 0, 24, .inl ho))] ++ nP na (if sumO false (M14 t) (M14 21) = true then M14 else upN M14 t (sumV false (M14 t) (M14 21)))) H locs := zB_pool hB rfl rfl rfl rfl
          have hsM14 : sumO false (M14 t) (M14 21) = false := by rw [vM14_t, vM14_21]; exact (rd3_o (hbd 0 (by decide)) (hbd 1 (by decide)) ha9 (hyp 0) (hyp 1) (hgb 0 (by decide)) (hgb 1 (by decide)) (hlb 0 (by decide)).1 (hlb 1 (by decide)).1).1
          obtain ⟨M15, hM15⟩ : ∃ M, M = (if sumO false (M14 t) (M14 21) = true then M14 else upN M14 t (sumV false (M14 t) (M14 21))) := ⟨_, rfl⟩
          rw [← hM15] at hB
          rw [if_neg (by rw [hsM14]; decide)] at hM15
          have kM15 : ∀ k9, k9 ≠ 21 → k9 ≠ 22 → k9 ≠ t → M15 k9 = N k9 := fun k9 h0 h1 h2 => by rw [hM15, upN_ne h2]; exact kM14 k9 h0 h1 h2
          have vM15_22 : M15 22 = wyN (ga (2 * b + 1)).toInt (aN (lg (2 * b + 1))) := by rw [hM15, upN_ne (by omega)]; exact vM14_22
          have vM15_21 : M15 21 = rd2 (pulI 1 L mo an pl ho) (if k = 1 + 1 then y9 else 0) a9 (ga (2 * b + 1)).toInt (aN (lg (2 * b + 1))) := by rw [hM15, upN_ne (by omega)]; exact vM14_21
          have vM15_t : M15 t = sumV false (rd2 (pulI 0 L mo an pl ho) (if k = 0 + 1 then y9 else 0) a9 (ga (2 * b + 0)).toInt (aN (lg (2 * b + 0)))) (rd2 (pulI 1 L mo an pl ho) (if k = 1 + 1 then y9 else 0) a9 (ga (2 * b + 1)).toInt (aN (lg (2 * b + 1)))) := by rw [hM15, upN_eq]; rw [vM14_t, vM14_21]
          refine lv_pop hx hb dX0_takeReading_124 rfl ?_
          refine lv_iinc (v := (2 : Int32)) (lv' := [(5, .int (2 : Int32)), (0, .ref (bd 3)), (1, .ref (bd 2)), (2, .int (nI k)), (3, .int (nI b)), (4, .ref (na t))]) hx hb dX0_takeReading_125 hl (k := 0) rfl (by decide) (by decide) rfl ?_
          clear hl
          clear ls
          intro ls hl
          refine lv_goto (tgt := 13) hx hb dX0_takeReading_128 (by decide) ?_
          refine lv_iload hx hb dX0_takeReading_13 (lv_at hl 0 rfl) ?_
          refine lv_iconst (v := 2) hx hb dX0_takeReading_15 (by decide) ?_
          refine lv_icmp_ge (tgt := 131) hx hb dX0_takeReading_16 (by decide) (fun h16 => ?_) (fun h16 => ?_)
          · skip
            exact zretv hF hB (M15, sumO false (M14 t) (M14 21)) (⟨kM15, vM15_t⟩) (rfl) dX0_takeReading_131 hQ
          · skip
            exact absurd (by decide) h16
    · skip
      have hkp0 : k = 0 + 1 := (nI_eq (b := 1) (by omega) (by decide)).mp h41
      refine lv_aload_n hx hb dX0_takeReading_44 rfl (lv_at hl 1 rfl) ?_
      refine zget zf_X0_12 hF hB 0 rfl rfl dX0_takeReading_45 ?_
      refine lv_aload_n hx hb dX0_takeReading_48 rfl (lv_at hl 1 rfl) ?_
      refine zget zf_X0_39 hF hB 0 rfl rfl dX0_takeReading_49 ?_
      refine lv_aload_n hx hb dX0_takeReading_52 rfl (lv_at hl 1 rfl) ?_
      refine zget zf_X0_32 hF hB 0 rfl rfl dX0_takeReading_53 ?_
      refine lv_iload_n hx hb dX0_takeReading_56 rfl (lv_at hl 3 rfl) ?_
      refine zaald hF hB 3 rfl (t0 := 3) rfl k (rfl) (by omega) (by decide) (r := na (14 + k)) (rfl) dX0_takeReading_57 ?_
      refine lv_aload_n hx hb dX0_takeReading_58 rfl (lv_at hl 1 rfl) ?_
      refine zget zf_X0_39 hF hB 0 rfl rfl dX0_takeReading_59 ?_
      have hwM3 : M3 (14 + k) = wyN y9 a9 := by rw [kM3 _ (by omega) (by omega) (by omega)]; exact hwk 0 (by decide) hkp0
      refine zVi zm_X0_80 hF hB (c_X2_sum l D ka kb (bd 12) na o 28 29 30 M3 21 21 (14 + k) (by decide) (by decide) (by omega) (by rw [vM3_21]; have := (plN_bd (hbd 0 (by decide))).2.2.2.2; omega) (by rw [hwM3]; have := (wyN_bd ha9 (y := y9) (Y := 99) (by omega) (by omega)).2.2.2.2; omega)) ([1] ++ npr 9) (zsel_pool rfl rfl) (va_nd_pool rfl rfl) ([(bd 12)] ++ nA na) (fun _ => zad_pool rfl) (zad_pool rfl) 1 2 rfl rfl rfl ⟨Nat.le_of_ble_eq_true rfl, Nat.le_of_ble_eq_true rfl⟩ rfl hl.1 (Nat.le_of_ble_eq_true rfl) ⟨Nat.le_refl _, Nat.le_refl _⟩ dX0_takeReading_62 ?_
      clear hB
      try clear locs
      try clear H
      intro r22 u22 H locs hp hB
      obtain rfl : r22 = bI (!(sumO false (M3 21) (M3 (14 + k)))) := hp
      replace hB : zB D A s ([((bd 3), .inr (0, [.ref (bd 12), .ref (bd 13), .ref (bd 14), .ref (bd 15), .ref (bd 16), .ref (bd 17), .ref (na 21), .ref (na 22), .ref (na 23), .ref (na 24)])), ((bd 12), .inr (2, [.int (bI (sumO false (M3 21) (M3 (14 + k)))), .ref (na 28), .ref (na 29), .ref (na 30)])), ((bd 13), .inl (ka 0, 8, .inl st)), ((bd 16), .inl (ka 3, 3, .inr (.inr (.inr (.inr (nR na 14)))))), ((bd 2), .inr (3, [.int (nI L), .ref (bd 7), .ref (bd 8), .ref (bd 9), .ref (bd 10), .ref (bd 11), .int sz9, .int re9])), ((bd 7), .inl (ka 0, 8, .inl mo)), ((bd 8), .inl (ka 0, 8, .inl an)), ((bd 9), .inl (ka 0, 8, .inl pl)), ((bd 10), .inl (ka 0, 24, .inl ho))] ++ nP na (if sumO false (M3 21) (M3 (14 + k)) = true then M3 else upN M3 21 (sumV false (M3 21) (M3 (14 + k))))) H locs := zB_pool hB rfl rfl rfl rfl
      have hsM3 : sumO false (M3 21) (M3 (14 + k)) = false := by rw [vM3_21, hwM3]; exact (rd1_o (hbd 0 (by decide)) ha9 hy9).1
      obtain ⟨M16, hM16⟩ : ∃ M, M = (if sumO false (M3 21) (M3 (14 + k)) = true then M3 else upN M3 21 (sumV false (M3 21) (M3 (14 + k)))) := ⟨_, rfl⟩
      rw [← hM16] at hB
      rw [if_neg (by rw [hsM3]; decide)] at hM16
      have kM16 : ∀ k9, k9 ≠ 21 → k9 ≠ 22 → k9 ≠ t → M16 k9 = N k9 := fun k9 h0 h1 h2 => by rw [hM16, upN_ne h0]; exact kM3 k9 h0 h1 h2
      have vM16_t : M16 t = zer := by rw [hM16, upN_ne (by omega)]; exact vM3_t
      have vM16_21 : M16 21 = rd1 (pulI 0 L mo an pl ho) (if k = 0 + 1 then y9 else 0) a9 := by rw [hM16, upN_eq]; rw [vM3_21, hwM3, if_pos hkp0] <;> rfl
      refine lv_pop hx hb dX0_takeReading_65 rfl ?_
      refine lv_aload_n hx hb dX0_takeReading_66 rfl (lv_at hl 1 rfl) ?_
      refine zget zf_X0_43 hF hB 0 rfl rfl dX0_takeReading_67 ?_
      refine lv_aload_n hx hb dX0_takeReading_70 rfl (lv_at hl 1 rfl) ?_
      refine lv_iload_n hx hb dX0_takeReading_71 rfl (lv_at hl 4 rfl) ?_
      refine lv_iload hx hb dX0_takeReading_72 (lv_at hl 0 rfl) ?_
      refine lv_iconst (v := 0) hx hb dX0_takeReading_74 (by decide) ?_
      refine zVi zm_X0_84 hF hB (c_X0_setting l D ka kb bd na st b 0 0 (hb2) (by decide) (by decide)) [0, 2] rfl (by decide) [(bd 3), (bd 13)] (fun _ => rfl) rfl 0 0 rfl rfl rfl ⟨Nat.le_of_ble_eq_true rfl, Nat.le_of_ble_eq_true rfl⟩ rfl hl.1 (Nat.le_of_ble_eq_true rfl) ⟨Nat.le_refl _, Nat.le_refl _⟩ dX0_takeReading_75 ?_
      clear hB
      try clear locs
      try clear H
      intro r23 u23 H locs hp hB
      obtain rfl : r23 = st (2 * (2 * b + 0) + 0) := hp
      replace hB : zB D A s ([((bd 3), .inr (0, [.ref (bd 12), .ref (bd 13), .ref (bd 14), .ref (bd 15), .ref (bd 16), .ref (bd 17), .ref (na 21), .ref (na 22), .ref (na 23), .ref (na 24)])), ((bd 12), .inr (2, [.int (bI (sumO false (M3 21) (M3 (14 + k)))), .ref (na 28), .ref (na 29), .ref (na 30)])), ((bd 13), .inl (ka 0, 8, .inl st)), ((bd 16), .inl (ka 3, 3, .inr (.inr (.inr (.inr (nR na 14)))))), ((bd 2), .inr (3, [.int (nI L), .ref (bd 7), .ref (bd 8), .ref (bd 9), .ref (bd 10), .ref (bd 11), .int sz9, .int re9])), ((bd 7), .inl (ka 0, 8, .inl mo)), ((bd 8), .inl (ka 0, 8, .inl an)), ((bd 9), .inl (ka 0, 8, .inl pl)), ((bd 10), .inl (ka 0, 24, .inl ho))] ++ nP na M16) H locs := hB
      refine ztopi (y := (ga (2 * b + 0))) ((hst _ (by omega)).1) ?_
      refine lv_aload_n hx hb dX0_takeReading_78 rfl (lv_at hl 1 rfl) ?_
      refine lv_iload_n hx hb dX0_takeReading_79 rfl (lv_at hl 4 rfl) ?_
      refine lv_iload hx hb dX0_takeReading_80 (lv_at hl 0 rfl) ?_
      refine lv_iconst (v := 1) hx hb dX0_takeReading_82 (by decide) ?_
      refine zVi zm_X0_84 hF hB (c_X0_setting l D ka kb bd na st b 0 1 (hb2) (by decide) (by decide)) [0, 2] rfl (by decide) [(bd 3), (bd 13)] (fun _ => rfl) rfl 0 0 rfl rfl rfl ⟨Nat.le_of_ble_eq_true rfl, Nat.le_of_ble_eq_true rfl⟩ rfl hl.1 (Nat.le_of_ble_eq_true rfl) ⟨Nat.le_refl _, Nat.le_refl _⟩ dX0_takeReading_83 ?_
      clear hB
      try clear locs
      try clear H
      intro r24 u24 H locs hp hB
      obtain rfl : r24 = st (2 * (2 * b + 0) + 1) := hp
      replace hB : zB D A s ([((bd 3), .inr (0, [.ref (bd 12), .ref (bd 13), .ref (bd 14), .ref (bd 15), .ref (bd 16), .ref (bd 17), .ref (na 21), .ref (na 22), .ref (na 23), .ref (na 24)])), ((bd 12), .inr (2, [.int (bI (sumO false (M3 21) (M3 (14 + k)))), .ref (na 28), .ref (na 29), .ref (na 30)])), ((bd 13), .inl (ka 0, 8, .inl st)), ((bd 16), .inl (ka 3, 3, .inr (.inr (.inr (.inr (nR na 14)))))), ((bd 2), .inr (3, [.int (nI L), .ref (bd 7), .ref (bd 8), .ref (bd 9), .ref (bd 10), .ref (bd 11), .int sz9, .int re9])), ((bd 7), .inl (ka 0, 8, .inl mo)), ((bd 8), .inl (ka 0, 8, .inl an)), ((bd 9), .inl (ka 0, 8, .inl pl)), ((bd 10), .inl (ka 0, 24, .inl ho))] ++ nP na M16) H locs := hB
      refine ztopi (y := nI (aN (lg (2 * b + 0)))) (((hst (2 * b + 0) (by omega)).2).trans (hlb 0 (by decide)).2) ?_
      refine zVv zm_X0_55 hF hB (c_X1_becomeWay l D ka kb (na 22) (M16 22) (ga (2 * b + 0)) (aN (lg (2 * b + 0))) ((hlb 0 (by decide)).1)) [9 + 22] (zsel_num rfl (by omega)) (va_nd_1 _) [na 22] (fun _ => rfl) rfl (9 + 22) 1 rfl (nP_atn rfl (by omega)) rfl ⟨Nat.le_of_ble_eq_true rfl, Nat.le_of_ble_eq_true rfl⟩ rfl hl.1 (Nat.le_of_ble_eq_true rfl) ⟨Nat.le_refl _, Nat.le_refl _⟩ dX0_takeReading_86 ?_
      clear hB
      try clear locs
      try clear H
      intro u25 H locs hp hB
      replace hB : zB D A s ([((bd 3), .inr (0, [.ref (bd 12), .ref (bd 13), .ref (bd 14), .ref (bd 15), .ref (bd 16), .ref (bd 17), .ref (na 21), .ref (na 22), .ref (na 23), .ref (na 24)])), ((bd 12), .inr (2, [.int (bI (sumO false (M3 21) (M3 (14 + k)))), .ref (na 28), .ref (na 29), .ref (na 30)])), ((bd 13), .inl (ka 0, 8, .inl st)), ((bd 16), .inl (ka 3, 3, .inr (.inr (.inr (.inr (nR na 14)))))), ((bd 2), .inr (3, [.int (nI L), .ref (bd 7), .ref (bd 8), .ref (bd 9), .ref (bd 10), .ref (bd 11), .int sz9, .int re9])), ((bd 7), .inl (ka 0, 8, .inl mo)), ((bd 8), .inl (ka 0, 8, .inl an)), ((bd 9), .inl (ka 0, 8, .inl pl)), ((bd 10), .inl (ka 0, 24, .inl ho))] ++ nP na (upN M16 22 (bwN (ga (2 * b + 0)) (aN (lg (2 * b + 0)))))) H locs := zB_num (X := (bwN (ga (2 * b + 0)) (aN (lg (2 * b + 0))))) hB rfl (by omega)
      obtain ⟨M17, hM17⟩ : ∃ M, M = (upN M16 22 (bwN (ga (2 * b + 0)) (aN (lg (2 * b + 0))))) := ⟨_, rfl⟩
      rw [← hM17] at hB
      have kM17 : ∀ k9, k9 ≠ 21 → k9 ≠ 22 → k9 ≠ t → M17 k9 = N k9 := fun k9 h0 h1 h2 => by rw [hM17, upN_ne h1]; exact kM16 k9 h0 h1 h2
      have vM17_t : M17 t = zer := by rw [hM17, upN_ne (by omega)]; exact vM16_t
      have vM17_21 : M17 21 = rd1 (pulI 0 L mo an pl ho) (if k = 0 + 1 then y9 else 0) a9 := by rw [hM17, upN_ne (by decide)]; exact vM16_21
      have vM17_22 : M17 22 = wyN (ga (2 * b + 0)).toInt (aN (lg (2 * b + 0))) := by rw [hM17, upN_eq]; exact bw_wy _ _
      refine lv_aload_n hx hb dX0_takeReading_89 rfl (lv_at hl 1 rfl) ?_
      refine zget zf_X0_12 hF hB 0 rfl rfl dX0_takeReading_90 ?_
      refine lv_aload_n hx hb dX0_takeReading_93 rfl (lv_at hl 1 rfl) ?_
      refine zget zf_X0_39 hF hB 0 rfl rfl dX0_takeReading_94 ?_
      refine lv_aload_n hx hb dX0_takeReading_97 rfl (lv_at hl 1 rfl) ?_
      refine zget zf_X0_43 hF hB 0 rfl rfl dX0_takeReading_98 ?_
      refine lv_aload_n hx hb dX0_takeReading_101 rfl (lv_at hl 1 rfl) ?_
      refine zget zf_X0_39 hF hB 0 rfl rfl dX0_takeReading_102 ?_
      refine zVi zm_X0_88 hF hB (c_X2_product l D ka kb (bd 12) na (sumO false (M3 21) (M3 (14 + k))) 28 29 30 M17 21 21 22 (by decide) (by decide) (by decide) (by rw [vM17_21]; have := (rd1_o (hbd 0 (by decide)) ha9 (hyp 0)).2.2.2.2.2; omega) (by rw [vM17_22]; have := (wyN_bd (hlb 0 (by decide)).1 (y := (ga (2 * b + 0)).toInt) (Y := 9) (by have := hgb 0 (by decide); omega) (by omega)).2.2.2.2; omega)) ([1] ++ npr 9) (zsel_pool rfl rfl) (va_nd_pool rfl rfl) ([(bd 12)] ++ nA na) (fun _ => zad_pool rfl) (zad_pool rfl) 1 2 rfl rfl rfl ⟨Nat.le_of_ble_eq_true rfl, Nat.le_of_ble_eq_true rfl⟩ rfl hl.1 (Nat.le_of_ble_eq_true rfl) ⟨Nat.le_refl _, Nat.le_refl _⟩ dX0_takeReading_105 ?_
      clear hB
      try clear locs
      try clear H
      intro r26 u26 H locs hp hB
      obtain rfl : r26 = bI (!(prodO (M17 21) (M17 22))) := hp
      replace hB : zB D A s ([((bd 3), .inr (0, [.ref (bd 12), .ref (bd 13), .ref (bd 14), .ref (bd 15), .ref (bd 16), .ref (bd 17), .ref (na 21), .ref (na 22), .ref (na 23), .ref (na 24)])), ((bd 12), .inr (2, [.int (bI (prodO (M17 21) (M17 22))), .ref (na 28), .ref (na 29), .ref (na 30)])), ((bd 13), .inl (ka 0, 8, .inl st)), ((bd 16), .inl (ka 3, 3, .inr (.inr (.inr (.inr (nR na 14)))))), ((bd 2), .inr (3, [.int (nI L), .ref (bd 7), .ref (bd 8), .ref (bd 9), .ref (bd 10), .ref (bd 11), .int sz9, .int re9])), ((bd 7), .inl (ka 0, 8, .inl mo)), ((bd 8), .inl (ka 0, 8, .inl an)), ((bd 9), .inl (ka 0, 8, .inl pl)), ((bd 10), .inl (ka 0, 24, .inl ho))] ++ nP na (if prodO (M17 21) (M17 22) = true then M17 else upN M17 21 (prodV (M17 21) (M17 22)))) H locs := zB_pool hB rfl rfl rfl rfl
      have hsM17 : prodO (M17 21) (M17 22) = false := by rw [vM17_21, vM17_22]; exact (rd2_o (hbd 0 (by decide)) ha9 (hyp 0) (hgb 0 (by decide)) (hlb 0 (by decide)).1).1
      obtain ⟨M18, hM18⟩ : ∃ M, M = (if prodO (M17 21) (M17 22) = true then M17 else upN M17 21 (prodV (M17 21) (M17 22))) := ⟨_, rfl⟩
      rw [← hM18] at hB
      rw [if_neg (by rw [hsM17]; decide)] at hM18
      have kM18 : ∀ k9, k9 ≠ 21 → k9 ≠ 22 → k9 ≠ t → M18 k9 = N k9 := fun k9 h0 h1 h2 => by rw [hM18, upN_ne h0]; exact kM17 k9 h0 h1 h2
      have vM18_t : M18 t = zer := by rw [hM18, upN_ne (by omega)]; exact vM17_t
      have vM18_22 : M18 22 = wyN (ga (2 * b + 0)).toInt (aN (lg (2 * b + 0))) := by rw [hM18, upN_ne (by decide)]; exact vM17_22
      have vM18_21 : M18 21 = rd2 (pulI 0 L mo an pl ho) (if k = 0 + 1 then y9 else 0) a9 (ga (2 * b + 0)).toInt (aN (lg (2 * b + 0))) := by rw [hM18, upN_eq]; rw [vM17_21, vM17_22] <;> rfl
      refine lv_pop hx hb dX0_takeReading_108 rfl ?_
      refine lv_aload_n hx hb dX0_takeReading_109 rfl (lv_at hl 1 rfl) ?_
      refine zget zf_X0_12 hF hB 0 rfl rfl dX0_takeReading_110 ?_
      refine lv_aload hx hb dX0_takeReading_113 (lv_at hl 5 rfl) ?_
      refine lv_aload_n hx hb dX0_takeReading_115 rfl (lv_at hl 1 rfl) ?_
      refine zget zf_X0_39 hF hB 0 rfl rfl dX0_takeReading_116 ?_
      refine lv_aload hx hb dX0_takeReading_119 (lv_at hl 5 rfl) ?_
      refine zVi zm_X0_80 hF hB (c_X2_sum l D ka kb (bd 12) na (prodO (M17 21) (M17 22)) 28 29 30 M18 t t 21 (by omega) (by omega) (by decide) (by rw [vM18_t]; decide) (by rw [vM18_21]; have := (rd2_o (hbd 0 (by decide)) ha9 (hyp 0) (hgb 0 (by decide)) (hlb 0 (by decide)).1).2.2.2.2.2; omega)) ([1] ++ npr 9) (zsel_pool rfl rfl) (va_nd_pool rfl rfl) ([(bd 12)] ++ nA na) (fun _ => zad_pool rfl) (zad_pool rfl) 1 2 rfl rfl rfl ⟨Nat.le_of_ble_eq_true rfl, Nat.le_of_ble_eq_true rfl⟩ rfl hl.1 (Nat.le_of_ble_eq_true rfl) ⟨Nat.le_refl _, Nat.le_refl _⟩ dX0_takeReading_121 ?_
      clear hB
      try clear locs
      try clear H
      intro r27 u27 H locs hp hB
      obtain rfl : r27 = bI (!(sumO false (M18 t) (M18 21))) := hp
      replace hB : zB D A s ([((bd 3), .inr (0, [.ref (bd 12), .ref (bd 13), .ref (bd 14), .ref (bd 15), .ref (bd 16), .ref (bd 17), .ref (na 21), .ref (na 22), .ref (na 23), .ref (na 24)])), ((bd 12), .inr (2, [.int (bI (sumO false (M18 t) (M18 21))), .ref (na 28), .ref (na 29), .ref (na 30)])), ((bd 13), .inl (ka 0, 8, .inl st)), ((bd 16), .inl (ka 3, 3, .inr (.inr (.inr (.inr (nR na 14)))))), ((bd 2), .inr (3, [.int (nI L), .ref (bd 7), .ref (bd 8), .ref (bd 9), .ref (bd 10), .ref (bd 11), .int sz9, .int re9])), ((bd 7), .inl (ka 0, 8, .inl mo)), ((bd 8), .inl (ka 0, 8, .inl an)), ((bd 9), .inl (ka 0, 8, .inl pl)), ((bd 10), .inl (ka 0, 24, .inl ho))] ++ nP na (if sumO false (M18 t) (M18 21) = true then M18 else upN M18 t (sumV false (M18 t) (M18 21)))) H locs := zB_pool hB rfl rfl rfl rfl
      have hsM18 : sumO false (M18 t) (M18 21) = false := by rw [vM18_t, vM18_21]; exact sumO_z (by have := (rd2_o (hbd 0 (by decide)) ha9 (hyp 0) (hgb 0 (by decide)) (hlb 0 (by decide)).1).2.2.2.2.2; omega)
      obtain ⟨M19, hM19⟩ : ∃ M, M = (if sumO false (M18 t) (M18 21) = true then M18 else upN M18 t (sumV false (M18 t) (M18 21))) := ⟨_, rfl⟩
      rw [← hM19] at hB
      rw [if_neg (by rw [hsM18]; decide)] at hM19
      have kM19 : ∀ k9, k9 ≠ 21 → k9 ≠ 22 → k9 ≠ t → M19 k9 = N k9 := fun k9 h0 h1 h2 => by rw [hM19, upN_ne h2]; exact kM18 k9 h0 h1 h2
      have vM19_22 : M19 22 = wyN (ga (2 * b + 0)).toInt (aN (lg (2 * b + 0))) := by rw [hM19, upN_ne (by omega)]; exact vM18_22
      have vM19_21 : M19 21 = rd2 (pulI 0 L mo an pl ho) (if k = 0 + 1 then y9 else 0) a9 (ga (2 * b + 0)).toInt (aN (lg (2 * b + 0))) := by rw [hM19, upN_ne (by omega)]; exact vM18_21
      have vM19_t : M19 t = rd2 (pulI 0 L mo an pl ho) (if k = 0 + 1 then y9 else 0) a9 (ga (2 * b + 0)).toInt (aN (lg (2 * b + 0))) := by rw [hM19, upN_eq]; rw [vM18_t, vM18_21]; exact sum_zl (rd2_L (hbd 0 (by decide)) ha9 (hyp 0) (hgb 0 (by decide)) (hlb 0 (by decide)).1)
      refine lv_pop hx hb dX0_takeReading_124 rfl ?_
      refine lv_iinc (v := (1 : Int32)) (lv' := [(5, .int (1 : Int32)), (0, .ref (bd 3)), (1, .ref (bd 2)), (2, .int (nI k)), (3, .int (nI b)), (4, .ref (na t))]) hx hb dX0_takeReading_125 hl (k := 0) rfl (by decide) (by decide) rfl ?_
      clear hl
      clear ls
      intro ls hl
      refine lv_goto (tgt := 13) hx hb dX0_takeReading_128 (by decide) ?_
      refine lv_iload hx hb dX0_takeReading_13 (lv_at hl 0 rfl) ?_
      refine lv_iconst (v := 2) hx hb dX0_takeReading_15 (by decide) ?_
      refine lv_icmp_ge (tgt := 131) hx hb dX0_takeReading_16 (by decide) (fun h16 => ?_) (fun h16 => ?_)
      · skip
        exact absurd h16 (by decide)
      · skip
        refine lv_aload_n hx hb dX0_takeReading_19 rfl (lv_at hl 2 rfl) ?_
        refine lv_iload hx hb dX0_takeReading_20 (lv_at hl 0 rfl) ?_
        refine lv_aload_n hx hb dX0_takeReading_22 rfl (lv_at hl 1 rfl) ?_
        refine zget zf_X0_39 hF hB 0 rfl rfl dX0_takeReading_23 ?_
        refine zVv zm_X0_71 hF hB (c_X3_takePullBy20 l D ka kb bd sz9 re9 L mo an pl ho na M19 21 1 (by decide) (by decide) (hok) (hoh)) ([4, 5, 6, 7, 8] ++ npr 9) (zsel_pool rfl rfl) (va_nd_pool rfl rfl) ([(bd 2), (bd 7), (bd 8), (bd 9), (bd 10)] ++ nA na) (fun _ => zad_pool rfl) (zad_pool rfl) 4 3 rfl rfl rfl ⟨Nat.le_of_ble_eq_true rfl, Nat.le_of_ble_eq_true rfl⟩ rfl hl.1 (Nat.le_of_ble_eq_true rfl) ⟨Nat.le_refl _, Nat.le_refl _⟩ dX0_takeReading_26 ?_
        clear hB
        try clear locs
        try clear H
        intro u28 H locs hp hB
        replace hB : zB D A s ([((bd 3), .inr (0, [.ref (bd 12), .ref (bd 13), .ref (bd 14), .ref (bd 15), .ref (bd 16), .ref (bd 17), .ref (na 21), .ref (na 22), .ref (na 23), .ref (na 24)])), ((bd 12), .inr (2, [.int (bI (sumO false (M18 t) (M18 21))), .ref (na 28), .ref (na 29), .ref (na 30)])), ((bd 13), .inl (ka 0, 8, .inl st)), ((bd 16), .inl (ka 3, 3, .inr (.inr (.inr (.inr (nR na 14)))))), ((bd 2), .inr (3, [.int (nI L), .ref (bd 7), .ref (bd 8), .ref (bd 9), .ref (bd 10), .ref (bd 11), .int sz9, .int re9])), ((bd 7), .inl (ka 0, 8, .inl mo)), ((bd 8), .inl (ka 0, 8, .inl an)), ((bd 9), .inl (ka 0, 8, .inl pl)), ((bd 10), .inl (ka 0, 24, .inl ho))] ++ nP na (upN M19 21 (p20N (pulI 1 L mo an pl ho)))) H locs := zB_pool hB rfl rfl rfl rfl
        obtain ⟨M20, hM20⟩ : ∃ M, M = (upN M19 21 (p20N (pulI 1 L mo an pl ho))) := ⟨_, rfl⟩
        rw [← hM20] at hB
        have kM20 : ∀ k9, k9 ≠ 21 → k9 ≠ 22 → k9 ≠ t → M20 k9 = N k9 := fun k9 h0 h1 h2 => by rw [hM20, upN_ne h0]; exact kM19 k9 h0 h1 h2
        have vM20_22 : M20 22 = wyN (ga (2 * b + 0)).toInt (aN (lg (2 * b + 0))) := by rw [hM20, upN_ne (by decide)]; exact vM19_22
        have vM20_t : M20 t = rd2 (pulI 0 L mo an pl ho) (if k = 0 + 1 then y9 else 0) a9 (ga (2 * b + 0)).toInt (aN (lg (2 * b + 0))) := by rw [hM20, upN_ne (by omega)]; exact vM19_t
        have vM20_21 : M20 21 = p20N (pulI 1 L mo an pl ho) := by rw [hM20, upN_eq]
        refine lv_aload_n hx hb dX0_takeReading_29 rfl (lv_at hl 1 rfl) ?_
        refine zget zf_X0_39 hF hB 0 rfl rfl dX0_takeReading_30 ?_
        refine zVv zm_X0_77 hF hB (c_X1_shorten l D ka kb (na 21) (M20 21) (by rw [vM20_21]; exact (show 0 < (20 : Int64).toInt by decide))) [9 + 21] (zsel_num rfl (by omega)) (va_nd_1 _) [na 21] (fun _ => rfl) rfl (9 + 21) 1 rfl (nP_atn rfl (by omega)) rfl ⟨Nat.le_of_ble_eq_true rfl, Nat.le_of_ble_eq_true rfl⟩ rfl hl.1 (Nat.le_of_ble_eq_true rfl) ⟨Nat.le_refl _, Nat.le_refl _⟩ dX0_takeReading_33 ?_
        clear hB
        try clear locs
        try clear H
        intro u29 H locs hp hB
        replace hB : zB D A s ([((bd 3), .inr (0, [.ref (bd 12), .ref (bd 13), .ref (bd 14), .ref (bd 15), .ref (bd 16), .ref (bd 17), .ref (na 21), .ref (na 22), .ref (na 23), .ref (na 24)])), ((bd 12), .inr (2, [.int (bI (sumO false (M18 t) (M18 21))), .ref (na 28), .ref (na 29), .ref (na 30)])), ((bd 13), .inl (ka 0, 8, .inl st)), ((bd 16), .inl (ka 3, 3, .inr (.inr (.inr (.inr (nR na 14)))))), ((bd 2), .inr (3, [.int (nI L), .ref (bd 7), .ref (bd 8), .ref (bd 9), .ref (bd 10), .ref (bd 11), .int sz9, .int re9])), ((bd 7), .inl (ka 0, 8, .inl mo)), ((bd 8), .inl (ka 0, 8, .inl an)), ((bd 9), .inl (ka 0, 8, .inl pl)), ((bd 10), .inl (ka 0, 24, .inl ho))] ++ nP na (upN M20 21 (lowN (M20 21).1 (M20 21).2.1 (M20 21).2.2.1 (M20 21).2.2.2.1 (M20 21).2.2.2.2))) H locs := zB_num (X := (lowN (M20 21).1 (M20 21).2.1 (M20 21).2.2.1 (M20 21).2.2.2.1 (M20 21).2.2.2.2)) hB rfl (by omega)
        obtain ⟨M21, hM21⟩ : ∃ M, M = (upN M20 21 (lowN (M20 21).1 (M20 21).2.1 (M20 21).2.2.1 (M20 21).2.2.2.1 (M20 21).2.2.2.2)) := ⟨_, rfl⟩
        rw [← hM21] at hB
        have kM21 : ∀ k9, k9 ≠ 21 → k9 ≠ 22 → k9 ≠ t → M21 k9 = N k9 := fun k9 h0 h1 h2 => by rw [hM21, upN_ne h0]; exact kM20 k9 h0 h1 h2
        have vM21_22 : M21 22 = wyN (ga (2 * b + 0)).toInt (aN (lg (2 * b + 0))) := by rw [hM21, upN_ne (by decide)]; exact vM20_22
        have vM21_t : M21 t = rd2 (pulI 0 L mo an pl ho) (if k = 0 + 1 then y9 else 0) a9 (ga (2 * b + 0)).toInt (aN (lg (2 * b + 0))) := by rw [hM21, upN_ne (by omega)]; exact vM20_t
        have vM21_21 : M21 21 = plN (pulI 1 L mo an pl ho) := by rw [hM21, upN_eq]; rw [vM20_21] <;> rfl
        refine lv_iload_n hx hb dX0_takeReading_36 rfl (lv_at hl 3 rfl) ?_
        refine lv_iload hx hb dX0_takeReading_37 (lv_at hl 0 rfl) ?_
        refine lv_iconst (v := 1) hx hb dX0_takeReading_39 (by decide) ?_
        refine lv_iadd hx hb dX0_takeReading_40 ?_
        refine ztopi (y := (2 : Int32)) (by decide) ?_
        refine lv_icmp_ne (tgt := 66) hx hb dX0_takeReading_41 (by decide) (fun h41 => ?_) (fun h41 => ?_)
        · skip
          have hkp1 : ¬ k = 1 + 1 := fun e8 => h41 (by rw [e8]; rfl)
          have w21_1 : M21 21 = rd1 (pulI 1 L mo an pl ho) (if k = 1 + 1 then y9 else 0) a9 := by rw [if_neg hkp1, rd1_0]; exact vM21_21
          refine lv_aload_n hx hb dX0_takeReading_66 rfl (lv_at hl 1 rfl) ?_
          refine zget zf_X0_43 hF hB 0 rfl rfl dX0_takeReading_67 ?_
          refine lv_aload_n hx hb dX0_takeReading_70 rfl (lv_at hl 1 rfl) ?_
          refine lv_iload_n hx hb dX0_takeReading_71 rfl (lv_at hl 4 rfl) ?_
          refine lv_iload hx hb dX0_takeReading_72 (lv_at hl 0 rfl) ?_
          refine lv_iconst (v := 0) hx hb dX0_takeReading_74 (by decide) ?_
          refine zVi zm_X0_84 hF hB (c_X0_setting l D ka kb bd na st b 1 0 (hb2) (by decide) (by decide)) [0, 2] rfl (by decide) [(bd 3), (bd 13)] (fun _ => rfl) rfl 0 0 rfl rfl rfl ⟨Nat.le_of_ble_eq_true rfl, Nat.le_of_ble_eq_true rfl⟩ rfl hl.1 (Nat.le_of_ble_eq_true rfl) ⟨Nat.le_refl _, Nat.le_refl _⟩ dX0_takeReading_75 ?_
          clear hB
          try clear locs
          try clear H
          intro r30 u30 H locs hp hB
          obtain rfl : r30 = st (2 * (2 * b + 1) + 0) := hp
          replace hB : zB D A s ([((bd 3), .inr (0, [.ref (bd 12), .ref (bd 13), .ref (bd 14), .ref (bd 15), .ref (bd 16), .ref (bd 17), .ref (na 21), .ref (na 22), .ref (na 23), .ref (na 24)])), ((bd 12), .inr (2, [.int (bI (sumO false (M18 t) (M18 21))), .ref (na 28), .ref (na 29), .ref (na 30)])), ((bd 13), .inl (ka 0, 8, .inl st)), ((bd 16), .inl (ka 3, 3, .inr (.inr (.inr (.inr (nR na 14)))))), ((bd 2), .inr (3, [.int (nI L), .ref (bd 7), .ref (bd 8), .ref (bd 9), .ref (bd 10), .ref (bd 11), .int sz9, .int re9])), ((bd 7), .inl (ka 0, 8, .inl mo)), ((bd 8), .inl (ka 0, 8, .inl an)), ((bd 9), .inl (ka 0, 8, .inl pl)), ((bd 10), .inl (ka 0, 24, .inl ho))] ++ nP na M21) H locs := hB
          refine ztopi (y := (ga (2 * b + 1))) ((hst _ (by omega)).1) ?_
          refine lv_aload_n hx hb dX0_takeReading_78 rfl (lv_at hl 1 rfl) ?_
          refine lv_iload_n hx hb dX0_takeReading_79 rfl (lv_at hl 4 rfl) ?_
          refine lv_iload hx hb dX0_takeReading_80 (lv_at hl 0 rfl) ?_
          refine lv_iconst (v := 1) hx hb dX0_takeReading_82 (by decide) ?_
          refine zVi zm_X0_84 hF hB (c_X0_setting l D ka kb bd na st b 1 1 (hb2) (by decide) (by decide)) [0, 2] rfl (by decide) [(bd 3), (bd 13)] (fun _ => rfl) rfl 0 0 rfl rfl rfl ⟨Nat.le_of_ble_eq_true rfl, Nat.le_of_ble_eq_true rfl⟩ rfl hl.1 (Nat.le_of_ble_eq_true rfl) ⟨Nat.le_refl _, Nat.le_refl _⟩ dX0_takeReading_83 ?_
          clear hB
          try clear locs
          try clear H
          intro r31 u31 H locs hp hB
          obtain rfl : r31 = st (2 * (2 * b + 1) + 1) := hp
          replace hB : zB D A s ([((bd 3), .inr (0, [.ref (bd 12), .ref (bd 13), .ref (bd 14), .ref (bd 15), .ref (bd 16), .ref (bd 17), .ref (na 21), .ref (na 22), .ref (na 23), .ref (na 24)])), ((bd 12), .inr (2, [.int (bI (sumO false (M18 t) (M18 21))), .ref (na 28), .ref (na 29), .ref (na 30)])), ((bd 13), .inl (ka 0, 8, .inl st)), ((bd 16), .inl (ka 3, 3, .inr (.inr (.inr (.inr (nR na 14)))))), ((bd 2), .inr (3, [.int (nI L), .ref (bd 7), .ref (bd 8), .ref (bd 9), .ref (bd 10), .ref (bd 11), .int sz9, .int re9])), ((bd 7), .inl (ka 0, 8, .inl mo)), ((bd 8), .inl (ka 0, 8, .inl an)), ((bd 9), .inl (ka 0, 8, .inl pl)), ((bd 10), .inl (ka 0, 24, .inl ho))] ++ nP na M21) H locs := hB
          refine ztopi (y := nI (aN (lg (2 * b + 1)))) (((hst (2 * b + 1) (by omega)).2).trans (hlb 1 (by decide)).2) ?_
          refine zVv zm_X0_55 hF hB (c_X1_becomeWay l D ka kb (na 22) (M21 22) (ga (2 * b + 1)) (aN (lg (2 * b + 1))) ((hlb 1 (by decide)).1)) [9 + 22] (zsel_num rfl (by omega)) (va_nd_1 _) [na 22] (fun _ => rfl) rfl (9 + 22) 1 rfl (nP_atn rfl (by omega)) rfl ⟨Nat.le_of_ble_eq_true rfl, Nat.le_of_ble_eq_true rfl⟩ rfl hl.1 (Nat.le_of_ble_eq_true rfl) ⟨Nat.le_refl _, Nat.le_refl _⟩ dX0_takeReading_86 ?_
          clear hB
          try clear locs
          try clear H
          intro u32 H locs hp hB
          replace hB : zB D A s ([((bd 3), .inr (0, [.ref (bd 12), .ref (bd 13), .ref (bd 14), .ref (bd 15), .ref (bd 16), .ref (bd 17), .ref (na 21), .ref (na 22), .ref (na 23), .ref (na 24)])), ((bd 12), .inr (2, [.int (bI (sumO false (M18 t) (M18 21))), .ref (na 28), .ref (na 29), .ref (na 30)])), ((bd 13), .inl (ka 0, 8, .inl st)), ((bd 16), .inl (ka 3, 3, .inr (.inr (.inr (.inr (nR na 14)))))), ((bd 2), .inr (3, [.int (nI L), .ref (bd 7), .ref (bd 8), .ref (bd 9), .ref (bd 10), .ref (bd 11), .int sz9, .int re9])), ((bd 7), .inl (ka 0, 8, .inl mo)), ((bd 8), .inl (ka 0, 8, .inl an)), ((bd 9), .inl (ka 0, 8, .inl pl)), ((bd 10), .inl (ka 0, 24, .inl ho))] ++ nP na (upN M21 22 (bwN (ga (2 * b + 1)) (aN (lg (2 * b + 1)))))) H locs := zB_num (X := (bwN (ga (2 * b + 1)) (aN (lg (2 * b + 1))))) hB rfl (by omega)
          obtain ⟨M22, hM22⟩ : ∃ M, M = (upN M21 22 (bwN (ga (2 * b + 1)) (aN (lg (2 * b + 1))))) := ⟨_, rfl⟩
          rw [← hM22] at hB
          have kM22 : ∀ k9, k9 ≠ 21 → k9 ≠ 22 → k9 ≠ t → M22 k9 = N k9 := fun k9 h0 h1 h2 => by rw [hM22, upN_ne h1]; exact kM21 k9 h0 h1 h2
          have vM22_t : M22 t = rd2 (pulI 0 L mo an pl ho) (if k = 0 + 1 then y9 else 0) a9 (ga (2 * b + 0)).toInt (aN (lg (2 * b + 0))) := by rw [hM22, upN_ne (by omega)]; exact vM21_t
          have vM22_21 : M22 21 = rd1 (pulI 1 L mo an pl ho) (if k = 1 + 1 then y9 else 0) a9 := by rw [hM22, upN_ne (by decide)]; exact w21_1
          have vM22_22 : M22 22 = wyN (ga (2 * b + 1)).toInt (aN (lg (2 * b + 1))) := by rw [hM22, upN_eq]; exact bw_wy _ _
          refine lv_aload_n hx hb dX0_takeReading_89 rfl (lv_at hl 1 rfl) ?_
          refine zget zf_X0_12 hF hB 0 rfl rfl dX0_takeReading_90 ?_
          refine lv_aload_n hx hb dX0_takeReading_93 rfl (lv_at hl 1 rfl) ?_
          refine zget zf_X0_39 hF hB 0 rfl rfl dX0_takeReading_94 ?_
          refine lv_aload_n hx hb dX0_takeReading_97 rfl (lv_at hl 1 rfl) ?_
          refine zget zf_X0_43 hF hB 0 rfl rfl dX0_takeReading_98 ?_
          refine lv_aload_n hx hb dX0_takeReading_101 rfl (lv_at hl 1 rfl) ?_
          refine zget zf_X0_39 hF hB 0 rfl rfl dX0_takeReading_102 ?_
          refine zVi zm_X0_88 hF hB (c_X2_product l D ka kb (bd 12) na (sumO false (M18 t) (M18 21)) 28 29 30 M22 21 21 22 (by decide) (by decide) (by decide) (by rw [vM22_21]; have := (rd1_o (hbd 1 (by decide)) ha9 (hyp 1)).2.2.2.2.2; omega) (by rw [vM22_22]; have := (wyN_bd (hlb 1 (by decide)).1 (y := (ga (2 * b + 1)).toInt) (Y := 9) (by have := hgb 1 (by decide); omega) (by omega)).2.2.2.2; omega)) ([1] ++ npr 9) (zsel_pool rfl rfl) (va_nd_pool rfl rfl) ([(bd 12)] ++ nA na) (fun _ => zad_pool rfl) (zad_pool rfl) 1 2 rfl rfl rfl ⟨Nat.le_of_ble_eq_true rfl, Nat.le_of_ble_eq_true rfl⟩ rfl hl.1 (Nat.le_of_ble_eq_true rfl) ⟨Nat.le_refl _, Nat.le_refl _⟩ dX0_takeReading_105 ?_
          clear hB
          try clear locs
          try clear H
          intro r33 u33 H locs hp hB
          obtain rfl : r33 = bI (!(prodO (M22 21) (M22 22))) := hp
          replace hB : zB D A s ([((bd 3), .inr (0, [.ref (bd 12), .ref (bd 13), .ref (bd 14), .ref (bd 15), .ref (bd 16), .ref (bd 17), .ref (na 21), .ref (na 22), .ref (na 23), .ref (na 24)])), ((bd 12), .inr (2, [.int (bI (prodO (M22 21) (M22 22))), .ref (na 28), .ref (na 29), .ref (na 30)])), ((bd 13), .inl (ka 0, 8, .inl st)), ((bd 16), .inl (ka 3, 3, .inr (.inr (.inr (.inr (nR na 14)))))), ((bd 2), .inr (3, [.int (nI L), .ref (bd 7), .ref (bd 8), .ref (bd 9), .ref (bd 10), .ref (bd 11), .int sz9, .int re9])), ((bd 7), .inl (ka 0, 8, .inl mo)), ((bd 8), .inl (ka 0, 8, .inl an)), ((bd 9), .inl (ka 0, 8, .inl pl)), ((bd 10), .inl (ka 0, 24, .inl ho))] ++ nP na (if prodO (M22 21) (M22 22) = true then M22 else upN M22 21 (prodV (M22 21) (M22 22)))) H locs := zB_pool hB rfl rfl rfl rfl
          have hsM22 : prodO (M22 21) (M22 22) = false := by rw [vM22_21, vM22_22]; exact (rd2_o (hbd 1 (by decide)) ha9 (hyp 1) (hgb 1 (by decide)) (hlb 1 (by decide)).1).1
          obtain ⟨M23, hM23⟩ : ∃ M, M = (if prodO (M22 21) (M22 22) = true then M22 else upN M22 21 (prodV (M22 21) (M22 22))) := ⟨_, rfl⟩
          rw [← hM23] at hB
          rw [if_neg (by rw [hsM22]; decide)] at hM23
          have kM23 : ∀ k9, k9 ≠ 21 → k9 ≠ 22 → k9 ≠ t → M23 k9 = N k9 := fun k9 h0 h1 h2 => by rw [hM23, upN_ne h0]; exact kM22 k9 h0 h1 h2
          have vM23_t : M23 t = rd2 (pulI 0 L mo an pl ho) (if k = 0 + 1 then y9 else 0) a9 (ga (2 * b + 0)).toInt (aN (lg (2 * b + 0))) := by rw [hM23, upN_ne (by omega)]; exact vM22_t
          have vM23_22 : M23 22 = wyN (ga (2 * b + 1)).toInt (aN (lg (2 * b + 1))) := by rw [hM23, upN_ne (by decide)]; exact vM22_22
          have vM23_21 : M23 21 = rd2 (pulI 1 L mo an pl ho) (if k = 1 + 1 then y9 else 0) a9 (ga (2 * b + 1)).toInt (aN (lg (2 * b + 1))) := by rw [hM23, upN_eq]; rw [vM22_21, vM22_22] <;> rfl
          refine lv_pop hx hb dX0_takeReading_108 rfl ?_
          refine lv_aload_n hx hb dX0_takeReading_109 rfl (lv_at hl 1 rfl) ?_
          refine zget zf_X0_12 hF hB 0 rfl rfl dX0_takeReading_110 ?_
          refine lv_aload hx hb dX0_takeReading_113 (lv_at hl 5 rfl) ?_
          refine lv_aload_n hx hb dX0_takeReading_115 rfl (lv_at hl 1 rfl) ?_
          refine zget zf_X0_39 hF hB 0 rfl rfl dX0_takeReading_116 ?_
          refine lv_aload hx hb dX0_takeReading_119 (lv_at hl 5 rfl) ?_
          refine zVi zm_X0_80 hF hB (c_X2_sum l D ka kb (bd 12) na (prodO (M22 21) (M22 22)) 28 29 30 M23 t t 21 (by omega) (by omega) (by decide) (by rw [vM23_t]; have := (rd2_o (hbd 0 (by decide)) ha9 (hyp 0) (hgb 0 (by decide)) (hlb 0 (by decide)).1).2.2.2.2.2; omega) (by rw [vM23_21]; have := (rd2_o (hbd 1 (by decide)) ha9 (hyp 1) (hgb 1 (by decide)) (hlb 1 (by decide)).1).2.2.2.2.2; omega)) ([1] ++ npr 9) (zsel_pool rfl rfl) (va_nd_pool rfl rfl) ([(bd 12)] ++ nA na) (fun _ => zad_pool rfl) (zad_pool rfl) 1 2 rfl rfl rfl ⟨Nat.le_of_ble_eq_true rfl, Nat.le_of_ble_eq_true rfl⟩ rfl hl.1 (Nat.le_of_ble_eq_true rfl) ⟨Nat.le_refl _, Nat.le_refl _⟩ dX0_takeReading_121 ?_
          clear hB
          try clear locs
          try clear H
          intro r34 u34 H locs hp hB
          obtain rfl : r34 = bI (!(sumO false (M23 t) (M23 21))) := hp
          replace hB : zB D A s ([((bd 3), .inr (0, [.ref (bd 12), .ref (bd 13), .ref (bd 14), .ref (bd 15), .ref (bd 16), .ref (bd 17), .ref (na 21), .ref (na 22), .ref (na 23), .ref (na 24)])), ((bd 12), .inr (2, [.int (bI (sumO false (M23 t) (M23 21))), .ref (na 28), .ref (na 29), .ref (na 30)])), ((bd 13), .inl (ka 0, 8, .inl st)), ((bd 16), .inl (ka 3, 3, .inr (.inr (.inr (.inr (nR na 14)))))), ((bd 2), .inr (3, [.int (nI L), .ref (bd 7), .ref (bd 8), .ref (bd 9), .ref (bd 10), .ref (bd 11), .int sz9, .int re9])), ((bd 7), .inl (ka 0, 8, .inl mo)), ((bd 8), .inl (ka 0, 8, .inl an)), ((bd 9), .inl (ka 0, 8, .inl pl)), ((bd 10), .inl (ka 0, 24, .inl ho))] ++ nP na (if sumO false (M23 t) (M23 21) = true then M23 else upN M23 t (sumV false (M23 t) (M23 21)))) H locs := zB_pool hB rfl rfl rfl rfl
          have hsM23 : sumO false (M23 t) (M23 21) = false := by rw [vM23_t, vM23_21]; exact (rd3_o (hbd 0 (by decide)) (hbd 1 (by decide)) ha9 (hyp 0) (hyp 1) (hgb 0 (by decide)) (hgb 1 (by decide)) (hlb 0 (by decide)).1 (hlb 1 (by decide)).1).1
          obtain ⟨M24, hM24⟩ : ∃ M, M = (if sumO false (M23 t) (M23 21) = true then M23 else upN M23 t (sumV false (M23 t) (M23 21))) := ⟨_, rfl⟩
          rw [← hM24] at hB
          rw [if_neg (by rw [hsM23]; decide)] at hM24
          have kM24 : ∀ k9, k9 ≠ 21 → k9 ≠ 22 → k9 ≠ t → M24 k9 = N k9 := fun k9 h0 h1 h2 => by rw [hM24, upN_ne h2]; exact kM23 k9 h0 h1 h2
          have vM24_22 : M24 22 = wyN (ga (2 * b + 1)).toInt (aN (lg (2 * b + 1))) := by rw [hM24, upN_ne (by omega)]; exact vM23_22
          have vM24_21 : M24 21 = rd2 (pulI 1 L mo an pl ho) (if k = 1 + 1 then y9 else 0) a9 (ga (2 * b + 1)).toInt (aN (lg (2 * b + 1))) := by rw [hM24, upN_ne (by omega)]; exact vM23_21
          have vM24_t : M24 t = sumV false (rd2 (pulI 0 L mo an pl ho) (if k = 0 + 1 then y9 else 0) a9 (ga (2 * b + 0)).toInt (aN (lg (2 * b + 0)))) (rd2 (pulI 1 L mo an pl ho) (if k = 1 + 1 then y9 else 0) a9 (ga (2 * b + 1)).toInt (aN (lg (2 * b + 1)))) := by rw [hM24, upN_eq]; rw [vM23_t, vM23_21]
          refine lv_pop hx hb dX0_takeReading_124 rfl ?_
          refine lv_iinc (v := (2 : Int32)) (lv' := [(5, .int (2 : Int32)), (0, .ref (bd 3)), (1, .ref (bd 2)), (2, .int (nI k)), (3, .int (nI b)), (4, .ref (na t))]) hx hb dX0_takeReading_125 hl (k := 0) rfl (by decide) (by decide) rfl ?_
          clear hl
          clear ls
          intro ls hl
          refine lv_goto (tgt := 13) hx hb dX0_takeReading_128 (by decide) ?_
          refine lv_iload hx hb dX0_takeReading_13 (lv_at hl 0 rfl) ?_
          refine lv_iconst (v := 2) hx hb dX0_takeReading_15 (by decide) ?_
          refine lv_icmp_ge (tgt := 131) hx hb dX0_takeReading_16 (by decide) (fun h16 => ?_) (fun h16 => ?_)
          · skip
            exact zretv hF hB (M24, sumO false (M23 t) (M23 21)) (⟨kM24, vM24_t⟩) (rfl) dX0_takeReading_131 hQ
          · skip
            exact absurd (by decide) h16
        · skip
          exact absurd ((nI_eq (b := 2) (by omega) (by decide)).mp h41) (by omega)

