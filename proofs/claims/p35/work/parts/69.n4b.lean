set_option maxHeartbeats 4000000 in
set_option maxRecDepth 100000 in
theorem c_X2_quotient (l : Launch) (D : va_G) (ka : Nat → ClassId) (kb : Nat → Nat) (g : Nat) (na : Nat → Nat) (o : Bool) (tp : Nat) (fp : Nat) (ip : Nat) (N : Nat → N5) (t : Nat) (i : Nat) (j : Nat) (ht : t < 41) (hi : i < 41) (hj : j < 41) (hdi : 0 < (N i).2.2.2.2.toInt) (hdj : 0 < (N j).2.2.2.2.toInt) (hz : zeroN (N j) = false) (hr : tp < 41 ∧ fp < 41 ∧ ip < 41 ∧ tp ≠ fp ∧ tp ≠ ip ∧ fp ≠ ip) (hit : i ≠ tp ∧ i ≠ fp ∧ i ≠ ip) (hjt : j ≠ tp ∧ j ≠ fp ∧ j ≠ ip) (htt : t ≠ tp ∧ t ≠ fp ∧ t ≠ ip) : zI l D ka kb yX2_quotient cX2_quotient 6 .boolean 5 174 [.ref g, .ref (na i), .ref (na j), .ref (na t)] ([(g, .inr (2, [.int (bI o), .ref (na tp), .ref (na fp), .ref (na ip)]))] ++ nP na N) (fun (r : Int32) (u : (Nat → N5) × Bool) => r = bI (!(quoO (N i) (N j))) ∧ (∀ k9, k9 ≠ tp → k9 ≠ fp → k9 ≠ ip → k9 ≠ t → u.1 k9 = N k9) ∧ u.1 t = (if quoO (N i) (N j) = true then N t else quoV (N i) (N j))) (fun (u : (Nat → N5) × Bool) => [(g, .inr (2, [.int (bI u.2), .ref (na tp), .ref (na fp), .ref (na ip)]))] ++ nP na u.1) := by
  refine zI.mk RX2 (by decide +kernel) rfl (Nat.le_of_ble_eq_true rfl) ?_
  intro p e s m below meth c A ls args Q hQ hx hb hF hB hl
  replace hl : lv_has ls 6 [(0, .ref g), (1, .ref (na i)), (2, .ref (na j)), (3, .ref (na t))] := hl
  obtain ⟨hr1, hr2, hr3, hr4, hr5, hr6⟩ := hr
  obtain ⟨hi1, hi2, hi3⟩ := hit
  obtain ⟨hj1, hj2, hj3⟩ := hjt
  obtain ⟨ht1, ht2, ht3⟩ := htt
  have d1 : 0 < (1 : Int64).toInt := by decide
  have d11 : 0 < ((1 : Int64) * 1).toInt := by decide
  refine lv_aload_n hx hb dX2_quotient_0 rfl (lv_at hl 2 rfl) ?_
  refine zVi zm_X2_61 hF hB (c_X1_isZero l D ka kb (na j) (N j) ) [1 + j] (zsel_num rfl (by omega)) (va_nd_1 _) [na j] (fun _ => rfl) rfl (1 + j) 1 rfl (nP_atn rfl (by omega)) rfl ⟨Nat.le_of_ble_eq_true rfl, Nat.le_of_ble_eq_true rfl⟩ rfl hl.1 (Nat.le_of_ble_eq_true rfl) ⟨Nat.le_refl _, Nat.le_refl _⟩ dX2_quotient_1 ?_
  clear hB
  try clear locs
  try clear H
  intro r1 u1 H locs hp hB
  obtain rfl : r1 = bI (zeroN (N j)) := hp
  replace hB : zB D A s ([(g, .inr (2, [.int (bI o), .ref (na tp), .ref (na fp), .ref (na ip)]))] ++ nP na N) H locs := (by have e9 := zB_num (X := (N j)) hB rfl (by omega); rw [upN_id] at e9; exact e9)
  refine ztopi (y := bI false) (by rw [hz]) ?_
  refine lv_if_eq (tgt := 9) hx hb dX2_quotient_4 (by decide) (fun h4 => ?_) (fun h4 => ?_)
  · skip
    refine lv_aload_n hx hb dX2_quotient_9 rfl (lv_at hl 0 rfl) ?_
    refine lv_iconst (v := 0) hx hb dX2_quotient_10 (by decide) ?_
    refine zput_f zp_X2_24 hF hB 0 rfl (rfl) (rfl) (Nat.le_of_ble_eq_true rfl) dX2_quotient_11 ?_
    clear hB
    try clear locs
    try clear H
    intro H locs hB
    replace hB : zB D A s ([(g, .inr (2, [.int (0 : Int32), .ref (na tp), .ref (na fp), .ref (na ip)]))] ++ nP na N) H locs := hB
    refine lv_aload_n hx hb dX2_quotient_14 rfl (lv_at hl 0 rfl) ?_
    refine zget zf_X2_12 hF hB 0 rfl rfl dX2_quotient_15 ?_
    refine lv_aload_n hx hb dX2_quotient_18 rfl (lv_at hl 2 rfl) ?_
    refine zgetN zf_X2_28 hF hB j (by omega) rfl dX2_quotient_19 ?_
    refine lv_aload_n hx hb dX2_quotient_22 rfl (lv_at hl 2 rfl) ?_
    refine zgetN zf_X2_42 hF hB j (by omega) rfl dX2_quotient_23 ?_
    refine lv_aload_n hx hb dX2_quotient_26 rfl (lv_at hl 0 rfl) ?_
    refine lv_lconst (v := 0) hx hb dX2_quotient_27 (by decide) ?_
    refine lv_aload_n hx hb dX2_quotient_28 rfl (lv_at hl 2 rfl) ?_
    refine zgetN zf_X2_45 hF hB j (by omega) rfl dX2_quotient_29 ?_
    refine zVl zm_X2_55 hF hB (c_X2_less l D ka kb g na false tp fp ip (0 : Int64) ((N j).2.2.1) ) [0] rfl (by decide) [g] (fun _ => rfl) rfl 0 2 rfl rfl rfl ⟨Nat.le_of_ble_eq_true rfl, Nat.le_of_ble_eq_true rfl⟩ rfl hl.1 (Nat.le_of_ble_eq_true rfl) ⟨Nat.le_refl _, Nat.le_refl _⟩ dX2_quotient_32 ?_
    clear hB
    try clear locs
    try clear H
    intro r2 u2 H locs hp hB
    obtain rfl : r2 = (0 : Int64) - ((N j).2.2.1) := hp
    replace hB : zB D A s ([(g, .inr (2, [.int (bI (false || mOv (0 : Int64) ((N j).2.2.1))), .ref (na tp), .ref (na fp), .ref (na ip)]))] ++ nP na N) H locs := hB
    refine lv_aload_n hx hb dX2_quotient_35 rfl (lv_at hl 0 rfl) ?_
    refine lv_lconst (v := 0) hx hb dX2_quotient_36 (by decide) ?_
    refine lv_aload_n hx hb dX2_quotient_37 rfl (lv_at hl 2 rfl) ?_
    refine zgetN zf_X2_48 hF hB j (by omega) rfl dX2_quotient_38 ?_
    refine zVl zm_X2_55 hF hB (c_X2_less l D ka kb g na (false || mOv (0 : Int64) ((N j).2.2.1)) tp fp ip (0 : Int64) ((N j).2.2.2.1) ) [0] rfl (by decide) [g] (fun _ => rfl) rfl 0 2 rfl rfl rfl ⟨Nat.le_of_ble_eq_true rfl, Nat.le_of_ble_eq_true rfl⟩ rfl hl.1 (Nat.le_of_ble_eq_true rfl) ⟨Nat.le_refl _, Nat.le_refl _⟩ dX2_quotient_41 ?_
    clear hB
    try clear locs
    try clear H
    intro r3 u3 H locs hp hB
    obtain rfl : r3 = (0 : Int64) - ((N j).2.2.2.1) := hp
    replace hB : zB D A s ([(g, .inr (2, [.int (bI ((false || mOv (0 : Int64) ((N j).2.2.1)) || mOv (0 : Int64) ((N j).2.2.2.1))), .ref (na tp), .ref (na fp), .ref (na ip)]))] ++ nP na N) H locs := hB
    refine lv_lconst (v := 1) hx hb dX2_quotient_44 (by decide) ?_
    refine zVv zm_X2_65 hF hB (c_X1_become l D ka kb (na tp) (N tp) ((N j).1) ((N j).2.1) ((0 : Int64) - ((N j).2.2.1)) ((0 : Int64) - ((N j).2.2.2.1)) (1 : Int64) ) [1 + tp] (zsel_num rfl (by omega)) (va_nd_1 _) [na tp] (fun _ => rfl) rfl (1 + tp) 1 rfl (nP_atn rfl (by omega)) rfl ⟨Nat.le_of_ble_eq_true rfl, Nat.le_of_ble_eq_true rfl⟩ rfl hl.1 (Nat.le_of_ble_eq_true rfl) ⟨Nat.le_refl _, Nat.le_refl _⟩ dX2_quotient_45 ?_
    clear hB
    try clear locs
    try clear H
    intro u4 H locs hp hB
    replace hB : zB D A s ([(g, .inr (2, [.int (bI ((false || mOv (0 : Int64) ((N j).2.2.1)) || mOv (0 : Int64) ((N j).2.2.2.1))), .ref (na tp), .ref (na fp), .ref (na ip)]))] ++ nP na (upN N tp (((N j).1), ((N j).2.1), ((0 : Int64) - ((N j).2.2.1)), ((0 : Int64) - ((N j).2.2.2.1)), (1 : Int64)))) H locs := zB_num (X := (((N j).1), ((N j).2.1), ((0 : Int64) - ((N j).2.2.1)), ((0 : Int64) - ((N j).2.2.2.1)), (1 : Int64))) hB rfl (by omega)
    obtain ⟨N1, hN1⟩ : ∃ M, M = (upN N tp (((N j).1), ((N j).2.1), ((0 : Int64) - ((N j).2.2.1)), ((0 : Int64) - ((N j).2.2.2.1)), (1 : Int64))) := ⟨_, rfl⟩
    rw [← hN1] at hB
    have k1 : ∀ k9, k9 ≠ tp → k9 ≠ fp → k9 ≠ ip → N1 k9 = N k9 := fun k9 h1 h2 h3 => by rw [hN1, upN_ne h1]
    have v1t : N1 tp = (rcM (N j)) := by rw [hN1, upN_eq] <;> rfl
    refine lv_aload_n hx hb dX2_quotient_48 rfl (lv_at hl 0 rfl) ?_
    refine zget zf_X2_18 hF hB 0 rfl rfl dX2_quotient_49 ?_
    refine lv_aload_n hx hb dX2_quotient_52 rfl (lv_at hl 2 rfl) ?_
    refine zgetN zf_X2_28 hF hB j (by omega) rfl dX2_quotient_53 ?_
    refine ztopl (y := (N j).1) (by rw [k1 j hj1 hj2 hj3]) ?_
    refine lv_aload_n hx hb dX2_quotient_56 rfl (lv_at hl 2 rfl) ?_
    refine zgetN zf_X2_42 hF hB j (by omega) rfl dX2_quotient_57 ?_
    refine ztopl (y := (N j).2.1) (by rw [k1 j hj1 hj2 hj3]) ?_
    refine lv_aload_n hx hb dX2_quotient_60 rfl (lv_at hl 2 rfl) ?_
    refine zgetN zf_X2_45 hF hB j (by omega) rfl dX2_quotient_61 ?_
    refine ztopl (y := (N j).2.2.1) (by rw [k1 j hj1 hj2 hj3]) ?_
    refine lv_aload_n hx hb dX2_quotient_64 rfl (lv_at hl 2 rfl) ?_
    refine zgetN zf_X2_48 hF hB j (by omega) rfl dX2_quotient_65 ?_
    refine ztopl (y := (N j).2.2.2.1) (by rw [k1 j hj1 hj2 hj3]) ?_
    refine lv_lconst (v := 1) hx hb dX2_quotient_68 (by decide) ?_
    refine zVv zm_X2_65 hF hB (c_X1_become l D ka kb (na fp) (N1 fp) ((N j).1) ((N j).2.1) ((N j).2.2.1) ((N j).2.2.2.1) (1 : Int64) ) [1 + fp] (zsel_num rfl (by omega)) (va_nd_1 _) [na fp] (fun _ => rfl) rfl (1 + fp) 1 rfl (nP_atn rfl (by omega)) rfl ⟨Nat.le_of_ble_eq_true rfl, Nat.le_of_ble_eq_true rfl⟩ rfl hl.1 (Nat.le_of_ble_eq_true rfl) ⟨Nat.le_refl _, Nat.le_refl _⟩ dX2_quotient_69 ?_
    clear hB
    try clear locs
    try clear H
    intro u5 H locs hp hB
    replace hB : zB D A s ([(g, .inr (2, [.int (bI ((false || mOv (0 : Int64) ((N j).2.2.1)) || mOv (0 : Int64) ((N j).2.2.2.1))), .ref (na tp), .ref (na fp), .ref (na ip)]))] ++ nP na (upN N1 fp (((N j).1), ((N j).2.1), ((N j).2.2.1), ((N j).2.2.2.1), (1 : Int64)))) H locs := zB_num (X := (((N j).1), ((N j).2.1), ((N j).2.2.1), ((N j).2.2.2.1), (1 : Int64))) hB rfl (by omega)
    obtain ⟨N2, hN2⟩ : ∃ M, M = (upN N1 fp (((N j).1), ((N j).2.1), ((N j).2.2.1), ((N j).2.2.2.1), (1 : Int64))) := ⟨_, rfl⟩
    rw [← hN2] at hB
    have k2 : ∀ k9, k9 ≠ tp → k9 ≠ fp → k9 ≠ ip → N2 k9 = N k9 := fun k9 h1 h2 h3 => by rw [hN2, upN_ne h2]; exact k1 k9 h1 h2 h3
    have v2t : N2 tp = (rcM (N j)) := by rw [hN2, upN_ne hr4]; exact v1t
    have v2f : N2 fp = (rcU (N j)) := by rw [hN2, upN_eq] <;> rfl
    refine lv_aload_n hx hb dX2_quotient_72 rfl (lv_at hl 0 rfl) ?_
    refine zget zf_X2_24 hF hB 0 rfl rfl dX2_quotient_73 ?_
    refine lv_if_ne (tgt := 98) hx hb dX2_quotient_76 (by decide) (fun h76 => ?_) (fun h76 => ?_)
    · skip
      have hMo : rcMo (N j) = true := by have e8 := bI_ne0 h76; rw [rcMo]; simpa using e8
      refine lv_iconst (v := 0) hx hb dX2_quotient_98 (by decide) ?_
      have hq9 : quoO (N i) (N j) = true := by rw [quoO, recO, hMo]; rfl
      exact zreti hF hB (N2, (false || mOv (0 : Int64) ((N j).2.2.1)) || mOv (0 : Int64) ((N j).2.2.2.1)) (⟨by rw [hq9] <;> rfl, fun k9 h1 h2 h3 _ => k2 k9 h1 h2 h3, by rw [if_pos hq9]; exact k2 t ht1 ht2 ht3⟩) (rfl) (rfl) dX2_quotient_99 hQ
    · skip
      have hMo : rcMo (N j) = false := by have e8 := bI_eq0 h76; rw [rcMo]; simpa using e8
      refine lv_aload_n hx hb dX2_quotient_79 rfl (lv_at hl 0 rfl) ?_
      refine lv_aload_n hx hb dX2_quotient_80 rfl (lv_at hl 0 rfl) ?_
      refine zget zf_X2_18 hF hB 0 rfl rfl dX2_quotient_81 ?_
      refine lv_aload_n hx hb dX2_quotient_84 rfl (lv_at hl 0 rfl) ?_
      refine zget zf_X2_12 hF hB 0 rfl rfl dX2_quotient_85 ?_
      refine lv_aload_n hx hb dX2_quotient_88 rfl (lv_at hl 0 rfl) ?_
      refine zget zf_X2_18 hF hB 0 rfl rfl dX2_quotient_89 ?_
      refine zVi zm_X2_69 hF hB (c_X2_product l D ka kb g na ((false || mOv (0 : Int64) ((N j).2.2.1)) || mOv (0 : Int64) ((N j).2.2.2.1)) tp fp ip N2 fp fp tp (hr2) (hr2) (hr1) (by rw [v2f]; exact d1) (by rw [v2t]; exact d1)) ([0] ++ npr 1) (zsel_pool rfl rfl) (va_nd_pool rfl rfl) ([g] ++ nA na) (fun _ => zad_pool rfl) (zad_pool rfl) 0 2 rfl rfl rfl ⟨Nat.le_of_ble_eq_true rfl, Nat.le_of_ble_eq_true rfl⟩ rfl hl.1 (Nat.le_of_ble_eq_true rfl) ⟨Nat.le_refl _, Nat.le_refl _⟩ dX2_quotient_92 ?_
      clear hB
      try clear locs
      try clear H
      intro r6 u6 H locs hp hB
      obtain rfl : r6 = bI (!(prodO (N2 fp) (N2 tp))) := hp
      replace hB : zB D A s ([(g, .inr (2, [.int (bI (prodO (N2 fp) (N2 tp))), .ref (na tp), .ref (na fp), .ref (na ip)]))] ++ nP na (if prodO (N2 fp) (N2 tp) = true then N2 else upN N2 fp (prodV (N2 fp) (N2 tp)))) H locs := zB_pool hB rfl rfl rfl rfl
      obtain ⟨N3, hN3⟩ : ∃ M, M = (if prodO (N2 fp) (N2 tp) = true then N2 else upN N2 fp (prodV (N2 fp) (N2 tp))) := ⟨_, rfl⟩
      rw [← hN3] at hB
      refine lv_if_ne (tgt := 100) hx hb dX2_quotient_95 (by decide) (fun h95 => ?_) (fun h95 => ?_)
      · skip
        have hNo : rcNo (N j) = false := by have e8 := bI_ne0 h95; rw [v2f, v2t] at e8; simp only [Bool.not_eq_true', Bool.not_eq_false'] at e8; exact e8
        have hp3 : prodO (N2 fp) (N2 tp) = false := by rw [v2f, v2t]; exact hNo
        rw [if_neg (by rw [hp3]; decide)] at hN3
        have k3 : ∀ k9, k9 ≠ tp → k9 ≠ fp → k9 ≠ ip → N3 k9 = N k9 := fun k9 h1 h2 h3 => by rw [hN3, upN_ne h2]; exact k2 k9 h1 h2 h3
        have v3t : N3 tp = (rcM (N j)) := by rw [hN3, upN_ne hr4]; exact v2t
        have v3f : N3 fp = (rcN (N j)) := by rw [hN3, upN_eq, v2f, v2t] <;> rfl
        replace hB : zB D A s ([(g, .inr (2, [.int (bI false), .ref (na tp), .ref (na fp), .ref (na ip)]))] ++ nP na N3) H locs := by rw [hp3] at hB; exact hB
        refine lv_aload_n hx hb dX2_quotient_100 rfl (lv_at hl 0 rfl) ?_
        refine lv_aload_n hx hb dX2_quotient_101 rfl (lv_at hl 0 rfl) ?_
        refine lv_aload_n hx hb dX2_quotient_102 rfl (lv_at hl 0 rfl) ?_
        refine zget zf_X2_18 hF hB 0 rfl rfl dX2_quotient_103 ?_
        refine zgetN zf_X2_28 hF hB fp (by omega) rfl dX2_quotient_106 ?_
        refine ztopl (y := (rcN (N j)).1) (by rw [v3f]) ?_
        refine lv_aload_n hx hb dX2_quotient_109 rfl (lv_at hl 0 rfl) ?_
        refine zget zf_X2_18 hF hB 0 rfl rfl dX2_quotient_110 ?_
        refine zgetN zf_X2_28 hF hB fp (by omega) rfl dX2_quotient_113 ?_
        refine ztopl (y := (rcN (N j)).1) (by rw [v3f]) ?_
        refine zVl zm_X2_35 hF hB (c_X2_times l D ka kb g na false tp fp ip ((rcN (N j)).1) ((rcN (N j)).1) ) [0] rfl (by decide) [g] (fun _ => rfl) rfl 0 2 rfl rfl rfl ⟨Nat.le_of_ble_eq_true rfl, Nat.le_of_ble_eq_true rfl⟩ rfl hl.1 (Nat.le_of_ble_eq_true rfl) ⟨Nat.le_refl _, Nat.le_refl _⟩ dX2_quotient_116 ?_
        clear hB
        try clear locs
        try clear H
        intro r7 u7 H locs hp hB
        obtain rfl : r7 = ((rcN (N j)).1) * ((rcN (N j)).1) := hp
        replace hB : zB D A s ([(g, .inr (2, [.int (bI (false || tOv ((rcN (N j)).1) ((rcN (N j)).1))), .ref (na tp), .ref (na fp), .ref (na ip)]))] ++ nP na N3) H locs := hB
        refine lv_aload_n hx hb dX2_quotient_119 rfl (lv_at hl 0 rfl) ?_
        refine lv_aload_n hx hb dX2_quotient_120 rfl (lv_at hl 0 rfl) ?_
        refine zget zf_X2_18 hF hB 0 rfl rfl dX2_quotient_121 ?_
        refine zgetN zf_X2_42 hF hB fp (by omega) rfl dX2_quotient_124 ?_
        refine ztopl (y := (rcN (N j)).2.1) (by rw [v3f]) ?_
        refine lv_aload_n hx hb dX2_quotient_127 rfl (lv_at hl 0 rfl) ?_
        refine zget zf_X2_18 hF hB 0 rfl rfl dX2_quotient_128 ?_
        refine zgetN zf_X2_42 hF hB fp (by omega) rfl dX2_quotient_131 ?_
        refine ztopl (y := (rcN (N j)).2.1) (by rw [v3f]) ?_
        refine zVl zm_X2_58 hF hB (c_X2_thrice l D ka kb g na (false || tOv ((rcN (N j)).1) ((rcN (N j)).1)) tp fp ip ((rcN (N j)).2.1) ((rcN (N j)).2.1) ) [0] rfl (by decide) [g] (fun _ => rfl) rfl 0 2 rfl rfl rfl ⟨Nat.le_of_ble_eq_true rfl, Nat.le_of_ble_eq_true rfl⟩ rfl hl.1 (Nat.le_of_ble_eq_true rfl) ⟨Nat.le_refl _, Nat.le_refl _⟩ dX2_quotient_134 ?_
        clear hB
        try clear locs
        try clear H
        intro r8 u8 H locs hp hB
        obtain rfl : r8 = thV ((rcN (N j)).2.1) ((rcN (N j)).2.1) := hp
        replace hB : zB D A s ([(g, .inr (2, [.int (bI ((false || tOv ((rcN (N j)).1) ((rcN (N j)).1)) || thO ((rcN (N j)).2.1) ((rcN (N j)).2.1))), .ref (na tp), .ref (na fp), .ref (na ip)]))] ++ nP na N3) H locs := hB
        refine zVl zm_X2_55 hF hB (c_X2_less l D ka kb g na ((false || tOv ((rcN (N j)).1) ((rcN (N j)).1)) || thO ((rcN (N j)).2.1) ((rcN (N j)).2.1)) tp fp ip (((rcN (N j)).1) * ((rcN (N j)).1)) (thV ((rcN (N j)).2.1) ((rcN (N j)).2.1)) ) [0] rfl (by decide) [g] (fun _ => rfl) rfl 0 2 rfl rfl rfl ⟨Nat.le_of_ble_eq_true rfl, Nat.le_of_ble_eq_true rfl⟩ rfl hl.1 (Nat.le_of_ble_eq_true rfl) ⟨Nat.le_refl _, Nat.le_refl _⟩ dX2_quotient_137 ?_
        clear hB
        try clear locs
        try clear H
        intro r9 u9 H locs hp hB
        obtain rfl : r9 = (((rcN (N j)).1) * ((rcN (N j)).1)) - (thV ((rcN (N j)).2.1) ((rcN (N j)).2.1)) := hp
        replace hB : zB D A s ([(g, .inr (2, [.int (bI (((false || tOv ((rcN (N j)).1) ((rcN (N j)).1)) || thO ((rcN (N j)).2.1) ((rcN (N j)).2.1)) || mOv (((rcN (N j)).1) * ((rcN (N j)).1)) (thV ((rcN (N j)).2.1) ((rcN (N j)).2.1)))), .ref (na tp), .ref (na fp), .ref (na ip)]))] ++ nP na N3) H locs := hB
        refine lv_lstore (lv' := [(4, .long ((((rcN (N j)).1) * ((rcN (N j)).1)) - (thV ((rcN (N j)).2.1) ((rcN (N j)).2.1)))), (0, .ref g), (1, .ref (na i)), (2, .ref (na j)), (3, .ref (na t))]) hx hb dX2_quotient_140 hl (by decide) rfl ?_
        clear hl
        clear ls
        intro ls hl
        refine lv_aload_n hx hb dX2_quotient_142 rfl (lv_at hl 1 rfl) ?_
        refine zget zf_X2_18 hF hB 0 rfl rfl dX2_quotient_143 ?_
        refine lv_aload_n hx hb dX2_quotient_146 rfl (lv_at hl 1 rfl) ?_
        refine zget zf_X2_18 hF hB 0 rfl rfl dX2_quotient_147 ?_
        refine zgetN zf_X2_28 hF hB fp (by omega) rfl dX2_quotient_150 ?_
        refine ztopl (y := (rcN (N j)).1) (by rw [v3f]) ?_
        refine lv_aload_n hx hb dX2_quotient_153 rfl (lv_at hl 1 rfl) ?_
        refine lv_lconst (v := 0) hx hb dX2_quotient_154 (by decide) ?_
        refine lv_aload_n hx hb dX2_quotient_155 rfl (lv_at hl 1 rfl) ?_
        refine zget zf_X2_18 hF hB 0 rfl rfl dX2_quotient_156 ?_
        refine zgetN zf_X2_42 hF hB fp (by omega) rfl dX2_quotient_159 ?_
        refine ztopl (y := (rcN (N j)).2.1) (by rw [v3f]) ?_
        refine zVl zm_X2_55 hF hB (c_X2_less l D ka kb g na (((false || tOv ((rcN (N j)).1) ((rcN (N j)).1)) || thO ((rcN (N j)).2.1) ((rcN (N j)).2.1)) || mOv (((rcN (N j)).1) * ((rcN (N j)).1)) (thV ((rcN (N j)).2.1) ((rcN (N j)).2.1))) tp fp ip (0 : Int64) ((rcN (N j)).2.1) ) [0] rfl (by decide) [g] (fun _ => rfl) rfl 0 2 rfl rfl rfl ⟨Nat.le_of_ble_eq_true rfl, Nat.le_of_ble_eq_true rfl⟩ rfl hl.1 (Nat.le_of_ble_eq_true rfl) ⟨Nat.le_refl _, Nat.le_refl _⟩ dX2_quotient_162 ?_
        clear hB
        try clear locs
        try clear H
        intro r10 u10 H locs hp hB
        obtain rfl : r10 = (0 : Int64) - ((rcN (N j)).2.1) := hp
        replace hB : zB D A s ([(g, .inr (2, [.int (bI ((((false || tOv ((rcN (N j)).1) ((rcN (N j)).1)) || thO ((rcN (N j)).2.1) ((rcN (N j)).2.1)) || mOv (((rcN (N j)).1) * ((rcN (N j)).1)) (thV ((rcN (N j)).2.1) ((rcN (N j)).2.1))) || mOv (0 : Int64) ((rcN (N j)).2.1))), .ref (na tp), .ref (na fp), .ref (na ip)]))] ++ nP na N3) H locs := hB
        refine lv_lconst (v := 0) hx hb dX2_quotient_165 (by decide) ?_
        refine lv_lconst (v := 0) hx hb dX2_quotient_166 (by decide) ?_
        refine lv_lconst (v := 1) hx hb dX2_quotient_167 (by decide) ?_
        refine zVv zm_X2_65 hF hB (c_X1_become l D ka kb (na fp) (N3 fp) ((rcN (N j)).1) ((0 : Int64) - ((rcN (N j)).2.1)) (0 : Int64) (0 : Int64) (1 : Int64) ) [1 + fp] (zsel_num rfl (by omega)) (va_nd_1 _) [na fp] (fun _ => rfl) rfl (1 + fp) 1 rfl (nP_atn rfl (by omega)) rfl ⟨Nat.le_of_ble_eq_true rfl, Nat.le_of_ble_eq_true rfl⟩ rfl hl.1 (Nat.le_of_ble_eq_true rfl) ⟨Nat.le_refl _, Nat.le_refl _⟩ dX2_quotient_168 ?_
        clear hB
        try clear locs
        try clear H
        intro u11 H locs hp hB
        replace hB : zB D A s ([(g, .inr (2, [.int (bI ((((false || tOv ((rcN (N j)).1) ((rcN (N j)).1)) || thO ((rcN (N j)).2.1) ((rcN (N j)).2.1)) || mOv (((rcN (N j)).1) * ((rcN (N j)).1)) (thV ((rcN (N j)).2.1) ((rcN (N j)).2.1))) || mOv (0 : Int64) ((rcN (N j)).2.1))), .ref (na tp), .ref (na fp), .ref (na ip)]))] ++ nP na (upN N3 fp (((rcN (N j)).1), ((0 : Int64) - ((rcN (N j)).2.1)), (0 : Int64), (0 : Int64), (1 : Int64)))) H locs := zB_num (X := (((rcN (N j)).1), ((0 : Int64) - ((rcN (N j)).2.1)), (0 : Int64), (0 : Int64), (1 : Int64))) hB rfl (by omega)
        obtain ⟨N4, hN4⟩ : ∃ M, M = (upN N3 fp (((rcN (N j)).1), ((0 : Int64) - ((rcN (N j)).2.1)), (0 : Int64), (0 : Int64), (1 : Int64))) := ⟨_, rfl⟩
        rw [← hN4] at hB
        have k4 : ∀ k9, k9 ≠ tp → k9 ≠ fp → k9 ≠ ip → N4 k9 = N k9 := fun k9 h1 h2 h3 => by rw [hN4, upN_ne h2]; exact k3 k9 h1 h2 h3
        have v4t : N4 tp = (rcM (N j)) := by rw [hN4, upN_ne hr4]; exact v3t
        have v4f : N4 fp = (rcC (N j)) := by rw [hN4, upN_eq] <;> rfl
        refine lv_aload_n hx hb dX2_quotient_171 rfl (lv_at hl 1 rfl) ?_
        refine zget zf_X2_24 hF hB 0 rfl rfl dX2_quotient_172 ?_
        refine lv_if_ne (tgt := 197) hx hb dX2_quotient_175 (by decide) (fun h175 => ?_) (fun h175 => ?_)
        · skip
          have hTo : (rcTo (N j) || mOv 0 (rcN (N j)).2.1) = true := by have e8 := bI_ne0 h175; rw [rcTo]; simpa [Bool.or_assoc] using e8
          refine lv_iconst (v := 0) hx hb dX2_quotient_197 (by decide) ?_
          have hRO : recO (N j) = true := by have e8 := hTo; rw [recO, hMo, hNo]; simp [Bool.or_assoc]; rcases Bool.or_eq_true_iff.mp e8 with e7 | e7 <;> simp [e7]
          have hq9 : quoO (N i) (N j) = true := by rw [quoO, hRO]; rfl
          exact zreti hF hB (N4, (((false || tOv ((rcN (N j)).1) ((rcN (N j)).1)) || thO ((rcN (N j)).2.1) ((rcN (N j)).2.1)) || mOv (((rcN (N j)).1) * ((rcN (N j)).1)) (thV ((rcN (N j)).2.1) ((rcN (N j)).2.1))) || mOv (0 : Int64) ((rcN (N j)).2.1)) (⟨by rw [hq9] <;> rfl, fun k9 h1 h2 h3 _ => k4 k9 h1 h2 h3, by rw [if_pos hq9]; exact k4 t ht1 ht2 ht3⟩) (rfl) (rfl) dX2_quotient_198 hQ
        · skip
          have hTo : (rcTo (N j) || mOv 0 (rcN (N j)).2.1) = false := by have e8 := bI_eq0 h175; rw [rcTo]; simpa [Bool.or_assoc] using e8
          refine lv_aload_n hx hb dX2_quotient_178 rfl (lv_at hl 1 rfl) ?_
          refine lv_aload_n hx hb dX2_quotient_179 rfl (lv_at hl 1 rfl) ?_
          refine zget zf_X2_12 hF hB 0 rfl rfl dX2_quotient_180 ?_
          refine lv_aload_n hx hb dX2_quotient_183 rfl (lv_at hl 1 rfl) ?_
          refine zget zf_X2_18 hF hB 0 rfl rfl dX2_quotient_184 ?_
          refine lv_aload_n hx hb dX2_quotient_187 rfl (lv_at hl 1 rfl) ?_
          refine zget zf_X2_21 hF hB 0 rfl rfl dX2_quotient_188 ?_
          refine zVi zm_X2_69 hF hB (c_X2_product l D ka kb g na ((((false || tOv ((rcN (N j)).1) ((rcN (N j)).1)) || thO ((rcN (N j)).2.1) ((rcN (N j)).2.1)) || mOv (((rcN (N j)).1) * ((rcN (N j)).1)) (thV ((rcN (N j)).2.1) ((rcN (N j)).2.1))) || mOv (0 : Int64) ((rcN (N j)).2.1)) tp fp ip N4 ip tp fp (hr3) (hr1) (hr2) (by rw [v4t]; exact d1) (by rw [v4f]; exact d1)) ([0] ++ npr 1) (zsel_pool rfl rfl) (va_nd_pool rfl rfl) ([g] ++ nA na) (fun _ => zad_pool rfl) (zad_pool rfl) 0 2 rfl rfl rfl ⟨Nat.le_of_ble_eq_true rfl, Nat.le_of_ble_eq_true rfl⟩ rfl hl.1 (Nat.le_of_ble_eq_true rfl) ⟨Nat.le_refl _, Nat.le_refl _⟩ dX2_quotient_191 ?_
          clear hB
          try clear locs
          try clear H
          intro r12 u12 H locs hp hB
          obtain rfl : r12 = bI (!(prodO (N4 tp) (N4 fp))) := hp
          replace hB : zB D A s ([(g, .inr (2, [.int (bI (prodO (N4 tp) (N4 fp))), .ref (na tp), .ref (na fp), .ref (na ip)]))] ++ nP na (if prodO (N4 tp) (N4 fp) = true then N4 else upN N4 ip (prodV (N4 tp) (N4 fp)))) H locs := zB_pool hB rfl rfl rfl rfl
          obtain ⟨N5, hN5⟩ : ∃ M, M = (if prodO (N4 tp) (N4 fp) = true then N4 else upN N4 ip (prodV (N4 tp) (N4 fp))) := ⟨_, rfl⟩
          rw [← hN5] at hB
          refine lv_if_ne (tgt := 199) hx hb dX2_quotient_194 (by decide) (fun h194 => ?_) (fun h194 => ?_)
          · skip
            have h4o : rc4o (N j) = false := by have e8 := bI_ne0 h194; rw [v4f, v4t] at e8; simp only [Bool.not_eq_true', Bool.not_eq_false'] at e8; exact e8
            have hp5 : prodO (N4 tp) (N4 fp) = false := by rw [v4f, v4t]; exact h4o
            rw [if_neg (by rw [hp5]; decide)] at hN5
            have k5 : ∀ k9, k9 ≠ tp → k9 ≠ fp → k9 ≠ ip → N5 k9 = N k9 := fun k9 h1 h2 h3 => by rw [hN5, upN_ne h3]; exact k4 k9 h1 h2 h3
            have v5i : N5 ip = (rc4 (N j)) := by rw [hN5, upN_eq, v4f, v4t] <;> rfl
            replace hB : zB D A s ([(g, .inr (2, [.int (bI false), .ref (na tp), .ref (na fp), .ref (na ip)]))] ++ nP na N5) H locs := by rw [hp5] at hB; exact hB
            refine lv_aload_n hx hb dX2_quotient_199 rfl (lv_at hl 1 rfl) ?_
            refine zget zf_X2_18 hF hB 0 rfl rfl dX2_quotient_200 ?_
            refine lv_aload_n hx hb dX2_quotient_203 rfl (lv_at hl 3 rfl) ?_
            refine zgetN zf_X2_32 hF hB j (by omega) rfl dX2_quotient_204 ?_
            refine ztopl (y := (N j).2.2.2.2) (by rw [k5 j hj1 hj2 hj3]) ?_
            refine lv_lconst (v := 0) hx hb dX2_quotient_207 (by decide) ?_
            refine lv_lconst (v := 0) hx hb dX2_quotient_208 (by decide) ?_
            refine lv_lconst (v := 0) hx hb dX2_quotient_209 (by decide) ?_
            refine lv_lconst (v := 1) hx hb dX2_quotient_210 (by decide) ?_
            refine zVv zm_X2_65 hF hB (c_X1_become l D ka kb (na fp) (N5 fp) ((N j).2.2.2.2) (0 : Int64) (0 : Int64) (0 : Int64) (1 : Int64) ) [1 + fp] (zsel_num rfl (by omega)) (va_nd_1 _) [na fp] (fun _ => rfl) rfl (1 + fp) 1 rfl (nP_atn rfl (by omega)) rfl ⟨Nat.le_of_ble_eq_true rfl, Nat.le_of_ble_eq_true rfl⟩ rfl hl.1 (Nat.le_of_ble_eq_true rfl) ⟨Nat.le_refl _, Nat.le_refl _⟩ dX2_quotient_211 ?_
            clear hB
            try clear locs
            try clear H
            intro u13 H locs hp hB
            replace hB : zB D A s ([(g, .inr (2, [.int (bI false), .ref (na tp), .ref (na fp), .ref (na ip)]))] ++ nP na (upN N5 fp (((N j).2.2.2.2), (0 : Int64), (0 : Int64), (0 : Int64), (1 : Int64)))) H locs := zB_num (X := (((N j).2.2.2.2), (0 : Int64), (0 : Int64), (0 : Int64), (1 : Int64))) hB rfl (by omega)
            obtain ⟨N6, hN6⟩ : ∃ M, M = (upN N5 fp (((N j).2.2.2.2), (0 : Int64), (0 : Int64), (0 : Int64), (1 : Int64))) := ⟨_, rfl⟩
            rw [← hN6] at hB
            have k6 : ∀ k9, k9 ≠ tp → k9 ≠ fp → k9 ≠ ip → N6 k9 = N k9 := fun k9 h1 h2 h3 => by rw [hN6, upN_ne h2]; exact k5 k9 h1 h2 h3
            have v6i : N6 ip = (rc4 (N j)) := by rw [hN6, upN_ne (Ne.symm hr6)]; exact v5i
            have v6f : N6 fp = (rcD (N j)) := by rw [hN6, upN_eq] <;> rfl
            refine lv_aload_n hx hb dX2_quotient_214 rfl (lv_at hl 1 rfl) ?_
            refine lv_aload_n hx hb dX2_quotient_215 rfl (lv_at hl 1 rfl) ?_
            refine zget zf_X2_21 hF hB 0 rfl rfl dX2_quotient_216 ?_
            refine lv_aload_n hx hb dX2_quotient_219 rfl (lv_at hl 1 rfl) ?_
            refine zget zf_X2_18 hF hB 0 rfl rfl dX2_quotient_220 ?_
            refine lv_aload_n hx hb dX2_quotient_223 rfl (lv_at hl 1 rfl) ?_
            refine zget zf_X2_21 hF hB 0 rfl rfl dX2_quotient_224 ?_
            refine zVi zm_X2_69 hF hB (c_X2_product l D ka kb g na false tp fp ip N6 ip ip fp (hr3) (hr3) (hr2) (by rw [v6i]; exact lowN_d d11) (by rw [v6f]; exact d1)) ([0] ++ npr 1) (zsel_pool rfl rfl) (va_nd_pool rfl rfl) ([g] ++ nA na) (fun _ => zad_pool rfl) (zad_pool rfl) 0 2 rfl rfl rfl ⟨Nat.le_of_ble_eq_true rfl, Nat.le_of_ble_eq_true rfl⟩ rfl hl.1 (Nat.le_of_ble_eq_true rfl) ⟨Nat.le_refl _, Nat.le_refl _⟩ dX2_quotient_227 ?_
            clear hB
            try clear locs
            try clear H
            intro r14 u14 H locs hp hB
            obtain rfl : r14 = bI (!(prodO (N6 ip) (N6 fp))) := hp
            replace hB : zB D A s ([(g, .inr (2, [.int (bI (prodO (N6 ip) (N6 fp))), .ref (na tp), .ref (na fp), .ref (na ip)]))] ++ nP na (if prodO (N6 ip) (N6 fp) = true then N6 else upN N6 ip (prodV (N6 ip) (N6 fp)))) H locs := zB_pool hB rfl rfl rfl rfl
            obtain ⟨N7, hN7⟩ : ∃ M, M = (if prodO (N6 ip) (N6 fp) = true then N6 else upN N6 ip (prodV (N6 ip) (N6 fp))) := ⟨_, rfl⟩
            rw [← hN7] at hB
            refine lv_if_ne (tgt := 235) hx hb dX2_quotient_230 (by decide) (fun h230 => ?_) (fun h230 => ?_)
            · skip
              have h5o : rc5o (N j) = false := by have e8 := bI_ne0 h230; rw [v6f, v6i] at e8; simp only [Bool.not_eq_true', Bool.not_eq_false'] at e8; exact e8
              have hp7 : prodO (N6 ip) (N6 fp) = false := by rw [v6f, v6i]; exact h5o
              rw [if_neg (by rw [hp7]; decide)] at hN7
              have k7 : ∀ k9, k9 ≠ tp → k9 ≠ fp → k9 ≠ ip → N7 k9 = N k9 := fun k9 h1 h2 h3 => by rw [hN7, upN_ne h3]; exact k6 k9 h1 h2 h3
              have v7i : N7 ip = (rc5 (N j)) := by rw [hN7, upN_eq, v6f, v6i] <;> rfl
              have hT2 := Bool.or_eq_false_iff.mp hTo
              have hRo : recO (N j) = false := by rw [recO, hMo, hNo, hT2.1, hT2.2, h4o, h5o] <;> rfl
              have hT0 : 0 < (rcT (N j)).toInt := rcT_pos hMo hNo hT2.1 hz
              replace hB : zB D A s ([(g, .inr (2, [.int (bI false), .ref (na tp), .ref (na fp), .ref (na ip)]))] ++ nP na N7) H locs := by rw [hp7] at hB; exact hB
              refine lv_aload_n hx hb dX2_quotient_235 rfl (lv_at hl 1 rfl) ?_
              refine zget zf_X2_21 hF hB 0 rfl rfl dX2_quotient_236 ?_
              refine lv_lload hx hb dX2_quotient_239 (lv_at hl 0 rfl) ?_
              refine zputN4 zp_X2_32 hF hB ip (by omega) dX2_quotient_241 ?_
              clear hB
              try clear locs
              try clear H
              intro H locs hB
              replace hB : zB D A s ([(g, .inr (2, [.int (bI false), .ref (na tp), .ref (na fp), .ref (na ip)]))] ++ nP na (upN N7 ip ((N7 ip).1, (N7 ip).2.1, (N7 ip).2.2.1, (N7 ip).2.2.2.1, ((((rcN (N j)).1) * ((rcN (N j)).1)) - (thV ((rcN (N j)).2.1) ((rcN (N j)).2.1)))))) H locs := hB
              obtain ⟨N8, hN8⟩ : ∃ M, M = (upN N7 ip ((N7 ip).1, (N7 ip).2.1, (N7 ip).2.2.1, (N7 ip).2.2.2.1, ((((rcN (N j)).1) * ((rcN (N j)).1)) - (thV ((rcN (N j)).2.1) ((rcN (N j)).2.1))))) := ⟨_, rfl⟩
              rw [← hN8] at hB
              have v8i : N8 ip = ((rc5 (N j)).1, (rc5 (N j)).2.1, (rc5 (N j)).2.2.1, (rc5 (N j)).2.2.2.1, rcT (N j)) := by rw [hN8, upN_eq, v7i] <;> rfl
              have k8 : ∀ k9, k9 ≠ tp → k9 ≠ fp → k9 ≠ ip → N8 k9 = N k9 := fun k9 h1 h2 h3 => by rw [hN8, upN_ne h3]; exact k7 k9 h1 h2 h3
              refine lv_aload_n hx hb dX2_quotient_244 rfl (lv_at hl 1 rfl) ?_
              refine zget zf_X2_21 hF hB 0 rfl rfl dX2_quotient_245 ?_
              refine zVv zm_X2_73 hF hB (c_X1_shorten l D ka kb (na ip) (N8 ip) (by rw [v8i]; exact hT0)) [1 + ip] (zsel_num rfl (by omega)) (va_nd_1 _) [na ip] (fun _ => rfl) rfl (1 + ip) 1 rfl (nP_atn rfl (by omega)) rfl ⟨Nat.le_of_ble_eq_true rfl, Nat.le_of_ble_eq_true rfl⟩ rfl hl.1 (Nat.le_of_ble_eq_true rfl) ⟨Nat.le_refl _, Nat.le_refl _⟩ dX2_quotient_248 ?_
              clear hB
              try clear locs
              try clear H
              intro u15 H locs hp hB
              replace hB : zB D A s ([(g, .inr (2, [.int (bI false), .ref (na tp), .ref (na fp), .ref (na ip)]))] ++ nP na (upN N8 ip (lowN (N8 ip).1 (N8 ip).2.1 (N8 ip).2.2.1 (N8 ip).2.2.2.1 (N8 ip).2.2.2.2))) H locs := zB_num (X := (lowN (N8 ip).1 (N8 ip).2.1 (N8 ip).2.2.1 (N8 ip).2.2.2.1 (N8 ip).2.2.2.2)) hB rfl (by omega)
              obtain ⟨Na, hNa⟩ : ∃ M, M = (upN N8 ip (lowN (N8 ip).1 (N8 ip).2.1 (N8 ip).2.2.1 (N8 ip).2.2.2.1 (N8 ip).2.2.2.2)) := ⟨_, rfl⟩
              rw [← hNa] at hB
              have kx : ∀ k9, k9 ≠ tp → k9 ≠ fp → k9 ≠ ip → Na k9 = N k9 := fun k9 h1 h2 h3 => by rw [hNa, upN_ne h3]; exact k8 k9 h1 h2 h3
              have vai : Na ip = recV (N j) := by rw [hNa, upN_eq, v8i] <;> rfl
              refine lv_aload_n hx hb dX2_quotient_251 rfl (lv_at hl 1 rfl) ?_
              refine lv_aload_n hx hb dX2_quotient_252 rfl (lv_at hl 2 rfl) ?_
              refine lv_aload_n hx hb dX2_quotient_253 rfl (lv_at hl 1 rfl) ?_
              refine zget zf_X2_21 hF hB 0 rfl rfl dX2_quotient_254 ?_
              refine lv_aload_n hx hb dX2_quotient_257 rfl (lv_at hl 4 rfl) ?_
              refine zVi zm_X2_69 hF hB (c_X2_product l D ka kb g na false tp fp ip Na t i ip (ht) (hi) (hr3) (by rw [kx i hi1 hi2 hi3]; exact hdi) (by rw [vai]; exact lowN_d hT0)) ([0] ++ npr 1) (zsel_pool rfl rfl) (va_nd_pool rfl rfl) ([g] ++ nA na) (fun _ => zad_pool rfl) (zad_pool rfl) 0 2 rfl rfl rfl ⟨Nat.le_of_ble_eq_true rfl, Nat.le_of_ble_eq_true rfl⟩ rfl hl.1 (Nat.le_of_ble_eq_true rfl) ⟨Nat.le_refl _, Nat.le_refl _⟩ dX2_quotient_258 ?_
              clear hB
              try clear locs
              try clear H
              intro r16 u16 H locs hp hB
              obtain rfl : r16 = bI (!(prodO (Na i) (Na ip))) := hp
              replace hB : zB D A s ([(g, .inr (2, [.int (bI (prodO (Na i) (Na ip))), .ref (na tp), .ref (na fp), .ref (na ip)]))] ++ nP na (if prodO (Na i) (Na ip) = true then Na else upN Na t (prodV (Na i) (Na ip)))) H locs := zB_pool hB rfl rfl rfl rfl
              have hpa : prodO (Na i) (Na ip) = quoO (N i) (N j) := by rw [kx i hi1 hi2 hi3, vai, quoO, hRo, Bool.false_or]
              have hva : prodV (Na i) (Na ip) = quoV (N i) (N j) := by rw [kx i hi1 hi2 hi3, vai, quoV]
              exact zreti hF hB (if prodO (Na i) (Na ip) = true then Na else upN Na t (prodV (Na i) (Na ip)), prodO (Na i) (Na ip)) (⟨by rw [hpa], fun k9 h1 h2 h3 h4 => by
                show (if prodO (Na i) (Na ip) = true then Na else upN Na t (prodV (Na i) (Na ip))) k9 = N k9
                split
                · exact kx k9 h1 h2 h3
                · rw [upN_ne h4]; exact kx k9 h1 h2 h3, by
                show (if prodO (Na i) (Na ip) = true then Na else upN Na t (prodV (Na i) (Na ip))) t = _
                rw [hpa, hva]
                by_cases hq : quoO (N i) (N j) = true
                · rw [if_pos hq, if_pos hq]; exact kx t ht1 ht2 ht3
                · rw [if_neg hq, if_neg hq, upN_eq]⟩) (rfl) (zbI_n _) dX2_quotient_261 hQ
            · skip
              have h5o : rc5o (N j) = true := by have e8 := bI_eq0 h230; rw [v6f, v6i] at e8; simp only [Bool.not_eq_true', Bool.not_eq_false'] at e8; exact e8
              have hp7 : prodO (N6 ip) (N6 fp) = true := by rw [v6f, v6i]; exact h5o
              rw [if_pos hp7] at hN7
              have k7 : ∀ k9, k9 ≠ tp → k9 ≠ fp → k9 ≠ ip → N7 k9 = N k9 := fun k9 h1 h2 h3 => by rw [hN7]; exact k6 k9 h1 h2 h3
              refine lv_iconst (v := 0) hx hb dX2_quotient_233 (by decide) ?_
              have hRO : recO (N j) = true := by rw [recO, h5o, Bool.or_true]
              have hq9 : quoO (N i) (N j) = true := by rw [quoO, hRO]; rfl
              exact zreti hF hB (N7, prodO (N6 ip) (N6 fp)) (⟨by rw [hq9] <;> rfl, fun k9 h1 h2 h3 _ => k7 k9 h1 h2 h3, by rw [if_pos hq9]; exact k7 t ht1 ht2 ht3⟩) (rfl) (rfl) dX2_quotient_234 hQ
          · skip
            have h4o : rc4o (N j) = true := by have e8 := bI_eq0 h194; rw [v4f, v4t] at e8; simp only [Bool.not_eq_true', Bool.not_eq_false'] at e8; exact e8
            have hp5 : prodO (N4 tp) (N4 fp) = true := by rw [v4f, v4t]; exact h4o
            rw [if_pos hp5] at hN5
            have k5 : ∀ k9, k9 ≠ tp → k9 ≠ fp → k9 ≠ ip → N5 k9 = N k9 := fun k9 h1 h2 h3 => by rw [hN5]; exact k4 k9 h1 h2 h3
            refine lv_iconst (v := 0) hx hb dX2_quotient_197 (by decide) ?_
            have hRO : recO (N j) = true := by rw [recO, h4o, Bool.or_true, Bool.true_or]
            have hq9 : quoO (N i) (N j) = true := by rw [quoO, hRO]; rfl
            exact zreti hF hB (N5, prodO (N4 tp) (N4 fp)) (⟨by rw [hq9] <;> rfl, fun k9 h1 h2 h3 _ => k5 k9 h1 h2 h3, by rw [if_pos hq9]; exact k5 t ht1 ht2 ht3⟩) (rfl) (rfl) dX2_quotient_198 hQ
      · skip
        have hNo : rcNo (N j) = true := by have e8 := bI_eq0 h95; rw [v2f, v2t] at e8; simp only [Bool.not_eq_true', Bool.not_eq_false'] at e8; exact e8
        have hp3 : prodO (N2 fp) (N2 tp) = true := by rw [v2f, v2t]; exact hNo
        rw [if_pos hp3] at hN3
        have k3 : ∀ k9, k9 ≠ tp → k9 ≠ fp → k9 ≠ ip → N3 k9 = N k9 := fun k9 h1 h2 h3 => by rw [hN3]; exact k2 k9 h1 h2 h3
        refine lv_iconst (v := 0) hx hb dX2_quotient_98 (by decide) ?_
        have hq9 : quoO (N i) (N j) = true := by rw [quoO, recO, hMo, hNo]; rfl
        exact zreti hF hB (N3, prodO (N2 fp) (N2 tp)) (⟨by rw [hq9] <;> rfl, fun k9 h1 h2 h3 _ => k3 k9 h1 h2 h3, by rw [if_pos hq9]; exact k3 t ht1 ht2 ht3⟩) (rfl) (rfl) dX2_quotient_99 hQ
  · skip
    exact absurd rfl h4

