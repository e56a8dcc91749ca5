set_option maxHeartbeats 4000000 in
set_option maxRecDepth 100000 in
theorem c_X8_reciprocal (l : Launch) (D : va_G) (ka : Nat → ClassId) (kb : Nat → Nat) (q : Nat) (ad : Nat → Nat) (z : mZ) (nu : Nat → Int64) (t : Nat) (i : Nat) (ht : t < 40) (hi : i < 40) (hiL : i ∉ [30, 31, 32, 33, 34, 35, 36, t]) (hz0 : zeroN (getN nu i) = false) : zV l D ka kb yX8_reciprocal cX8_reciprocal 13 3 112 [.ref q, .int (nI t), .int (nI i)] ([(q, .inr (8, mO ad false z)), ((ad 3), .inl (ka 1, 200, .inr (.inl nu)))]) (fun (nu2 : Nat → Int64) => keepN [30, 31, 32, 33, 34, 35, 36, t] nu nu2 ∧ (recO (getN nu i) = false → getN nu2 t = recV (getN nu i))) (fun (nu2 : Nat → Int64) => [(q, .inr (8, mO ad (recO (getN nu i)) z)), ((ad 3), .inl (ka 1, 200, .inr (.inl nu2)))]) := by
  refine zV.mk RX8 (by decide +kernel) rfl (Nat.le_of_ble_eq_true rfl) ?_
  intro p e s m below meth c A ls args Q hQ hx hb hF hB hl
  replace hl : lv_has ls 13 [(0, .ref q), (1, .int (nI t)), (2, .int (nI i))] := hl
  refine lv_aload_n hx hb dX8_reciprocal_0 rfl (lv_at hl 0 rfl) ?_
  refine lv_iload_n hx hb dX8_reciprocal_1 rfl (lv_at hl 2 rfl) ?_
  refine lv_iconst (v := 4) hx hb dX8_reciprocal_2 (by decide) ?_
  refine zVl zm_X8_120 hF hB (c_X8_at l D ka kb q ad false z nu i 4 (by first | assumption | omega | decide) (by first | assumption | omega | decide)) [0, 1] rfl (by decide) [q, (ad 3)] (fun _ => rfl) rfl 0 8 rfl rfl rfl ⟨Nat.le_of_ble_eq_true rfl, Nat.le_of_ble_eq_true rfl⟩ rfl hl.1 (Nat.le_of_ble_eq_true rfl) ⟨Nat.le_refl _, Nat.le_refl _⟩ dX8_reciprocal_3 ?_
  clear hB
  try clear locs
  try clear H
  intro r1 u1 H locs hp hB
  obtain rfl : r1 = nu (5 * i + 4) := hp
  replace hB : zB D A s ([(q, .inr (8, mO ad false z)), ((ad 3), .inl (ka 1, 200, .inr (.inl nu)))]) H locs := hB
  refine lv_lstore_n (lv' := [(3, .long (nu (5 * i + 4))), (0, .ref q), (1, .int (nI t)), (2, .int (nI i))]) hx hb dX8_reciprocal_6 rfl hl (by decide) rfl ?_
  clear hl
  clear ls
  intro ls hl
  refine lv_aload_n hx hb dX8_reciprocal_7 rfl (lv_at hl 1 rfl) ?_
  refine lv_bipush (v := 30) hx hb dX8_reciprocal_8 (by decide) ?_
  refine lv_aload_n hx hb dX8_reciprocal_10 rfl (lv_at hl 1 rfl) ?_
  refine lv_iload_n hx hb dX8_reciprocal_11 rfl (lv_at hl 3 rfl) ?_
  refine lv_iconst (v := 0) hx hb dX8_reciprocal_12 (by decide) ?_
  refine zVl zm_X8_120 hF hB (c_X8_at l D ka kb q ad false z nu i 0 (by first | assumption | omega | decide) (by first | assumption | omega | decide)) [0, 1] rfl (by decide) [q, (ad 3)] (fun _ => rfl) rfl 0 8 rfl rfl rfl ⟨Nat.le_of_ble_eq_true rfl, Nat.le_of_ble_eq_true rfl⟩ rfl hl.1 (Nat.le_of_ble_eq_true rfl) ⟨Nat.le_refl _, Nat.le_refl _⟩ dX8_reciprocal_13 ?_
  clear hB
  try clear locs
  try clear H
  intro r2 u2 H locs hp hB
  obtain rfl : r2 = nu (5 * i + 0) := hp
  replace hB : zB D A s ([(q, .inr (8, mO ad false z)), ((ad 3), .inl (ka 1, 200, .inr (.inl nu)))]) H locs := hB
  refine lv_aload_n hx hb dX8_reciprocal_16 rfl (lv_at hl 1 rfl) ?_
  refine lv_iload_n hx hb dX8_reciprocal_17 rfl (lv_at hl 3 rfl) ?_
  refine lv_iconst (v := 1) hx hb dX8_reciprocal_18 (by decide) ?_
  refine zVl zm_X8_120 hF hB (c_X8_at l D ka kb q ad false z nu i 1 (by first | assumption | omega | decide) (by first | assumption | omega | decide)) [0, 1] rfl (by decide) [q, (ad 3)] (fun _ => rfl) rfl 0 8 rfl rfl rfl ⟨Nat.le_of_ble_eq_true rfl, Nat.le_of_ble_eq_true rfl⟩ rfl hl.1 (Nat.le_of_ble_eq_true rfl) ⟨Nat.le_refl _, Nat.le_refl _⟩ dX8_reciprocal_19 ?_
  clear hB
  try clear locs
  try clear H
  intro r3 u3 H locs hp hB
  obtain rfl : r3 = nu (5 * i + 1) := hp
  replace hB : zB D A s ([(q, .inr (8, mO ad false z)), ((ad 3), .inl (ka 1, 200, .inr (.inl nu)))]) H locs := hB
  refine lv_aload_n hx hb dX8_reciprocal_22 rfl (lv_at hl 1 rfl) ?_
  refine lv_iload_n hx hb dX8_reciprocal_23 rfl (lv_at hl 3 rfl) ?_
  refine lv_iconst (v := 2) hx hb dX8_reciprocal_24 (by decide) ?_
  refine zVl zm_X8_120 hF hB (c_X8_at l D ka kb q ad false z nu i 2 (by first | assumption | omega | decide) (by first | assumption | omega | decide)) [0, 1] rfl (by decide) [q, (ad 3)] (fun _ => rfl) rfl 0 8 rfl rfl rfl ⟨Nat.le_of_ble_eq_true rfl, Nat.le_of_ble_eq_true rfl⟩ rfl hl.1 (Nat.le_of_ble_eq_true rfl) ⟨Nat.le_refl _, Nat.le_refl _⟩ dX8_reciprocal_25 ?_
  clear hB
  try clear locs
  try clear H
  intro r4 u4 H locs hp hB
  obtain rfl : r4 = nu (5 * i + 2) := hp
  replace hB : zB D A s ([(q, .inr (8, mO ad false z)), ((ad 3), .inl (ka 1, 200, .inr (.inl nu)))]) H locs := hB
  refine lv_aload_n hx hb dX8_reciprocal_28 rfl (lv_at hl 1 rfl) ?_
  refine lv_iload_n hx hb dX8_reciprocal_29 rfl (lv_at hl 3 rfl) ?_
  refine lv_iconst (v := 3) hx hb dX8_reciprocal_30 (by decide) ?_
  refine zVl zm_X8_120 hF hB (c_X8_at l D ka kb q ad false z nu i 3 (by first | assumption | omega | decide) (by first | assumption | omega | decide)) [0, 1] rfl (by decide) [q, (ad 3)] (fun _ => rfl) rfl 0 8 rfl rfl rfl ⟨Nat.le_of_ble_eq_true rfl, Nat.le_of_ble_eq_true rfl⟩ rfl hl.1 (Nat.le_of_ble_eq_true rfl) ⟨Nat.le_refl _, Nat.le_refl _⟩ dX8_reciprocal_31 ?_
  clear hB
  try clear locs
  try clear H
  intro r5 u5 H locs hp hB
  obtain rfl : r5 = nu (5 * i + 3) := hp
  replace hB : zB D A s ([(q, .inr (8, mO ad false z)), ((ad 3), .inl (ka 1, 200, .inr (.inl nu)))]) H locs := hB
  refine lv_lconst (v := 1) hx hb dX8_reciprocal_34 (by decide) ?_
  refine zVv zm_X8_134 hF hB (c_X8_lays l D ka kb q ad false z nu 30 (nu (5 * i + 0)) (nu (5 * i + 1)) (nu (5 * i + 2)) (nu (5 * i + 3)) (1 : Int64) (by decide) (by decide)) [0, 1] rfl (by decide) [q, (ad 3)] (fun _ => rfl) rfl 0 8 rfl rfl rfl ⟨Nat.le_of_ble_eq_true rfl, Nat.le_of_ble_eq_true rfl⟩ rfl hl.1 (Nat.le_of_ble_eq_true rfl) ⟨Nat.le_refl _, Nat.le_refl _⟩ dX8_reciprocal_35 ?_
  clear hB
  try clear locs
  try clear H
  intro u6 H locs hp hB
  replace hB : zB D A s ([(q, .inr (8, mO ad false z)), ((ad 3), .inl (ka 1, 200, .inr (.inl (setN nu 30 (lowN (nu (5 * i + 0)) (nu (5 * i + 1)) (nu (5 * i + 2)) (nu (5 * i + 3)) (1 : Int64))))))]) H locs := hB
  generalize hn1 : (setN nu 30 (lowN (nu (5 * i + 0)) (nu (5 * i + 1)) (nu (5 * i + 2)) (nu (5 * i + 3)) (1 : Int64))) = n1 at hB
  have K1 : keepN [30, 31, 32, 33, 34, 35, 36, t] nu n1 := by rw [← hn1]; exact keepN.rf.set (by simp) _
  have A1 : getN n1 30 = rcU (getN nu i) := by rw [← hn1, getN_same, lowN_1]; rfl
  have X1 : getN n1 i = (getN nu i) := K1.get hiL
  refine lv_aload_n hx hb dX8_reciprocal_38 rfl (lv_at hl 1 rfl) ?_
  refine lv_bipush (v := 31) hx hb dX8_reciprocal_39 (by decide) ?_
  refine lv_iload_n hx hb dX8_reciprocal_41 rfl (lv_at hl 3 rfl) ?_
  refine lv_lconst (v := 1) hx hb dX8_reciprocal_42 (by decide) ?_
  refine zVv zm_X8_144 hF hB (c_X8_mirror l D ka kb q ad false z n1 31 i (1 : Int64) (by decide) (by omega) (by decide)) [0, 1] rfl (by decide) [q, (ad 3)] (fun _ => rfl) rfl 0 8 rfl rfl rfl ⟨Nat.le_of_ble_eq_true rfl, Nat.le_of_ble_eq_true rfl⟩ rfl hl.1 (Nat.le_of_ble_eq_true rfl) ⟨Nat.le_refl _, Nat.le_refl _⟩ dX8_reciprocal_43 ?_
  clear hB
  try clear locs
  try clear H
  intro u7 H locs hp hB
  replace hB : zB D A s ([(q, .inr (8, mO ad (false || (mOv 0 (n1 (5 * i + 2)) || mOv 0 (n1 (5 * i + 3)))) z)), ((ad 3), .inl (ka 1, 200, .inr (.inl (if (false || (mOv 0 (n1 (5 * i + 2)) || mOv 0 (n1 (5 * i + 3)))) = true then n1 else setN n1 31 (lowN (n1 (5 * i)) (n1 (5 * i + 1)) (0 - n1 (5 * i + 2)) (0 - n1 (5 * i + 3)) (1 : Int64))))))]) H locs := hB
  have ho : (false || (mOv 0 (n1 (5 * i + 2)) || mOv 0 (n1 (5 * i + 3)))) = rcMo (getN nu i) := by
    rw [← X1]; rfl
  rw [ho] at hB
  replace hB : zB D A s ([(q, .inr (8, mO ad (rcMo (getN nu i)) z)), ((ad 3), .inl (ka 1, 200, .inr (.inl (if (rcMo (getN nu i)) = true then n1 else setN n1 31 (lowN (n1 (5 * i)) (n1 (5 * i + 1)) (0 - n1 (5 * i + 2)) (0 - n1 (5 * i + 3)) (1 : Int64))))))]) H locs := hB
  refine lv_aload_n hx hb dX8_reciprocal_46 rfl (lv_at hl 1 rfl) ?_
  refine zget zf_X8_105 hF hB 0 rfl rfl dX8_reciprocal_47 ?_
  refine lv_if_ne (tgt := 63) hx hb dX8_reciprocal_50 (by decide) (fun h50 => ?_) (fun h50 => ?_)
  · skip
    have hT : rcMo (getN nu i) = true := bI_ne0 h50
    rw [hT, if_pos rfl] at hB
    replace hB : zB D A s ([(q, .inr (8, mO ad true z)), ((ad 3), .inl (ka 1, 200, .inr (.inl n1)))]) H locs := hB
    refine lv_aload_n hx hb dX8_reciprocal_63 rfl (lv_at hl 1 rfl) ?_
    refine zget zf_X8_105 hF hB 0 rfl rfl dX8_reciprocal_64 ?_
    refine lv_if_eq (tgt := 71) hx hb dX8_reciprocal_67 (by decide) (fun h67 => ?_) (fun h67 => ?_)
    · skip
      exact absurd h67 (by decide)
    · skip
      have hR : recO (getN nu i) = true := by unfold recO; first | (simp [hT]; done) | (rw [Bool.or_eq_true] at hT; rcases hT with hT | hT <;> simp [hT])
      exact zretv hF hB n1 (⟨K1, fun e9 => absurd (hR.symm.trans e9) (by decide)⟩) (by rw [hR]) dX8_reciprocal_70 hQ
  · skip
    have hTn2 : rcMo (getN nu i) = false := bI_eq0 h50
    rw [hTn2, if_neg Bool.false_ne_true] at hB
    replace hB : zB D A s ([(q, .inr (8, mO ad false z)), ((ad 3), .inl (ka 1, 200, .inr (.inl (setN n1 31 (lowN (n1 (5 * i)) (n1 (5 * i + 1)) (0 - n1 (5 * i + 2)) (0 - n1 (5 * i + 3)) (1 : Int64))))))]) H locs := hB
    generalize hn2 : (setN n1 31 (lowN (n1 (5 * i)) (n1 (5 * i + 1)) (0 - n1 (5 * i + 2)) (0 - n1 (5 * i + 3)) (1 : Int64))) = n2 at hB
    have K2 : keepN [30, 31, 32, 33, 34, 35, 36, t] nu n2 := by rw [← hn2]; exact K1.set (by simp) _
    have A2 : getN n2 30 = rcU (getN nu i) := by rw [← hn2, getN_ne _ _ _ _ (by decide)]; exact A1
    have B2 : getN n2 31 = rcM (getN nu i) := by rw [← hn2, getN_same, lowN_1, ← X1]; rfl
    have X2 : getN n2 i = (getN nu i) := K2.get hiL
    refine lv_aload_n hx hb dX8_reciprocal_53 rfl (lv_at hl 1 rfl) ?_
    refine lv_bipush (v := 32) hx hb dX8_reciprocal_54 (by decide) ?_
    refine lv_bipush (v := 30) hx hb dX8_reciprocal_56 (by decide) ?_
    refine lv_bipush (v := 31) hx hb dX8_reciprocal_58 (by decide) ?_
    refine zVv zm_X8_148 hF hB (c_X8_product l D ka kb q ad false z n2 32 30 31 (by decide) (by decide) (by decide) (by rw [show n2 (5 * 30 + 4) = 1 from congrArg (fun v : N5 => v.2.2.2.2) A2]; decide) (by rw [show n2 (5 * 31 + 4) = 1 from congrArg (fun v : N5 => v.2.2.2.2) B2]; decide)) [0, 1] rfl (by decide) [q, (ad 3)] (fun _ => rfl) rfl 0 8 rfl rfl rfl ⟨Nat.le_of_ble_eq_true rfl, Nat.le_of_ble_eq_true rfl⟩ rfl hl.1 (Nat.le_of_ble_eq_true rfl) ⟨Nat.le_refl _, Nat.le_refl _⟩ dX8_reciprocal_60 ?_
    clear hB
    try clear locs
    try clear H
    intro u8 H locs hp hB
    replace hB : zB D A s ([(q, .inr (8, mO ad (false || prodO (getN n2 30) (getN n2 31)) z)), ((ad 3), .inl (ka 1, 200, .inr (.inl (if (false || prodO (getN n2 30) (getN n2 31)) = true then n2 else setN n2 32 (prodV (getN n2 30) (getN n2 31))))))]) H locs := hB
    have ho : (false || prodO (getN n2 30) (getN n2 31)) = rcNo (getN nu i) := by rw [A2, B2]; rfl
    rw [ho, A2, B2] at hB
    replace hB : zB D A s ([(q, .inr (8, mO ad (rcNo (getN nu i)) z)), ((ad 3), .inl (ka 1, 200, .inr (.inl (if (rcNo (getN nu i)) = true then n2 else setN n2 32 (prodV (rcU (getN nu i)) (rcM (getN nu i)))))))]) H locs := hB
    refine lv_aload_n hx hb dX8_reciprocal_63 rfl (lv_at hl 1 rfl) ?_
    refine zget zf_X8_105 hF hB 0 rfl rfl dX8_reciprocal_64 ?_
    refine lv_if_eq (tgt := 71) hx hb dX8_reciprocal_67 (by decide) (fun h67 => ?_) (fun h67 => ?_)
    · skip
      have hTn3 : rcNo (getN nu i) = false := bI_eq0 h67
      rw [hTn3, if_neg Bool.false_ne_true] at hB
      replace hB : zB D A s ([(q, .inr (8, mO ad false z)), ((ad 3), .inl (ka 1, 200, .inr (.inl (setN n2 32 (prodV (rcU (getN nu i)) (rcM (getN nu i)))))))]) H locs := hB
      generalize hn3 : (setN n2 32 (prodV (rcU (getN nu i)) (rcM (getN nu i)))) = n3 at hB
      have K3 : keepN [30, 31, 32, 33, 34, 35, 36, t] nu n3 := by rw [← hn3]; exact K2.set (by simp) _
      have B3 : getN n3 31 = rcM (getN nu i) := by rw [← hn3, getN_ne _ _ _ _ (by decide)]; exact B2
      have C3 : getN n3 32 = rcN (getN nu i) := by rw [← hn3, getN_same]; rfl
      have X3 : getN n3 i = (getN nu i) := K3.get hiL
      have c1 : n3 (5 * 32 + 0) = (rcN (getN nu i)).1 := congrArg (fun v : N5 => v.1) C3
      have c2 : n3 (5 * 32 + 1) = (rcN (getN nu i)).2.1 := congrArg (fun v : N5 => v.2.1) C3
      refine lv_aload_n hx hb dX8_reciprocal_71 rfl (lv_at hl 1 rfl) ?_
      refine lv_bipush (v := 32) hx hb dX8_reciprocal_72 (by decide) ?_
      refine lv_iconst (v := 0) hx hb dX8_reciprocal_74 (by decide) ?_
      refine zVl zm_X8_120 hF hB (c_X8_at l D ka kb q ad false z n3 32 0 (by first | assumption | omega | decide) (by first | assumption | omega | decide)) [0, 1] rfl (by decide) [q, (ad 3)] (fun _ => rfl) rfl 0 8 rfl rfl rfl ⟨Nat.le_of_ble_eq_true rfl, Nat.le_of_ble_eq_true rfl⟩ rfl hl.1 (Nat.le_of_ble_eq_true rfl) ⟨Nat.le_refl _, Nat.le_refl _⟩ dX8_reciprocal_75 ?_
      clear hB
      try clear locs
      try clear H
      intro r9 u9 H locs hp hB
      obtain rfl : r9 = n3 (5 * 32 + 0) := hp
      replace hB : zB D A s ([(q, .inr (8, mO ad false z)), ((ad 3), .inl (ka 1, 200, .inr (.inl n3)))]) H locs := hB
      refine ztopl (y := (rcN (getN nu i)).1) (c1) ?_
      refine lv_lstore (lv' := [(5, .long ((rcN (getN nu i)).1)), (3, .long (nu (5 * i + 4))), (0, .ref q), (1, .int (nI t)), (2, .int (nI i))]) hx hb dX8_reciprocal_78 hl (by decide) rfl ?_
      clear hl
      clear ls
      intro ls hl
      refine lv_aload_n hx hb dX8_reciprocal_80 rfl (lv_at hl 2 rfl) ?_
      refine lv_bipush (v := 32) hx hb dX8_reciprocal_81 (by decide) ?_
      refine lv_iconst (v := 1) hx hb dX8_reciprocal_83 (by decide) ?_
      refine zVl zm_X8_120 hF hB (c_X8_at l D ka kb q ad false z n3 32 1 (by first | assumption | omega | decide) (by first | assumption | omega | decide)) [0, 1] rfl (by decide) [q, (ad 3)] (fun _ => rfl) rfl 0 8 rfl rfl rfl ⟨Nat.le_of_ble_eq_true rfl, Nat.le_of_ble_eq_true rfl⟩ rfl hl.1 (Nat.le_of_ble_eq_true rfl) ⟨Nat.le_refl _, Nat.le_refl _⟩ dX8_reciprocal_84 ?_
      clear hB
      try clear locs
      try clear H
      intro r10 u10 H locs hp hB
      obtain rfl : r10 = n3 (5 * 32 + 1) := hp
      replace hB : zB D A s ([(q, .inr (8, mO ad false z)), ((ad 3), .inl (ka 1, 200, .inr (.inl n3)))]) H locs := hB
      refine ztopl (y := (rcN (getN nu i)).2.1) (c2) ?_
      refine lv_lstore (lv' := [(7, .long ((rcN (getN nu i)).2.1)), (5, .long ((rcN (getN nu i)).1)), (3, .long (nu (5 * i + 4))), (0, .ref q), (1, .int (nI t)), (2, .int (nI i))]) hx hb dX8_reciprocal_87 hl (by decide) rfl ?_
      clear hl
      clear ls
      intro ls hl
      refine lv_aload_n hx hb dX8_reciprocal_89 rfl (lv_at hl 3 rfl) ?_
      refine lv_aload_n hx hb dX8_reciprocal_90 rfl (lv_at hl 3 rfl) ?_
      refine lv_lload hx hb dX8_reciprocal_91 (lv_at hl 1 rfl) ?_
      refine lv_lload hx hb dX8_reciprocal_93 (lv_at hl 1 rfl) ?_
      refine zVl zm_X8_124 hF hB (c_X8_times l D ka kb q ad false z ((rcN (getN nu i)).1) ((rcN (getN nu i)).1) ) [0] rfl (by decide) [q] (fun _ => rfl) rfl 0 8 rfl rfl rfl ⟨Nat.le_of_ble_eq_true rfl, Nat.le_of_ble_eq_true rfl⟩ rfl hl.1 (Nat.le_of_ble_eq_true rfl) ⟨Nat.le_refl _, Nat.le_refl _⟩ dX8_reciprocal_95 ?_
      clear hB
      try clear locs
      try clear H
      intro r11 u11 H locs hp hB
      obtain rfl : r11 = ((rcN (getN nu i)).1) * ((rcN (getN nu i)).1) := hp
      replace hB : zB D A s ([(q, .inr (8, mO ad (false || tOv ((rcN (getN nu i)).1) ((rcN (getN nu i)).1)) z)), ((ad 3), .inl (ka 1, 200, .inr (.inl n3)))]) H locs := hB
      refine lv_aload_n hx hb dX8_reciprocal_98 rfl (lv_at hl 3 rfl) ?_
      refine lv_lload hx hb dX8_reciprocal_99 (lv_at hl 0 rfl) ?_
      refine lv_lload hx hb dX8_reciprocal_101 (lv_at hl 0 rfl) ?_
      refine zVl zm_X8_138 hF hB (c_X8_three l D ka kb q ad (false || tOv ((rcN (getN nu i)).1) ((rcN (getN nu i)).1)) z ((rcN (getN nu i)).2.1) ((rcN (getN nu i)).2.1) ) [0] rfl (by decide) [q] (fun _ => rfl) rfl 0 8 rfl rfl rfl ⟨Nat.le_of_ble_eq_true rfl, Nat.le_of_ble_eq_true rfl⟩ rfl hl.1 (Nat.le_of_ble_eq_true rfl) ⟨Nat.le_refl _, Nat.le_refl _⟩ dX8_reciprocal_103 ?_
      clear hB
      try clear locs
      try clear H
      intro r12 u12 H locs hp hB
      obtain rfl : r12 = thV ((rcN (getN nu i)).2.1) ((rcN (getN nu i)).2.1) := hp
      replace hB : zB D A s ([(q, .inr (8, mO ad ((false || tOv ((rcN (getN nu i)).1) ((rcN (getN nu i)).1)) || thO ((rcN (getN nu i)).2.1) ((rcN (getN nu i)).2.1)) z)), ((ad 3), .inl (ka 1, 200, .inr (.inl n3)))]) H locs := hB
      refine zVl zm_X8_109 hF hB (c_X8_less l D ka kb q ad ((false || tOv ((rcN (getN nu i)).1) ((rcN (getN nu i)).1)) || thO ((rcN (getN nu i)).2.1) ((rcN (getN nu i)).2.1)) z (((rcN (getN nu i)).1) * ((rcN (getN nu i)).1)) (thV ((rcN (getN nu i)).2.1) ((rcN (getN nu i)).2.1)) ) [0] rfl (by decide) [q] (fun _ => rfl) rfl 0 8 rfl rfl rfl ⟨Nat.le_of_ble_eq_true rfl, Nat.le_of_ble_eq_true rfl⟩ rfl hl.1 (Nat.le_of_ble_eq_true rfl) ⟨Nat.le_refl _, Nat.le_refl _⟩ dX8_reciprocal_106 ?_
      clear hB
      try clear locs
      try clear H
      intro r13 u13 H locs hp hB
      obtain rfl : r13 = (((rcN (getN nu i)).1) * ((rcN (getN nu i)).1)) - (thV ((rcN (getN nu i)).2.1) ((rcN (getN nu i)).2.1)) := hp
      replace hB : zB D A s ([(q, .inr (8, mO ad (((false || tOv ((rcN (getN nu i)).1) ((rcN (getN nu i)).1)) || thO ((rcN (getN nu i)).2.1) ((rcN (getN nu i)).2.1)) || mOv (((rcN (getN nu i)).1) * ((rcN (getN nu i)).1)) (thV ((rcN (getN nu i)).2.1) ((rcN (getN nu i)).2.1))) z)), ((ad 3), .inl (ka 1, 200, .inr (.inl n3)))]) H locs := hB
      refine lv_lstore (lv' := [(9, .long ((((rcN (getN nu i)).1) * ((rcN (getN nu i)).1)) - (thV ((rcN (getN nu i)).2.1) ((rcN (getN nu i)).2.1)))), (7, .long ((rcN (getN nu i)).2.1)), (5, .long ((rcN (getN nu i)).1)), (3, .long (nu (5 * i + 4))), (0, .ref q), (1, .int (nI t)), (2, .int (nI i))]) hx hb dX8_reciprocal_109 hl (by decide) rfl ?_
      clear hl
      clear ls
      intro ls hl
      refine lv_aload_n hx hb dX8_reciprocal_111 rfl (lv_at hl 4 rfl) ?_
      refine lv_lload hx hb dX8_reciprocal_112 (lv_at hl 1 rfl) ?_
      refine zVl zm_X8_141 hF hB (c_X8_turned l D ka kb q ad (((false || tOv ((rcN (getN nu i)).1) ((rcN (getN nu i)).1)) || thO ((rcN (getN nu i)).2.1) ((rcN (getN nu i)).2.1)) || mOv (((rcN (getN nu i)).1) * ((rcN (getN nu i)).1)) (thV ((rcN (getN nu i)).2.1) ((rcN (getN nu i)).2.1))) z ((rcN (getN nu i)).2.1) ) [0] rfl (by decide) [q] (fun _ => rfl) rfl 0 8 rfl rfl rfl ⟨Nat.le_of_ble_eq_true rfl, Nat.le_of_ble_eq_true rfl⟩ rfl hl.1 (Nat.le_of_ble_eq_true rfl) ⟨Nat.le_refl _, Nat.le_refl _⟩ dX8_reciprocal_114 ?_
      clear hB
      try clear locs
      try clear H
      intro r14 u14 H locs hp hB
      obtain rfl : r14 = 0 - ((rcN (getN nu i)).2.1) := hp
      replace hB : zB D A s ([(q, .inr (8, mO ad ((((false || tOv ((rcN (getN nu i)).1) ((rcN (getN nu i)).1)) || thO ((rcN (getN nu i)).2.1) ((rcN (getN nu i)).2.1)) || mOv (((rcN (getN nu i)).1) * ((rcN (getN nu i)).1)) (thV ((rcN (getN nu i)).2.1) ((rcN (getN nu i)).2.1))) || mOv 0 ((rcN (getN nu i)).2.1)) z)), ((ad 3), .inl (ka 1, 200, .inr (.inl n3)))]) H locs := hB
      have ho : ((((false || tOv ((rcN (getN nu i)).1) ((rcN (getN nu i)).1)) || thO ((rcN (getN nu i)).2.1) ((rcN (getN nu i)).2.1)) || mOv (((rcN (getN nu i)).1) * ((rcN (getN nu i)).1)) (thV ((rcN (getN nu i)).2.1) ((rcN (getN nu i)).2.1))) || mOv 0 ((rcN (getN nu i)).2.1)) = (rcTo (getN nu i) || mOv 0 (rcN (getN nu i)).2.1) := by simp [rcTo, Bool.or_assoc]
      rw [ho] at hB
      replace hB : zB D A s ([(q, .inr (8, mO ad (rcTo (getN nu i) || mOv 0 (rcN (getN nu i)).2.1) z)), ((ad 3), .inl (ka 1, 200, .inr (.inl n3)))]) H locs := hB
      refine lv_lstore (lv' := [(11, .long (0 - ((rcN (getN nu i)).2.1))), (9, .long ((((rcN (getN nu i)).1) * ((rcN (getN nu i)).1)) - (thV ((rcN (getN nu i)).2.1) ((rcN (getN nu i)).2.1)))), (7, .long ((rcN (getN nu i)).2.1)), (5, .long ((rcN (getN nu i)).1)), (3, .long (nu (5 * i + 4))), (0, .ref q), (1, .int (nI t)), (2, .int (nI i))]) hx hb dX8_reciprocal_117 hl (by decide) rfl ?_
      clear hl
      clear ls
      intro ls hl
      refine lv_aload_n hx hb dX8_reciprocal_119 rfl (lv_at hl 5 rfl) ?_
      refine zget zf_X8_105 hF hB 0 rfl rfl dX8_reciprocal_120 ?_
      refine lv_if_eq (tgt := 127) hx hb dX8_reciprocal_123 (by decide) (fun h123 => ?_) (fun h123 => ?_)
      · skip
        have hT4 : (rcTo (getN nu i) || mOv 0 (rcN (getN nu i)).2.1) = false := bI_eq0 h123
        rw [hT4] at hB
        replace hB : zB D A s ([(q, .inr (8, mO ad false z)), ((ad 3), .inl (ka 1, 200, .inr (.inl n3)))]) H locs := hB
        rw [Bool.or_eq_false_iff] at hT4
        have hTp : 0 < (rcT (getN nu i)).toInt := rcT_pos hTn2 hTn3 hT4.1 hz0
        refine lv_aload_n hx hb dX8_reciprocal_127 rfl (lv_at hl 5 rfl) ?_
        refine lv_bipush (v := 33) hx hb dX8_reciprocal_128 (by decide) ?_
        refine lv_lload hx hb dX8_reciprocal_130 (lv_at hl 3 rfl) ?_
        refine lv_lload hx hb dX8_reciprocal_132 (lv_at hl 0 rfl) ?_
        refine lv_lconst (v := 0) hx hb dX8_reciprocal_134 (by decide) ?_
        refine lv_lconst (v := 0) hx hb dX8_reciprocal_135 (by decide) ?_
        refine lv_lconst (v := 1) hx hb dX8_reciprocal_136 (by decide) ?_
        refine zVv zm_X8_134 hF hB (c_X8_lays l D ka kb q ad false z n3 33 ((rcN (getN nu i)).1) (0 - ((rcN (getN nu i)).2.1)) (0 : Int64) (0 : Int64) (1 : Int64) (by decide) (by decide)) [0, 1] rfl (by decide) [q, (ad 3)] (fun _ => rfl) rfl 0 8 rfl rfl rfl ⟨Nat.le_of_ble_eq_true rfl, Nat.le_of_ble_eq_true rfl⟩ rfl hl.1 (Nat.le_of_ble_eq_true rfl) ⟨Nat.le_refl _, Nat.le_refl _⟩ dX8_reciprocal_137 ?_
        clear hB
        try clear locs
        try clear H
        intro u15 H locs hp hB
        replace hB : zB D A s ([(q, .inr (8, mO ad false z)), ((ad 3), .inl (ka 1, 200, .inr (.inl (setN n3 33 (lowN ((rcN (getN nu i)).1) (0 - ((rcN (getN nu i)).2.1)) (0 : Int64) (0 : Int64) (1 : Int64))))))]) H locs := hB
        generalize hn4 : (setN n3 33 (lowN ((rcN (getN nu i)).1) (0 - ((rcN (getN nu i)).2.1)) (0 : Int64) (0 : Int64) (1 : Int64))) = n4 at hB
        have K4 : keepN [30, 31, 32, 33, 34, 35, 36, t] nu n4 := by rw [← hn4]; exact K3.set (by simp) _
        have B4 : getN n4 31 = rcM (getN nu i) := by rw [← hn4, getN_ne _ _ _ _ (by decide)]; exact B3
        have D4 : getN n4 33 = rcC (getN nu i) := by rw [← hn4, getN_same, lowN_1]; rfl
        refine lv_aload_n hx hb dX8_reciprocal_140 rfl (lv_at hl 5 rfl) ?_
        refine lv_bipush (v := 34) hx hb dX8_reciprocal_141 (by decide) ?_
        refine lv_bipush (v := 31) hx hb dX8_reciprocal_143 (by decide) ?_
        refine lv_bipush (v := 33) hx hb dX8_reciprocal_145 (by decide) ?_
        refine zVv zm_X8_148 hF hB (c_X8_product l D ka kb q ad false z n4 34 31 33 (by decide) (by decide) (by decide) (by rw [show n4 (5 * 31 + 4) = 1 from congrArg (fun v : N5 => v.2.2.2.2) B4]; decide) (by rw [show n4 (5 * 33 + 4) = 1 from congrArg (fun v : N5 => v.2.2.2.2) D4]; decide)) [0, 1] rfl (by decide) [q, (ad 3)] (fun _ => rfl) rfl 0 8 rfl rfl rfl ⟨Nat.le_of_ble_eq_true rfl, Nat.le_of_ble_eq_true rfl⟩ rfl hl.1 (Nat.le_of_ble_eq_true rfl) ⟨Nat.le_refl _, Nat.le_refl _⟩ dX8_reciprocal_147 ?_
        clear hB
        try clear locs
        try clear H
        intro u16 H locs hp hB
        replace hB : zB D A s ([(q, .inr (8, mO ad (false || prodO (getN n4 31) (getN n4 33)) z)), ((ad 3), .inl (ka 1, 200, .inr (.inl (if (false || prodO (getN n4 31) (getN n4 33)) = true then n4 else setN n4 34 (prodV (getN n4 31) (getN n4 33))))))]) H locs := hB
        have ho : (false || prodO (getN n4 31) (getN n4 33)) = rc4o (getN nu i) := by rw [B4, D4]; rfl
        rw [ho, B4, D4] at hB
        replace hB : zB D A s ([(q, .inr (8, mO ad (rc4o (getN nu i)) z)), ((ad 3), .inl (ka 1, 200, .inr (.inl (if (rc4o (getN nu i)) = true then n4 else setN n4 34 (prodV (rcM (getN nu i)) (rcC (getN nu i)))))))]) H locs := hB
        generalize hn5 : (if (rc4o (getN nu i)) = true then n4 else setN n4 34 (prodV (rcM (getN nu i)) (rcC (getN nu i)))) = n5 at hB
        have K5 : keepN [30, 31, 32, 33, 34, 35, 36, t] nu n5 := by rw [← hn5]; split; exact K4; exact K4.set (by simp) _
        have E5 : rc4o (getN nu i) = false → getN n5 34 = rc4 (getN nu i) := fun e9 => by rw [← hn5, e9, if_neg Bool.false_ne_true, getN_same]; rfl
        refine lv_aload_n hx hb dX8_reciprocal_150 rfl (lv_at hl 5 rfl) ?_
        refine lv_bipush (v := 35) hx hb dX8_reciprocal_151 (by decide) ?_
        refine lv_lload_n hx hb dX8_reciprocal_153 rfl (lv_at hl 4 rfl) ?_
        refine lv_lconst (v := 0) hx hb dX8_reciprocal_154 (by decide) ?_
        refine lv_lconst (v := 0) hx hb dX8_reciprocal_155 (by decide) ?_
        refine lv_lconst (v := 0) hx hb dX8_reciprocal_156 (by decide) ?_
        refine lv_lconst (v := 1) hx hb dX8_reciprocal_157 (by decide) ?_
        refine zVv zm_X8_134 hF hB (c_X8_lays l D ka kb q ad (rc4o (getN nu i)) z n5 35 (nu (5 * i + 4)) (0 : Int64) (0 : Int64) (0 : Int64) (1 : Int64) (by decide) (by decide)) [0, 1] rfl (by decide) [q, (ad 3)] (fun _ => rfl) rfl 0 8 rfl rfl rfl ⟨Nat.le_of_ble_eq_true rfl, Nat.le_of_ble_eq_true rfl⟩ rfl hl.1 (Nat.le_of_ble_eq_true rfl) ⟨Nat.le_refl _, Nat.le_refl _⟩ dX8_reciprocal_158 ?_
        clear hB
        try clear locs
        try clear H
        intro u17 H locs hp hB
        replace hB : zB D A s ([(q, .inr (8, mO ad (rc4o (getN nu i)) z)), ((ad 3), .inl (ka 1, 200, .inr (.inl (setN n5 35 (lowN (nu (5 * i + 4)) (0 : Int64) (0 : Int64) (0 : Int64) (1 : Int64))))))]) H locs := hB
        generalize hn6 : (setN n5 35 (lowN (nu (5 * i + 4)) (0 : Int64) (0 : Int64) (0 : Int64) (1 : Int64))) = n6 at hB
        have K6 : keepN [30, 31, 32, 33, 34, 35, 36, t] nu n6 := by rw [← hn6]; exact K5.set (by simp) _
        have E6 : rc4o (getN nu i) = false → getN n6 34 = rc4 (getN nu i) := fun e9 => by rw [← hn6, getN_ne _ _ _ _ (by decide)]; exact E5 e9
        have F6 : getN n6 35 = rcD (getN nu i) := by rw [← hn6, getN_same, lowN_1]; rfl
        refine lv_aload_n hx hb dX8_reciprocal_161 rfl (lv_at hl 5 rfl) ?_
        refine zget zf_X8_105 hF hB 0 rfl rfl dX8_reciprocal_162 ?_
        refine lv_if_ne (tgt := 178) hx hb dX8_reciprocal_165 (by decide) (fun h165 => ?_) (fun h165 => ?_)
        · skip
          have hT : rc4o (getN nu i) = true := bI_ne0 h165
          rw [hT] at hB
          replace hB : zB D A s ([(q, .inr (8, mO ad true z)), ((ad 3), .inl (ka 1, 200, .inr (.inl n6)))]) H locs := hB
          refine lv_aload_n hx hb dX8_reciprocal_178 rfl (lv_at hl 5 rfl) ?_
          refine zget zf_X8_105 hF hB 0 rfl rfl dX8_reciprocal_179 ?_
          refine lv_if_ne (tgt := 192) hx hb dX8_reciprocal_182 (by decide) (fun h182 => ?_) (fun h182 => ?_)
          · skip
            have hR : recO (getN nu i) = true := by unfold recO; first | (simp [hT]; done) | (rw [Bool.or_eq_true] at hT; rcases hT with hT | hT <;> simp [hT])
            exact zretv hF hB n6 (⟨K6, fun e9 => absurd (hR.symm.trans e9) (by decide)⟩) (by rw [hR]) dX8_reciprocal_192 hQ
          · skip
            exact absurd h182 (by decide)
        · skip
          have hT6 : rc4o (getN nu i) = false := bI_eq0 h165
          have E6 := E6 hT6
          rw [hT6] at hB
          replace hB : zB D A s ([(q, .inr (8, mO ad false z)), ((ad 3), .inl (ka 1, 200, .inr (.inl n6)))]) H locs := hB
          have g6 : 0 < (n6 (5 * 34 + 4)).toInt := by
            rw [show n6 (5 * 34 + 4) = (rc4 (getN nu i)).2.2.2.2 from congrArg (fun v : N5 => v.2.2.2.2) E6]; exact lowN_d (show 0 < ((1 : Int64) * 1).toInt by decide)
          refine lv_aload_n hx hb dX8_reciprocal_168 rfl (lv_at hl 5 rfl) ?_
          refine lv_bipush (v := 36) hx hb dX8_reciprocal_169 (by decide) ?_
          refine lv_bipush (v := 34) hx hb dX8_reciprocal_171 (by decide) ?_
          refine lv_bipush (v := 35) hx hb dX8_reciprocal_173 (by decide) ?_
          refine zVv zm_X8_148 hF hB (c_X8_product l D ka kb q ad false z n6 36 34 35 (by decide) (by decide) (by decide) (g6) (by rw [show n6 (5 * 35 + 4) = 1 from congrArg (fun v : N5 => v.2.2.2.2) F6]; decide)) [0, 1] rfl (by decide) [q, (ad 3)] (fun _ => rfl) rfl 0 8 rfl rfl rfl ⟨Nat.le_of_ble_eq_true rfl, Nat.le_of_ble_eq_true rfl⟩ rfl hl.1 (Nat.le_of_ble_eq_true rfl) ⟨Nat.le_refl _, Nat.le_refl _⟩ dX8_reciprocal_175 ?_
          clear hB
          try clear locs
          try clear H
          intro u18 H locs hp hB
          replace hB : zB D A s ([(q, .inr (8, mO ad (false || prodO (getN n6 34) (getN n6 35)) z)), ((ad 3), .inl (ka 1, 200, .inr (.inl (if (false || prodO (getN n6 34) (getN n6 35)) = true then n6 else setN n6 36 (prodV (getN n6 34) (getN n6 35))))))]) H locs := hB
          have ho : (false || prodO (getN n6 34) (getN n6 35)) = rc5o (getN nu i) := by rw [E6, F6]; rfl
          rw [ho, E6, F6] at hB
          replace hB : zB D A s ([(q, .inr (8, mO ad (rc5o (getN nu i)) z)), ((ad 3), .inl (ka 1, 200, .inr (.inl (if (rc5o (getN nu i)) = true then n6 else setN n6 36 (prodV (rc4 (getN nu i)) (rcD (getN nu i)))))))]) H locs := hB
          refine lv_aload_n hx hb dX8_reciprocal_178 rfl (lv_at hl 5 rfl) ?_
          refine zget zf_X8_105 hF hB 0 rfl rfl dX8_reciprocal_179 ?_
          refine lv_if_ne (tgt := 192) hx hb dX8_reciprocal_182 (by decide) (fun h182 => ?_) (fun h182 => ?_)
          · skip
            have hT : rc5o (getN nu i) = true := bI_ne0 h182
            rw [hT, if_pos rfl] at hB
            replace hB : zB D A s ([(q, .inr (8, mO ad true z)), ((ad 3), .inl (ka 1, 200, .inr (.inl n6)))]) H locs := hB
            have hR : recO (getN nu i) = true := by unfold recO; first | (simp [hT]; done) | (rw [Bool.or_eq_true] at hT; rcases hT with hT | hT <;> simp [hT])
            exact zretv hF hB n6 (⟨K6, fun e9 => absurd (hR.symm.trans e9) (by decide)⟩) (by rw [hR]) dX8_reciprocal_192 hQ
          · skip
            have hTn7 : rc5o (getN nu i) = false := bI_eq0 h182
            rw [hTn7, if_neg Bool.false_ne_true] at hB
            replace hB : zB D A s ([(q, .inr (8, mO ad false z)), ((ad 3), .inl (ka 1, 200, .inr (.inl (setN n6 36 (prodV (rc4 (getN nu i)) (rcD (getN nu i)))))))]) H locs := hB
            generalize hn7 : (setN n6 36 (prodV (rc4 (getN nu i)) (rcD (getN nu i)))) = n7 at hB
            have K7 : keepN [30, 31, 32, 33, 34, 35, 36, t] nu n7 := by rw [← hn7]; exact K6.set (by simp) _
            have G7 : getN n7 36 = rc5 (getN nu i) := by rw [← hn7, getN_same]; rfl
            refine lv_aload_n hx hb dX8_reciprocal_185 rfl (lv_at hl 5 rfl) ?_
            refine lv_iload_n hx hb dX8_reciprocal_186 rfl (lv_at hl 6 rfl) ?_
            refine lv_lload hx hb dX8_reciprocal_187 (lv_at hl 1 rfl) ?_
            refine zVv zm_X8_152 hF hB (c_X8_divides l D ka kb q ad false z n7 t ((((rcN (getN nu i)).1) * ((rcN (getN nu i)).1)) - (thV ((rcN (getN nu i)).2.1) ((rcN (getN nu i)).2.1))) (ht) (hTp)) [0, 1] rfl (by decide) [q, (ad 3)] (fun _ => rfl) rfl 0 8 rfl rfl rfl ⟨Nat.le_of_ble_eq_true rfl, Nat.le_of_ble_eq_true rfl⟩ rfl hl.1 (Nat.le_of_ble_eq_true rfl) ⟨Nat.le_refl _, Nat.le_refl _⟩ dX8_reciprocal_189 ?_
            clear hB
            try clear locs
            try clear H
            intro u19 H locs hp hB
            replace hB : zB D A s ([(q, .inr (8, mO ad false z)), ((ad 3), .inl (ka 1, 200, .inr (.inl (if false = true then n7 else setN n7 t (lowN (n7 (5 * 36)) (n7 (5 * 36 + 1)) (n7 (5 * 36 + 2)) (n7 (5 * 36 + 3)) ((((rcN (getN nu i)).1) * ((rcN (getN nu i)).1)) - (thV ((rcN (getN nu i)).2.1) ((rcN (getN nu i)).2.1))))))))]) H locs := hB
            rw [if_neg Bool.false_ne_true] at hB
            replace hB : zB D A s ([(q, .inr (8, mO ad false z)), ((ad 3), .inl (ka 1, 200, .inr (.inl (setN n7 t (lowN (n7 (5 * 36)) (n7 (5 * 36 + 1)) (n7 (5 * 36 + 2)) (n7 (5 * 36 + 3)) ((((rcN (getN nu i)).1) * ((rcN (getN nu i)).1)) - (thV ((rcN (getN nu i)).2.1) ((rcN (getN nu i)).2.1))))))))]) H locs := hB
            generalize hn8 : (setN n7 t (lowN (n7 (5 * 36)) (n7 (5 * 36 + 1)) (n7 (5 * 36 + 2)) (n7 (5 * 36 + 3)) ((((rcN (getN nu i)).1) * ((rcN (getN nu i)).1)) - (thV ((rcN (getN nu i)).2.1) ((rcN (getN nu i)).2.1))))) = n8 at hB
            have K8 : keepN [30, 31, 32, 33, 34, 35, 36, t] nu n8 := by rw [← hn8]; exact K7.set (by simp) _
            have G8 : getN n8 t = recV (getN nu i) := by rw [← hn8, getN_same]; unfold recV; rw [← G7]; rfl
            exact zretv hF hB n8 (⟨K8, fun _ => G8⟩) (by rw [show recO (getN nu i) = false from by unfold recO; rw [hTn2, hTn3, hT4.1, hT4.2, hT6, hTn7]; rfl]) dX8_reciprocal_192 hQ
      · skip
        have hT : (rcTo (getN nu i) || mOv 0 (rcN (getN nu i)).2.1) = true := bI_ne0 h123
        rw [hT] at hB
        replace hB : zB D A s ([(q, .inr (8, mO ad true z)), ((ad 3), .inl (ka 1, 200, .inr (.inl n3)))]) H locs := hB
        have hR : recO (getN nu i) = true := by unfold recO; first | (simp [hT]; done) | (rw [Bool.or_eq_true] at hT; rcases hT with hT | hT <;> simp [hT])
        exact zretv hF hB n3 (⟨K3, fun e9 => absurd (hR.symm.trans e9) (by decide)⟩) (by rw [hR]) dX8_reciprocal_126 hQ
    · skip
      have hT : rcNo (getN nu i) = true := bI_ne0 h67
      rw [hT, if_pos rfl] at hB
      replace hB : zB D A s ([(q, .inr (8, mO ad true z)), ((ad 3), .inl (ka 1, 200, .inr (.inl n2)))]) H locs := hB
      have hR : recO (getN nu i) = true := by unfold recO; first | (simp [hT]; done) | (rw [Bool.or_eq_true] at hT; rcases hT with hT | hT <;> simp [hT])
      exact zretv hF hB n2 (⟨K2, fun e9 => absurd (hR.symm.trans e9) (by decide)⟩) (by rw [hR]) dX8_reciprocal_70 hQ
