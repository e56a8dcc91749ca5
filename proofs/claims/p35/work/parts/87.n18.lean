theorem sz_and_k : ∀ k, k < 512 → nI (2 * k) &&& (-1023 : Int32) = 0 := by decide +kernel
theorem sz_and {b : Int32} (h : 0 ≤ b.toInt ∧ b.toInt ≤ 1023) (h2 : b &&& 1 ≠ 1) : b &&& (-1023 : Int32) = 0 := by
  have e := ofNat_of h.1
  have hk : b.toInt.toNat < 1024 := by omega
  generalize b.toInt.toNat = k at e hk
  subst e
  have h3 : ∀ k, k < 1024 → nI k &&& 1 ≠ 1 → k % 2 = 0 := by decide +kernel
  have h4 := h3 k hk h2
  have h5 := sz_and_k (k / 2) (by omega)
  rw [show 2 * (k / 2) = k by omega] at h5
  exact h5
theorem sz_rng {b : Int32} (h : b &&& (-1023 : Int32) = 0) : ∃ k, k < 512 ∧ b = nI (2 * k) := by
  have h1 : b.toBitVec &&& (-1023 : Int32).toBitVec = 0#32 := by rw [← Int32.toBitVec_and, h]; rfl
  have h2 : b.toBitVec.toNat = b.toBitVec.toNat &&& 1022 := by
    have e : (b.toBitVec &&& 1022#32) = b.toBitVec := by
      apply BitVec.eq_of_getLsbD_eq
      intro i hi
      have e3 : (b.toBitVec &&& (-1023 : Int32).toBitVec).getLsbD i = false := by rw [h1]; exact BitVec.getLsbD_zero
      rw [BitVec.getLsbD_and] at e3 ⊢
      have e4 : ∀ i, i < 32 → (-1023 : Int32).toBitVec.getLsbD i = !(1022#32 : BitVec 32).getLsbD i := by decide
      rw [e4 i hi] at e3
      cases hb : b.toBitVec.getLsbD i
      · rfl
      · rw [hb] at e3
        cases hc : (1022#32 : BitVec 32).getLsbD i
        · rw [hc] at e3; exact absurd e3 (by decide)
        · rfl
    have e2 := congrArg BitVec.toNat e
    rw [BitVec.toNat_and] at e2
    exact e2.symm
  have h3 : b.toBitVec.toNat ≤ 1022 := by rw [h2]; exact Nat.and_le_right
  have h4 : b.toBitVec.toNat % 2 = 0 := by
    rw [h2, ← Nat.and_one_is_mod, Nat.and_assoc]
    exact Nat.and_zero _
  refine ⟨b.toBitVec.toNat / 2, by omega, Int32.toBitVec_inj.mp (BitVec.eq_of_toNat_eq ?_)⟩
  rw [show 2 * (b.toBitVec.toNat / 2) = b.toBitVec.toNat by omega]
  show _ = (BitVec.ofNat 32 _).toNat
  rw [BitVec.toNat_ofNat, Nat.mod_eq_of_lt b.toBitVec.isLt]
theorem sz_bc {b : Int32} (h : b &&& (-1023 : Int32) = 0) : bc6 b = bcnt b 12 := by
  obtain ⟨k, hk, e⟩ := sz_rng h
  rw [e]; exact bc6_b k hk
theorem bc_1 : ∀ k, k < 512 → nI (2 * k) ≠ 0 → 1 ≤ (bcnt (nI (2 * k)) 12).toInt := by decide +kernel
theorem ev_1 : ∀ k, k < 512 → nI (2 * k) &&& 1 ≠ 1 ∧ 0 ≤ (nI (2 * k)).toInt ∧ (nI (2 * k)).toInt ≤ 1023 := by decide +kernel
theorem sz_ok {b : Int32} (h : b &&& (-1023 : Int32) = 0) (h0 : ¬ b = 0) (h3 : (bcnt b 12).toInt ≤ 3) : szK b = true := by
  obtain ⟨k, hk, e⟩ := sz_rng h
  subst e
  obtain ⟨e1, e2⟩ := ev_1 k hk
  exact dB_t.mpr ⟨dB_t.mpr e2, e1, dB_t.mpr ⟨bc_1 k hk h0, h3⟩⟩
set_option maxHeartbeats 4000000 in
set_option maxRecDepth 100000 in
theorem c_X7_takePull (l : Launch) (D : va_G) (ka : Nat → ClassId) (kb : Nat → Nat) (bd : Nat → Nat) (na : Nat → Nat) (o : Bool) (sz9 : Int32) (re9 : Int32) (L : Nat) (mo : Nat → Int32) (an : Nat → Int32) (pl : Nat → Int32) (ho : Nat → Int32) (N : Nat → N5) (p9 : Nat) (hpl9 : p9 < 2) (hok : okL L mo an pl) (hoh : okH ho) : zV l D ka kb yX7_takePull cX7_takePull 2 5 174 [.ref (bd 31), .int (nI p9)] ([((bd 31), .inr (7, [.ref (bd 0), .ref (bd 1), .ref (na 6), .ref (na 7), .ref (bd 2), .ref (bd 3), .ref (bd 4), .ref (bd 5), .ref (bd 6)])), ((bd 0), .inr (2, [.int (bI o), .ref (na 25), .ref (na 26), .ref (na 27)])), ((bd 2), .inr (3, [.int (nI L), .ref (bd 7), .ref (bd 8), .ref (bd 9), .ref (bd 10), .ref (bd 11), .int sz9, .int re9])), ((bd 7), .inl (ka 0, 8, .inl mo)), ((bd 8), .inl (ka 0, 8, .inl an)), ((bd 9), .inl (ka 0, 8, .inl pl)), ((bd 10), .inl (ka 0, 24, .inl ho))] ++ nP na N) (fun (u : (Nat → N5) × Bool) => (∀ k9, k9 ≠ 6 → k9 ≠ 7 → u.1 k9 = N k9) ∧ u.1 6 = plN (pulI p9 L mo an pl ho) ∧ u.1 7 = sqN (pulI p9 L mo an pl ho)) (fun (u : (Nat → N5) × Bool) => [((bd 31), .inr (7, [.ref (bd 0), .ref (bd 1), .ref (na 6), .ref (na 7), .ref (bd 2), .ref (bd 3), .ref (bd 4), .ref (bd 5), .ref (bd 6)])), ((bd 0), .inr (2, [.int (bI u.2), .ref (na 25), .ref (na 26), .ref (na 27)])), ((bd 2), .inr (3, [.int (nI L), .ref (bd 7), .ref (bd 8), .ref (bd 9), .ref (bd 10), .ref (bd 11), .int sz9, .int re9])), ((bd 7), .inl (ka 0, 8, .inl mo)), ((bd 8), .inl (ka 0, 8, .inl an)), ((bd 9), .inl (ka 0, 8, .inl pl)), ((bd 10), .inl (ka 0, 24, .inl ho))] ++ nP na u.1) := by
  refine zV.mk RX7 (by decide +kernel) rfl (Nat.le_of_ble_eq_true rfl) ?_
  intro p e s m below meth c A ls args Q hQ hx hb hF hB hl
  replace hl : lv_has ls 2 [(0, .ref (bd 31)), (1, .int (nI p9))] := hl
  have hbd := pulI_bd hpl9 hok hoh
  have hsq := pl_sq hbd
  have hpb := plN_bd hbd
  refine lv_aload_n hx hb dX7_takePull_0 rfl (lv_at hl 0 rfl) ?_
  refine zget zf_X7_33 hF hB 0 rfl rfl dX7_takePull_1 ?_
  refine lv_iload_n hx hb dX7_takePull_4 rfl (lv_at hl 1 rfl) ?_
  refine lv_aload_n hx hb dX7_takePull_5 rfl (lv_at hl 0 rfl) ?_
  refine zget zf_X7_23 hF hB 0 rfl rfl dX7_takePull_6 ?_
  refine zVv zm_X7_295 hF hB (c_X3_takePullBy20 l D ka kb bd sz9 re9 L mo an pl ho na N 6 p9 (by decide) (hpl9) (hok) (hoh)) ([2, 3, 4, 5, 6] ++ npr 7) (zsel_pool rfl rfl) (va_nd_pool rfl rfl) ([(bd 2), (bd 7), (bd 8), (bd 9), (bd 10)] ++ nA na) (fun _ => zad_pool rfl) (zad_pool rfl) 2 3 rfl rfl rfl ⟨Nat.le_of_ble_eq_true rfl, Nat.le_of_ble_eq_true rfl⟩ rfl hl.1 (Nat.le_of_ble_eq_true rfl) ⟨Nat.le_refl _, Nat.le_refl _⟩ dX7_takePull_9 ?_
  clear hB
  try clear locs
  try clear H
  intro u1 H locs hp hB
  replace hB : zB D A s ([((bd 31), .inr (7, [.ref (bd 0), .ref (bd 1), .ref (na 6), .ref (na 7), .ref (bd 2), .ref (bd 3), .ref (bd 4), .ref (bd 5), .ref (bd 6)])), ((bd 0), .inr (2, [.int (bI o), .ref (na 25), .ref (na 26), .ref (na 27)])), ((bd 2), .inr (3, [.int (nI L), .ref (bd 7), .ref (bd 8), .ref (bd 9), .ref (bd 10), .ref (bd 11), .int sz9, .int re9])), ((bd 7), .inl (ka 0, 8, .inl mo)), ((bd 8), .inl (ka 0, 8, .inl an)), ((bd 9), .inl (ka 0, 8, .inl pl)), ((bd 10), .inl (ka 0, 24, .inl ho))] ++ nP na (upN N 6 (p20N (pulI p9 L mo an pl ho)))) H locs := zB_pool hB rfl rfl rfl rfl
  obtain ⟨M1, hM1⟩ : ∃ M, M = (upN N 6 (p20N (pulI p9 L mo an pl ho))) := ⟨_, rfl⟩
  rw [← hM1] at hB
  have v1 : M1 6 = p20N (pulI p9 L mo an pl ho) := by rw [hM1, upN_eq]
  have k1 : ∀ k9, k9 ≠ 6 → k9 ≠ 7 → M1 k9 = N k9 := fun k9 h6 h7 => by rw [hM1, upN_ne h6]
  refine lv_aload_n hx hb dX7_takePull_12 rfl (lv_at hl 0 rfl) ?_
  refine zget zf_X7_23 hF hB 0 rfl rfl dX7_takePull_13 ?_
  refine zVv zm_X7_73 hF hB (c_X1_shorten l D ka kb (na 6) (M1 6) (by rw [v1]; exact (show 0 < (20 : Int64).toInt by decide))) [7 + 6] (zsel_num rfl (by decide)) (va_nd_1 _) [na 6] (fun _ => rfl) rfl (7 + 6) 1 rfl (nP_atn rfl (by decide)) rfl ⟨Nat.le_of_ble_eq_true rfl, Nat.le_of_ble_eq_true rfl⟩ rfl hl.1 (Nat.le_of_ble_eq_true rfl) ⟨Nat.le_refl _, Nat.le_refl _⟩ dX7_takePull_16 ?_
  clear hB
  try clear locs
  try clear H
  intro u2 H locs hp hB
  replace hB : zB D A s ([((bd 31), .inr (7, [.ref (bd 0), .ref (bd 1), .ref (na 6), .ref (na 7), .ref (bd 2), .ref (bd 3), .ref (bd 4), .ref (bd 5), .ref (bd 6)])), ((bd 0), .inr (2, [.int (bI o), .ref (na 25), .ref (na 26), .ref (na 27)])), ((bd 2), .inr (3, [.int (nI L), .ref (bd 7), .ref (bd 8), .ref (bd 9), .ref (bd 10), .ref (bd 11), .int sz9, .int re9])), ((bd 7), .inl (ka 0, 8, .inl mo)), ((bd 8), .inl (ka 0, 8, .inl an)), ((bd 9), .inl (ka 0, 8, .inl pl)), ((bd 10), .inl (ka 0, 24, .inl ho))] ++ nP na (upN M1 6 (lowN (M1 6).1 (M1 6).2.1 (M1 6).2.2.1 (M1 6).2.2.2.1 (M1 6).2.2.2.2))) H locs := zB_num (X := (lowN (M1 6).1 (M1 6).2.1 (M1 6).2.2.1 (M1 6).2.2.2.1 (M1 6).2.2.2.2)) hB rfl (by decide)
  obtain ⟨M2, hM2⟩ : ∃ M, M = (upN M1 6 (lowN (M1 6).1 (M1 6).2.1 (M1 6).2.2.1 (M1 6).2.2.2.1 (M1 6).2.2.2.2)) := ⟨_, rfl⟩
  rw [← hM2] at hB
  have v2 : M2 6 = plN (pulI p9 L mo an pl ho) := by rw [hM2, upN_eq, v1] <;> rfl
  have k2 : ∀ k9, k9 ≠ 6 → k9 ≠ 7 → M2 k9 = N k9 := fun k9 h6 h7 => by rw [hM2, upN_ne h6]; exact k1 k9 h6 h7
  refine lv_aload_n hx hb dX7_takePull_19 rfl (lv_at hl 0 rfl) ?_
  refine zget zf_X7_27 hF hB 0 rfl rfl dX7_takePull_20 ?_
  refine lv_aload_n hx hb dX7_takePull_23 rfl (lv_at hl 0 rfl) ?_
  refine zget zf_X7_23 hF hB 0 rfl rfl dX7_takePull_24 ?_
  refine zVv zm_X7_211 hF hB (c_X1_take l D ka kb na M2 7 6 (by decide) (by decide)) ([] ++ npr 7) (zsel_pool rfl rfl) (va_nd_pool rfl rfl) ([] ++ nA na) (fun _ => zad_pool rfl) (zad_pool rfl) (7 + 7) 1 rfl (nP_atn rfl (by decide)) rfl ⟨Nat.le_of_ble_eq_true rfl, Nat.le_of_ble_eq_true rfl⟩ rfl hl.1 (Nat.le_of_ble_eq_true rfl) ⟨Nat.le_refl _, Nat.le_refl _⟩ dX7_takePull_27 ?_
  clear hB
  try clear locs
  try clear H
  intro u3 H locs hp hB
  replace hB : zB D A s ([((bd 31), .inr (7, [.ref (bd 0), .ref (bd 1), .ref (na 6), .ref (na 7), .ref (bd 2), .ref (bd 3), .ref (bd 4), .ref (bd 5), .ref (bd 6)])), ((bd 0), .inr (2, [.int (bI o), .ref (na 25), .ref (na 26), .ref (na 27)])), ((bd 2), .inr (3, [.int (nI L), .ref (bd 7), .ref (bd 8), .ref (bd 9), .ref (bd 10), .ref (bd 11), .int sz9, .int re9])), ((bd 7), .inl (ka 0, 8, .inl mo)), ((bd 8), .inl (ka 0, 8, .inl an)), ((bd 9), .inl (ka 0, 8, .inl pl)), ((bd 10), .inl (ka 0, 24, .inl ho))] ++ nP na (upN M2 7 (M2 6))) H locs := zB_pool hB rfl rfl rfl rfl
  obtain ⟨M3, hM3⟩ : ∃ M, M = (upN M2 7 (M2 6)) := ⟨_, rfl⟩
  rw [← hM3] at hB
  have v3 : M3 6 = plN (pulI p9 L mo an pl ho) := by rw [hM3, upN_ne (by decide)]; exact v2
  have w3 : M3 7 = plN (pulI p9 L mo an pl ho) := by rw [hM3, upN_eq]; exact v2
  have k3 : ∀ k9, k9 ≠ 6 → k9 ≠ 7 → M3 k9 = N k9 := fun k9 h6 h7 => by rw [hM3, upN_ne h7]; exact k2 k9 h6 h7
  refine lv_aload_n hx hb dX7_takePull_30 rfl (lv_at hl 0 rfl) ?_
  refine zget zf_X7_27 hF hB 0 rfl rfl dX7_takePull_31 ?_
  refine zVv zm_X7_299 hF hB (c_X1_mirror l D ka kb (na 7) (M3 7) ) [7 + 7] (zsel_num rfl (by decide)) (va_nd_1 _) [na 7] (fun _ => rfl) rfl (7 + 7) 1 rfl (nP_atn rfl (by decide)) rfl ⟨Nat.le_of_ble_eq_true rfl, Nat.le_of_ble_eq_true rfl⟩ rfl hl.1 (Nat.le_of_ble_eq_true rfl) ⟨Nat.le_refl _, Nat.le_refl _⟩ dX7_takePull_34 ?_
  clear hB
  try clear locs
  try clear H
  intro u4 H locs hp hB
  replace hB : zB D A s ([((bd 31), .inr (7, [.ref (bd 0), .ref (bd 1), .ref (na 6), .ref (na 7), .ref (bd 2), .ref (bd 3), .ref (bd 4), .ref (bd 5), .ref (bd 6)])), ((bd 0), .inr (2, [.int (bI o), .ref (na 25), .ref (na 26), .ref (na 27)])), ((bd 2), .inr (3, [.int (nI L), .ref (bd 7), .ref (bd 8), .ref (bd 9), .ref (bd 10), .ref (bd 11), .int sz9, .int re9])), ((bd 7), .inl (ka 0, 8, .inl mo)), ((bd 8), .inl (ka 0, 8, .inl an)), ((bd 9), .inl (ka 0, 8, .inl pl)), ((bd 10), .inl (ka 0, 24, .inl ho))] ++ nP na (upN M3 7 ((M3 7).1, (M3 7).2.1, -(M3 7).2.2.1, -(M3 7).2.2.2.1, (M3 7).2.2.2.2))) H locs := zB_num (X := ((M3 7).1, (M3 7).2.1, -(M3 7).2.2.1, -(M3 7).2.2.2.1, (M3 7).2.2.2.2)) hB rfl (by decide)
  obtain ⟨M4, hM4⟩ : ∃ M, M = (upN M3 7 ((M3 7).1, (M3 7).2.1, -(M3 7).2.2.1, -(M3 7).2.2.2.1, (M3 7).2.2.2.2)) := ⟨_, rfl⟩
  rw [← hM4] at hB
  have v4 : M4 6 = plN (pulI p9 L mo an pl ho) := by rw [hM4, upN_ne (by decide)]; exact v3
  have w4 : M4 7 = mirN (plN (pulI p9 L mo an pl ho)) := by rw [hM4, upN_eq, w3] <;> rfl
  have k4 : ∀ k9, k9 ≠ 6 → k9 ≠ 7 → M4 k9 = N k9 := fun k9 h6 h7 => by rw [hM4, upN_ne h7]; exact k3 k9 h6 h7
  refine lv_aload_n hx hb dX7_takePull_37 rfl (lv_at hl 0 rfl) ?_
  refine zget zf_X7_10 hF hB 0 rfl rfl dX7_takePull_38 ?_
  refine lv_aload_n hx hb dX7_takePull_41 rfl (lv_at hl 0 rfl) ?_
  refine zget zf_X7_23 hF hB 0 rfl rfl dX7_takePull_42 ?_
  refine lv_aload_n hx hb dX7_takePull_45 rfl (lv_at hl 0 rfl) ?_
  refine zget zf_X7_27 hF hB 0 rfl rfl dX7_takePull_46 ?_
  refine lv_aload_n hx hb dX7_takePull_49 rfl (lv_at hl 0 rfl) ?_
  refine zget zf_X7_27 hF hB 0 rfl rfl dX7_takePull_50 ?_
  refine zVi zm_X7_103 hF hB (c_X2_product l D ka kb (bd 0) na o 25 26 27 M4 7 6 7 (by decide) (by decide) (by decide) (by rw [v4]; have := hpb.2.2.2.2; omega) (by rw [w4]; have := (mir_bd (by omega) hpb).2.2.2.2; omega)) ([1] ++ npr 7) (zsel_pool rfl rfl) (va_nd_pool rfl rfl) ([(bd 0)] ++ nA na) (fun _ => zad_pool rfl) (zad_pool rfl) 1 2 rfl rfl rfl ⟨Nat.le_of_ble_eq_true rfl, Nat.le_of_ble_eq_true rfl⟩ rfl hl.1 (Nat.le_of_ble_eq_true rfl) ⟨Nat.le_refl _, Nat.le_refl _⟩ dX7_takePull_53 ?_
  clear hB
  try clear locs
  try clear H
  intro r5 u5 H locs hp hB
  obtain rfl : r5 = bI (!(prodO (M4 6) (M4 7))) := hp
  replace hB : zB D A s ([((bd 31), .inr (7, [.ref (bd 0), .ref (bd 1), .ref (na 6), .ref (na 7), .ref (bd 2), .ref (bd 3), .ref (bd 4), .ref (bd 5), .ref (bd 6)])), ((bd 0), .inr (2, [.int (bI (prodO (M4 6) (M4 7))), .ref (na 25), .ref (na 26), .ref (na 27)])), ((bd 2), .inr (3, [.int (nI L), .ref (bd 7), .ref (bd 8), .ref (bd 9), .ref (bd 10), .ref (bd 11), .int sz9, .int re9])), ((bd 7), .inl (ka 0, 8, .inl mo)), ((bd 8), .inl (ka 0, 8, .inl an)), ((bd 9), .inl (ka 0, 8, .inl pl)), ((bd 10), .inl (ka 0, 24, .inl ho))] ++ nP na (if prodO (M4 6) (M4 7) = true then M4 else upN M4 7 (prodV (M4 6) (M4 7)))) H locs := zB_pool hB rfl rfl rfl rfl
  obtain ⟨M5, hM5⟩ : ∃ M, M = (if prodO (M4 6) (M4 7) = true then M4 else upN M4 7 (prodV (M4 6) (M4 7))) := ⟨_, rfl⟩
  rw [← hM5] at hB
  refine lv_pop hx hb dX7_takePull_56 rfl ?_
  rw [if_neg (by rw [v4, w4, hsq.2]; decide)] at hM5
  exact zretv hF hB (M5, (prodO (M4 6) (M4 7))) (⟨fun k9 h6 h7 => by show M5 k9 = _; rw [hM5, upN_ne h7]; exact k4 k9 h6 h7, by show M5 6 = _; rw [hM5, upN_ne (by decide)]; exact v4, by show M5 7 = _; rw [hM5, upN_eq, v4, w4]; exact hsq.1⟩) (rfl) dX7_takePull_57 hQ

set_option maxHeartbeats 4000000 in
set_option maxRecDepth 100000 in
theorem c_X7_pull (l : Launch) (D : va_G) (ka : Nat → ClassId) (kb : Nat → Nat) (bd : Nat → Nat) (na : Nat → Nat) (o : Bool) (sz9 : Int32) (re9 : Int32) (L : Nat) (mo : Nat → Int32) (an : Nat → Int32) (pl : Nat → Int32) (ho : Nat → Int32) (N : Nat → N5) (pq : Int32) (kq : Int32) (hok : okL L mo an pl) (hoh : okH ho) : zL l D ka kb yX7_pull cX7_pull 3 6 195 [.ref (bd 31), .int pq, .int kq] ([((bd 31), .inr (7, [.ref (bd 0), .ref (bd 1), .ref (na 6), .ref (na 7), .ref (bd 2), .ref (bd 3), .ref (bd 4), .ref (bd 5), .ref (bd 6)])), ((bd 0), .inr (2, [.int (bI o), .ref (na 25), .ref (na 26), .ref (na 27)])), ((bd 2), .inr (3, [.int (nI L), .ref (bd 7), .ref (bd 8), .ref (bd 9), .ref (bd 10), .ref (bd 11), .int sz9, .int re9])), ((bd 7), .inl (ka 0, 8, .inl mo)), ((bd 8), .inl (ka 0, 8, .inl an)), ((bd 9), .inl (ka 0, 8, .inl pl)), ((bd 10), .inl (ka 0, 24, .inl ho))] ++ nP na N) (fun (r : Int64) (u : (Nat → N5) × Bool) => r = (if plK pq kq = true then plV (pulI (aN pq) L mo an pl ho) (aN kq) else lMin - (-2 : Int32).toInt64) ∧ (∀ k9, k9 ≠ 6 → k9 ≠ 7 → u.1 k9 = N k9)) (fun (u : (Nat → N5) × Bool) => [((bd 31), .inr (7, [.ref (bd 0), .ref (bd 1), .ref (na 6), .ref (na 7), .ref (bd 2), .ref (bd 3), .ref (bd 4), .ref (bd 5), .ref (bd 6)])), ((bd 0), .inr (2, [.int (bI u.2), .ref (na 25), .ref (na 26), .ref (na 27)])), ((bd 2), .inr (3, [.int (nI L), .ref (bd 7), .ref (bd 8), .ref (bd 9), .ref (bd 10), .ref (bd 11), .int sz9, .int re9])), ((bd 7), .inl (ka 0, 8, .inl mo)), ((bd 8), .inl (ka 0, 8, .inl an)), ((bd 9), .inl (ka 0, 8, .inl pl)), ((bd 10), .inl (ka 0, 24, .inl ho))] ++ nP na u.1) := by
  refine zL.mk RX7 (by decide +kernel) rfl (Nat.le_of_ble_eq_true rfl) ?_
  intro p e s m below meth c A ls args Q hQ hx hb hF hB hl
  replace hl : lv_has ls 3 [(0, .ref (bd 31)), (1, .int pq), (2, .int kq)] := hl
  refine lv_iload_n hx hb dX7_pull_0 rfl (lv_at hl 1 rfl) ?_
  refine lv_iconst (v := 2) hx hb dX7_pull_1 (by decide) ?_
  refine zSi zm_X7_65 hF hB (c_X7_isOutside l D ka kb pq 2 (by decide)) [] rfl (by decide) [] (fun _ => rfl) rfl rfl ⟨Nat.le_of_ble_eq_true rfl, Nat.le_of_ble_eq_true rfl⟩ rfl hl.1 (Nat.le_of_ble_eq_true rfl) ⟨Nat.le_refl _, Nat.le_refl _⟩ dX7_pull_2 ?_
  clear hB
  try clear locs
  try clear H
  intro r1 u1 H locs hp hB
  obtain rfl : r1 = bI (!(inI pq 2)) := hp
  replace hB : zB D A s ([((bd 31), .inr (7, [.ref (bd 0), .ref (bd 1), .ref (na 6), .ref (na 7), .ref (bd 2), .ref (bd 3), .ref (bd 4), .ref (bd 5), .ref (bd 6)])), ((bd 0), .inr (2, [.int (bI o), .ref (na 25), .ref (na 26), .ref (na 27)])), ((bd 2), .inr (3, [.int (nI L), .ref (bd 7), .ref (bd 8), .ref (bd 9), .ref (bd 10), .ref (bd 11), .int sz9, .int re9])), ((bd 7), .inl (ka 0, 8, .inl mo)), ((bd 8), .inl (ka 0, 8, .inl an)), ((bd 9), .inl (ka 0, 8, .inl pl)), ((bd 10), .inl (ka 0, 24, .inl ho))] ++ nP na N) H locs := hB
  refine lv_if_ne (tgt := 17) hx hb dX7_pull_5 (by decide) (fun h5 => ?_) (fun h5 => ?_)
  · skip
    replace h5 := (b9_t h5)
    refine lv_bipush (v := -2) hx hb dX7_pull_17 (by decide) ?_
    refine zSl zm_X7_109 hF hB (c_X7_asLong l D ka kb (-2 : Int32) ) [] rfl (by decide) [] (fun _ => rfl) rfl rfl ⟨Nat.le_of_ble_eq_true rfl, Nat.le_of_ble_eq_true rfl⟩ rfl hl.1 (Nat.le_of_ble_eq_true rfl) ⟨Nat.le_refl _, Nat.le_refl _⟩ dX7_pull_19 ?_
    clear hB
    try clear locs
    try clear H
    intro r2 u2 H locs hp hB
    obtain rfl : r2 = lMin - (-2 : Int32).toInt64 := hp
    replace hB : zB D A s ([((bd 31), .inr (7, [.ref (bd 0), .ref (bd 1), .ref (na 6), .ref (na 7), .ref (bd 2), .ref (bd 3), .ref (bd 4), .ref (bd 5), .ref (bd 6)])), ((bd 0), .inr (2, [.int (bI o), .ref (na 25), .ref (na 26), .ref (na 27)])), ((bd 2), .inr (3, [.int (nI L), .ref (bd 7), .ref (bd 8), .ref (bd 9), .ref (bd 10), .ref (bd 11), .int sz9, .int re9])), ((bd 7), .inl (ka 0, 8, .inl mo)), ((bd 8), .inl (ka 0, 8, .inl an)), ((bd 9), .inl (ka 0, 8, .inl pl)), ((bd 10), .inl (ka 0, 24, .inl ho))] ++ nP na N) H locs := hB
    have hK : plK pq kq = false := dB_f.mpr (fun e8 => absurd (h5.symm.trans e8.1) (by decide))
    exact zretl hF hB (N, o) (⟨by rw [if_neg (by rw [hK]; decide)], fun _ _ _ => rfl⟩) (rfl) dX7_pull_22 hQ
  · skip
    replace h5 := (b9_f h5)
    obtain ⟨pg, hpg2, hpg3⟩ := inI_of h5 (by decide)
    subst hpg3
    have rpg : aN (nI pg) = pg := aNn hpg2 (by decide)
    have hpg1 : inI (nI pg) 2 = true := h5
    refine lv_iload_n hx hb dX7_pull_8 rfl (lv_at hl 2 rfl) ?_
    refine lv_bipush (v := 10) hx hb dX7_pull_9 (by decide) ?_
    refine zSi zm_X7_65 hF hB (c_X7_isOutside l D ka kb kq 10 (by decide)) [] rfl (by decide) [] (fun _ => rfl) rfl rfl ⟨Nat.le_of_ble_eq_true rfl, Nat.le_of_ble_eq_true rfl⟩ rfl hl.1 (Nat.le_of_ble_eq_true rfl) ⟨Nat.le_refl _, Nat.le_refl _⟩ dX7_pull_11 ?_
    clear hB
    try clear locs
    try clear H
    intro r3 u3 H locs hp hB
    obtain rfl : r3 = bI (!(inI kq 10)) := hp
    replace hB : zB D A s ([((bd 31), .inr (7, [.ref (bd 0), .ref (bd 1), .ref (na 6), .ref (na 7), .ref (bd 2), .ref (bd 3), .ref (bd 4), .ref (bd 5), .ref (bd 6)])), ((bd 0), .inr (2, [.int (bI o), .ref (na 25), .ref (na 26), .ref (na 27)])), ((bd 2), .inr (3, [.int (nI L), .ref (bd 7), .ref (bd 8), .ref (bd 9), .ref (bd 10), .ref (bd 11), .int sz9, .int re9])), ((bd 7), .inl (ka 0, 8, .inl mo)), ((bd 8), .inl (ka 0, 8, .inl an)), ((bd 9), .inl (ka 0, 8, .inl pl)), ((bd 10), .inl (ka 0, 24, .inl ho))] ++ nP na N) H locs := hB
    refine lv_if_eq (tgt := 23) hx hb dX7_pull_14 (by decide) (fun h14 => ?_) (fun h14 => ?_)
    · skip
      replace h14 := (b9_f h14)
      obtain ⟨kg, hkg2, hkg3⟩ := inI_of h14 (by decide)
      subst hkg3
      have rkg : aN (nI kg) = kg := aNn hkg2 (by decide)
      have hkg1 : inI (nI kg) 10 = true := h14
      refine lv_aload_n hx hb dX7_pull_23 rfl (lv_at hl 0 rfl) ?_
      refine lv_iload_n hx hb dX7_pull_24 rfl (lv_at hl 1 rfl) ?_
      refine zVv zm_X7_178 hF hB (c_X7_takePull l D ka kb bd na o sz9 re9 L mo an pl ho N pg (hpg2) (hok) (hoh)) ([0, 1, 2, 3, 4, 5, 6] ++ npr 7) (zsel_pool rfl rfl) (va_nd_pool rfl rfl) ([(bd 31), (bd 0), (bd 2), (bd 7), (bd 8), (bd 9), (bd 10)] ++ nA na) (fun _ => zad_pool rfl) (zad_pool rfl) 0 7 rfl rfl rfl ⟨Nat.le_of_ble_eq_true rfl, Nat.le_of_ble_eq_true rfl⟩ rfl hl.1 (Nat.le_of_ble_eq_true rfl) ⟨Nat.le_refl _, Nat.le_refl _⟩ dX7_pull_25 ?_
      clear hB
      try clear locs
      try clear H
      intro u4 H locs hp hB
      obtain ⟨N94, o94⟩ := u4
      have hp4 : (∀ k9, k9 ≠ 6 → k9 ≠ 7 → N94 k9 = N k9) ∧ N94 6 = plN (pulI pg L mo an pl ho) ∧ N94 7 = sqN (pulI pg L mo an pl ho) := hp
      have HPP := hp4
      replace hB : zB D A s ([((bd 31), .inr (7, [.ref (bd 0), .ref (bd 1), .ref (na 6), .ref (na 7), .ref (bd 2), .ref (bd 3), .ref (bd 4), .ref (bd 5), .ref (bd 6)])), ((bd 0), .inr (2, [.int (bI o94), .ref (na 25), .ref (na 26), .ref (na 27)])), ((bd 2), .inr (3, [.int (nI L), .ref (bd 7), .ref (bd 8), .ref (bd 9), .ref (bd 10), .ref (bd 11), .int sz9, .int re9])), ((bd 7), .inl (ka 0, 8, .inl mo)), ((bd 8), .inl (ka 0, 8, .inl an)), ((bd 9), .inl (ka 0, 8, .inl pl)), ((bd 10), .inl (ka 0, 24, .inl ho))] ++ nP na N94) H locs := zB_pool hB rfl rfl rfl rfl
      have hTP := HPP
      refine lv_iload_n hx hb dX7_pull_28 rfl (lv_at hl 2 rfl) ?_
      refine lv_iconst (v := 5) hx hb dX7_pull_29 (by decide) ?_
      refine lv_icmp_ge (tgt := 44) hx hb dX7_pull_30 (by decide) (fun h30 => ?_) (fun h30 => ?_)
      · skip
        have hk5 : ¬ kg < 5 := by have := (nI_leI (a := 5) (b := kg) (by decide) (by omega)).mp h30; omega
        refine lv_aload_n hx hb dX7_pull_44 rfl (lv_at hl 0 rfl) ?_
        refine zget zf_X7_27 hF hB 0 rfl rfl dX7_pull_45 ?_
        refine lv_iload_n hx hb dX7_pull_48 rfl (lv_at hl 2 rfl) ?_
        refine lv_iconst (v := 5) hx hb dX7_pull_49 (by decide) ?_
        refine lv_isub hx hb dX7_pull_50 ?_
        refine ztopi (y := nI (kg - 5)) (pk_sub (a := kg) (b := 5) (by omega)) ?_
        refine zVl zm_X7_113 hF hB (c_X1_item l D ka kb (na 7) (N94 7) (kg - 5) (by omega)) [7 + 7] (zsel_num rfl (by decide)) (va_nd_1 _) [na 7] (fun _ => rfl) rfl (7 + 7) 1 rfl (nP_atn rfl (by decide)) rfl ⟨Nat.le_of_ble_eq_true rfl, Nat.le_of_ble_eq_true rfl⟩ rfl hl.1 (Nat.le_of_ble_eq_true rfl) ⟨Nat.le_refl _, Nat.le_refl _⟩ dX7_pull_51 ?_
        clear hB
        try clear locs
        try clear H
        intro r5 u5 H locs hp hB
        obtain rfl : r5 = cmp5 (N94 7) (kg - 5) := hp
        replace hB : zB D A s ([((bd 31), .inr (7, [.ref (bd 0), .ref (bd 1), .ref (na 6), .ref (na 7), .ref (bd 2), .ref (bd 3), .ref (bd 4), .ref (bd 5), .ref (bd 6)])), ((bd 0), .inr (2, [.int (bI o94), .ref (na 25), .ref (na 26), .ref (na 27)])), ((bd 2), .inr (3, [.int (nI L), .ref (bd 7), .ref (bd 8), .ref (bd 9), .ref (bd 10), .ref (bd 11), .int sz9, .int re9])), ((bd 7), .inl (ka 0, 8, .inl mo)), ((bd 8), .inl (ka 0, 8, .inl an)), ((bd 9), .inl (ka 0, 8, .inl pl)), ((bd 10), .inl (ka 0, 24, .inl ho))] ++ nP na N94) H locs := (by have e9 := zB_num (X := (N94 7)) hB rfl (by decide); rw [upN_id] at e9; exact e9)
        have hK : plK (nI pg) (nI kg) = true := dB_t.mpr ⟨hpg1, hkg1⟩
        exact zretl hF hB (N94, (o94)) (⟨by rw [if_pos hK, rpg, rkg, plV, if_neg hk5, hTP.2.2] <;> rfl, hTP.1⟩) (rfl) dX7_pull_54 hQ
      · skip
        have hk5 : kg < 5 := Nat.not_le.mp (fun e9 => h30 ((nI_leI (a := 5) (b := kg) (by decide) (by omega)).mpr e9))
        refine lv_aload_n hx hb dX7_pull_33 rfl (lv_at hl 0 rfl) ?_
        refine zget zf_X7_23 hF hB 0 rfl rfl dX7_pull_34 ?_
        refine lv_iload_n hx hb dX7_pull_37 rfl (lv_at hl 2 rfl) ?_
        refine zVl zm_X7_113 hF hB (c_X1_item l D ka kb (na 6) (N94 6) kg (hk5)) [7 + 6] (zsel_num rfl (by decide)) (va_nd_1 _) [na 6] (fun _ => rfl) rfl (7 + 6) 1 rfl (nP_atn rfl (by decide)) rfl ⟨Nat.le_of_ble_eq_true rfl, Nat.le_of_ble_eq_true rfl⟩ rfl hl.1 (Nat.le_of_ble_eq_true rfl) ⟨Nat.le_refl _, Nat.le_refl _⟩ dX7_pull_38 ?_
        clear hB
        try clear locs
        try clear H
        intro r6 u6 H locs hp hB
        obtain rfl : r6 = cmp5 (N94 6) kg := hp
        replace hB : zB D A s ([((bd 31), .inr (7, [.ref (bd 0), .ref (bd 1), .ref (na 6), .ref (na 7), .ref (bd 2), .ref (bd 3), .ref (bd 4), .ref (bd 5), .ref (bd 6)])), ((bd 0), .inr (2, [.int (bI o94), .ref (na 25), .ref (na 26), .ref (na 27)])), ((bd 2), .inr (3, [.int (nI L), .ref (bd 7), .ref (bd 8), .ref (bd 9), .ref (bd 10), .ref (bd 11), .int sz9, .int re9])), ((bd 7), .inl (ka 0, 8, .inl mo)), ((bd 8), .inl (ka 0, 8, .inl an)), ((bd 9), .inl (ka 0, 8, .inl pl)), ((bd 10), .inl (ka 0, 24, .inl ho))] ++ nP na N94) H locs := (by have e9 := zB_num (X := (N94 6)) hB rfl (by decide); rw [upN_id] at e9; exact e9)
        refine lv_goto (tgt := 54) hx hb dX7_pull_41 (by decide) ?_
        have hK : plK (nI pg) (nI kg) = true := dB_t.mpr ⟨hpg1, hkg1⟩
        exact zretl hF hB (N94, (o94)) (⟨by rw [if_pos hK, rpg, rkg, plV, if_pos hk5, hTP.2.1] <;> rfl, hTP.1⟩) (rfl) dX7_pull_54 hQ
    · skip
      replace h14 := (b9_t h14)
      refine lv_bipush (v := -2) hx hb dX7_pull_17 (by decide) ?_
      refine zSl zm_X7_109 hF hB (c_X7_asLong l D ka kb (-2 : Int32) ) [] rfl (by decide) [] (fun _ => rfl) rfl rfl ⟨Nat.le_of_ble_eq_true rfl, Nat.le_of_ble_eq_true rfl⟩ rfl hl.1 (Nat.le_of_ble_eq_true rfl) ⟨Nat.le_refl _, Nat.le_refl _⟩ dX7_pull_19 ?_
      clear hB
      try clear locs
      try clear H
      intro r7 u7 H locs hp hB
      obtain rfl : r7 = lMin - (-2 : Int32).toInt64 := hp
      replace hB : zB D A s ([((bd 31), .inr (7, [.ref (bd 0), .ref (bd 1), .ref (na 6), .ref (na 7), .ref (bd 2), .ref (bd 3), .ref (bd 4), .ref (bd 5), .ref (bd 6)])), ((bd 0), .inr (2, [.int (bI o), .ref (na 25), .ref (na 26), .ref (na 27)])), ((bd 2), .inr (3, [.int (nI L), .ref (bd 7), .ref (bd 8), .ref (bd 9), .ref (bd 10), .ref (bd 11), .int sz9, .int re9])), ((bd 7), .inl (ka 0, 8, .inl mo)), ((bd 8), .inl (ka 0, 8, .inl an)), ((bd 9), .inl (ka 0, 8, .inl pl)), ((bd 10), .inl (ka 0, 24, .inl ho))] ++ nP na N) H locs := hB
      have hK : plK (nI pg) kq = false := dB_f.mpr (fun e8 => absurd (h14.symm.trans e8.2) (by decide))
      exact zretl hF hB (N, o) (⟨by rw [if_neg (by rw [hK]; decide)], fun _ _ _ => rfl⟩) (rfl) dX7_pull_22 hQ

set_option maxHeartbeats 4000000 in
set_option maxRecDepth 100000 in
theorem c_X7_sizes (l : Launch) (D : va_G) (ka : Nat → ClassId) (kb : Nat → Nat) (bd : Nat → Nat) (na : Nat → Nat) (lu : Int32) (sz9 : Int32) (re9 : Int32) (bq : Int32)  : zI l D ka kb yX7_sizes cX7_sizes 3 .int 1 21 [.ref (bd 31), .int bq] ([((bd 31), .inr (7, [.ref (bd 0), .ref (bd 1), .ref (na 6), .ref (na 7), .ref (bd 2), .ref (bd 3), .ref (bd 4), .ref (bd 5), .ref (bd 6)])), ((bd 2), .inr (3, [.int lu, .ref (bd 7), .ref (bd 8), .ref (bd 9), .ref (bd 10), .ref (bd 11), .int sz9, .int re9]))]) (fun (r : Int32) (_ : Unit) => r = if szK bq = true then sz9 else -2) (fun (_ : Unit) => [((bd 31), .inr (7, [.ref (bd 0), .ref (bd 1), .ref (na 6), .ref (na 7), .ref (bd 2), .ref (bd 3), .ref (bd 4), .ref (bd 5), .ref (bd 6)])), ((bd 2), .inr (3, [.int lu, .ref (bd 7), .ref (bd 8), .ref (bd 9), .ref (bd 10), .ref (bd 11), .int (if szK bq = true then bq else sz9), .int re9]))]) := by
  refine zI.mk RX7 (by decide +kernel) rfl (Nat.le_of_ble_eq_true rfl) ?_
  intro p e s m below meth c A ls args Q hQ hx hb hF hB hl
  replace hl : lv_has ls 3 [(0, .ref (bd 31)), (1, .int bq)] := hl
  refine lv_iload_n hx hb dX7_sizes_0 rfl (lv_at hl 1 rfl) ?_
  refine lv_sipush (v := -1023) hx hb dX7_sizes_1 (by decide) ?_
  refine lv_iand hx hb dX7_sizes_4 ?_
  refine lv_if_ne (tgt := 20) hx hb dX7_sizes_5 (by decide) (fun h5 => ?_) (fun h5 => ?_)
  · skip
    refine lv_bipush (v := -2) hx hb dX7_sizes_20 (by decide) ?_
    have hK : szK bq = false := dB_f.mpr (fun e8 => h5 (sz_and (dB_t.mp e8.1) e8.2.1))
    exact zreti hF hB () (by rw [if_neg (by rw [hK]; decide)]) (by rw [hK] <;> rfl) (rfl) dX7_sizes_22 hQ
  · skip
    refine lv_iload_n hx hb dX7_sizes_8 rfl (lv_at hl 1 rfl) ?_
    refine lv_if_eq (tgt := 20) hx hb dX7_sizes_9 (by decide) (fun h9 => ?_) (fun h9 => ?_)
    · skip
      refine lv_bipush (v := -2) hx hb dX7_sizes_20 (by decide) ?_
      have hK : szK bq = false := dB_f.mpr (fun e8 => by rw [h9] at e8; exact absurd (dB_t.mp e8.2.2) (by decide))
      exact zreti hF hB () (by rw [if_neg (by rw [hK]; decide)]) (by rw [hK] <;> rfl) (rfl) dX7_sizes_22 hQ
    · skip
      refine lv_iload_n hx hb dX7_sizes_12 rfl (lv_at hl 1 rfl) ?_
      refine zSi zm_X7_160 hF hB (c_J6_bitCount l D ka kb bq ) [] rfl (by decide) [] (fun _ => rfl) rfl rfl ⟨Nat.le_of_ble_eq_true rfl, Nat.le_of_ble_eq_true rfl⟩ rfl hl.1 (Nat.le_of_ble_eq_true rfl) ⟨Nat.le_refl _, Nat.le_refl _⟩ dX7_sizes_13 ?_
      clear hB
      try clear locs
      try clear H
      intro r1 u1 H locs hp hB
      obtain rfl : r1 = bc6 bq := hp
      replace hB : zB D A s ([((bd 31), .inr (7, [.ref (bd 0), .ref (bd 1), .ref (na 6), .ref (na 7), .ref (bd 2), .ref (bd 3), .ref (bd 4), .ref (bd 5), .ref (bd 6)])), ((bd 2), .inr (3, [.int lu, .ref (bd 7), .ref (bd 8), .ref (bd 9), .ref (bd 10), .ref (bd 11), .int sz9, .int re9]))]) H locs := hB
      refine lv_iconst (v := 3) hx hb dX7_sizes_16 (by decide) ?_
      refine lv_icmp_le (tgt := 23) hx hb dX7_sizes_17 (by decide) (fun h17 => ?_) (fun h17 => ?_)
      · skip
        have hK : szK bq = true := sz_ok h5 h9 (by have e6 := (i32_le_i _ _).mp h17; rw [sz_bc h5, show (3 : Int32).toInt = 3 from rfl] at e6; exact e6)
        refine lv_aload_n hx hb dX7_sizes_23 rfl (lv_at hl 0 rfl) ?_
        refine zget zf_X7_33 hF hB 0 rfl rfl dX7_sizes_24 ?_
        refine zVi zm_X7_165 hF hB (c_X3_sizeBits l D ka kb bd lu sz9 re9 ) [1] rfl (by decide) [(bd 2)] (fun _ => rfl) rfl 1 3 rfl rfl rfl ⟨Nat.le_of_ble_eq_true rfl, Nat.le_of_ble_eq_true rfl⟩ rfl hl.1 (Nat.le_of_ble_eq_true rfl) ⟨Nat.le_refl _, Nat.le_refl _⟩ dX7_sizes_27 ?_
        clear hB
        try clear locs
        try clear H
        intro r2 u2 H locs hp hB
        have e9 : sz9 = r2 := hp.symm
        subst e9
        replace hB : zB D A s ([((bd 31), .inr (7, [.ref (bd 0), .ref (bd 1), .ref (na 6), .ref (na 7), .ref (bd 2), .ref (bd 3), .ref (bd 4), .ref (bd 5), .ref (bd 6)])), ((bd 2), .inr (3, [.int lu, .ref (bd 7), .ref (bd 8), .ref (bd 9), .ref (bd 10), .ref (bd 11), .int sz9, .int re9]))]) H locs := hB
        refine lv_istore_n (lv' := [(2, .int sz9), (0, .ref (bd 31)), (1, .int bq)]) hx hb dX7_sizes_30 rfl hl (by decide) rfl ?_
        clear hl
        clear ls
        intro ls hl
        refine lv_aload_n hx hb dX7_sizes_31 rfl (lv_at hl 1 rfl) ?_
        refine zget zf_X7_33 hF hB 0 rfl rfl dX7_sizes_32 ?_
        refine lv_iload_n hx hb dX7_sizes_35 rfl (lv_at hl 2 rfl) ?_
        refine zVv zm_X7_168 hF hB (c_X3_tellSizes l D ka kb bd lu sz9 re9 bq ) [1] rfl (by decide) [(bd 2)] (fun _ => rfl) rfl 1 3 rfl rfl rfl ⟨Nat.le_of_ble_eq_true rfl, Nat.le_of_ble_eq_true rfl⟩ rfl hl.1 (Nat.le_of_ble_eq_true rfl) ⟨Nat.le_refl _, Nat.le_refl _⟩ dX7_sizes_36 ?_
        clear hB
        try clear locs
        try clear H
        intro u3 H locs hp hB
        replace hB : zB D A s ([((bd 31), .inr (7, [.ref (bd 0), .ref (bd 1), .ref (na 6), .ref (na 7), .ref (bd 2), .ref (bd 3), .ref (bd 4), .ref (bd 5), .ref (bd 6)])), ((bd 2), .inr (3, [.int lu, .ref (bd 7), .ref (bd 8), .ref (bd 9), .ref (bd 10), .ref (bd 11), .int bq, .int re9]))]) H locs := hB
        refine lv_iload_n hx hb dX7_sizes_39 rfl (lv_at hl 0 rfl) ?_
        exact zreti hF hB () (by rw [if_pos hK]) (by rw [hK] <;> rfl) (rfl) dX7_sizes_40 hQ
      · skip
        refine lv_bipush (v := -2) hx hb dX7_sizes_20 (by decide) ?_
        have hK : szK bq = false := dB_f.mpr (fun e8 => by have e7 := dB_t.mp e8.2.2; have e6 := mt (i32_le_i _ _).mpr h17; rw [sz_bc h5, show (3 : Int32).toInt = 3 from rfl] at e6; omega)
        exact zreti hF hB () (by rw [if_neg (by rw [hK]; decide)]) (by rw [hK] <;> rfl) (rfl) dX7_sizes_22 hQ

set_option maxHeartbeats 4000000 in
set_option maxRecDepth 100000 in
theorem c_X7_quiet (l : Launch) (D : va_G) (ka : Nat → ClassId) (kb : Nat → Nat) (bd : Nat → Nat) (na : Nat → Nat) (o : Bool) (cnt : Int32) (opb : Int32) (rch : Int32) (wnt : Int32) (bc : Int32) (bw : Int64) (br : Int64) (sz9 : Int32) (re9 : Int32) (L : Nat) (mo : Nat → Int32) (an : Nat → Int32) (pl : Nat → Int32) (ho : Nat → Int32) (N : Nat → N5) (pq : Int32) (hok : okL L mo an pl) (hoh : okH ho) (hre : 0 ≤ re9.toInt ∧ re9.toInt ≤ 99) : zI l D ka kb yX7_quiet cX7_quiet 2 .int 5 123 [.ref (bd 31), .int pq] ([((bd 31), .inr (7, [.ref (bd 0), .ref (bd 1), .ref (na 6), .ref (na 7), .ref (bd 2), .ref (bd 3), .ref (bd 4), .ref (bd 5), .ref (bd 6)])), ((bd 4), .inr (4, [.ref (bd 18), .ref (bd 19), .int cnt, .int opb, .int rch, .int wnt, .ref (bd 20), .ref (bd 21), .ref (bd 22), .int bc, .ref (bd 23), .ref (bd 24), .long bw, .long br])), ((bd 18), .inr (2, [.int (bI o), .ref (na 31), .ref (na 32), .ref (na 33)])), ((bd 20), .inl (ka 3, 5, .inr (.inr (.inr (.inr (nR na 34)))))), ((bd 2), .inr (3, [.int (nI L), .ref (bd 7), .ref (bd 8), .ref (bd 9), .ref (bd 10), .ref (bd 11), .int sz9, .int re9])), ((bd 7), .inl (ka 0, 8, .inl mo)), ((bd 8), .inl (ka 0, 8, .inl an)), ((bd 9), .inl (ka 0, 8, .inl pl)), ((bd 10), .inl (ka 0, 24, .inl ho))] ++ nP na N) (fun (r : Int32) (u : (Nat → N5) × Bool) => r = (if inI pq 2 = true then bI (quB (pulI (aN pq) L mo an pl ho) re9.toInt) else -2) ∧ (∀ k9, k9 ≠ 34 → u.1 k9 = N k9)) (fun (u : (Nat → N5) × Bool) => [((bd 31), .inr (7, [.ref (bd 0), .ref (bd 1), .ref (na 6), .ref (na 7), .ref (bd 2), .ref (bd 3), .ref (bd 4), .ref (bd 5), .ref (bd 6)])), ((bd 4), .inr (4, [.ref (bd 18), .ref (bd 19), .int cnt, .int opb, .int rch, .int wnt, .ref (bd 20), .ref (bd 21), .ref (bd 22), .int bc, .ref (bd 23), .ref (bd 24), .long bw, .long br])), ((bd 18), .inr (2, [.int (bI u.2), .ref (na 31), .ref (na 32), .ref (na 33)])), ((bd 20), .inl (ka 3, 5, .inr (.inr (.inr (.inr (nR na 34)))))), ((bd 2), .inr (3, [.int (nI L), .ref (bd 7), .ref (bd 8), .ref (bd 9), .ref (bd 10), .ref (bd 11), .int sz9, .int re9])), ((bd 7), .inl (ka 0, 8, .inl mo)), ((bd 8), .inl (ka 0, 8, .inl an)), ((bd 9), .inl (ka 0, 8, .inl pl)), ((bd 10), .inl (ka 0, 24, .inl ho))] ++ nP na u.1) := by
  refine zI.mk RX7 (by decide +kernel) rfl (Nat.le_of_ble_eq_true rfl) ?_
  intro p e s m below meth c A ls args Q hQ hx hb hF hB hl
  replace hl : lv_has ls 2 [(0, .ref (bd 31)), (1, .int pq)] := hl
  refine lv_iload_n hx hb dX7_quiet_0 rfl (lv_at hl 1 rfl) ?_
  refine lv_iconst (v := 2) hx hb dX7_quiet_1 (by decide) ?_
  refine zSi zm_X7_65 hF hB (c_X7_isOutside l D ka kb pq 2 (by decide)) [] rfl (by decide) [] (fun _ => rfl) rfl rfl ⟨Nat.le_of_ble_eq_true rfl, Nat.le_of_ble_eq_true rfl⟩ rfl hl.1 (Nat.le_of_ble_eq_true rfl) ⟨Nat.le_refl _, Nat.le_refl _⟩ dX7_quiet_2 ?_
  clear hB
  try clear locs
  try clear H
  intro r1 u1 H locs hp hB
  obtain rfl : r1 = bI (!(inI pq 2)) := hp
  replace hB : zB D A s ([((bd 31), .inr (7, [.ref (bd 0), .ref (bd 1), .ref (na 6), .ref (na 7), .ref (bd 2), .ref (bd 3), .ref (bd 4), .ref (bd 5), .ref (bd 6)])), ((bd 4), .inr (4, [.ref (bd 18), .ref (bd 19), .int cnt, .int opb, .int rch, .int wnt, .ref (bd 20), .ref (bd 21), .ref (bd 22), .int bc, .ref (bd 23), .ref (bd 24), .long bw, .long br])), ((bd 18), .inr (2, [.int (bI o), .ref (na 31), .ref (na 32), .ref (na 33)])), ((bd 20), .inl (ka 3, 5, .inr (.inr (.inr (.inr (nR na 34)))))), ((bd 2), .inr (3, [.int (nI L), .ref (bd 7), .ref (bd 8), .ref (bd 9), .ref (bd 10), .ref (bd 11), .int sz9, .int re9])), ((bd 7), .inl (ka 0, 8, .inl mo)), ((bd 8), .inl (ka 0, 8, .inl an)), ((bd 9), .inl (ka 0, 8, .inl pl)), ((bd 10), .inl (ka 0, 24, .inl ho))] ++ nP na N) H locs := hB
  refine lv_if_eq (tgt := 11) hx hb dX7_quiet_5 (by decide) (fun h5 => ?_) (fun h5 => ?_)
  · skip
    replace h5 := (b9_f h5)
    obtain ⟨pg, hpg2, hpg3⟩ := inI_of h5 (by decide)
    subst hpg3
    have rpg : aN (nI pg) = pg := aNn hpg2 (by decide)
    have hpg1 : inI (nI pg) 2 = true := h5
    refine lv_aload_n hx hb dX7_quiet_11 rfl (lv_at hl 0 rfl) ?_
    refine zget zf_X7_47 hF hB 0 rfl rfl dX7_quiet_12 ?_
    refine lv_aload_n hx hb dX7_quiet_15 rfl (lv_at hl 0 rfl) ?_
    refine zget zf_X7_33 hF hB 0 rfl rfl dX7_quiet_16 ?_
    refine lv_iload_n hx hb dX7_quiet_19 rfl (lv_at hl 1 rfl) ?_
    refine zVi zm_X7_181 hF hB (c_X4_isQuiet l D ka kb bd o cnt opb rch wnt bc bw br sz9 re9 L mo an pl ho na N pg (hpg2) (hok) (hoh) (hre)) ([1, 2, 3, 4, 5, 6, 7, 8] ++ npr 9) (zsel_pool rfl rfl) (va_nd_pool rfl rfl) ([(bd 4), (bd 18), (bd 20), (bd 2), (bd 7), (bd 8), (bd 9), (bd 10)] ++ nA na) (fun _ => zad_pool rfl) (zad_pool rfl) 1 4 rfl rfl rfl ⟨Nat.le_of_ble_eq_true rfl, Nat.le_of_ble_eq_true rfl⟩ rfl hl.1 (Nat.le_of_ble_eq_true rfl) ⟨Nat.le_refl _, Nat.le_refl _⟩ dX7_quiet_20 ?_
    clear hB
    try clear locs
    try clear H
    intro r2 u2 H locs hp hB
    obtain ⟨o92, rfl⟩ : ∃ z, z = u2 := ⟨_, rfl⟩
    have hp2 : r2 = bI (quB (pulI pg L mo an pl ho) re9.toInt) := hp
    have HPP := hp2
    replace hB : zB D A s ([((bd 31), .inr (7, [.ref (bd 0), .ref (bd 1), .ref (na 6), .ref (na 7), .ref (bd 2), .ref (bd 3), .ref (bd 4), .ref (bd 5), .ref (bd 6)])), ((bd 4), .inr (4, [.ref (bd 18), .ref (bd 19), .int cnt, .int opb, .int rch, .int wnt, .ref (bd 20), .ref (bd 21), .ref (bd 22), .int bc, .ref (bd 23), .ref (bd 24), .long bw, .long br])), ((bd 18), .inr (2, [.int (bI o92), .ref (na 31), .ref (na 32), .ref (na 33)])), ((bd 20), .inl (ka 3, 5, .inr (.inr (.inr (.inr (nR na 34)))))), ((bd 2), .inr (3, [.int (nI L), .ref (bd 7), .ref (bd 8), .ref (bd 9), .ref (bd 10), .ref (bd 11), .int sz9, .int re9])), ((bd 7), .inl (ka 0, 8, .inl mo)), ((bd 8), .inl (ka 0, 8, .inl an)), ((bd 9), .inl (ka 0, 8, .inl pl)), ((bd 10), .inl (ka 0, 24, .inl ho))] ++ nP na (upN N 34 (p20N (pulI pg L mo an pl ho)))) H locs := zB_pool hB rfl rfl rfl rfl
    have hIQ := HPP
    refine lv_if_eq (tgt := 30) hx hb dX7_quiet_23 (by decide) (fun h23 => ?_) (fun h23 => ?_)
    · skip
      refine lv_iconst (v := 0) hx hb dX7_quiet_30 (by decide) ?_
      exact zreti hF hB (upN N 34 (p20N (pulI pg L mo an pl ho)), (o92)) (⟨by rw [if_pos hpg1, rpg]; exact bI_0 (bI_eq0 (hIQ.symm.trans h23)), fun k9 h9 => upN_ne h9⟩) (rfl) (rfl) dX7_quiet_31 hQ
    · skip
      refine lv_iconst (v := 1) hx hb dX7_quiet_26 (by decide) ?_
      refine lv_goto (tgt := 31) hx hb dX7_quiet_27 (by decide) ?_
      exact zreti hF hB (upN N 34 (p20N (pulI pg L mo an pl ho)), (o92)) (⟨by rw [if_pos hpg1, rpg]; exact bI_1 (bI_ne0 (fun e9 => h23 (hIQ.trans e9))), fun k9 h9 => upN_ne h9⟩) (rfl) (rfl) dX7_quiet_31 hQ
  · skip
    replace h5 := (b9_t h5)
    refine lv_bipush (v := -2) hx hb dX7_quiet_8 (by decide) ?_
    exact zreti hF hB (N, o) (⟨by rw [if_neg (by rw [h5]; decide)], fun _ _ => rfl⟩) (rfl) (rfl) dX7_quiet_10 hQ

set_option maxHeartbeats 4000000 in
set_option maxRecDepth 100000 in
theorem c_X7_bearing (l : Launch) (D : va_G) (ka : Nat → ClassId) (kb : Nat → Nat) (bd : Nat → Nat) (na : Nat → Nat) (st : Nat → Int32) (kp : Nat → Bool) (bq : Int32) (pq : Int32) (wq : Int32) (vq : Int32)  : zI l D ka kb yX7_bearing cX7_bearing 6 .int 2 45 [.ref (bd 31), .int bq, .int pq, .int wq, .int vq] ([((bd 31), .inr (7, [.ref (bd 0), .ref (bd 1), .ref (na 6), .ref (na 7), .ref (bd 2), .ref (bd 3), .ref (bd 4), .ref (bd 5), .ref (bd 6)])), ((bd 3), .inr (0, [.ref (bd 12), .ref (bd 13), .ref (bd 14), .ref (bd 15), .ref (bd 16), .ref (bd 17), .ref (na 21), .ref (na 22), .ref (na 23), .ref (na 24)])), ((bd 13), .inl (ka 0, 8, .inl st)), ((bd 14), .inl (ka 2, 3, .inl (kI kp)))]) (fun (r : Int32) (_ : Unit) => r = if beK bq pq wq vq = true then st (2 * (2 * aN bq + aN pq) + aN wq) else -2) (fun (_ : Unit) => [((bd 31), .inr (7, [.ref (bd 0), .ref (bd 1), .ref (na 6), .ref (na 7), .ref (bd 2), .ref (bd 3), .ref (bd 4), .ref (bd 5), .ref (bd 6)])), ((bd 3), .inr (0, [.ref (bd 12), .ref (bd 13), .ref (bd 14), .ref (bd 15), .ref (bd 16), .ref (bd 17), .ref (na 21), .ref (na 22), .ref (na 23), .ref (na 24)])), ((bd 13), .inl (ka 0, 8, .inl (if beK bq pq wq vq = true then upd st (2 * (2 * aN bq + aN pq) + aN wq) vq else st))), ((bd 14), .inl (ka 2, 3, .inl (kI (if beK bq pq wq vq = true then fgB kp 3 else kp))))]) := by
  refine zI.mk RX7 (by decide +kernel) rfl (Nat.le_of_ble_eq_true rfl) ?_
  intro p e s m below meth c A ls args Q hQ hx hb hF hB hl
  replace hl : lv_has ls 6 [(0, .ref (bd 31)), (1, .int bq), (2, .int pq), (3, .int wq), (4, .int vq)] := hl
  refine lv_iload_n hx hb dX7_bearing_0 rfl (lv_at hl 1 rfl) ?_
  refine lv_iconst (v := 2) hx hb dX7_bearing_1 (by decide) ?_
  refine zSi zm_X7_65 hF hB (c_X7_isOutside l D ka kb bq 2 (by decide)) [] rfl (by decide) [] (fun _ => rfl) rfl rfl ⟨Nat.le_of_ble_eq_true rfl, Nat.le_of_ble_eq_true rfl⟩ rfl hl.1 (Nat.le_of_ble_eq_true rfl) ⟨Nat.le_refl _, Nat.le_refl _⟩ dX7_bearing_2 ?_
  clear hB
  try clear locs
  try clear H
  intro r1 u1 H locs hp hB
  obtain rfl : r1 = bI (!(inI bq 2)) := hp
  replace hB : zB D A s ([((bd 31), .inr (7, [.ref (bd 0), .ref (bd 1), .ref (na 6), .ref (na 7), .ref (bd 2), .ref (bd 3), .ref (bd 4), .ref (bd 5), .ref (bd 6)])), ((bd 3), .inr (0, [.ref (bd 12), .ref (bd 13), .ref (bd 14), .ref (bd 15), .ref (bd 16), .ref (bd 17), .ref (na 21), .ref (na 22), .ref (na 23), .ref (na 24)])), ((bd 13), .inl (ka 0, 8, .inl st)), ((bd 14), .inl (ka 2, 3, .inl (kI kp)))]) H locs := hB
  refine lv_if_ne (tgt := 43) hx hb dX7_bearing_5 (by decide) (fun h5 => ?_) (fun h5 => ?_)
  · skip
    replace h5 := (b9_t h5)
    refine lv_bipush (v := -2) hx hb dX7_bearing_43 (by decide) ?_
    have hK : beK bq pq wq vq = false := dB_f.mpr (fun e8 => absurd (h5.symm.trans e8.1) (by decide))
    exact zreti hF hB () (by rw [if_neg (by rw [hK]; decide)]) (by rw [hK] <;> rfl) (rfl) dX7_bearing_45 hQ
  · skip
    replace h5 := (b9_f h5)
    obtain ⟨bg, hbg2, hbg3⟩ := inI_of h5 (by decide)
    subst hbg3
    have rbg : aN (nI bg) = bg := aNn hbg2 (by decide)
    have hbg1 : inI (nI bg) 2 = true := h5
    refine lv_iload_n hx hb dX7_bearing_8 rfl (lv_at hl 2 rfl) ?_
    refine lv_iconst (v := 2) hx hb dX7_bearing_9 (by decide) ?_
    refine zSi zm_X7_65 hF hB (c_X7_isOutside l D ka kb pq 2 (by decide)) [] rfl (by decide) [] (fun _ => rfl) rfl rfl ⟨Nat.le_of_ble_eq_true rfl, Nat.le_of_ble_eq_true rfl⟩ rfl hl.1 (Nat.le_of_ble_eq_true rfl) ⟨Nat.le_refl _, Nat.le_refl _⟩ dX7_bearing_10 ?_
    clear hB
    try clear locs
    try clear H
    intro r2 u2 H locs hp hB
    obtain rfl : r2 = bI (!(inI pq 2)) := hp
    replace hB : zB D A s ([((bd 31), .inr (7, [.ref (bd 0), .ref (bd 1), .ref (na 6), .ref (na 7), .ref (bd 2), .ref (bd 3), .ref (bd 4), .ref (bd 5), .ref (bd 6)])), ((bd 3), .inr (0, [.ref (bd 12), .ref (bd 13), .ref (bd 14), .ref (bd 15), .ref (bd 16), .ref (bd 17), .ref (na 21), .ref (na 22), .ref (na 23), .ref (na 24)])), ((bd 13), .inl (ka 0, 8, .inl st)), ((bd 14), .inl (ka 2, 3, .inl (kI kp)))]) H locs := hB
    refine lv_if_ne (tgt := 43) hx hb dX7_bearing_13 (by decide) (fun h13 => ?_) (fun h13 => ?_)
    · skip
      replace h13 := (b9_t h13)
      refine lv_bipush (v := -2) hx hb dX7_bearing_43 (by decide) ?_
      have hK : beK (nI bg) pq wq vq = false := dB_f.mpr (fun e8 => absurd (h13.symm.trans e8.2.1) (by decide))
      exact zreti hF hB () (by rw [if_neg (by rw [hK]; decide)]) (by rw [hK] <;> rfl) (rfl) dX7_bearing_45 hQ
    · skip
      replace h13 := (b9_f h13)
      obtain ⟨pg, hpg2, hpg3⟩ := inI_of h13 (by decide)
      subst hpg3
      have rpg : aN (nI pg) = pg := aNn hpg2 (by decide)
      have hpg1 : inI (nI pg) 2 = true := h13
      refine lv_iload_n hx hb dX7_bearing_16 rfl (lv_at hl 3 rfl) ?_
      refine lv_iconst (v := 2) hx hb dX7_bearing_17 (by decide) ?_
      refine zSi zm_X7_65 hF hB (c_X7_isOutside l D ka kb wq 2 (by decide)) [] rfl (by decide) [] (fun _ => rfl) rfl rfl ⟨Nat.le_of_ble_eq_true rfl, Nat.le_of_ble_eq_true rfl⟩ rfl hl.1 (Nat.le_of_ble_eq_true rfl) ⟨Nat.le_refl _, Nat.le_refl _⟩ dX7_bearing_18 ?_
      clear hB
      try clear locs
      try clear H
      intro r3 u3 H locs hp hB
      obtain rfl : r3 = bI (!(inI wq 2)) := hp
      replace hB : zB D A s ([((bd 31), .inr (7, [.ref (bd 0), .ref (bd 1), .ref (na 6), .ref (na 7), .ref (bd 2), .ref (bd 3), .ref (bd 4), .ref (bd 5), .ref (bd 6)])), ((bd 3), .inr (0, [.ref (bd 12), .ref (bd 13), .ref (bd 14), .ref (bd 15), .ref (bd 16), .ref (bd 17), .ref (na 21), .ref (na 22), .ref (na 23), .ref (na 24)])), ((bd 13), .inl (ka 0, 8, .inl st)), ((bd 14), .inl (ka 2, 3, .inl (kI kp)))]) H locs := hB
      refine lv_if_ne (tgt := 43) hx hb dX7_bearing_21 (by decide) (fun h21 => ?_) (fun h21 => ?_)
      · skip
        replace h21 := (b9_t h21)
        refine lv_bipush (v := -2) hx hb dX7_bearing_43 (by decide) ?_
        have hK : beK (nI bg) (nI pg) wq vq = false := dB_f.mpr (fun e8 => absurd (h21.symm.trans e8.2.2.1) (by decide))
        exact zreti hF hB () (by rw [if_neg (by rw [hK]; decide)]) (by rw [hK] <;> rfl) (rfl) dX7_bearing_45 hQ
      · skip
        replace h21 := (b9_f h21)
        obtain ⟨wg, hwg2, hwg3⟩ := inI_of h21 (by decide)
        subst hwg3
        have rwg : aN (nI wg) = wg := aNn hwg2 (by decide)
        have hwg1 : inI (nI wg) 2 = true := h21
        refine lv_iload hx hb dX7_bearing_24 (lv_at hl 4 rfl) ?_
        refine lv_iload_n hx hb dX7_bearing_26 rfl (lv_at hl 3 rfl) ?_
        refine lv_if_ne (tgt := 35) hx hb dX7_bearing_27 (by decide) (fun h27 => ?_) (fun h27 => ?_)
        · skip
          have hlm : (if aN (nI wg) = 0 then (9 : Int) else 11) = 11 := by rw [rwg, if_neg (fun e8 => h27 (by rw [e8]; rfl))]
          refine lv_bipush (v := 12) hx hb dX7_bearing_35 (by decide) ?_
          refine zSi zm_X7_65 hF hB (c_X7_isOutside l D ka kb vq 12 (by decide)) [] rfl (by decide) [] (fun _ => rfl) rfl rfl ⟨Nat.le_of_ble_eq_true rfl, Nat.le_of_ble_eq_true rfl⟩ rfl hl.1 (Nat.le_of_ble_eq_true rfl) ⟨Nat.le_refl _, Nat.le_refl _⟩ dX7_bearing_37 ?_
          clear hB
          try clear locs
          try clear H
          intro r4 u4 H locs hp hB
          obtain rfl : r4 = bI (!(inI vq 12)) := hp
          replace hB : zB D A s ([((bd 31), .inr (7, [.ref (bd 0), .ref (bd 1), .ref (na 6), .ref (na 7), .ref (bd 2), .ref (bd 3), .ref (bd 4), .ref (bd 5), .ref (bd 6)])), ((bd 3), .inr (0, [.ref (bd 12), .ref (bd 13), .ref (bd 14), .ref (bd 15), .ref (bd 16), .ref (bd 17), .ref (na 21), .ref (na 22), .ref (na 23), .ref (na 24)])), ((bd 13), .inl (ka 0, 8, .inl st)), ((bd 14), .inl (ka 2, 3, .inl (kI kp)))]) H locs := hB
          refine lv_if_eq (tgt := 46) hx hb dX7_bearing_40 (by decide) (fun h40 => ?_) (fun h40 => ?_)
          · skip
            replace h40 := (b9_f h40)
            have hK : beK (nI bg) (nI pg) (nI wg) vq = true := dB_t.mpr ⟨hbg1, hpg1, hwg1, dB_t.mpr (by rw [hlm]; have e6 := dB_t.mp h40; omega)⟩
            refine lv_aload_n hx hb dX7_bearing_46 rfl (lv_at hl 0 rfl) ?_
            refine zget zf_X7_40 hF hB 0 rfl rfl dX7_bearing_47 ?_
            refine lv_iload_n hx hb dX7_bearing_50 rfl (lv_at hl 1 rfl) ?_
            refine lv_iload_n hx hb dX7_bearing_51 rfl (lv_at hl 2 rfl) ?_
            refine lv_iload_n hx hb dX7_bearing_52 rfl (lv_at hl 3 rfl) ?_
            refine zVi zm_X7_185 hF hB (c_X0_setting l D ka kb bd na st bg pg wg (hbg2) (hpg2) (hwg2)) [1, 2] rfl (by decide) [(bd 3), (bd 13)] (fun _ => rfl) rfl 1 0 rfl rfl rfl ⟨Nat.le_of_ble_eq_true rfl, Nat.le_of_ble_eq_true rfl⟩ rfl hl.1 (Nat.le_of_ble_eq_true rfl) ⟨Nat.le_refl _, Nat.le_refl _⟩ dX7_bearing_53 ?_
            clear hB
            try clear locs
            try clear H
            intro r5 u5 H locs hp hB
            obtain rfl : r5 = st (2 * (2 * bg + pg) + wg) := hp
            replace hB : zB D A s ([((bd 31), .inr (7, [.ref (bd 0), .ref (bd 1), .ref (na 6), .ref (na 7), .ref (bd 2), .ref (bd 3), .ref (bd 4), .ref (bd 5), .ref (bd 6)])), ((bd 3), .inr (0, [.ref (bd 12), .ref (bd 13), .ref (bd 14), .ref (bd 15), .ref (bd 16), .ref (bd 17), .ref (na 21), .ref (na 22), .ref (na 23), .ref (na 24)])), ((bd 13), .inl (ka 0, 8, .inl st)), ((bd 14), .inl (ka 2, 3, .inl (kI kp)))]) H locs := hB
            refine lv_istore (lv' := [(5, .int (st (2 * (2 * bg + pg) + wg))), (0, .ref (bd 31)), (1, .int (nI bg)), (2, .int (nI pg)), (3, .int (nI wg)), (4, .int vq)]) hx hb dX7_bearing_56 hl (by decide) rfl ?_
            clear hl
            clear ls
            intro ls hl
            refine lv_aload_n hx hb dX7_bearing_58 rfl (lv_at hl 1 rfl) ?_
            refine zget zf_X7_40 hF hB 0 rfl rfl dX7_bearing_59 ?_
            refine lv_iload_n hx hb dX7_bearing_62 rfl (lv_at hl 2 rfl) ?_
            refine lv_iload_n hx hb dX7_bearing_63 rfl (lv_at hl 3 rfl) ?_
            refine lv_iload_n hx hb dX7_bearing_64 rfl (lv_at hl 4 rfl) ?_
            refine lv_iload hx hb dX7_bearing_65 (lv_at hl 5 rfl) ?_
            refine zVv zm_X7_189 hF hB (c_X0_tell l D ka kb bd na st kp bg pg wg vq (hbg2) (hpg2) (hwg2)) [1, 2, 3] rfl (by decide) [(bd 3), (bd 13), (bd 14)] (fun _ => rfl) rfl 1 0 rfl rfl rfl ⟨Nat.le_of_ble_eq_true rfl, Nat.le_of_ble_eq_true rfl⟩ rfl hl.1 (Nat.le_of_ble_eq_true rfl) ⟨Nat.le_refl _, Nat.le_refl _⟩ dX7_bearing_67 ?_
            clear hB
            try clear locs
            try clear H
            intro u6 H locs hp hB
            replace hB : zB D A s ([((bd 31), .inr (7, [.ref (bd 0), .ref (bd 1), .ref (na 6), .ref (na 7), .ref (bd 2), .ref (bd 3), .ref (bd 4), .ref (bd 5), .ref (bd 6)])), ((bd 3), .inr (0, [.ref (bd 12), .ref (bd 13), .ref (bd 14), .ref (bd 15), .ref (bd 16), .ref (bd 17), .ref (na 21), .ref (na 22), .ref (na 23), .ref (na 24)])), ((bd 13), .inl (ka 0, 8, .inl (upd st (2 * (2 * bg + pg) + wg) vq))), ((bd 14), .inl (ka 2, 3, .inl (kI (fgB kp 3))))]) H locs := hB
            refine lv_iload hx hb dX7_bearing_70 (lv_at hl 0 rfl) ?_
            exact zreti hF hB () (by rw [if_pos hK, rbg, rpg, rwg]) (by rw [hK, rbg, rpg, rwg] <;> rfl) (rfl) dX7_bearing_72 hQ
          · skip
            replace h40 := (b9_t h40)
            refine lv_bipush (v := -2) hx hb dX7_bearing_43 (by decide) ?_
            have hK : beK (nI bg) (nI pg) (nI wg) vq = false := dB_f.mpr (fun e8 => by have e7 := dB_t.mp e8.2.2.2; rw [hlm] at e7; have e6 := dB_f.mp h40; omega)
            exact zreti hF hB () (by rw [if_neg (by rw [hK]; decide)]) (by rw [hK] <;> rfl) (rfl) dX7_bearing_45 hQ
        · skip
          have hlm : (if aN (nI wg) = 0 then (9 : Int) else 11) = 9 := by rw [rwg, if_pos ((nI_eq (b := 0) (by omega) (by decide)).mp h27)]
          refine lv_bipush (v := 10) hx hb dX7_bearing_30 (by decide) ?_
          refine lv_goto (tgt := 37) hx hb dX7_bearing_32 (by decide) ?_
          refine zSi zm_X7_65 hF hB (c_X7_isOutside l D ka kb vq 10 (by decide)) [] rfl (by decide) [] (fun _ => rfl) rfl rfl ⟨Nat.le_of_ble_eq_true rfl, Nat.le_of_ble_eq_true rfl⟩ rfl hl.1 (Nat.le_of_ble_eq_true rfl) ⟨Nat.le_refl _, Nat.le_refl _⟩ dX7_bearing_37 ?_
          clear hB
          try clear locs
          try clear H
          intro r7 u7 H locs hp hB
          obtain rfl : r7 = bI (!(inI vq 10)) := hp
          replace hB : zB D A s ([((bd 31), .inr (7, [.ref (bd 0), .ref (bd 1), .ref (na 6), .ref (na 7), .ref (bd 2), .ref (bd 3), .ref (bd 4), .ref (bd 5), .ref (bd 6)])), ((bd 3), .inr (0, [.ref (bd 12), .ref (bd 13), .ref (bd 14), .ref (bd 15), .ref (bd 16), .ref (bd 17), .ref (na 21), .ref (na 22), .ref (na 23), .ref (na 24)])), ((bd 13), .inl (ka 0, 8, .inl st)), ((bd 14), .inl (ka 2, 3, .inl (kI kp)))]) H locs := hB
          refine lv_if_eq (tgt := 46) hx hb dX7_bearing_40 (by decide) (fun h40 => ?_) (fun h40 => ?_)
          · skip
            replace h40 := (b9_f h40)
            have hK : beK (nI bg) (nI pg) (nI wg) vq = true := dB_t.mpr ⟨hbg1, hpg1, hwg1, dB_t.mpr (by rw [hlm]; have e6 := dB_t.mp h40; omega)⟩
            refine lv_aload_n hx hb dX7_bearing_46 rfl (lv_at hl 0 rfl) ?_
            refine zget zf_X7_40 hF hB 0 rfl rfl dX7_bearing_47 ?_
            refine lv_iload_n hx hb dX7_bearing_50 rfl (lv_at hl 1 rfl) ?_
            refine lv_iload_n hx hb dX7_bearing_51 rfl (lv_at hl 2 rfl) ?_
            refine lv_iload_n hx hb dX7_bearing_52 rfl (lv_at hl 3 rfl) ?_
            refine zVi zm_X7_185 hF hB (c_X0_setting l D ka kb bd na st bg pg wg (hbg2) (hpg2) (hwg2)) [1, 2] rfl (by decide) [(bd 3), (bd 13)] (fun _ => rfl) rfl 1 0 rfl rfl rfl ⟨Nat.le_of_ble_eq_true rfl, Nat.le_of_ble_eq_true rfl⟩ rfl hl.1 (Nat.le_of_ble_eq_true rfl) ⟨Nat.le_refl _, Nat.le_refl _⟩ dX7_bearing_53 ?_
            clear hB
            try clear locs
            try clear H
            intro r8 u8 H locs hp hB
            obtain rfl : r8 = st (2 * (2 * bg + pg) + wg) := hp
            replace hB : zB D A s ([((bd 31), .inr (7, [.ref (bd 0), .ref (bd 1), .ref (na 6), .ref (na 7), .ref (bd 2), .ref (bd 3), .ref (bd 4), .ref (bd 5), .ref (bd 6)])), ((bd 3), .inr (0, [.ref (bd 12), .ref (bd 13), .ref (bd 14), .ref (bd 15), .ref (bd 16), .ref (bd 17), .ref (na 21), .ref (na 22), .ref (na 23), .ref (na 24)])), ((bd 13), .inl (ka 0, 8, .inl st)), ((bd 14), .inl (ka 2, 3, .inl (kI kp)))]) H locs := hB
            refine lv_istore (lv' := [(5, .int (st (2 * (2 * bg + pg) + wg))), (0, .ref (bd 31)), (1, .int (nI bg)), (2, .int (nI pg)), (3, .int (nI wg)), (4, .int vq)]) hx hb dX7_bearing_56 hl (by decide) rfl ?_
            clear hl
            clear ls
            intro ls hl
            refine lv_aload_n hx hb dX7_bearing_58 rfl (lv_at hl 1 rfl) ?_
            refine zget zf_X7_40 hF hB 0 rfl rfl dX7_bearing_59 ?_
            refine lv_iload_n hx hb dX7_bearing_62 rfl (lv_at hl 2 rfl) ?_
            refine lv_iload_n hx hb dX7_bearing_63 rfl (lv_at hl 3 rfl) ?_
            refine lv_iload_n hx hb dX7_bearing_64 rfl (lv_at hl 4 rfl) ?_
            refine lv_iload hx hb dX7_bearing_65 (lv_at hl 5 rfl) ?_
            refine zVv zm_X7_189 hF hB (c_X0_tell l D ka kb bd na st kp bg pg wg vq (hbg2) (hpg2) (hwg2)) [1, 2, 3] rfl (by decide) [(bd 3), (bd 13), (bd 14)] (fun _ => rfl) rfl 1 0 rfl rfl rfl ⟨Nat.le_of_ble_eq_true rfl, Nat.le_of_ble_eq_true rfl⟩ rfl hl.1 (Nat.le_of_ble_eq_true rfl) ⟨Nat.le_refl _, Nat.le_refl _⟩ dX7_bearing_67 ?_
            clear hB
            try clear locs
            try clear H
            intro u9 H locs hp hB
            replace hB : zB D A s ([((bd 31), .inr (7, [.ref (bd 0), .ref (bd 1), .ref (na 6), .ref (na 7), .ref (bd 2), .ref (bd 3), .ref (bd 4), .ref (bd 5), .ref (bd 6)])), ((bd 3), .inr (0, [.ref (bd 12), .ref (bd 13), .ref (bd 14), .ref (bd 15), .ref (bd 16), .ref (bd 17), .ref (na 21), .ref (na 22), .ref (na 23), .ref (na 24)])), ((bd 13), .inl (ka 0, 8, .inl (upd st (2 * (2 * bg + pg) + wg) vq))), ((bd 14), .inl (ka 2, 3, .inl (kI (fgB kp 3))))]) H locs := hB
            refine lv_iload hx hb dX7_bearing_70 (lv_at hl 0 rfl) ?_
            exact zreti hF hB () (by rw [if_pos hK, rbg, rpg, rwg]) (by rw [hK, rbg, rpg, rwg] <;> rfl) (rfl) dX7_bearing_72 hQ
          · skip
            replace h40 := (b9_t h40)
            refine lv_bipush (v := -2) hx hb dX7_bearing_43 (by decide) ?_
            have hK : beK (nI bg) (nI pg) (nI wg) vq = false := dB_f.mpr (fun e8 => by have e7 := dB_t.mp e8.2.2.2; rw [hlm] at e7; have e6 := dB_f.mp h40; omega)
            exact zreti hF hB () (by rw [if_neg (by rw [hK]; decide)]) (by rw [hK] <;> rfl) (rfl) dX7_bearing_45 hQ

