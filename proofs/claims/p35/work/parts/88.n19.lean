theorem ktS_all {kp : Nat → Bool} (h : (3 : Int32) ≤ ktS kp 3) : ∀ k, k < 3 → kp k = true := by
  have e : ∀ a b c : Bool, (3 : Int32) ≤ 0 + bI a + bI b + bI c → a = true ∧ b = true ∧ c = true := by decide
  have h2 := e (kp 0) (kp 1) (kp 2) h
  intro k hk
  rcases (show k = 0 ∨ k = 1 ∨ k = 2 by omega) with rfl | rfl | rfl
  · exact h2.1
  · exact h2.2.1
  · exact h2.2.2
set_option maxHeartbeats 4000000 in
set_option maxRecDepth 100000 in
theorem c_X7_trial (l : Launch) (D : va_G) (ka : Nat → ClassId) (kb : Nat → Nat) (bd : Nat → Nat) (na : Nat → Nat) (o : Bool) (sz9 : Int32) (re9 : Int32) (L : Nat) (mo : Nat → Int32) (an : Nat → Int32) (pl : Nat → Int32) (ho : Nat → Int32) (st : Nat → Int32) (ga : Nat → Int32) (lg : Nat → Int32) (kp : Nat → Bool) (N : Nat → N5) (kq : Int32) (mq : Int32) (aq : Int32) (hok : okL L mo an pl) (hoh : okH ho) (hst : ∀ j, j < 4 → st (2 * j) = ga j ∧ st (2 * j + 1) = lg j) (hga : ∀ i, i < 4 → 0 ≤ (ga i).toInt ∧ (ga i).toInt ≤ 9) (hlg : ∀ i, i < 4 → ∃ l9, l9 < 12 ∧ lg i = nI l9) : zI l D ka kb yX7_trial cX7_trial 4 .int 7 224 [.ref (bd 31), .int kq, .int mq, .int aq] ([((bd 31), .inr (7, [.ref (bd 0), .ref (bd 1), .ref (na 6), .ref (na 7), .ref (bd 2), .ref (bd 3), .ref (bd 4), .ref (bd 5), .ref (bd 6)])), ((bd 3), .inr (0, [.ref (bd 12), .ref (bd 13), .ref (bd 14), .ref (bd 15), .ref (bd 16), .ref (bd 17), .ref (na 21), .ref (na 22), .ref (na 23), .ref (na 24)])), ((bd 12), .inr (2, [.int (bI o), .ref (na 28), .ref (na 29), .ref (na 30)])), ((bd 13), .inl (ka 0, 8, .inl st)), ((bd 16), .inl (ka 3, 3, .inr (.inr (.inr (.inr (nR na 14)))))), ((bd 15), .inl (ka 3, 6, .inr (.inr (.inr (.inr (nR na 8)))))), ((bd 14), .inl (ka 2, 3, .inl (kI kp))), ((bd 2), .inr (3, [.int (nI L), .ref (bd 7), .ref (bd 8), .ref (bd 9), .ref (bd 10), .ref (bd 11), .int sz9, .int re9])), ((bd 7), .inl (ka 0, 8, .inl mo)), ((bd 8), .inl (ka 0, 8, .inl an)), ((bd 9), .inl (ka 0, 8, .inl pl)), ((bd 10), .inl (ka 0, 24, .inl ho))] ++ nP na N) (fun (r : Int32) (u : (Nat → N5) × Bool) => r = (if trK kq mq aq = true then ktS (ktB kp (aN kq)) 3 else -2) ∧ (trK kq mq aq = false → u.1 = N) ∧ (trK kq mq aq = true → (∀ k9, k9 ≠ 21 → k9 ≠ 22 → k9 ≠ 8 + (2 * aN kq + 0) → k9 ≠ 8 + (2 * aN kq + 1) → (k9 = 14 + aN kq → aN kq = 0) → u.1 k9 = N k9) ∧ (∀ b, b < 2 → u.1 (8 + (2 * aN kq + b)) = rdT kq mq aq L mo an pl ho ga lg b) ∧ (aN kq ≠ 0 → u.1 (14 + aN kq) = wyN mq.toInt (aN aq)))) (fun (u : (Nat → N5) × Bool) => [((bd 31), .inr (7, [.ref (bd 0), .ref (bd 1), .ref (na 6), .ref (na 7), .ref (bd 2), .ref (bd 3), .ref (bd 4), .ref (bd 5), .ref (bd 6)])), ((bd 3), .inr (0, [.ref (bd 12), .ref (bd 13), .ref (bd 14), .ref (bd 15), .ref (bd 16), .ref (bd 17), .ref (na 21), .ref (na 22), .ref (na 23), .ref (na 24)])), ((bd 12), .inr (2, [.int (bI u.2), .ref (na 28), .ref (na 29), .ref (na 30)])), ((bd 13), .inl (ka 0, 8, .inl st)), ((bd 16), .inl (ka 3, 3, .inr (.inr (.inr (.inr (nR na 14)))))), ((bd 15), .inl (ka 3, 6, .inr (.inr (.inr (.inr (nR na 8)))))), ((bd 14), .inl (ka 2, 3, .inl (kI (if trK kq mq aq = true then ktB kp (aN kq) else kp)))), ((bd 2), .inr (3, [.int (nI L), .ref (bd 7), .ref (bd 8), .ref (bd 9), .ref (bd 10), .ref (bd 11), .int sz9, .int re9])), ((bd 7), .inl (ka 0, 8, .inl mo)), ((bd 8), .inl (ka 0, 8, .inl an)), ((bd 9), .inl (ka 0, 8, .inl pl)), ((bd 10), .inl (ka 0, 24, .inl ho))] ++ nP na u.1) := by
  refine zI.mk RX7 (by decide +kernel) rfl (Nat.le_of_ble_eq_true rfl) ?_
  intro p e s m below meth c A ls args Q hQ hx hb hF hB hl
  replace hl : lv_has ls 4 [(0, .ref (bd 31)), (1, .int kq), (2, .int mq), (3, .int aq)] := hl
  refine lv_iload_n hx hb dX7_trial_0 rfl (lv_at hl 1 rfl) ?_
  refine lv_iconst (v := 3) hx hb dX7_trial_1 (by decide) ?_
  refine zSi zm_X7_65 hF hB (c_X7_isOutside l D ka kb kq 3 (by decide)) [] rfl (by decide) [] (fun _ => rfl) rfl rfl ⟨Nat.le_of_ble_eq_true rfl, Nat.le_of_ble_eq_true rfl⟩ rfl hl.1 (Nat.le_of_ble_eq_true rfl) ⟨Nat.le_refl _, Nat.le_refl _⟩ dX7_trial_2 ?_
  clear hB
  try clear locs
  try clear H
  intro r1 u1 H locs hp hB
  obtain rfl : r1 = bI (!(inI kq 3)) := hp
  replace hB : zB D A s ([((bd 31), .inr (7, [.ref (bd 0), .ref (bd 1), .ref (na 6), .ref (na 7), .ref (bd 2), .ref (bd 3), .ref (bd 4), .ref (bd 5), .ref (bd 6)])), ((bd 3), .inr (0, [.ref (bd 12), .ref (bd 13), .ref (bd 14), .ref (bd 15), .ref (bd 16), .ref (bd 17), .ref (na 21), .ref (na 22), .ref (na 23), .ref (na 24)])), ((bd 12), .inr (2, [.int (bI o), .ref (na 28), .ref (na 29), .ref (na 30)])), ((bd 13), .inl (ka 0, 8, .inl st)), ((bd 16), .inl (ka 3, 3, .inr (.inr (.inr (.inr (nR na 14)))))), ((bd 15), .inl (ka 3, 6, .inr (.inr (.inr (.inr (nR na 8)))))), ((bd 14), .inl (ka 2, 3, .inl (kI kp))), ((bd 2), .inr (3, [.int (nI L), .ref (bd 7), .ref (bd 8), .ref (bd 9), .ref (bd 10), .ref (bd 11), .int sz9, .int re9])), ((bd 7), .inl (ka 0, 8, .inl mo)), ((bd 8), .inl (ka 0, 8, .inl an)), ((bd 9), .inl (ka 0, 8, .inl pl)), ((bd 10), .inl (ka 0, 24, .inl ho))] ++ nP na N) H locs := hB
  refine lv_if_ne (tgt := 28) hx hb dX7_trial_5 (by decide) (fun h5 => ?_) (fun h5 => ?_)
  · skip
    replace h5 := (b9_t h5)
    refine lv_bipush (v := -2) hx hb dX7_trial_28 (by decide) ?_
    have hK : trK kq mq aq = false := dB_f.mpr (fun e8 => absurd (h5.symm.trans e8.1) (by decide))
    exact zreti hF hB (N, o) (⟨by rw [if_neg (by rw [hK]; decide)], fun _ => rfl, fun e8 => absurd (hK.symm.trans e8) (by decide)⟩) (by rw [hK] <;> rfl) (rfl) dX7_trial_30 hQ
  · skip
    replace h5 := (b9_f h5)
    obtain ⟨kg, hkg2, hkg3⟩ := inI_of h5 (by decide)
    subst hkg3
    have rkg : aN (nI kg) = kg := aNn hkg2 (by decide)
    have hkg1 : inI (nI kg) 3 = true := h5
    refine lv_iload_n hx hb dX7_trial_8 rfl (lv_at hl 1 rfl) ?_
    refine lv_if_eq (tgt := 31) hx hb dX7_trial_9 (by decide) (fun h9 => ?_) (fun h9 => ?_)
    · skip
      refine lv_aload_n hx hb dX7_trial_31 rfl (lv_at hl 0 rfl) ?_
      refine zget zf_X7_40 hF hB 0 rfl rfl dX7_trial_32 ?_
      refine lv_aload_n hx hb dX7_trial_35 rfl (lv_at hl 0 rfl) ?_
      refine zget zf_X7_33 hF hB 0 rfl rfl dX7_trial_36 ?_
      refine lv_iload_n hx hb dX7_trial_39 rfl (lv_at hl 1 rfl) ?_
      refine lv_iload_n hx hb dX7_trial_40 rfl (lv_at hl 2 rfl) ?_
      refine lv_iload_n hx hb dX7_trial_41 rfl (lv_at hl 3 rfl) ?_
      have hz : nI kg = 0 := h9
      have hK : trK (nI kg) mq aq = true := dB_t.mpr ⟨hkg1, Or.inl hz⟩
      refine zVv zm_X7_193 hF hB (c_X0_runTrial l D ka kb bd na o sz9 re9 L mo an pl ho st ga lg kp N kg mq aq (hkg2) (fun e8 => absurd ((nI_eq (b := 0) (by omega) (by decide)).mp hz) e8) (hok) (hoh) (hst) (hga) (hlg)) ([1, 2, 3, 4, 5, 6, 7, 8, 9, 10, 11] ++ npr 12) (zsel_pool rfl rfl) (va_nd_pool rfl rfl) ([(bd 3), (bd 12), (bd 13), (bd 16), (bd 15), (bd 14), (bd 2), (bd 7), (bd 8), (bd 9), (bd 10)] ++ nA na) (fun _ => zad_pool rfl) (zad_pool rfl) 1 0 rfl rfl rfl ⟨Nat.le_of_ble_eq_true rfl, Nat.le_of_ble_eq_true rfl⟩ rfl hl.1 (Nat.le_of_ble_eq_true rfl) ⟨Nat.le_refl _, Nat.le_refl _⟩ dX7_trial_42 ?_
      clear hB
      try clear locs
      try clear H
      intro u2 H locs hp hB
      obtain ⟨N92, o92⟩ := u2
      have hp2 : (∀ k9, k9 ≠ 21 → k9 ≠ 22 → k9 ≠ 8 + (2 * kg + 0) → k9 ≠ 8 + (2 * kg + 1) → (k9 = 14 + kg → kg = 0) → N92 k9 = N k9) ∧ (∀ b, b < 2 → N92 (8 + (2 * kg + b)) = rdT (nI kg) mq aq L mo an pl ho ga lg b) ∧ (kg ≠ 0 → N92 (14 + kg) = wyN mq.toInt (aN aq)) := hp
      have HPP := hp2
      replace hB : zB D A s ([((bd 31), .inr (7, [.ref (bd 0), .ref (bd 1), .ref (na 6), .ref (na 7), .ref (bd 2), .ref (bd 3), .ref (bd 4), .ref (bd 5), .ref (bd 6)])), ((bd 3), .inr (0, [.ref (bd 12), .ref (bd 13), .ref (bd 14), .ref (bd 15), .ref (bd 16), .ref (bd 17), .ref (na 21), .ref (na 22), .ref (na 23), .ref (na 24)])), ((bd 12), .inr (2, [.int (bI o92), .ref (na 28), .ref (na 29), .ref (na 30)])), ((bd 13), .inl (ka 0, 8, .inl st)), ((bd 16), .inl (ka 3, 3, .inr (.inr (.inr (.inr (nR na 14)))))), ((bd 15), .inl (ka 3, 6, .inr (.inr (.inr (.inr (nR na 8)))))), ((bd 14), .inl (ka 2, 3, .inl (kI (ktB kp kg)))), ((bd 2), .inr (3, [.int (nI L), .ref (bd 7), .ref (bd 8), .ref (bd 9), .ref (bd 10), .ref (bd 11), .int sz9, .int re9])), ((bd 7), .inl (ka 0, 8, .inl mo)), ((bd 8), .inl (ka 0, 8, .inl an)), ((bd 9), .inl (ka 0, 8, .inl pl)), ((bd 10), .inl (ka 0, 24, .inl ho))] ++ nP na N92) H locs := zB_pool hB rfl rfl rfl rfl
      have hRT := HPP
      refine lv_aload_n hx hb dX7_trial_45 rfl (lv_at hl 0 rfl) ?_
      refine zget zf_X7_40 hF hB 0 rfl rfl dX7_trial_46 ?_
      refine zVi zm_X7_197 hF hB (c_X0_keptTrials l D ka kb bd na (ktB kp kg) ) [1, 6] rfl (by decide) [(bd 3), (bd 14)] (fun _ => rfl) rfl 1 0 rfl rfl rfl ⟨Nat.le_of_ble_eq_true rfl, Nat.le_of_ble_eq_true rfl⟩ rfl hl.1 (Nat.le_of_ble_eq_true rfl) ⟨Nat.le_refl _, Nat.le_refl _⟩ dX7_trial_49 ?_
      clear hB
      try clear locs
      try clear H
      intro r3 u3 H locs hp hB
      obtain rfl : r3 = ktS (ktB kp kg) 3 := hp
      replace hB : zB D A s ([((bd 31), .inr (7, [.ref (bd 0), .ref (bd 1), .ref (na 6), .ref (na 7), .ref (bd 2), .ref (bd 3), .ref (bd 4), .ref (bd 5), .ref (bd 6)])), ((bd 3), .inr (0, [.ref (bd 12), .ref (bd 13), .ref (bd 14), .ref (bd 15), .ref (bd 16), .ref (bd 17), .ref (na 21), .ref (na 22), .ref (na 23), .ref (na 24)])), ((bd 12), .inr (2, [.int (bI o92), .ref (na 28), .ref (na 29), .ref (na 30)])), ((bd 13), .inl (ka 0, 8, .inl st)), ((bd 16), .inl (ka 3, 3, .inr (.inr (.inr (.inr (nR na 14)))))), ((bd 15), .inl (ka 3, 6, .inr (.inr (.inr (.inr (nR na 8)))))), ((bd 14), .inl (ka 2, 3, .inl (kI (ktB kp kg)))), ((bd 2), .inr (3, [.int (nI L), .ref (bd 7), .ref (bd 8), .ref (bd 9), .ref (bd 10), .ref (bd 11), .int sz9, .int re9])), ((bd 7), .inl (ka 0, 8, .inl mo)), ((bd 8), .inl (ka 0, 8, .inl an)), ((bd 9), .inl (ka 0, 8, .inl pl)), ((bd 10), .inl (ka 0, 24, .inl ho))] ++ nP na N92) H locs := hB
      exact zreti hF hB (N92, (o92)) (⟨by rw [if_pos hK, rkg], fun e8 => absurd (hK.symm.trans e8) (by decide), fun _ => by rw [rkg]; exact hRT⟩) (by rw [hK, rkg] <;> rfl) (rfl) dX7_trial_52 hQ
    · skip
      refine lv_iload_n hx hb dX7_trial_12 rfl (lv_at hl 2 rfl) ?_
      refine zSi zm_X7_123 hF hB (c_X7_isNoMoment l D ka kb mq ) [] rfl (by decide) [] (fun _ => rfl) rfl rfl ⟨Nat.le_of_ble_eq_true rfl, Nat.le_of_ble_eq_true rfl⟩ rfl hl.1 (Nat.le_of_ble_eq_true rfl) ⟨Nat.le_refl _, Nat.le_refl _⟩ dX7_trial_13 ?_
      clear hB
      try clear locs
      try clear H
      intro r4 u4 H locs hp hB
      obtain rfl : r4 = bI (!(inM mq)) := hp
      replace hB : zB D A s ([((bd 31), .inr (7, [.ref (bd 0), .ref (bd 1), .ref (na 6), .ref (na 7), .ref (bd 2), .ref (bd 3), .ref (bd 4), .ref (bd 5), .ref (bd 6)])), ((bd 3), .inr (0, [.ref (bd 12), .ref (bd 13), .ref (bd 14), .ref (bd 15), .ref (bd 16), .ref (bd 17), .ref (na 21), .ref (na 22), .ref (na 23), .ref (na 24)])), ((bd 12), .inr (2, [.int (bI o), .ref (na 28), .ref (na 29), .ref (na 30)])), ((bd 13), .inl (ka 0, 8, .inl st)), ((bd 16), .inl (ka 3, 3, .inr (.inr (.inr (.inr (nR na 14)))))), ((bd 15), .inl (ka 3, 6, .inr (.inr (.inr (.inr (nR na 8)))))), ((bd 14), .inl (ka 2, 3, .inl (kI kp))), ((bd 2), .inr (3, [.int (nI L), .ref (bd 7), .ref (bd 8), .ref (bd 9), .ref (bd 10), .ref (bd 11), .int sz9, .int re9])), ((bd 7), .inl (ka 0, 8, .inl mo)), ((bd 8), .inl (ka 0, 8, .inl an)), ((bd 9), .inl (ka 0, 8, .inl pl)), ((bd 10), .inl (ka 0, 24, .inl ho))] ++ nP na N) H locs := hB
      refine lv_if_ne (tgt := 28) hx hb dX7_trial_16 (by decide) (fun h16 => ?_) (fun h16 => ?_)
      · skip
        replace h16 := (b9_t h16)
        refine lv_bipush (v := -2) hx hb dX7_trial_28 (by decide) ?_
        have hK : trK (nI kg) mq aq = false := dB_f.mpr (fun e8 => e8.2.elim h9 (fun e7 => absurd (h16.symm.trans e7.1) (by decide)))
        exact zreti hF hB (N, o) (⟨by rw [if_neg (by rw [hK]; decide)], fun _ => rfl, fun e8 => absurd (hK.symm.trans e8) (by decide)⟩) (by rw [hK] <;> rfl) (rfl) dX7_trial_30 hQ
      · skip
        replace h16 := (b9_f h16)
        refine lv_iload_n hx hb dX7_trial_19 rfl (lv_at hl 3 rfl) ?_
        refine lv_bipush (v := 12) hx hb dX7_trial_20 (by decide) ?_
        refine zSi zm_X7_65 hF hB (c_X7_isOutside l D ka kb aq 12 (by decide)) [] rfl (by decide) [] (fun _ => rfl) rfl rfl ⟨Nat.le_of_ble_eq_true rfl, Nat.le_of_ble_eq_true rfl⟩ rfl hl.1 (Nat.le_of_ble_eq_true rfl) ⟨Nat.le_refl _, Nat.le_refl _⟩ dX7_trial_22 ?_
        clear hB
        try clear locs
        try clear H
        intro r5 u5 H locs hp hB
        obtain rfl : r5 = bI (!(inI aq 12)) := hp
        replace hB : zB D A s ([((bd 31), .inr (7, [.ref (bd 0), .ref (bd 1), .ref (na 6), .ref (na 7), .ref (bd 2), .ref (bd 3), .ref (bd 4), .ref (bd 5), .ref (bd 6)])), ((bd 3), .inr (0, [.ref (bd 12), .ref (bd 13), .ref (bd 14), .ref (bd 15), .ref (bd 16), .ref (bd 17), .ref (na 21), .ref (na 22), .ref (na 23), .ref (na 24)])), ((bd 12), .inr (2, [.int (bI o), .ref (na 28), .ref (na 29), .ref (na 30)])), ((bd 13), .inl (ka 0, 8, .inl st)), ((bd 16), .inl (ka 3, 3, .inr (.inr (.inr (.inr (nR na 14)))))), ((bd 15), .inl (ka 3, 6, .inr (.inr (.inr (.inr (nR na 8)))))), ((bd 14), .inl (ka 2, 3, .inl (kI kp))), ((bd 2), .inr (3, [.int (nI L), .ref (bd 7), .ref (bd 8), .ref (bd 9), .ref (bd 10), .ref (bd 11), .int sz9, .int re9])), ((bd 7), .inl (ka 0, 8, .inl mo)), ((bd 8), .inl (ka 0, 8, .inl an)), ((bd 9), .inl (ka 0, 8, .inl pl)), ((bd 10), .inl (ka 0, 24, .inl ho))] ++ nP na N) H locs := hB
        refine lv_if_eq (tgt := 31) hx hb dX7_trial_25 (by decide) (fun h25 => ?_) (fun h25 => ?_)
        · skip
          replace h25 := (b9_f h25)
          refine lv_aload_n hx hb dX7_trial_31 rfl (lv_at hl 0 rfl) ?_
          refine zget zf_X7_40 hF hB 0 rfl rfl dX7_trial_32 ?_
          refine lv_aload_n hx hb dX7_trial_35 rfl (lv_at hl 0 rfl) ?_
          refine zget zf_X7_33 hF hB 0 rfl rfl dX7_trial_36 ?_
          refine lv_iload_n hx hb dX7_trial_39 rfl (lv_at hl 1 rfl) ?_
          refine lv_iload_n hx hb dX7_trial_40 rfl (lv_at hl 2 rfl) ?_
          refine lv_iload_n hx hb dX7_trial_41 rfl (lv_at hl 3 rfl) ?_
          have hK : trK (nI kg) mq aq = true := dB_t.mpr ⟨hkg1, Or.inr ⟨h16, h25⟩⟩
          refine zVv zm_X7_193 hF hB (c_X0_runTrial l D ka kb bd na o sz9 re9 L mo an pl ho st ga lg kp N kg mq aq (hkg2) (fun e8 => ⟨h16, h25⟩) (hok) (hoh) (hst) (hga) (hlg)) ([1, 2, 3, 4, 5, 6, 7, 8, 9, 10, 11] ++ npr 12) (zsel_pool rfl rfl) (va_nd_pool rfl rfl) ([(bd 3), (bd 12), (bd 13), (bd 16), (bd 15), (bd 14), (bd 2), (bd 7), (bd 8), (bd 9), (bd 10)] ++ nA na) (fun _ => zad_pool rfl) (zad_pool rfl) 1 0 rfl rfl rfl ⟨Nat.le_of_ble_eq_true rfl, Nat.le_of_ble_eq_true rfl⟩ rfl hl.1 (Nat.le_of_ble_eq_true rfl) ⟨Nat.le_refl _, Nat.le_refl _⟩ dX7_trial_42 ?_
          clear hB
          try clear locs
          try clear H
          intro u6 H locs hp hB
          obtain ⟨N96, o96⟩ := u6
          have hp6 : (∀ k9, k9 ≠ 21 → k9 ≠ 22 → k9 ≠ 8 + (2 * kg + 0) → k9 ≠ 8 + (2 * kg + 1) → (k9 = 14 + kg → kg = 0) → N96 k9 = N k9) ∧ (∀ b, b < 2 → N96 (8 + (2 * kg + b)) = rdT (nI kg) mq aq L mo an pl ho ga lg b) ∧ (kg ≠ 0 → N96 (14 + kg) = wyN mq.toInt (aN aq)) := hp
          have HPP := hp6
          replace hB : zB D A s ([((bd 31), .inr (7, [.ref (bd 0), .ref (bd 1), .ref (na 6), .ref (na 7), .ref (bd 2), .ref (bd 3), .ref (bd 4), .ref (bd 5), .ref (bd 6)])), ((bd 3), .inr (0, [.ref (bd 12), .ref (bd 13), .ref (bd 14), .ref (bd 15), .ref (bd 16), .ref (bd 17), .ref (na 21), .ref (na 22), .ref (na 23), .ref (na 24)])), ((bd 12), .inr (2, [.int (bI o96), .ref (na 28), .ref (na 29), .ref (na 30)])), ((bd 13), .inl (ka 0, 8, .inl st)), ((bd 16), .inl (ka 3, 3, .inr (.inr (.inr (.inr (nR na 14)))))), ((bd 15), .inl (ka 3, 6, .inr (.inr (.inr (.inr (nR na 8)))))), ((bd 14), .inl (ka 2, 3, .inl (kI (ktB kp kg)))), ((bd 2), .inr (3, [.int (nI L), .ref (bd 7), .ref (bd 8), .ref (bd 9), .ref (bd 10), .ref (bd 11), .int sz9, .int re9])), ((bd 7), .inl (ka 0, 8, .inl mo)), ((bd 8), .inl (ka 0, 8, .inl an)), ((bd 9), .inl (ka 0, 8, .inl pl)), ((bd 10), .inl (ka 0, 24, .inl ho))] ++ nP na N96) H locs := zB_pool hB rfl rfl rfl rfl
          have hRT := HPP
          refine lv_aload_n hx hb dX7_trial_45 rfl (lv_at hl 0 rfl) ?_
          refine zget zf_X7_40 hF hB 0 rfl rfl dX7_trial_46 ?_
          refine zVi zm_X7_197 hF hB (c_X0_keptTrials l D ka kb bd na (ktB kp kg) ) [1, 6] rfl (by decide) [(bd 3), (bd 14)] (fun _ => rfl) rfl 1 0 rfl rfl rfl ⟨Nat.le_of_ble_eq_true rfl, Nat.le_of_ble_eq_true rfl⟩ rfl hl.1 (Nat.le_of_ble_eq_true rfl) ⟨Nat.le_refl _, Nat.le_refl _⟩ dX7_trial_49 ?_
          clear hB
          try clear locs
          try clear H
          intro r7 u7 H locs hp hB
          obtain rfl : r7 = ktS (ktB kp kg) 3 := hp
          replace hB : zB D A s ([((bd 31), .inr (7, [.ref (bd 0), .ref (bd 1), .ref (na 6), .ref (na 7), .ref (bd 2), .ref (bd 3), .ref (bd 4), .ref (bd 5), .ref (bd 6)])), ((bd 3), .inr (0, [.ref (bd 12), .ref (bd 13), .ref (bd 14), .ref (bd 15), .ref (bd 16), .ref (bd 17), .ref (na 21), .ref (na 22), .ref (na 23), .ref (na 24)])), ((bd 12), .inr (2, [.int (bI o96), .ref (na 28), .ref (na 29), .ref (na 30)])), ((bd 13), .inl (ka 0, 8, .inl st)), ((bd 16), .inl (ka 3, 3, .inr (.inr (.inr (.inr (nR na 14)))))), ((bd 15), .inl (ka 3, 6, .inr (.inr (.inr (.inr (nR na 8)))))), ((bd 14), .inl (ka 2, 3, .inl (kI (ktB kp kg)))), ((bd 2), .inr (3, [.int (nI L), .ref (bd 7), .ref (bd 8), .ref (bd 9), .ref (bd 10), .ref (bd 11), .int sz9, .int re9])), ((bd 7), .inl (ka 0, 8, .inl mo)), ((bd 8), .inl (ka 0, 8, .inl an)), ((bd 9), .inl (ka 0, 8, .inl pl)), ((bd 10), .inl (ka 0, 24, .inl ho))] ++ nP na N96) H locs := hB
          exact zreti hF hB (N96, (o96)) (⟨by rw [if_pos hK, rkg], fun e8 => absurd (hK.symm.trans e8) (by decide), fun _ => by rw [rkg]; exact hRT⟩) (by rw [hK, rkg] <;> rfl) (rfl) dX7_trial_52 hQ
        · skip
          replace h25 := (b9_t h25)
          refine lv_bipush (v := -2) hx hb dX7_trial_28 (by decide) ?_
          have hK : trK (nI kg) mq aq = false := dB_f.mpr (fun e8 => e8.2.elim h9 (fun e7 => absurd (h25.symm.trans e7.2) (by decide)))
          exact zreti hF hB (N, o) (⟨by rw [if_neg (by rw [hK]; decide)], fun _ => rfl, fun e8 => absurd (hK.symm.trans e8) (by decide)⟩) (by rw [hK] <;> rfl) (rfl) dX7_trial_30 hQ

set_option maxHeartbeats 4000000 in
set_option maxRecDepth 100000 in
theorem c_X7_found (l : Launch) (D : va_G) (ka : Nat → ClassId) (kb : Nat → Nat) (bd : Nat → Nat) (na : Nat → Nat) (o : Bool) (pm : Nat → Int32) (pa : Nat → Int32) (kp : Nat → Bool) (N : Nat → N5) (pq : Int32) (rq : Int32) (hdr : ∀ j, j < 6 → 0 < (N (8 + j)).2.2.2.2.toInt) (hwt : ∀ k, 1 ≤ k → k < 3 → kp k = true → N (14 + k) = wyN (pm k).toInt (aN (pa k))) (hpm : ∀ k, 1 ≤ k → k < 3 → kp k = true → (1 ≤ (pm k).toInt ∧ (pm k).toInt ≤ 99) ∧ aN (pa k) < 12) : zI l D ka kb yX7_found cX7_found 4 .int 8 247 [.ref (bd 31), .int pq, .int rq] ([((bd 31), .inr (7, [.ref (bd 0), .ref (bd 1), .ref (na 6), .ref (na 7), .ref (bd 2), .ref (bd 3), .ref (bd 4), .ref (bd 5), .ref (bd 6)])), ((bd 1), .inl (ka 3, 6, .inr (.inr (.inr (.inr (nR na 0)))))), ((bd 3), .inr (0, [.ref (bd 12), .ref (bd 13), .ref (bd 14), .ref (bd 15), .ref (bd 16), .ref (bd 17), .ref (na 21), .ref (na 22), .ref (na 23), .ref (na 24)])), ((bd 12), .inr (2, [.int (bI o), .ref (na 28), .ref (na 29), .ref (na 30)])), ((bd 15), .inl (ka 3, 6, .inr (.inr (.inr (.inr (nR na 8)))))), ((bd 16), .inl (ka 3, 3, .inr (.inr (.inr (.inr (nR na 14)))))), ((bd 17), .inl (ka 3, 4, .inr (.inr (.inr (.inr (nR na 17)))))), ((bd 14), .inl (ka 2, 3, .inl (kI kp)))] ++ nP na N) (fun (r : Int32) (u : (Nat → N5) × Bool) => r = (if foK pq rq = false then (-2 : Int32) else if ktS kp 3 < 3 then -3 else ubR (aN pq) (gC N) pm pa) ∧ (∀ k9, k9 < 17 → k9 ≠ 6 → u.1 k9 = if r = 1 ∧ k9 = aN rq then quoV (fnV pq (gC N) pm pa) (foD (gC N) pm pa) else N k9)) (fun (u : (Nat → N5) × Bool) => [((bd 31), .inr (7, [.ref (bd 0), .ref (bd 1), .ref (na 6), .ref (na 7), .ref (bd 2), .ref (bd 3), .ref (bd 4), .ref (bd 5), .ref (bd 6)])), ((bd 1), .inl (ka 3, 6, .inr (.inr (.inr (.inr (nR na 0)))))), ((bd 3), .inr (0, [.ref (bd 12), .ref (bd 13), .ref (bd 14), .ref (bd 15), .ref (bd 16), .ref (bd 17), .ref (na 21), .ref (na 22), .ref (na 23), .ref (na 24)])), ((bd 12), .inr (2, [.int (bI u.2), .ref (na 28), .ref (na 29), .ref (na 30)])), ((bd 15), .inl (ka 3, 6, .inr (.inr (.inr (.inr (nR na 8)))))), ((bd 16), .inl (ka 3, 3, .inr (.inr (.inr (.inr (nR na 14)))))), ((bd 17), .inl (ka 3, 4, .inr (.inr (.inr (.inr (nR na 17)))))), ((bd 14), .inl (ka 2, 3, .inl (kI kp)))] ++ nP na u.1) := by
  refine zI.mk RX7 (by decide +kernel) rfl (Nat.le_of_ble_eq_true rfl) ?_
  intro p e s m below meth c A ls args Q hQ hx hb hF hB hl
  replace hl : lv_has ls 4 [(0, .ref (bd 31)), (1, .int pq), (2, .int rq)] := hl
  refine lv_iload_n hx hb dX7_found_0 rfl (lv_at hl 1 rfl) ?_
  refine lv_iconst (v := 2) hx hb dX7_found_1 (by decide) ?_
  refine zSi zm_X7_65 hF hB (c_X7_isOutside l D ka kb pq 2 (by decide)) [] rfl (by decide) [] (fun _ => rfl) rfl rfl ⟨Nat.le_of_ble_eq_true rfl, Nat.le_of_ble_eq_true rfl⟩ rfl hl.1 (Nat.le_of_ble_eq_true rfl) ⟨Nat.le_refl _, Nat.le_refl _⟩ dX7_found_2 ?_
  clear hB
  try clear locs
  try clear H
  intro r1 u1 H locs hp hB
  obtain rfl : r1 = bI (!(inI pq 2)) := hp
  replace hB : zB D A s ([((bd 31), .inr (7, [.ref (bd 0), .ref (bd 1), .ref (na 6), .ref (na 7), .ref (bd 2), .ref (bd 3), .ref (bd 4), .ref (bd 5), .ref (bd 6)])), ((bd 1), .inl (ka 3, 6, .inr (.inr (.inr (.inr (nR na 0)))))), ((bd 3), .inr (0, [.ref (bd 12), .ref (bd 13), .ref (bd 14), .ref (bd 15), .ref (bd 16), .ref (bd 17), .ref (na 21), .ref (na 22), .ref (na 23), .ref (na 24)])), ((bd 12), .inr (2, [.int (bI o), .ref (na 28), .ref (na 29), .ref (na 30)])), ((bd 15), .inl (ka 3, 6, .inr (.inr (.inr (.inr (nR na 8)))))), ((bd 16), .inl (ka 3, 3, .inr (.inr (.inr (.inr (nR na 14)))))), ((bd 17), .inl (ka 3, 4, .inr (.inr (.inr (.inr (nR na 17)))))), ((bd 14), .inl (ka 2, 3, .inl (kI kp)))] ++ nP na N) H locs := hB
  refine lv_if_ne (tgt := 17) hx hb dX7_found_5 (by decide) (fun h5 => ?_) (fun h5 => ?_)
  · skip
    replace h5 := (b9_t h5)
    refine lv_bipush (v := -2) hx hb dX7_found_17 (by decide) ?_
    have hK : foK pq rq = false := dB_f.mpr (fun e8 => absurd (h5.symm.trans e8.1) (by decide))
    exact zreti hF hB (N, o) (⟨by rw [if_pos hK], fun _ _ _ => (if_neg (fun e8 => absurd e8.1 (by decide))).symm⟩) (rfl) (rfl) dX7_found_19 hQ
  · skip
    replace h5 := (b9_f h5)
    obtain ⟨pg, hpg2, hpg3⟩ := inI_of h5 (by decide)
    subst hpg3
    have rpg : aN (nI pg) = pg := aNn hpg2 (by decide)
    have hpg1 : inI (nI pg) 2 = true := h5
    refine lv_iload_n hx hb dX7_found_8 rfl (lv_at hl 2 rfl) ?_
    refine lv_bipush (v := 6) hx hb dX7_found_9 (by decide) ?_
    refine zSi zm_X7_65 hF hB (c_X7_isOutside l D ka kb rq 6 (by decide)) [] rfl (by decide) [] (fun _ => rfl) rfl rfl ⟨Nat.le_of_ble_eq_true rfl, Nat.le_of_ble_eq_true rfl⟩ rfl hl.1 (Nat.le_of_ble_eq_true rfl) ⟨Nat.le_refl _, Nat.le_refl _⟩ dX7_found_11 ?_
    clear hB
    try clear locs
    try clear H
    intro r2 u2 H locs hp hB
    obtain rfl : r2 = bI (!(inI rq 6)) := hp
    replace hB : zB D A s ([((bd 31), .inr (7, [.ref (bd 0), .ref (bd 1), .ref (na 6), .ref (na 7), .ref (bd 2), .ref (bd 3), .ref (bd 4), .ref (bd 5), .ref (bd 6)])), ((bd 1), .inl (ka 3, 6, .inr (.inr (.inr (.inr (nR na 0)))))), ((bd 3), .inr (0, [.ref (bd 12), .ref (bd 13), .ref (bd 14), .ref (bd 15), .ref (bd 16), .ref (bd 17), .ref (na 21), .ref (na 22), .ref (na 23), .ref (na 24)])), ((bd 12), .inr (2, [.int (bI o), .ref (na 28), .ref (na 29), .ref (na 30)])), ((bd 15), .inl (ka 3, 6, .inr (.inr (.inr (.inr (nR na 8)))))), ((bd 16), .inl (ka 3, 3, .inr (.inr (.inr (.inr (nR na 14)))))), ((bd 17), .inl (ka 3, 4, .inr (.inr (.inr (.inr (nR na 17)))))), ((bd 14), .inl (ka 2, 3, .inl (kI kp)))] ++ nP na N) H locs := hB
    refine lv_if_eq (tgt := 20) hx hb dX7_found_14 (by decide) (fun h14 => ?_) (fun h14 => ?_)
    · skip
      replace h14 := (b9_f h14)
      obtain ⟨rg, hrg2, hrg3⟩ := inI_of h14 (by decide)
      subst hrg3
      have rrg : aN (nI rg) = rg := aNn hrg2 (by decide)
      have hrg1 : inI (nI rg) 6 = true := h14
      have hK : foK (nI pg) (nI rg) = true := dB_t.mpr ⟨hpg1, hrg1⟩
      refine lv_aload_n hx hb dX7_found_20 rfl (lv_at hl 0 rfl) ?_
      refine zget zf_X7_40 hF hB 0 rfl rfl dX7_found_21 ?_
      refine zVi zm_X7_197 hF hB (c_X0_keptTrials l D ka kb bd na kp ) [2, 7] rfl (by decide) [(bd 3), (bd 14)] (fun _ => rfl) rfl 2 0 rfl rfl rfl ⟨Nat.le_of_ble_eq_true rfl, Nat.le_of_ble_eq_true rfl⟩ rfl hl.1 (Nat.le_of_ble_eq_true rfl) ⟨Nat.le_refl _, Nat.le_refl _⟩ dX7_found_24 ?_
      clear hB
      try clear locs
      try clear H
      intro r3 u3 H locs hp hB
      obtain rfl : r3 = ktS kp 3 := hp
      replace hB : zB D A s ([((bd 31), .inr (7, [.ref (bd 0), .ref (bd 1), .ref (na 6), .ref (na 7), .ref (bd 2), .ref (bd 3), .ref (bd 4), .ref (bd 5), .ref (bd 6)])), ((bd 1), .inl (ka 3, 6, .inr (.inr (.inr (.inr (nR na 0)))))), ((bd 3), .inr (0, [.ref (bd 12), .ref (bd 13), .ref (bd 14), .ref (bd 15), .ref (bd 16), .ref (bd 17), .ref (na 21), .ref (na 22), .ref (na 23), .ref (na 24)])), ((bd 12), .inr (2, [.int (bI o), .ref (na 28), .ref (na 29), .ref (na 30)])), ((bd 15), .inl (ka 3, 6, .inr (.inr (.inr (.inr (nR na 8)))))), ((bd 16), .inl (ka 3, 3, .inr (.inr (.inr (.inr (nR na 14)))))), ((bd 17), .inl (ka 3, 4, .inr (.inr (.inr (.inr (nR na 17)))))), ((bd 14), .inl (ka 2, 3, .inl (kI kp)))] ++ nP na N) H locs := hB
      refine lv_iconst (v := 3) hx hb dX7_found_27 (by decide) ?_
      refine lv_icmp_ge (tgt := 34) hx hb dX7_found_28 (by decide) (fun h28 => ?_) (fun h28 => ?_)
      · skip
        refine lv_aload_n hx hb dX7_found_34 rfl (lv_at hl 0 rfl) ?_
        refine zget zf_X7_40 hF hB 0 rfl rfl dX7_found_35 ?_
        refine lv_iload_n hx hb dX7_found_38 rfl (lv_at hl 1 rfl) ?_
        refine lv_aload_n hx hb dX7_found_39 rfl (lv_at hl 0 rfl) ?_
        refine zget zf_X7_23 hF hB 0 rfl rfl dX7_found_40 ?_
        refine zVi zm_X7_207 hF hB (c_X0_unbalance l D ka kb bd na o pm pa N pg (hpg2) (hdr) (fun k h1 h2 => hwt k h1 h2 (ktS_all h28 k h2)) (fun k h1 h2 => hpm k h1 h2 (ktS_all h28 k h2))) ([2, 3, 4, 5, 6] ++ npr 8) (zsel_pool rfl rfl) (va_nd_pool rfl rfl) ([(bd 3), (bd 12), (bd 15), (bd 16), (bd 17)] ++ nA na) (fun _ => zad_pool rfl) (zad_pool rfl) 2 0 rfl rfl rfl ⟨Nat.le_of_ble_eq_true rfl, Nat.le_of_ble_eq_true rfl⟩ rfl hl.1 (Nat.le_of_ble_eq_true rfl) ⟨Nat.le_refl _, Nat.le_refl _⟩ dX7_found_43 ?_
        clear hB
        try clear locs
        try clear H
        intro r4 u4 H locs hp hB
        obtain ⟨N94, o94⟩ := u4
        have hp4 : r4 = ubR pg (gC N) pm pa ∧ (∀ k9, k9 < 17 → k9 ≠ 6 → N94 k9 = N k9) ∧ (r4 = 1 → N94 6 = quoV (fnV (nI pg) (gC N) pm pa) (foD (gC N) pm pa)) := hp
        have HPP := hp4
        replace hB : zB D A s ([((bd 31), .inr (7, [.ref (bd 0), .ref (bd 1), .ref (na 6), .ref (na 7), .ref (bd 2), .ref (bd 3), .ref (bd 4), .ref (bd 5), .ref (bd 6)])), ((bd 1), .inl (ka 3, 6, .inr (.inr (.inr (.inr (nR na 0)))))), ((bd 3), .inr (0, [.ref (bd 12), .ref (bd 13), .ref (bd 14), .ref (bd 15), .ref (bd 16), .ref (bd 17), .ref (na 21), .ref (na 22), .ref (na 23), .ref (na 24)])), ((bd 12), .inr (2, [.int (bI o94), .ref (na 28), .ref (na 29), .ref (na 30)])), ((bd 15), .inl (ka 3, 6, .inr (.inr (.inr (.inr (nR na 8)))))), ((bd 16), .inl (ka 3, 3, .inr (.inr (.inr (.inr (nR na 14)))))), ((bd 17), .inl (ka 3, 4, .inr (.inr (.inr (.inr (nR na 17)))))), ((bd 14), .inl (ka 2, 3, .inl (kI kp)))] ++ nP na N94) H locs := zB_pool hB rfl rfl rfl rfl
        have hUB := HPP
        refine lv_istore_n (lv' := [(3, .int r4), (0, .ref (bd 31)), (1, .int (nI pg)), (2, .int (nI rg))]) hx hb dX7_found_46 rfl hl (by decide) rfl ?_
        clear hl
        clear ls
        intro ls hl
        refine lv_iload_n hx hb dX7_found_47 rfl (lv_at hl 0 rfl) ?_
        refine lv_iconst (v := 1) hx hb dX7_found_48 (by decide) ?_
        refine lv_icmp_ne (tgt := 65) hx hb dX7_found_49 (by decide) (fun h49 => ?_) (fun h49 => ?_)
        · skip
          refine lv_iload_n hx hb dX7_found_65 rfl (lv_at hl 0 rfl) ?_
          exact zreti hF hB (N94, (o94)) (⟨by rw [if_neg (by rw [hK]; decide), if_neg (Int32.not_lt.mpr h28), rpg]; exact hUB.1, fun k9 h17 h6 => by
            show N94 k9 = _
            rw [if_neg (fun e8 => h49 e8.1)]; exact hUB.2.1 k9 h17 h6⟩) (rfl) (rfl) dX7_found_66 hQ
        · skip
          refine lv_aload_n hx hb dX7_found_52 rfl (lv_at hl 1 rfl) ?_
          refine zget zf_X7_18 hF hB 0 rfl rfl dX7_found_53 ?_
          refine lv_iload_n hx hb dX7_found_56 rfl (lv_at hl 3 rfl) ?_
          refine zaald hF hB 1 rfl (t0 := 3) rfl rg (rfl) (by omega) (by decide) (r := na rg) (nR_0 _ _) dX7_found_57 ?_
          refine lv_aload_n hx hb dX7_found_58 rfl (lv_at hl 1 rfl) ?_
          refine zget zf_X7_23 hF hB 0 rfl rfl dX7_found_59 ?_
          refine zVv zm_X7_211 hF hB (c_X1_take l D ka kb na N94 rg 6 (by omega) (by decide)) ([] ++ npr 8) (zsel_pool rfl rfl) (va_nd_pool rfl rfl) ([] ++ nA na) (fun _ => zad_pool rfl) (zad_pool rfl) (8 + rg) 1 rfl (nP_atn rfl (by omega)) rfl ⟨Nat.le_of_ble_eq_true rfl, Nat.le_of_ble_eq_true rfl⟩ rfl hl.1 (Nat.le_of_ble_eq_true rfl) ⟨Nat.le_refl _, Nat.le_refl _⟩ dX7_found_62 ?_
          clear hB
          try clear locs
          try clear H
          intro u5 H locs hp hB
          replace hB : zB D A s ([((bd 31), .inr (7, [.ref (bd 0), .ref (bd 1), .ref (na 6), .ref (na 7), .ref (bd 2), .ref (bd 3), .ref (bd 4), .ref (bd 5), .ref (bd 6)])), ((bd 1), .inl (ka 3, 6, .inr (.inr (.inr (.inr (nR na 0)))))), ((bd 3), .inr (0, [.ref (bd 12), .ref (bd 13), .ref (bd 14), .ref (bd 15), .ref (bd 16), .ref (bd 17), .ref (na 21), .ref (na 22), .ref (na 23), .ref (na 24)])), ((bd 12), .inr (2, [.int (bI o94), .ref (na 28), .ref (na 29), .ref (na 30)])), ((bd 15), .inl (ka 3, 6, .inr (.inr (.inr (.inr (nR na 8)))))), ((bd 16), .inl (ka 3, 3, .inr (.inr (.inr (.inr (nR na 14)))))), ((bd 17), .inl (ka 3, 4, .inr (.inr (.inr (.inr (nR na 17)))))), ((bd 14), .inl (ka 2, 3, .inl (kI kp)))] ++ nP na (upN N94 rg (N94 6))) H locs := zB_pool hB rfl rfl rfl rfl
          refine lv_iload_n hx hb dX7_found_65 rfl (lv_at hl 0 rfl) ?_
          exact zreti hF hB (upN N94 rg (N94 6), (o94)) (⟨by rw [if_neg (by rw [hK]; decide), if_neg (Int32.not_lt.mpr h28), rpg]; exact hUB.1, fun k9 h17 h6 => by
            show (upN N94 rg (N94 6)) k9 = _
            by_cases e9 : k9 = rg
            · rw [if_pos ⟨h49, by rw [rrg]; exact e9⟩, e9, upN_eq]; exact hUB.2.2 h49
            · rw [if_neg (fun e8 => e9 (by rw [rrg] at e8; exact e8.2)), upN_ne e9]; exact hUB.2.1 k9 h17 h6⟩) (rfl) (rfl) dX7_found_66 hQ
      · skip
        refine lv_bipush (v := -3) hx hb dX7_found_31 (by decide) ?_
        exact zreti hF hB (N, o) (⟨by rw [if_neg (by rw [hK]; decide), if_pos (Int32.not_le.mp h28)], fun _ _ _ => (if_neg (fun e8 => absurd e8.1 (by decide))).symm⟩) (rfl) (rfl) dX7_found_33 hQ
    · skip
      replace h14 := (b9_t h14)
      refine lv_bipush (v := -2) hx hb dX7_found_17 (by decide) ?_
      have hK : foK (nI pg) rq = false := dB_f.mpr (fun e8 => absurd (h14.symm.trans e8.2) (by decide))
      exact zreti hF hB (N, o) (⟨by rw [if_pos hK], fun _ _ _ => (if_neg (fun e8 => absurd e8.1 (by decide))).symm⟩) (rfl) (rfl) dX7_found_19 hQ

set_option maxHeartbeats 4000000 in
set_option maxRecDepth 100000 in
theorem c_X7_effect (l : Launch) (D : va_G) (ka : Nat → ClassId) (kb : Nat → Nat) (bd : Nat → Nat) (na : Nat → Nat) (o : Bool) (pm : Nat → Int32) (pa : Nat → Int32) (kp : Nat → Bool) (N : Nat → N5) (pq : Int32) (bq : Int32) (rq : Int32) (hdr : ∀ j, j < 6 → 0 < (N (8 + j)).2.2.2.2.toInt) (hwt : ∀ k, 1 ≤ k → k < 3 → kp k = true → N (14 + k) = wyN (pm k).toInt (aN (pa k))) (hpm : ∀ k, 1 ≤ k → k < 3 → kp k = true → (1 ≤ (pm k).toInt ∧ (pm k).toInt ≤ 99) ∧ aN (pa k) < 12) : zI l D ka kb yX7_effect cX7_effect 4 .int 7 222 [.ref (bd 31), .int pq, .int bq, .int rq] ([((bd 31), .inr (7, [.ref (bd 0), .ref (bd 1), .ref (na 6), .ref (na 7), .ref (bd 2), .ref (bd 3), .ref (bd 4), .ref (bd 5), .ref (bd 6)])), ((bd 1), .inl (ka 3, 6, .inr (.inr (.inr (.inr (nR na 0)))))), ((bd 3), .inr (0, [.ref (bd 12), .ref (bd 13), .ref (bd 14), .ref (bd 15), .ref (bd 16), .ref (bd 17), .ref (na 21), .ref (na 22), .ref (na 23), .ref (na 24)])), ((bd 12), .inr (2, [.int (bI o), .ref (na 28), .ref (na 29), .ref (na 30)])), ((bd 15), .inl (ka 3, 6, .inr (.inr (.inr (.inr (nR na 8)))))), ((bd 16), .inl (ka 3, 3, .inr (.inr (.inr (.inr (nR na 14)))))), ((bd 17), .inl (ka 3, 4, .inr (.inr (.inr (.inr (nR na 17)))))), ((bd 14), .inl (ka 2, 3, .inl (kI kp)))] ++ nP na N) (fun (r : Int32) (u : (Nat → N5) × Bool) => r = (if exK pq bq rq = false then (-2 : Int32) else if ¬ (kp 0 = true ∧ kp (aN pq + 1) = true) then -3 else if efO (gC N) pm pa (aN pq) (aN bq) = true then -5 else 1) ∧ (∀ k9, k9 < 17 → k9 ≠ 6 → u.1 k9 = if r = 1 ∧ k9 = aN rq then efV (gC N) pm pa (aN pq) (aN bq) else N k9)) (fun (u : (Nat → N5) × Bool) => [((bd 31), .inr (7, [.ref (bd 0), .ref (bd 1), .ref (na 6), .ref (na 7), .ref (bd 2), .ref (bd 3), .ref (bd 4), .ref (bd 5), .ref (bd 6)])), ((bd 1), .inl (ka 3, 6, .inr (.inr (.inr (.inr (nR na 0)))))), ((bd 3), .inr (0, [.ref (bd 12), .ref (bd 13), .ref (bd 14), .ref (bd 15), .ref (bd 16), .ref (bd 17), .ref (na 21), .ref (na 22), .ref (na 23), .ref (na 24)])), ((bd 12), .inr (2, [.int (bI u.2), .ref (na 28), .ref (na 29), .ref (na 30)])), ((bd 15), .inl (ka 3, 6, .inr (.inr (.inr (.inr (nR na 8)))))), ((bd 16), .inl (ka 3, 3, .inr (.inr (.inr (.inr (nR na 14)))))), ((bd 17), .inl (ka 3, 4, .inr (.inr (.inr (.inr (nR na 17)))))), ((bd 14), .inl (ka 2, 3, .inl (kI kp)))] ++ nP na u.1) := by
  refine zI.mk RX7 (by decide +kernel) rfl (Nat.le_of_ble_eq_true rfl) ?_
  intro p e s m below meth c A ls args Q hQ hx hb hF hB hl
  replace hl : lv_has ls 4 [(0, .ref (bd 31)), (1, .int pq), (2, .int bq), (3, .int rq)] := hl
  refine lv_iload_n hx hb dX7_effect_0 rfl (lv_at hl 1 rfl) ?_
  refine lv_iconst (v := 2) hx hb dX7_effect_1 (by decide) ?_
  refine zSi zm_X7_65 hF hB (c_X7_isOutside l D ka kb pq 2 (by decide)) [] rfl (by decide) [] (fun _ => rfl) rfl rfl ⟨Nat.le_of_ble_eq_true rfl, Nat.le_of_ble_eq_true rfl⟩ rfl hl.1 (Nat.le_of_ble_eq_true rfl) ⟨Nat.le_refl _, Nat.le_refl _⟩ dX7_effect_2 ?_
  clear hB
  try clear locs
  try clear H
  intro r1 u1 H locs hp hB
  obtain rfl : r1 = bI (!(inI pq 2)) := hp
  replace hB : zB D A s ([((bd 31), .inr (7, [.ref (bd 0), .ref (bd 1), .ref (na 6), .ref (na 7), .ref (bd 2), .ref (bd 3), .ref (bd 4), .ref (bd 5), .ref (bd 6)])), ((bd 1), .inl (ka 3, 6, .inr (.inr (.inr (.inr (nR na 0)))))), ((bd 3), .inr (0, [.ref (bd 12), .ref (bd 13), .ref (bd 14), .ref (bd 15), .ref (bd 16), .ref (bd 17), .ref (na 21), .ref (na 22), .ref (na 23), .ref (na 24)])), ((bd 12), .inr (2, [.int (bI o), .ref (na 28), .ref (na 29), .ref (na 30)])), ((bd 15), .inl (ka 3, 6, .inr (.inr (.inr (.inr (nR na 8)))))), ((bd 16), .inl (ka 3, 3, .inr (.inr (.inr (.inr (nR na 14)))))), ((bd 17), .inl (ka 3, 4, .inr (.inr (.inr (.inr (nR na 17)))))), ((bd 14), .inl (ka 2, 3, .inl (kI kp)))] ++ nP na N) H locs := hB
  refine lv_if_ne (tgt := 25) hx hb dX7_effect_5 (by decide) (fun h5 => ?_) (fun h5 => ?_)
  · skip
    replace h5 := (b9_t h5)
    refine lv_bipush (v := -2) hx hb dX7_effect_25 (by decide) ?_
    have hK : exK pq bq rq = false := dB_f.mpr (fun e8 => absurd (h5.symm.trans e8.1) (by decide))
    exact zreti hF hB (N, o) (⟨by rw [if_pos hK], fun _ _ _ => (if_neg (fun e8 => absurd e8.1 (by decide))).symm⟩) (rfl) (rfl) dX7_effect_27 hQ
  · skip
    replace h5 := (b9_f h5)
    obtain ⟨pg, hpg2, hpg3⟩ := inI_of h5 (by decide)
    subst hpg3
    have rpg : aN (nI pg) = pg := aNn hpg2 (by decide)
    have hpg1 : inI (nI pg) 2 = true := h5
    refine lv_iload_n hx hb dX7_effect_8 rfl (lv_at hl 2 rfl) ?_
    refine lv_iconst (v := 2) hx hb dX7_effect_9 (by decide) ?_
    refine zSi zm_X7_65 hF hB (c_X7_isOutside l D ka kb bq 2 (by decide)) [] rfl (by decide) [] (fun _ => rfl) rfl rfl ⟨Nat.le_of_ble_eq_true rfl, Nat.le_of_ble_eq_true rfl⟩ rfl hl.1 (Nat.le_of_ble_eq_true rfl) ⟨Nat.le_refl _, Nat.le_refl _⟩ dX7_effect_10 ?_
    clear hB
    try clear locs
    try clear H
    intro r2 u2 H locs hp hB
    obtain rfl : r2 = bI (!(inI bq 2)) := hp
    replace hB : zB D A s ([((bd 31), .inr (7, [.ref (bd 0), .ref (bd 1), .ref (na 6), .ref (na 7), .ref (bd 2), .ref (bd 3), .ref (bd 4), .ref (bd 5), .ref (bd 6)])), ((bd 1), .inl (ka 3, 6, .inr (.inr (.inr (.inr (nR na 0)))))), ((bd 3), .inr (0, [.ref (bd 12), .ref (bd 13), .ref (bd 14), .ref (bd 15), .ref (bd 16), .ref (bd 17), .ref (na 21), .ref (na 22), .ref (na 23), .ref (na 24)])), ((bd 12), .inr (2, [.int (bI o), .ref (na 28), .ref (na 29), .ref (na 30)])), ((bd 15), .inl (ka 3, 6, .inr (.inr (.inr (.inr (nR na 8)))))), ((bd 16), .inl (ka 3, 3, .inr (.inr (.inr (.inr (nR na 14)))))), ((bd 17), .inl (ka 3, 4, .inr (.inr (.inr (.inr (nR na 17)))))), ((bd 14), .inl (ka 2, 3, .inl (kI kp)))] ++ nP na N) H locs := hB
    refine lv_if_ne (tgt := 25) hx hb dX7_effect_13 (by decide) (fun h13 => ?_) (fun h13 => ?_)
    · skip
      replace h13 := (b9_t h13)
      refine lv_bipush (v := -2) hx hb dX7_effect_25 (by decide) ?_
      have hK : exK (nI pg) bq rq = false := dB_f.mpr (fun e8 => absurd (h13.symm.trans e8.2.1) (by decide))
      exact zreti hF hB (N, o) (⟨by rw [if_pos hK], fun _ _ _ => (if_neg (fun e8 => absurd e8.1 (by decide))).symm⟩) (rfl) (rfl) dX7_effect_27 hQ
    · skip
      replace h13 := (b9_f h13)
      obtain ⟨bg, hbg2, hbg3⟩ := inI_of h13 (by decide)
      subst hbg3
      have rbg : aN (nI bg) = bg := aNn hbg2 (by decide)
      have hbg1 : inI (nI bg) 2 = true := h13
      refine lv_iload_n hx hb dX7_effect_16 rfl (lv_at hl 3 rfl) ?_
      refine lv_bipush (v := 6) hx hb dX7_effect_17 (by decide) ?_
      refine zSi zm_X7_65 hF hB (c_X7_isOutside l D ka kb rq 6 (by decide)) [] rfl (by decide) [] (fun _ => rfl) rfl rfl ⟨Nat.le_of_ble_eq_true rfl, Nat.le_of_ble_eq_true rfl⟩ rfl hl.1 (Nat.le_of_ble_eq_true rfl) ⟨Nat.le_refl _, Nat.le_refl _⟩ dX7_effect_19 ?_
      clear hB
      try clear locs
      try clear H
      intro r3 u3 H locs hp hB
      obtain rfl : r3 = bI (!(inI rq 6)) := hp
      replace hB : zB D A s ([((bd 31), .inr (7, [.ref (bd 0), .ref (bd 1), .ref (na 6), .ref (na 7), .ref (bd 2), .ref (bd 3), .ref (bd 4), .ref (bd 5), .ref (bd 6)])), ((bd 1), .inl (ka 3, 6, .inr (.inr (.inr (.inr (nR na 0)))))), ((bd 3), .inr (0, [.ref (bd 12), .ref (bd 13), .ref (bd 14), .ref (bd 15), .ref (bd 16), .ref (bd 17), .ref (na 21), .ref (na 22), .ref (na 23), .ref (na 24)])), ((bd 12), .inr (2, [.int (bI o), .ref (na 28), .ref (na 29), .ref (na 30)])), ((bd 15), .inl (ka 3, 6, .inr (.inr (.inr (.inr (nR na 8)))))), ((bd 16), .inl (ka 3, 3, .inr (.inr (.inr (.inr (nR na 14)))))), ((bd 17), .inl (ka 3, 4, .inr (.inr (.inr (.inr (nR na 17)))))), ((bd 14), .inl (ka 2, 3, .inl (kI kp)))] ++ nP na N) H locs := hB
      refine lv_if_eq (tgt := 28) hx hb dX7_effect_22 (by decide) (fun h22 => ?_) (fun h22 => ?_)
      · skip
        replace h22 := (b9_f h22)
        obtain ⟨rg, hrg2, hrg3⟩ := inI_of h22 (by decide)
        subst hrg3
        have rrg : aN (nI rg) = rg := aNn hrg2 (by decide)
        have hrg1 : inI (nI rg) 6 = true := h22
        have hK : exK (nI pg) (nI bg) (nI rg) = true := dB_t.mpr ⟨hpg1, hbg1, hrg1⟩
        refine lv_aload_n hx hb dX7_effect_28 rfl (lv_at hl 0 rfl) ?_
        refine zget zf_X7_40 hF hB 0 rfl rfl dX7_effect_29 ?_
        refine lv_iconst (v := 0) hx hb dX7_effect_32 (by decide) ?_
        refine zVi zm_X7_200 hF hB (c_X0_isKept l D ka kb bd na kp 0 (by decide)) [2, 7] rfl (by decide) [(bd 3), (bd 14)] (fun _ => rfl) rfl 2 0 rfl rfl rfl ⟨Nat.le_of_ble_eq_true rfl, Nat.le_of_ble_eq_true rfl⟩ rfl hl.1 (Nat.le_of_ble_eq_true rfl) ⟨Nat.le_refl _, Nat.le_refl _⟩ dX7_effect_33 ?_
        clear hB
        try clear locs
        try clear H
        intro r4 u4 H locs hp hB
        obtain rfl : r4 = bI (kp 0) := hp
        replace hB : zB D A s ([((bd 31), .inr (7, [.ref (bd 0), .ref (bd 1), .ref (na 6), .ref (na 7), .ref (bd 2), .ref (bd 3), .ref (bd 4), .ref (bd 5), .ref (bd 6)])), ((bd 1), .inl (ka 3, 6, .inr (.inr (.inr (.inr (nR na 0)))))), ((bd 3), .inr (0, [.ref (bd 12), .ref (bd 13), .ref (bd 14), .ref (bd 15), .ref (bd 16), .ref (bd 17), .ref (na 21), .ref (na 22), .ref (na 23), .ref (na 24)])), ((bd 12), .inr (2, [.int (bI o), .ref (na 28), .ref (na 29), .ref (na 30)])), ((bd 15), .inl (ka 3, 6, .inr (.inr (.inr (.inr (nR na 8)))))), ((bd 16), .inl (ka 3, 3, .inr (.inr (.inr (.inr (nR na 14)))))), ((bd 17), .inl (ka 3, 4, .inr (.inr (.inr (.inr (nR na 17)))))), ((bd 14), .inl (ka 2, 3, .inl (kI kp)))] ++ nP na N) H locs := hB
        refine lv_if_eq (tgt := 52) hx hb dX7_effect_36 (by decide) (fun h36 => ?_) (fun h36 => ?_)
        · skip
          refine lv_bipush (v := -3) hx hb dX7_effect_52 (by decide) ?_
          exact zreti hF hB (N, o) (⟨by rw [if_neg (by rw [hK]; decide), if_pos (fun e8 => absurd ((bI_eq0 h36).symm.trans e8.1) (by decide))], fun _ _ _ => (if_neg (fun e8 => absurd e8.1 (by decide))).symm⟩) (rfl) (rfl) dX7_effect_54 hQ
        · skip
          refine lv_aload_n hx hb dX7_effect_39 rfl (lv_at hl 0 rfl) ?_
          refine zget zf_X7_40 hF hB 0 rfl rfl dX7_effect_40 ?_
          refine lv_iload_n hx hb dX7_effect_43 rfl (lv_at hl 1 rfl) ?_
          refine lv_iconst (v := 1) hx hb dX7_effect_44 (by decide) ?_
          refine lv_iadd hx hb dX7_effect_45 ?_
          refine ztopi (y := nI (pg + 1)) (nI_add pg 1) ?_
          refine zVi zm_X7_200 hF hB (c_X0_isKept l D ka kb bd na kp (pg + 1) (by omega)) [2, 7] rfl (by decide) [(bd 3), (bd 14)] (fun _ => rfl) rfl 2 0 rfl rfl rfl ⟨Nat.le_of_ble_eq_true rfl, Nat.le_of_ble_eq_true rfl⟩ rfl hl.1 (Nat.le_of_ble_eq_true rfl) ⟨Nat.le_refl _, Nat.le_refl _⟩ dX7_effect_46 ?_
          clear hB
          try clear locs
          try clear H
          intro r5 u5 H locs hp hB
          obtain rfl : r5 = bI (kp (pg + 1)) := hp
          replace hB : zB D A s ([((bd 31), .inr (7, [.ref (bd 0), .ref (bd 1), .ref (na 6), .ref (na 7), .ref (bd 2), .ref (bd 3), .ref (bd 4), .ref (bd 5), .ref (bd 6)])), ((bd 1), .inl (ka 3, 6, .inr (.inr (.inr (.inr (nR na 0)))))), ((bd 3), .inr (0, [.ref (bd 12), .ref (bd 13), .ref (bd 14), .ref (bd 15), .ref (bd 16), .ref (bd 17), .ref (na 21), .ref (na 22), .ref (na 23), .ref (na 24)])), ((bd 12), .inr (2, [.int (bI o), .ref (na 28), .ref (na 29), .ref (na 30)])), ((bd 15), .inl (ka 3, 6, .inr (.inr (.inr (.inr (nR na 8)))))), ((bd 16), .inl (ka 3, 3, .inr (.inr (.inr (.inr (nR na 14)))))), ((bd 17), .inl (ka 3, 4, .inr (.inr (.inr (.inr (nR na 17)))))), ((bd 14), .inl (ka 2, 3, .inl (kI kp)))] ++ nP na N) H locs := hB
          refine lv_if_ne (tgt := 55) hx hb dX7_effect_49 (by decide) (fun h49 => ?_) (fun h49 => ?_)
          · skip
            refine lv_aload_n hx hb dX7_effect_55 rfl (lv_at hl 0 rfl) ?_
            refine zget zf_X7_40 hF hB 0 rfl rfl dX7_effect_56 ?_
            refine lv_iload_n hx hb dX7_effect_59 rfl (lv_at hl 1 rfl) ?_
            refine lv_iload_n hx hb dX7_effect_60 rfl (lv_at hl 2 rfl) ?_
            refine lv_aload_n hx hb dX7_effect_61 rfl (lv_at hl 0 rfl) ?_
            refine zget zf_X7_23 hF hB 0 rfl rfl dX7_effect_62 ?_
            refine zVi zm_X7_215 hF hB (c_X0_effectOf l D ka kb bd na o pm pa N pg bg 6 (hpg2) (hbg2) (Or.inl rfl) (hdr) (hwt (pg + 1) (by omega) (by omega) (bI_ne0 h49)) (hpm (pg + 1) (by omega) (by omega) (bI_ne0 h49))) ([2, 3, 4, 5] ++ npr 8) (zsel_pool rfl rfl) (va_nd_pool rfl rfl) ([(bd 3), (bd 12), (bd 15), (bd 16)] ++ nA na) (fun _ => zad_pool rfl) (zad_pool rfl) 2 0 rfl rfl rfl ⟨Nat.le_of_ble_eq_true rfl, Nat.le_of_ble_eq_true rfl⟩ rfl hl.1 (Nat.le_of_ble_eq_true rfl) ⟨Nat.le_refl _, Nat.le_refl _⟩ dX7_effect_65 ?_
            clear hB
            try clear locs
            try clear H
            intro r6 u6 H locs hp hB
            obtain ⟨N96, o96⟩ := u6
            have hp6 : r6 = bI (!(efO (gC N) pm pa pg bg)) ∧ (∀ k9, k9 ≠ 28 → k9 ≠ 29 → k9 ≠ 30 → k9 ≠ 6 → N96 k9 = N k9) ∧ (efO (gC N) pm pa pg bg = false → N96 6 = efV (gC N) pm pa pg bg) := hp
            have HPP := hp6
            replace hB : zB D A s ([((bd 31), .inr (7, [.ref (bd 0), .ref (bd 1), .ref (na 6), .ref (na 7), .ref (bd 2), .ref (bd 3), .ref (bd 4), .ref (bd 5), .ref (bd 6)])), ((bd 1), .inl (ka 3, 6, .inr (.inr (.inr (.inr (nR na 0)))))), ((bd 3), .inr (0, [.ref (bd 12), .ref (bd 13), .ref (bd 14), .ref (bd 15), .ref (bd 16), .ref (bd 17), .ref (na 21), .ref (na 22), .ref (na 23), .ref (na 24)])), ((bd 12), .inr (2, [.int (bI o96), .ref (na 28), .ref (na 29), .ref (na 30)])), ((bd 15), .inl (ka 3, 6, .inr (.inr (.inr (.inr (nR na 8)))))), ((bd 16), .inl (ka 3, 3, .inr (.inr (.inr (.inr (nR na 14)))))), ((bd 17), .inl (ka 3, 4, .inr (.inr (.inr (.inr (nR na 17)))))), ((bd 14), .inl (ka 2, 3, .inl (kI kp)))] ++ nP na N96) H locs := zB_pool hB rfl rfl rfl rfl
            have hEF := HPP
            refine lv_if_ne (tgt := 74) hx hb dX7_effect_68 (by decide) (fun h68 => ?_) (fun h68 => ?_)
            · skip
              have oE : efO (gC N) pm pa pg bg = false := b9_t (fun e9 => h68 (hEF.1.trans e9))
              refine lv_aload_n hx hb dX7_effect_74 rfl (lv_at hl 0 rfl) ?_
              refine zget zf_X7_18 hF hB 0 rfl rfl dX7_effect_75 ?_
              refine lv_iload_n hx hb dX7_effect_78 rfl (lv_at hl 3 rfl) ?_
              refine zaald hF hB 1 rfl (t0 := 3) rfl rg (rfl) (by omega) (by decide) (r := na rg) (nR_0 _ _) dX7_effect_79 ?_
              refine lv_aload_n hx hb dX7_effect_80 rfl (lv_at hl 0 rfl) ?_
              refine zget zf_X7_23 hF hB 0 rfl rfl dX7_effect_81 ?_
              refine zVv zm_X7_211 hF hB (c_X1_take l D ka kb na N96 rg 6 (by omega) (by decide)) ([] ++ npr 8) (zsel_pool rfl rfl) (va_nd_pool rfl rfl) ([] ++ nA na) (fun _ => zad_pool rfl) (zad_pool rfl) (8 + rg) 1 rfl (nP_atn rfl (by omega)) rfl ⟨Nat.le_of_ble_eq_true rfl, Nat.le_of_ble_eq_true rfl⟩ rfl hl.1 (Nat.le_of_ble_eq_true rfl) ⟨Nat.le_refl _, Nat.le_refl _⟩ dX7_effect_84 ?_
              clear hB
              try clear locs
              try clear H
              intro u7 H locs hp hB
              replace hB : zB D A s ([((bd 31), .inr (7, [.ref (bd 0), .ref (bd 1), .ref (na 6), .ref (na 7), .ref (bd 2), .ref (bd 3), .ref (bd 4), .ref (bd 5), .ref (bd 6)])), ((bd 1), .inl (ka 3, 6, .inr (.inr (.inr (.inr (nR na 0)))))), ((bd 3), .inr (0, [.ref (bd 12), .ref (bd 13), .ref (bd 14), .ref (bd 15), .ref (bd 16), .ref (bd 17), .ref (na 21), .ref (na 22), .ref (na 23), .ref (na 24)])), ((bd 12), .inr (2, [.int (bI o96), .ref (na 28), .ref (na 29), .ref (na 30)])), ((bd 15), .inl (ka 3, 6, .inr (.inr (.inr (.inr (nR na 8)))))), ((bd 16), .inl (ka 3, 3, .inr (.inr (.inr (.inr (nR na 14)))))), ((bd 17), .inl (ka 3, 4, .inr (.inr (.inr (.inr (nR na 17)))))), ((bd 14), .inl (ka 2, 3, .inl (kI kp)))] ++ nP na (upN N96 rg (N96 6))) H locs := zB_pool hB rfl rfl rfl rfl
              refine lv_iconst (v := 1) hx hb dX7_effect_87 (by decide) ?_
              exact zreti hF hB (upN N96 rg (N96 6), (o96)) (⟨by rw [if_neg (by rw [hK]; decide), if_neg (fun e8 => e8 ⟨bI_ne0 h36, by rw [rpg]; exact bI_ne0 h49⟩), rpg, rbg, if_neg (by rw [oE]; decide)], fun k9 h17 h6 => by
                show (upN N96 rg (N96 6)) k9 = _
                by_cases e9 : k9 = rg
                · rw [if_pos ⟨rfl, by rw [rrg]; exact e9⟩, e9, upN_eq, rpg, rbg]; exact hEF.2.2 oE
                · rw [if_neg (fun e8 => e9 (by rw [rrg] at e8; exact e8.2)), upN_ne e9]; exact hEF.2.1 k9 (by omega) (by omega) (by omega) h6⟩) (rfl) (rfl) dX7_effect_88 hQ
            · skip
              have oE : efO (gC N) pm pa pg bg = true := b9_f (hEF.1.symm.trans h68)
              refine lv_bipush (v := -5) hx hb dX7_effect_71 (by decide) ?_
              exact zreti hF hB (N96, (o96)) (⟨by rw [if_neg (by rw [hK]; decide), if_neg (fun e8 => e8 ⟨bI_ne0 h36, by rw [rpg]; exact bI_ne0 h49⟩), rpg, rbg, if_pos oE], fun k9 h17 h6 => by
                show N96 k9 = _
                rw [if_neg (fun e8 => absurd e8.1 (by decide))]; exact hEF.2.1 k9 (by omega) (by omega) (by omega) h6⟩) (rfl) (rfl) dX7_effect_73 hQ
          · skip
            refine lv_bipush (v := -3) hx hb dX7_effect_52 (by decide) ?_
            exact zreti hF hB (N, o) (⟨by rw [if_neg (by rw [hK]; decide), if_pos (fun e8 => by have e7 := e8.2; rw [rpg, bI_eq0 h49] at e7; exact absurd e7 (by decide))], fun _ _ _ => (if_neg (fun e8 => absurd e8.1 (by decide))).symm⟩) (rfl) (rfl) dX7_effect_54 hQ
      · skip
        replace h22 := (b9_t h22)
        refine lv_bipush (v := -2) hx hb dX7_effect_25 (by decide) ?_
        have hK : exK (nI pg) (nI bg) rq = false := dB_f.mpr (fun e8 => absurd (h22.symm.trans e8.2.2) (by decide))
        exact zreti hF hB (N, o) (⟨by rw [if_pos hK], fun _ _ _ => (if_neg (fun e8 => absurd e8.1 (by decide))).symm⟩) (rfl) (rfl) dX7_effect_27 hQ

