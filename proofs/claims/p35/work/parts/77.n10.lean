def ktB (kp : Nat → Bool) (k : Nat) : Nat → Bool := fun j => if j = k then true else kp j
theorem kt_s {kp : Nat → Bool} {k : Nat} : upd (kI kp) k 1 = kI (ktB kp k) := funext fun j => by
  unfold kI ktB upd
  by_cases h : j = k
  · rw [if_pos h, if_pos h]; rfl
  · rw [if_neg h, if_neg h]
theorem rdT_0 {k : Nat} {mq aq : Int32} {L : Nat} {mo an pl ho ga lg : Nat → Int32} {b : Nat} (h : k = 0) :
    sumV false (rd2 (pulI 0 L mo an pl ho) (if k = 0 + 1 then 0 else 0) 0 (ga (2 * b + 0)).toInt (aN (lg (2 * b + 0)))) (rd2 (pulI 1 L mo an pl ho) (if k = 1 + 1 then 0 else 0) 0 (ga (2 * b + 1)).toInt (aN (lg (2 * b + 1)))) = rdT (nI k) mq aq L mo an pl ho ga lg b := by
  subst h
  unfold rdT r2T
  simp [show aN (nI 0) = 0 from rfl]
theorem rdT_k {k aa : Nat} {mq aq : Int32} {L : Nat} {mo an pl ho ga lg : Nat → Int32} {b : Nat} (h : k ≠ 0) (ha : aN aq = aa) (hk : k < 3) :
    sumV false (rd2 (pulI 0 L mo an pl ho) (if k = 0 + 1 then mq.toInt else 0) aa (ga (2 * b + 0)).toInt (aN (lg (2 * b + 0)))) (rd2 (pulI 1 L mo an pl ho) (if k = 1 + 1 then mq.toInt else 0) aa (ga (2 * b + 1)).toInt (aN (lg (2 * b + 1)))) = rdT (nI k) mq aq L mo an pl ho ga lg b := by
  unfold rdT r2T
  rw [show aN (nI k) = k from aNn hk (by decide), if_neg h, ha]
set_option maxHeartbeats 4000000 in
set_option maxRecDepth 100000 in
theorem c_X0_runTrial (l : Launch) (D : va_G) (ka : Nat → ClassId) (kb : Nat → Nat) (bd : Nat → Nat) (na : Nat → Nat) (o : Bool) (sz9 : Int32) (re9 : Int32) (L : Nat) (mo : Nat → Int32) (an : Nat → Int32) (pl : Nat → Int32) (ho : Nat → Int32) (st : Nat → Int32) (ga : Nat → Int32) (lg : Nat → Int32) (kp : Nat → Bool) (N : Nat → N5) (k : Nat) (mq : Int32) (aq : Int32) (hk : k < 3) (hmq : k ≠ 0 → inM mq = true ∧ inI aq 12 = true) (hok : okL L mo an pl) (hoh : okH ho) (hst : ∀ j, j < 4 → st (2 * j) = ga j ∧ st (2 * j + 1) = lg j) (hga : ∀ i, i < 4 → 0 ≤ (ga i).toInt ∧ (ga i).toInt ≤ 9) (hlg : ∀ i, i < 4 → ∃ l9, l9 < 12 ∧ lg i = nI l9) : zV l D ka kb yX0_runTrial cX0_runTrial 6 6 199 [.ref (bd 3), .ref (bd 2), .int (nI k), .int mq, .int aq] ([((bd 3), .inr (0, [.ref (bd 12), .ref (bd 13), .ref (bd 14), .ref (bd 15), .ref (bd 16), .ref (bd 17), .ref (na 21), .ref (na 22), .ref (na 23), .ref (na 24)])), ((bd 12), .inr (2, [.int (bI o), .ref (na 28), .ref (na 29), .ref (na 30)])), ((bd 13), .inl (ka 0, 8, .inl st)), ((bd 16), .inl (ka 3, 3, .inr (.inr (.inr (.inr (nR na 14)))))), ((bd 15), .inl (ka 3, 6, .inr (.inr (.inr (.inr (nR na 8)))))), ((bd 14), .inl (ka 2, 3, .inl (kI kp))), ((bd 2), .inr (3, [.int (nI L), .ref (bd 7), .ref (bd 8), .ref (bd 9), .ref (bd 10), .ref (bd 11), .int sz9, .int re9])), ((bd 7), .inl (ka 0, 8, .inl mo)), ((bd 8), .inl (ka 0, 8, .inl an)), ((bd 9), .inl (ka 0, 8, .inl pl)), ((bd 10), .inl (ka 0, 24, .inl ho))] ++ nP na N) (fun (u : (Nat → N5) × Bool) => (∀ k9, k9 ≠ 21 → k9 ≠ 22 → k9 ≠ 8 + (2 * k + 0) → k9 ≠ 8 + (2 * k + 1) → (k9 = 14 + k → k = 0) → u.1 k9 = N k9) ∧ (∀ b, b < 2 → u.1 (8 + (2 * k + b)) = rdT (nI k) mq aq L mo an pl ho ga lg b) ∧ (k ≠ 0 → u.1 (14 + k) = wyN mq.toInt (aN aq))) (fun (u : (Nat → N5) × Bool) => [((bd 3), .inr (0, [.ref (bd 12), .ref (bd 13), .ref (bd 14), .ref (bd 15), .ref (bd 16), .ref (bd 17), .ref (na 21), .ref (na 22), .ref (na 23), .ref (na 24)])), ((bd 12), .inr (2, [.int (bI u.2), .ref (na 28), .ref (na 29), .ref (na 30)])), ((bd 13), .inl (ka 0, 8, .inl st)), ((bd 16), .inl (ka 3, 3, .inr (.inr (.inr (.inr (nR na 14)))))), ((bd 15), .inl (ka 3, 6, .inr (.inr (.inr (.inr (nR na 8)))))), ((bd 14), .inl (ka 2, 3, .inl (kI (ktB kp k)))), ((bd 2), .inr (3, [.int (nI L), .ref (bd 7), .ref (bd 8), .ref (bd 9), .ref (bd 10), .ref (bd 11), .int sz9, .int re9])), ((bd 7), .inl (ka 0, 8, .inl mo)), ((bd 8), .inl (ka 0, 8, .inl an)), ((bd 9), .inl (ka 0, 8, .inl pl)), ((bd 10), .inl (ka 0, 24, .inl ho))] ++ nP na u.1) := by
  refine zV.mk RX0 (by decide +kernel) rfl (Nat.le_of_ble_eq_true rfl) ?_
  intro p e s m below meth c A ls args Q hQ hx hb hF hB hl
  replace hl : lv_has ls 6 [(0, .ref (bd 3)), (1, .ref (bd 2)), (2, .int (nI k)), (3, .int mq), (4, .int aq)] := hl
  refine lv_iload_n hx hb dX0_runTrial_0 rfl (lv_at hl 2 rfl) ?_
  refine lv_if_le (tgt := 16) hx hb dX0_runTrial_1 (by decide) (fun h1 => ?_) (fun h1 => ?_)
  · skip
    have hk0 : k = 0 := by have := (nI_leI (b := 0) (by omega) (by decide)).mp h1; omega
    refine lv_iconst (v := 0) hx hb dX0_runTrial_16 (by decide) ?_
    refine lv_istore (lv' := [(5, .int (0 : Int32)), (0, .ref (bd 3)), (1, .ref (bd 2)), (2, .int (nI k)), (3, .int mq), (4, .int aq)]) hx hb dX0_runTrial_17 hl (by decide) rfl ?_
    clear hl
    clear ls
    intro ls hl
    refine lv_iload hx hb dX0_runTrial_19 (lv_at hl 0 rfl) ?_
    refine lv_iconst (v := 2) hx hb dX0_runTrial_21 (by decide) ?_
    refine lv_icmp_ge (tgt := 46) hx hb dX0_runTrial_22 (by decide) (fun h22 => ?_) (fun h22 => ?_)
    · skip
      exact absurd h22 (by decide)
    · skip
      refine lv_aload_n hx hb dX0_runTrial_25 rfl (lv_at hl 1 rfl) ?_
      refine lv_aload_n hx hb dX0_runTrial_26 rfl (lv_at hl 2 rfl) ?_
      refine lv_iload_n hx hb dX0_runTrial_27 rfl (lv_at hl 3 rfl) ?_
      refine lv_iload hx hb dX0_runTrial_28 (lv_at hl 0 rfl) ?_
      refine lv_aload_n hx hb dX0_runTrial_30 rfl (lv_at hl 1 rfl) ?_
      refine lv_iload_n hx hb dX0_runTrial_31 rfl (lv_at hl 3 rfl) ?_
      refine lv_iload hx hb dX0_runTrial_32 (lv_at hl 0 rfl) ?_
      refine zVr zm_X0_59 hF hB (c_X0_readingOf l D ka kb bd na k 0 (hk) (by decide)) [0, 4] rfl (by decide) [(bd 3), (bd 15)] (fun _ => rfl) rfl 0 0 rfl rfl rfl ⟨Nat.le_of_ble_eq_true rfl, Nat.le_of_ble_eq_true rfl⟩ rfl hl.1 (Nat.le_of_ble_eq_true rfl) ⟨Nat.le_refl _, Nat.le_refl _⟩ dX0_runTrial_34 ?_
      clear hB
      try clear locs
      try clear H
      intro u1 H locs hp hB
      replace hB : zB D A s ([((bd 3), .inr (0, [.ref (bd 12), .ref (bd 13), .ref (bd 14), .ref (bd 15), .ref (bd 16), .ref (bd 17), .ref (na 21), .ref (na 22), .ref (na 23), .ref (na 24)])), ((bd 12), .inr (2, [.int (bI o), .ref (na 28), .ref (na 29), .ref (na 30)])), ((bd 13), .inl (ka 0, 8, .inl st)), ((bd 16), .inl (ka 3, 3, .inr (.inr (.inr (.inr (nR na 14)))))), ((bd 15), .inl (ka 3, 6, .inr (.inr (.inr (.inr (nR na 8)))))), ((bd 14), .inl (ka 2, 3, .inl (kI kp))), ((bd 2), .inr (3, [.int (nI L), .ref (bd 7), .ref (bd 8), .ref (bd 9), .ref (bd 10), .ref (bd 11), .int sz9, .int re9])), ((bd 7), .inl (ka 0, 8, .inl mo)), ((bd 8), .inl (ka 0, 8, .inl an)), ((bd 9), .inl (ka 0, 8, .inl pl)), ((bd 10), .inl (ka 0, 24, .inl ho))] ++ nP na N) H locs := hB
      refine zVv zm_X0_63 hF hB (c_X0_takeReading l D ka kb bd na o sz9 re9 L mo an pl ho st ga lg N k 0 (8 + (2 * k + 0)) 0 0 (hk) (by decide) (by omega) (hok) (hoh) (hst) (hga) (hlg) (by omega) (by decide) (fun p _ e8 => absurd e8 (by omega)) (by omega)) ([0, 1, 2, 3, 6, 7, 8, 9, 10] ++ npr 11) (zsel_pool rfl rfl) (va_nd_pool rfl rfl) ([(bd 3), (bd 12), (bd 13), (bd 16), (bd 2), (bd 7), (bd 8), (bd 9), (bd 10)] ++ nA na) (fun _ => zad_pool rfl) (zad_pool rfl) 0 0 rfl rfl rfl ⟨Nat.le_of_ble_eq_true rfl, Nat.le_of_ble_eq_true rfl⟩ rfl hl.1 (Nat.le_of_ble_eq_true rfl) ⟨Nat.le_refl _, Nat.le_refl _⟩ dX0_runTrial_37 ?_
      clear hB
      try clear locs
      try clear H
      intro u2 H locs hp hB
      obtain ⟨N92, o92⟩ := u2
      have hp2 : (∀ k9, k9 ≠ 21 → k9 ≠ 22 → k9 ≠ (8 + (2 * k + 0)) → N92 k9 = N k9) ∧ N92 (8 + (2 * k + 0)) = sumV false (rd2 (pulI 0 L mo an pl ho) (if k = 0 + 1 then 0 else 0) 0 (ga (2 * 0 + 0)).toInt (aN (lg (2 * 0 + 0)))) (rd2 (pulI 1 L mo an pl ho) (if k = 1 + 1 then 0 else 0) 0 (ga (2 * 0 + 1)).toInt (aN (lg (2 * 0 + 1)))) := hp
      have HPP := hp2
      replace hB : zB D A s ([((bd 3), .inr (0, [.ref (bd 12), .ref (bd 13), .ref (bd 14), .ref (bd 15), .ref (bd 16), .ref (bd 17), .ref (na 21), .ref (na 22), .ref (na 23), .ref (na 24)])), ((bd 12), .inr (2, [.int (bI o92), .ref (na 28), .ref (na 29), .ref (na 30)])), ((bd 13), .inl (ka 0, 8, .inl st)), ((bd 16), .inl (ka 3, 3, .inr (.inr (.inr (.inr (nR na 14)))))), ((bd 15), .inl (ka 3, 6, .inr (.inr (.inr (.inr (nR na 8)))))), ((bd 14), .inl (ka 2, 3, .inl (kI kp))), ((bd 2), .inr (3, [.int (nI L), .ref (bd 7), .ref (bd 8), .ref (bd 9), .ref (bd 10), .ref (bd 11), .int sz9, .int re9])), ((bd 7), .inl (ka 0, 8, .inl mo)), ((bd 8), .inl (ka 0, 8, .inl an)), ((bd 9), .inl (ka 0, 8, .inl pl)), ((bd 10), .inl (ka 0, 24, .inl ho))] ++ nP na N92) H locs := zB_pool hB rfl rfl rfl rfl
      have hA1 := HPP
      refine lv_iinc (v := (1 : Int32)) (lv' := [(5, .int (1 : Int32)), (0, .ref (bd 3)), (1, .ref (bd 2)), (2, .int (nI k)), (3, .int mq), (4, .int aq)]) hx hb dX0_runTrial_40 hl (k := 0) rfl (by decide) (by decide) rfl ?_
      clear hl
      clear ls
      intro ls hl
      refine lv_goto (tgt := 19) hx hb dX0_runTrial_43 (by decide) ?_
      refine lv_iload hx hb dX0_runTrial_19 (lv_at hl 0 rfl) ?_
      refine lv_iconst (v := 2) hx hb dX0_runTrial_21 (by decide) ?_
      refine lv_icmp_ge (tgt := 46) hx hb dX0_runTrial_22 (by decide) (fun h22 => ?_) (fun h22 => ?_)
      · skip
        exact absurd h22 (by decide)
      · skip
        refine lv_aload_n hx hb dX0_runTrial_25 rfl (lv_at hl 1 rfl) ?_
        refine lv_aload_n hx hb dX0_runTrial_26 rfl (lv_at hl 2 rfl) ?_
        refine lv_iload_n hx hb dX0_runTrial_27 rfl (lv_at hl 3 rfl) ?_
        refine lv_iload hx hb dX0_runTrial_28 (lv_at hl 0 rfl) ?_
        refine lv_aload_n hx hb dX0_runTrial_30 rfl (lv_at hl 1 rfl) ?_
        refine lv_iload_n hx hb dX0_runTrial_31 rfl (lv_at hl 3 rfl) ?_
        refine lv_iload hx hb dX0_runTrial_32 (lv_at hl 0 rfl) ?_
        refine zVr zm_X0_59 hF hB (c_X0_readingOf l D ka kb bd na k 1 (hk) (by decide)) [0, 4] rfl (by decide) [(bd 3), (bd 15)] (fun _ => rfl) rfl 0 0 rfl rfl rfl ⟨Nat.le_of_ble_eq_true rfl, Nat.le_of_ble_eq_true rfl⟩ rfl hl.1 (Nat.le_of_ble_eq_true rfl) ⟨Nat.le_refl _, Nat.le_refl _⟩ dX0_runTrial_34 ?_
        clear hB
        try clear locs
        try clear H
        intro u3 H locs hp hB
        replace hB : zB D A s ([((bd 3), .inr (0, [.ref (bd 12), .ref (bd 13), .ref (bd 14), .ref (bd 15), .ref (bd 16), .ref (bd 17), .ref (na 21), .ref (na 22), .ref (na 23), .ref (na 24)])), ((bd 12), .inr (2, [.int (bI o92), .ref (na 28), .ref (na 29), .ref (na 30)])), ((bd 13), .inl (ka 0, 8, .inl st)), ((bd 16), .inl (ka 3, 3, .inr (.inr (.inr (.inr (nR na 14)))))), ((bd 15), .inl (ka 3, 6, .inr (.inr (.inr (.inr (nR na 8)))))), ((bd 14), .inl (ka 2, 3, .inl (kI kp))), ((bd 2), .inr (3, [.int (nI L), .ref (bd 7), .ref (bd 8), .ref (bd 9), .ref (bd 10), .ref (bd 11), .int sz9, .int re9])), ((bd 7), .inl (ka 0, 8, .inl mo)), ((bd 8), .inl (ka 0, 8, .inl an)), ((bd 9), .inl (ka 0, 8, .inl pl)), ((bd 10), .inl (ka 0, 24, .inl ho))] ++ nP na N92) H locs := hB
        refine zVv zm_X0_63 hF hB (c_X0_takeReading l D ka kb bd na o92 sz9 re9 L mo an pl ho st ga lg N92 k 1 (8 + (2 * k + 1)) 0 0 (hk) (by decide) (by omega) (hok) (hoh) (hst) (hga) (hlg) (by omega) (by decide) (fun p _ e8 => absurd e8 (by omega)) (by omega)) ([0, 1, 2, 3, 6, 7, 8, 9, 10] ++ npr 11) (zsel_pool rfl rfl) (va_nd_pool rfl rfl) ([(bd 3), (bd 12), (bd 13), (bd 16), (bd 2), (bd 7), (bd 8), (bd 9), (bd 10)] ++ nA na) (fun _ => zad_pool rfl) (zad_pool rfl) 0 0 rfl rfl rfl ⟨Nat.le_of_ble_eq_true rfl, Nat.le_of_ble_eq_true rfl⟩ rfl hl.1 (Nat.le_of_ble_eq_true rfl) ⟨Nat.le_refl _, Nat.le_refl _⟩ dX0_runTrial_37 ?_
        clear hB
        try clear locs
        try clear H
        intro u4 H locs hp hB
        obtain ⟨N94, o94⟩ := u4
        have hp4 : (∀ k9, k9 ≠ 21 → k9 ≠ 22 → k9 ≠ (8 + (2 * k + 1)) → N94 k9 = N92 k9) ∧ N94 (8 + (2 * k + 1)) = sumV false (rd2 (pulI 0 L mo an pl ho) (if k = 0 + 1 then 0 else 0) 0 (ga (2 * 1 + 0)).toInt (aN (lg (2 * 1 + 0)))) (rd2 (pulI 1 L mo an pl ho) (if k = 1 + 1 then 0 else 0) 0 (ga (2 * 1 + 1)).toInt (aN (lg (2 * 1 + 1)))) := hp
        have HPP := hp4
        replace hB : zB D A s ([((bd 3), .inr (0, [.ref (bd 12), .ref (bd 13), .ref (bd 14), .ref (bd 15), .ref (bd 16), .ref (bd 17), .ref (na 21), .ref (na 22), .ref (na 23), .ref (na 24)])), ((bd 12), .inr (2, [.int (bI o94), .ref (na 28), .ref (na 29), .ref (na 30)])), ((bd 13), .inl (ka 0, 8, .inl st)), ((bd 16), .inl (ka 3, 3, .inr (.inr (.inr (.inr (nR na 14)))))), ((bd 15), .inl (ka 3, 6, .inr (.inr (.inr (.inr (nR na 8)))))), ((bd 14), .inl (ka 2, 3, .inl (kI kp))), ((bd 2), .inr (3, [.int (nI L), .ref (bd 7), .ref (bd 8), .ref (bd 9), .ref (bd 10), .ref (bd 11), .int sz9, .int re9])), ((bd 7), .inl (ka 0, 8, .inl mo)), ((bd 8), .inl (ka 0, 8, .inl an)), ((bd 9), .inl (ka 0, 8, .inl pl)), ((bd 10), .inl (ka 0, 24, .inl ho))] ++ nP na N94) H locs := zB_pool hB rfl rfl rfl rfl
        have hA2 := HPP
        refine lv_iinc (v := (2 : Int32)) (lv' := [(5, .int (2 : Int32)), (0, .ref (bd 3)), (1, .ref (bd 2)), (2, .int (nI k)), (3, .int mq), (4, .int aq)]) hx hb dX0_runTrial_40 hl (k := 0) rfl (by decide) (by decide) rfl ?_
        clear hl
        clear ls
        intro ls hl
        refine lv_goto (tgt := 19) hx hb dX0_runTrial_43 (by decide) ?_
        refine lv_iload hx hb dX0_runTrial_19 (lv_at hl 0 rfl) ?_
        refine lv_iconst (v := 2) hx hb dX0_runTrial_21 (by decide) ?_
        refine lv_icmp_ge (tgt := 46) hx hb dX0_runTrial_22 (by decide) (fun h22 => ?_) (fun h22 => ?_)
        · skip
          refine lv_aload_n hx hb dX0_runTrial_46 rfl (lv_at hl 1 rfl) ?_
          refine zget zf_X0_22 hF hB 0 rfl rfl dX0_runTrial_47 ?_
          refine lv_iload_n hx hb dX0_runTrial_50 rfl (lv_at hl 3 rfl) ?_
          refine lv_iconst (v := 1) hx hb dX0_runTrial_51 (by decide) ?_
          refine zzast hF hB 5 rfl k (rfl) (by omega) (by decide) rfl dX0_runTrial_52 ?_
          clear hB
          try clear locs
          try clear H
          intro H locs hB
          replace hB : zB D A s ([((bd 3), .inr (0, [.ref (bd 12), .ref (bd 13), .ref (bd 14), .ref (bd 15), .ref (bd 16), .ref (bd 17), .ref (na 21), .ref (na 22), .ref (na 23), .ref (na 24)])), ((bd 12), .inr (2, [.int (bI o94), .ref (na 28), .ref (na 29), .ref (na 30)])), ((bd 13), .inl (ka 0, 8, .inl st)), ((bd 16), .inl (ka 3, 3, .inr (.inr (.inr (.inr (nR na 14)))))), ((bd 15), .inl (ka 3, 6, .inr (.inr (.inr (.inr (nR na 8)))))), ((bd 14), .inl (ka 2, 3, .inl (kI (ktB kp k)))), ((bd 2), .inr (3, [.int (nI L), .ref (bd 7), .ref (bd 8), .ref (bd 9), .ref (bd 10), .ref (bd 11), .int sz9, .int re9])), ((bd 7), .inl (ka 0, 8, .inl mo)), ((bd 8), .inl (ka 0, 8, .inl an)), ((bd 9), .inl (ka 0, 8, .inl pl)), ((bd 10), .inl (ka 0, 24, .inl ho))] ++ nP na N94) H locs := (by have e9 := hB; rw [kt_s] at e9; exact e9)
          exact zretv hF hB (N94, o94) (⟨fun k9 h0 h1 h2 h3 h4 => (hA2.1 k9 h0 h1 h3).trans (hA1.1 k9 h0 h1 h2), fun b9 hb9 => by
            rcases (show b9 = 0 ∨ b9 = 1 by omega) with rfl | rfl
            · show N94 _ = _
              rw [hA2.1 _ (by omega) (by omega) (by omega), hA1.2]; exact rdT_0 hk0
            · show N94 _ = _
              rw [hA2.2]; exact rdT_0 hk0, fun e8 => absurd hk0 e8⟩) (rfl) dX0_runTrial_53 hQ
        · skip
          exact absurd (by decide) h22
  · skip
    have hk0 : k ≠ 0 := fun e8 => h1 (by rw [e8]; exact (nI_leI (a := 0) (b := 0) (by decide) (by decide)).mpr (Nat.le_refl 0))
    have hm9 := dB_t.mp (hmq hk0).1
    obtain ⟨aa, haa, hae⟩ := inI_of (hmq hk0).2 (by decide)
    subst hae
    have raa : aN (nI aa) = aa := aNn haa (by decide)
    refine lv_aload_n hx hb dX0_runTrial_4 rfl (lv_at hl 0 rfl) ?_
    refine zget zf_X0_32 hF hB 0 rfl rfl dX0_runTrial_5 ?_
    refine lv_iload_n hx hb dX0_runTrial_8 rfl (lv_at hl 2 rfl) ?_
    refine zaald hF hB 3 rfl (t0 := 3) rfl k (rfl) (by omega) (by decide) (r := na (14 + k)) (rfl) dX0_runTrial_9 ?_
    refine lv_iload_n hx hb dX0_runTrial_10 rfl (lv_at hl 3 rfl) ?_
    refine lv_iload hx hb dX0_runTrial_11 (lv_at hl 4 rfl) ?_
    refine zVv zm_X0_55 hF hB (c_X1_becomeWay l D ka kb (na (14 + k)) (N (14 + k)) mq aa (haa)) [11 + (14 + k)] (zsel_num rfl (by omega)) (va_nd_1 _) [na (14 + k)] (fun _ => rfl) rfl (11 + (14 + k)) 1 rfl (nP_atn rfl (by omega)) rfl ⟨Nat.le_of_ble_eq_true rfl, Nat.le_of_ble_eq_true rfl⟩ rfl hl.1 (Nat.le_of_ble_eq_true rfl) ⟨Nat.le_refl _, Nat.le_refl _⟩ dX0_runTrial_13 ?_
    clear hB
    try clear locs
    try clear H
    intro u5 H locs hp hB
    replace hB : zB D A s ([((bd 3), .inr (0, [.ref (bd 12), .ref (bd 13), .ref (bd 14), .ref (bd 15), .ref (bd 16), .ref (bd 17), .ref (na 21), .ref (na 22), .ref (na 23), .ref (na 24)])), ((bd 12), .inr (2, [.int (bI o), .ref (na 28), .ref (na 29), .ref (na 30)])), ((bd 13), .inl (ka 0, 8, .inl st)), ((bd 16), .inl (ka 3, 3, .inr (.inr (.inr (.inr (nR na 14)))))), ((bd 15), .inl (ka 3, 6, .inr (.inr (.inr (.inr (nR na 8)))))), ((bd 14), .inl (ka 2, 3, .inl (kI kp))), ((bd 2), .inr (3, [.int (nI L), .ref (bd 7), .ref (bd 8), .ref (bd 9), .ref (bd 10), .ref (bd 11), .int sz9, .int re9])), ((bd 7), .inl (ka 0, 8, .inl mo)), ((bd 8), .inl (ka 0, 8, .inl an)), ((bd 9), .inl (ka 0, 8, .inl pl)), ((bd 10), .inl (ka 0, 24, .inl ho))] ++ nP na (upN N (14 + k) (bwN mq aa))) H locs := zB_num (X := (bwN mq aa)) hB rfl (by omega)
    obtain ⟨M0, hM0⟩ : ∃ M, M = (upN N (14 + k) (bwN mq aa)) := ⟨_, rfl⟩
    rw [← hM0] at hB
    have kM0 : ∀ k9, k9 ≠ 14 + k → M0 k9 = N k9 := fun k9 h0 => by rw [hM0, upN_ne h0]
    have vM0 : M0 (14 + k) = wyN mq.toInt aa := by rw [hM0, upN_eq]; exact bw_wy _ _
    refine lv_iconst (v := 0) hx hb dX0_runTrial_16 (by decide) ?_
    refine lv_istore (lv' := [(5, .int (0 : Int32)), (0, .ref (bd 3)), (1, .ref (bd 2)), (2, .int (nI k)), (3, .int mq), (4, .int (nI aa))]) hx hb dX0_runTrial_17 hl (by decide) rfl ?_
    clear hl
    clear ls
    intro ls hl
    refine lv_iload hx hb dX0_runTrial_19 (lv_at hl 0 rfl) ?_
    refine lv_iconst (v := 2) hx hb dX0_runTrial_21 (by decide) ?_
    refine lv_icmp_ge (tgt := 46) hx hb dX0_runTrial_22 (by decide) (fun h22 => ?_) (fun h22 => ?_)
    · skip
      exact absurd h22 (by decide)
    · skip
      refine lv_aload_n hx hb dX0_runTrial_25 rfl (lv_at hl 1 rfl) ?_
      refine lv_aload_n hx hb dX0_runTrial_26 rfl (lv_at hl 2 rfl) ?_
      refine lv_iload_n hx hb dX0_runTrial_27 rfl (lv_at hl 3 rfl) ?_
      refine lv_iload hx hb dX0_runTrial_28 (lv_at hl 0 rfl) ?_
      refine lv_aload_n hx hb dX0_runTrial_30 rfl (lv_at hl 1 rfl) ?_
      refine lv_iload_n hx hb dX0_runTrial_31 rfl (lv_at hl 3 rfl) ?_
      refine lv_iload hx hb dX0_runTrial_32 (lv_at hl 0 rfl) ?_
      refine zVr zm_X0_59 hF hB (c_X0_readingOf l D ka kb bd na k 0 (hk) (by decide)) [0, 4] rfl (by decide) [(bd 3), (bd 15)] (fun _ => rfl) rfl 0 0 rfl rfl rfl ⟨Nat.le_of_ble_eq_true rfl, Nat.le_of_ble_eq_true rfl⟩ rfl hl.1 (Nat.le_of_ble_eq_true rfl) ⟨Nat.le_refl _, Nat.le_refl _⟩ dX0_runTrial_34 ?_
      clear hB
      try clear locs
      try clear H
      intro u6 H locs hp hB
      replace hB : zB D A s ([((bd 3), .inr (0, [.ref (bd 12), .ref (bd 13), .ref (bd 14), .ref (bd 15), .ref (bd 16), .ref (bd 17), .ref (na 21), .ref (na 22), .ref (na 23), .ref (na 24)])), ((bd 12), .inr (2, [.int (bI o), .ref (na 28), .ref (na 29), .ref (na 30)])), ((bd 13), .inl (ka 0, 8, .inl st)), ((bd 16), .inl (ka 3, 3, .inr (.inr (.inr (.inr (nR na 14)))))), ((bd 15), .inl (ka 3, 6, .inr (.inr (.inr (.inr (nR na 8)))))), ((bd 14), .inl (ka 2, 3, .inl (kI kp))), ((bd 2), .inr (3, [.int (nI L), .ref (bd 7), .ref (bd 8), .ref (bd 9), .ref (bd 10), .ref (bd 11), .int sz9, .int re9])), ((bd 7), .inl (ka 0, 8, .inl mo)), ((bd 8), .inl (ka 0, 8, .inl an)), ((bd 9), .inl (ka 0, 8, .inl pl)), ((bd 10), .inl (ka 0, 24, .inl ho))] ++ nP na M0) H locs := hB
      refine zVv zm_X0_63 hF hB (c_X0_takeReading l D ka kb bd na o sz9 re9 L mo an pl ho st ga lg M0 k 0 (8 + (2 * k + 0)) mq.toInt aa (hk) (by decide) (by omega) (hok) (hoh) (hst) (hga) (hlg) (by have := hm9; omega) (by exact haa) (fun p _ e8 => vM0) (by omega)) ([0, 1, 2, 3, 6, 7, 8, 9, 10] ++ npr 11) (zsel_pool rfl rfl) (va_nd_pool rfl rfl) ([(bd 3), (bd 12), (bd 13), (bd 16), (bd 2), (bd 7), (bd 8), (bd 9), (bd 10)] ++ nA na) (fun _ => zad_pool rfl) (zad_pool rfl) 0 0 rfl rfl rfl ⟨Nat.le_of_ble_eq_true rfl, Nat.le_of_ble_eq_true rfl⟩ rfl hl.1 (Nat.le_of_ble_eq_true rfl) ⟨Nat.le_refl _, Nat.le_refl _⟩ dX0_runTrial_37 ?_
      clear hB
      try clear locs
      try clear H
      intro u7 H locs hp hB
      obtain ⟨N97, o97⟩ := u7
      have hp7 : (∀ k9, k9 ≠ 21 → k9 ≠ 22 → k9 ≠ (8 + (2 * k + 0)) → N97 k9 = M0 k9) ∧ N97 (8 + (2 * k + 0)) = sumV false (rd2 (pulI 0 L mo an pl ho) (if k = 0 + 1 then mq.toInt else 0) aa (ga (2 * 0 + 0)).toInt (aN (lg (2 * 0 + 0)))) (rd2 (pulI 1 L mo an pl ho) (if k = 1 + 1 then mq.toInt else 0) aa (ga (2 * 0 + 1)).toInt (aN (lg (2 * 0 + 1)))) := hp
      have HPP := hp7
      replace hB : zB D A s ([((bd 3), .inr (0, [.ref (bd 12), .ref (bd 13), .ref (bd 14), .ref (bd 15), .ref (bd 16), .ref (bd 17), .ref (na 21), .ref (na 22), .ref (na 23), .ref (na 24)])), ((bd 12), .inr (2, [.int (bI o97), .ref (na 28), .ref (na 29), .ref (na 30)])), ((bd 13), .inl (ka 0, 8, .inl st)), ((bd 16), .inl (ka 3, 3, .inr (.inr (.inr (.inr (nR na 14)))))), ((bd 15), .inl (ka 3, 6, .inr (.inr (.inr (.inr (nR na 8)))))), ((bd 14), .inl (ka 2, 3, .inl (kI kp))), ((bd 2), .inr (3, [.int (nI L), .ref (bd 7), .ref (bd 8), .ref (bd 9), .ref (bd 10), .ref (bd 11), .int sz9, .int re9])), ((bd 7), .inl (ka 0, 8, .inl mo)), ((bd 8), .inl (ka 0, 8, .inl an)), ((bd 9), .inl (ka 0, 8, .inl pl)), ((bd 10), .inl (ka 0, 24, .inl ho))] ++ nP na N97) H locs := zB_pool hB rfl rfl rfl rfl
      have hA1 := HPP
      refine lv_iinc (v := (1 : Int32)) (lv' := [(5, .int (1 : Int32)), (0, .ref (bd 3)), (1, .ref (bd 2)), (2, .int (nI k)), (3, .int mq), (4, .int (nI aa))]) hx hb dX0_runTrial_40 hl (k := 0) rfl (by decide) (by decide) rfl ?_
      clear hl
      clear ls
      intro ls hl
      refine lv_goto (tgt := 19) hx hb dX0_runTrial_43 (by decide) ?_
      refine lv_iload hx hb dX0_runTrial_19 (lv_at hl 0 rfl) ?_
      refine lv_iconst (v := 2) hx hb dX0_runTrial_21 (by decide) ?_
      refine lv_icmp_ge (tgt := 46) hx hb dX0_runTrial_22 (by decide) (fun h22 => ?_) (fun h22 => ?_)
      · skip
        exact absurd h22 (by decide)
      · skip
        refine lv_aload_n hx hb dX0_runTrial_25 rfl (lv_at hl 1 rfl) ?_
        refine lv_aload_n hx hb dX0_runTrial_26 rfl (lv_at hl 2 rfl) ?_
        refine lv_iload_n hx hb dX0_runTrial_27 rfl (lv_at hl 3 rfl) ?_
        refine lv_iload hx hb dX0_runTrial_28 (lv_at hl 0 rfl) ?_
        refine lv_aload_n hx hb dX0_runTrial_30 rfl (lv_at hl 1 rfl) ?_
        refine lv_iload_n hx hb dX0_runTrial_31 rfl (lv_at hl 3 rfl) ?_
        refine lv_iload hx hb dX0_runTrial_32 (lv_at hl 0 rfl) ?_
        refine zVr zm_X0_59 hF hB (c_X0_readingOf l D ka kb bd na k 1 (hk) (by decide)) [0, 4] rfl (by decide) [(bd 3), (bd 15)] (fun _ => rfl) rfl 0 0 rfl rfl rfl ⟨Nat.le_of_ble_eq_true rfl, Nat.le_of_ble_eq_true rfl⟩ rfl hl.1 (Nat.le_of_ble_eq_true rfl) ⟨Nat.le_refl _, Nat.le_refl _⟩ dX0_runTrial_34 ?_
        clear hB
        try clear locs
        try clear H
        intro u8 H locs hp hB
        replace hB : zB D A s ([((bd 3), .inr (0, [.ref (bd 12), .ref (bd 13), .ref (bd 14), .ref (bd 15), .ref (bd 16), .ref (bd 17), .ref (na 21), .ref (na 22), .ref (na 23), .ref (na 24)])), ((bd 12), .inr (2, [.int (bI o97), .ref (na 28), .ref (na 29), .ref (na 30)])), ((bd 13), .inl (ka 0, 8, .inl st)), ((bd 16), .inl (ka 3, 3, .inr (.inr (.inr (.inr (nR na 14)))))), ((bd 15), .inl (ka 3, 6, .inr (.inr (.inr (.inr (nR na 8)))))), ((bd 14), .inl (ka 2, 3, .inl (kI kp))), ((bd 2), .inr (3, [.int (nI L), .ref (bd 7), .ref (bd 8), .ref (bd 9), .ref (bd 10), .ref (bd 11), .int sz9, .int re9])), ((bd 7), .inl (ka 0, 8, .inl mo)), ((bd 8), .inl (ka 0, 8, .inl an)), ((bd 9), .inl (ka 0, 8, .inl pl)), ((bd 10), .inl (ka 0, 24, .inl ho))] ++ nP na N97) H locs := hB
        refine zVv zm_X0_63 hF hB (c_X0_takeReading l D ka kb bd na o97 sz9 re9 L mo an pl ho st ga lg N97 k 1 (8 + (2 * k + 1)) mq.toInt aa (hk) (by decide) (by omega) (hok) (hoh) (hst) (hga) (hlg) (by have := hm9; omega) (by exact haa) (fun p _ e8 => (hA1.1 _ (by omega) (by omega) (by omega)).trans vM0) (by omega)) ([0, 1, 2, 3, 6, 7, 8, 9, 10] ++ npr 11) (zsel_pool rfl rfl) (va_nd_pool rfl rfl) ([(bd 3), (bd 12), (bd 13), (bd 16), (bd 2), (bd 7), (bd 8), (bd 9), (bd 10)] ++ nA na) (fun _ => zad_pool rfl) (zad_pool rfl) 0 0 rfl rfl rfl ⟨Nat.le_of_ble_eq_true rfl, Nat.le_of_ble_eq_true rfl⟩ rfl hl.1 (Nat.le_of_ble_eq_true rfl) ⟨Nat.le_refl _, Nat.le_refl _⟩ dX0_runTrial_37 ?_
        clear hB
        try clear locs
        try clear H
        intro u9 H locs hp hB
        obtain ⟨N99, o99⟩ := u9
        have hp9 : (∀ k9, k9 ≠ 21 → k9 ≠ 22 → k9 ≠ (8 + (2 * k + 1)) → N99 k9 = N97 k9) ∧ N99 (8 + (2 * k + 1)) = sumV false (rd2 (pulI 0 L mo an pl ho) (if k = 0 + 1 then mq.toInt else 0) aa (ga (2 * 1 + 0)).toInt (aN (lg (2 * 1 + 0)))) (rd2 (pulI 1 L mo an pl ho) (if k = 1 + 1 then mq.toInt else 0) aa (ga (2 * 1 + 1)).toInt (aN (lg (2 * 1 + 1)))) := hp
        have HPP := hp9
        replace hB : zB D A s ([((bd 3), .inr (0, [.ref (bd 12), .ref (bd 13), .ref (bd 14), .ref (bd 15), .ref (bd 16), .ref (bd 17), .ref (na 21), .ref (na 22), .ref (na 23), .ref (na 24)])), ((bd 12), .inr (2, [.int (bI o99), .ref (na 28), .ref (na 29), .ref (na 30)])), ((bd 13), .inl (ka 0, 8, .inl st)), ((bd 16), .inl (ka 3, 3, .inr (.inr (.inr (.inr (nR na 14)))))), ((bd 15), .inl (ka 3, 6, .inr (.inr (.inr (.inr (nR na 8)))))), ((bd 14), .inl (ka 2, 3, .inl (kI kp))), ((bd 2), .inr (3, [.int (nI L), .ref (bd 7), .ref (bd 8), .ref (bd 9), .ref (bd 10), .ref (bd 11), .int sz9, .int re9])), ((bd 7), .inl (ka 0, 8, .inl mo)), ((bd 8), .inl (ka 0, 8, .inl an)), ((bd 9), .inl (ka 0, 8, .inl pl)), ((bd 10), .inl (ka 0, 24, .inl ho))] ++ nP na N99) H locs := zB_pool hB rfl rfl rfl rfl
        have hA2 := HPP
        refine lv_iinc (v := (2 : Int32)) (lv' := [(5, .int (2 : Int32)), (0, .ref (bd 3)), (1, .ref (bd 2)), (2, .int (nI k)), (3, .int mq), (4, .int (nI aa))]) hx hb dX0_runTrial_40 hl (k := 0) rfl (by decide) (by decide) rfl ?_
        clear hl
        clear ls
        intro ls hl
        refine lv_goto (tgt := 19) hx hb dX0_runTrial_43 (by decide) ?_
        refine lv_iload hx hb dX0_runTrial_19 (lv_at hl 0 rfl) ?_
        refine lv_iconst (v := 2) hx hb dX0_runTrial_21 (by decide) ?_
        refine lv_icmp_ge (tgt := 46) hx hb dX0_runTrial_22 (by decide) (fun h22 => ?_) (fun h22 => ?_)
        · skip
          refine lv_aload_n hx hb dX0_runTrial_46 rfl (lv_at hl 1 rfl) ?_
          refine zget zf_X0_22 hF hB 0 rfl rfl dX0_runTrial_47 ?_
          refine lv_iload_n hx hb dX0_runTrial_50 rfl (lv_at hl 3 rfl) ?_
          refine lv_iconst (v := 1) hx hb dX0_runTrial_51 (by decide) ?_
          refine zzast hF hB 5 rfl k (rfl) (by omega) (by decide) rfl dX0_runTrial_52 ?_
          clear hB
          try clear locs
          try clear H
          intro H locs hB
          replace hB : zB D A s ([((bd 3), .inr (0, [.ref (bd 12), .ref (bd 13), .ref (bd 14), .ref (bd 15), .ref (bd 16), .ref (bd 17), .ref (na 21), .ref (na 22), .ref (na 23), .ref (na 24)])), ((bd 12), .inr (2, [.int (bI o99), .ref (na 28), .ref (na 29), .ref (na 30)])), ((bd 13), .inl (ka 0, 8, .inl st)), ((bd 16), .inl (ka 3, 3, .inr (.inr (.inr (.inr (nR na 14)))))), ((bd 15), .inl (ka 3, 6, .inr (.inr (.inr (.inr (nR na 8)))))), ((bd 14), .inl (ka 2, 3, .inl (kI (ktB kp k)))), ((bd 2), .inr (3, [.int (nI L), .ref (bd 7), .ref (bd 8), .ref (bd 9), .ref (bd 10), .ref (bd 11), .int sz9, .int re9])), ((bd 7), .inl (ka 0, 8, .inl mo)), ((bd 8), .inl (ka 0, 8, .inl an)), ((bd 9), .inl (ka 0, 8, .inl pl)), ((bd 10), .inl (ka 0, 24, .inl ho))] ++ nP na N99) H locs := (by have e9 := hB; rw [kt_s] at e9; exact e9)
          exact zretv hF hB (N99, o99) (⟨fun k9 h0 h1 h2 h3 h4 => (hA2.1 k9 h0 h1 h3).trans ((hA1.1 k9 h0 h1 h2).trans (kM0 k9 (fun e8 => hk0 (h4 e8)))), fun b9 hb9 => by
            rcases (show b9 = 0 ∨ b9 = 1 by omega) with rfl | rfl
            · show N99 _ = _
              rw [hA2.1 _ (by omega) (by omega) (by omega), hA1.2]; exact rdT_k hk0 raa (by omega)
            · show N99 _ = _
              rw [hA2.2]; exact rdT_k hk0 raa (by omega), fun _ => by
            show N99 _ = _
            rw [hA2.1 _ (by omega) (by omega) (by omega), hA1.1 _ (by omega) (by omega) (by omega), vM0, raa]⟩) (rfl) dX0_runTrial_53 hQ
        · skip
          exact absurd (by decide) h22

