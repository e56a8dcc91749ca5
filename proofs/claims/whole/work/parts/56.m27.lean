noncomputable def spK (p a m9 cc : Int32) : Bool := dB (inI p 2 = true ∧ inI a 12 = true ∧ inM m9 = true ∧ inI cc 8 = true)
set_option maxHeartbeats 4000000 in
set_option maxRecDepth 100000 in
theorem c_X8_split (l : Launch) (D : va_G) (ka : Nat → ClassId) (kb : Nat → Nat) (q : Nat) (ad : Nat → Nat) (o : Bool) (z : mZ) (nu : Nat → Int64) (le : Nat → Int32) (pq : Int32) (aq : Int32) (mq : Int32) (cq : Int32)  : zI l D ka kb yX8_split cX8_split 5 .int 4 116 [.ref q, .int pq, .int aq, .int mq, .int cq] ([(q, .inr (8, mO ad o z)), ((ad 8), .inl (ka 0, 2, .inl le)), ((ad 3), .inl (ka 1, 200, .inr (.inl nu)))]) (fun (r : Int32) (_ : Unit) => r = if spK pq aq mq cq = true then (spZ (le (aN pq)) (aN aq) mq (aN cq) nu).1 else -2) (fun (_ : Unit) => [(q, .inr (8, mO ad o z)), ((ad 8), .inl (ka 0, 2, .inl le)), ((ad 3), .inl (ka 1, 200, .inr (.inl (if spK pq aq mq cq = true then (spZ (le (aN pq)) (aN aq) mq (aN cq) nu).2 else nu))))]) := by
  refine zI.mk RX8 (by decide +kernel) rfl (Nat.le_of_ble_eq_true rfl) ?_
  intro p e s m below meth c A ls args Q hQ hx hb hF hB hl
  replace hl : lv_has ls 5 [(0, .ref q), (1, .int pq), (2, .int aq), (3, .int mq), (4, .int cq)] := hl
  refine lv_iload_n hx hb dX8_split_0 rfl (lv_at hl 1 rfl) ?_
  refine zSi zm_X8_226 hF hB (c_X8_isTwo l D ka kb pq ) [] rfl (by decide) [] (fun _ => rfl) rfl rfl ⟨Nat.le_of_ble_eq_true rfl, Nat.le_of_ble_eq_true rfl⟩ rfl hl.1 (Nat.le_of_ble_eq_true rfl) ⟨Nat.le_refl _, Nat.le_refl _⟩ dX8_split_1 ?_
  clear hB
  try clear locs
  try clear H
  intro r1 u1 H locs hp hB
  obtain rfl : r1 = bI (inI pq 2) := hp
  replace hB : zB D A s ([(q, .inr (8, mO ad o z)), ((ad 8), .inl (ka 0, 2, .inl le)), ((ad 3), .inl (ka 1, 200, .inr (.inl nu)))]) H locs := hB
  refine lv_if_eq (tgt := 51) hx hb dX8_split_4 (by decide) (fun h4 => ?_) (fun h4 => ?_)
  · skip
    refine lv_bipush (v := -2) hx hb dX8_split_51 (by decide) ?_
    have hk9 : spK pq aq mq cq = false := dB_f.mpr (fun e8 => by rw [bI_eq0 h4] at e8; exact absurd e8.1 (by decide))
    exact zreti hF hB () (by rw [if_neg (by rw [hk9]; decide)]) (by rw [hk9] <;> rfl) (rfl) dX8_split_53 hQ
  · skip
    have hpp1 : inI pq 2 = true := bI_ne0 h4
    obtain ⟨pp, hpp2, hpp3⟩ := inI_of hpp1 (by decide)
    subst hpp3
    have rpp : aN (nI pp) = pp := aNn hpp2 (by decide)
    refine lv_iload_n hx hb dX8_split_7 rfl (lv_at hl 2 rfl) ?_
    refine zSi zm_X8_218 hF hB (c_X8_isAngle l D ka kb aq ) [] rfl (by decide) [] (fun _ => rfl) rfl rfl ⟨Nat.le_of_ble_eq_true rfl, Nat.le_of_ble_eq_true rfl⟩ rfl hl.1 (Nat.le_of_ble_eq_true rfl) ⟨Nat.le_refl _, Nat.le_refl _⟩ dX8_split_8 ?_
    clear hB
    try clear locs
    try clear H
    intro r2 u2 H locs hp hB
    obtain rfl : r2 = bI (inI aq 12) := hp
    replace hB : zB D A s ([(q, .inr (8, mO ad o z)), ((ad 8), .inl (ka 0, 2, .inl le)), ((ad 3), .inl (ka 1, 200, .inr (.inl nu)))]) H locs := hB
    refine lv_if_eq (tgt := 51) hx hb dX8_split_11 (by decide) (fun h11 => ?_) (fun h11 => ?_)
    · skip
      refine lv_bipush (v := -2) hx hb dX8_split_51 (by decide) ?_
      have hk9 : spK (nI pp) aq mq cq = false := dB_f.mpr (fun e8 => by rw [bI_eq0 h11] at e8; exact absurd e8.2.1 (by decide))
      exact zreti hF hB () (by rw [if_neg (by rw [hk9]; decide)]) (by rw [hk9] <;> rfl) (rfl) dX8_split_53 hQ
    · skip
      have haa1 : inI aq 12 = true := bI_ne0 h11
      obtain ⟨aa, haa2, haa3⟩ := inI_of haa1 (by decide)
      subst haa3
      have raa : aN (nI aa) = aa := aNn haa2 (by decide)
      refine lv_iload_n hx hb dX8_split_14 rfl (lv_at hl 3 rfl) ?_
      refine lv_i2l (v := mq.toInt64) hx hb dX8_split_15 rfl ?_
      refine lv_lconst (v := 1) hx hb dX8_split_16 (by decide) ?_
      refine zldc2 (v := (99 : Int64)) ww_18_5 hF dX8_split_17 ?_
      refine zSi zm_X8_72 hF hB (c_X8_in l D ka kb mq.toInt64 (1 : Int64) (99 : Int64) ) [] rfl (by decide) [] (fun _ => rfl) rfl rfl ⟨Nat.le_of_ble_eq_true rfl, Nat.le_of_ble_eq_true rfl⟩ rfl hl.1 (Nat.le_of_ble_eq_true rfl) ⟨Nat.le_refl _, Nat.le_refl _⟩ dX8_split_20 ?_
      clear hB
      try clear locs
      try clear H
      intro r3 u3 H locs hp hB
      obtain rfl : r3 = bI (zin mq.toInt64 (1 : Int64) (99 : Int64)) := hp
      replace hB : zB D A s ([(q, .inr (8, mO ad o z)), ((ad 8), .inl (ka 0, 2, .inl le)), ((ad 3), .inl (ka 1, 200, .inr (.inl nu)))]) H locs := hB
      refine lv_if_eq (tgt := 51) hx hb dX8_split_23 (by decide) (fun h23 => ?_) (fun h23 => ?_)
      · skip
        have hs9 : inM mq = false := (zin_M mq).symm.trans (bI_eq0 h23)
        refine lv_bipush (v := -2) hx hb dX8_split_51 (by decide) ?_
        have hk9 : spK (nI pp) (nI aa) mq cq = false := dB_f.mpr (fun e8 => by rw [hs9] at e8; exact absurd e8.2.2.1 (by decide))
        exact zreti hF hB () (by rw [if_neg (by rw [hk9]; decide)]) (by rw [hk9] <;> rfl) (rfl) dX8_split_53 hQ
      · skip
        have hm9 : inM mq = true := (zin_M mq).symm.trans (bI_ne0 h23)
        refine lv_iload hx hb dX8_split_26 (lv_at hl 4 rfl) ?_
        refine lv_i2l (v := cq.toInt64) hx hb dX8_split_28 rfl ?_
        refine lv_lconst (v := 0) hx hb dX8_split_29 (by decide) ?_
        refine zldc2 (v := (7 : Int64)) ww_38_0 hF dX8_split_30 ?_
        refine zSi zm_X8_72 hF hB (c_X8_in l D ka kb cq.toInt64 (0 : Int64) (7 : Int64) ) [] rfl (by decide) [] (fun _ => rfl) rfl rfl ⟨Nat.le_of_ble_eq_true rfl, Nat.le_of_ble_eq_true rfl⟩ rfl hl.1 (Nat.le_of_ble_eq_true rfl) ⟨Nat.le_refl _, Nat.le_refl _⟩ dX8_split_33 ?_
        clear hB
        try clear locs
        try clear H
        intro r4 u4 H locs hp hB
        obtain rfl : r4 = bI (zin cq.toInt64 (0 : Int64) (7 : Int64)) := hp
        replace hB : zB D A s ([(q, .inr (8, mO ad o z)), ((ad 8), .inl (ka 0, 2, .inl le)), ((ad 3), .inl (ka 1, 200, .inr (.inl nu)))]) H locs := hB
        refine lv_if_eq (tgt := 51) hx hb dX8_split_36 (by decide) (fun h36 => ?_) (fun h36 => ?_)
        · skip
          have hs9 : inI cq 8 = false := (zin_inI cq 8 (by decide) (by decide)).symm.trans (bI_eq0 h36)
          refine lv_bipush (v := -2) hx hb dX8_split_51 (by decide) ?_
          have hk9 : spK (nI pp) (nI aa) mq cq = false := dB_f.mpr (fun e8 => by rw [hs9] at e8; exact absurd e8.2.2.2 (by decide))
          exact zreti hF hB () (by rw [if_neg (by rw [hk9]; decide)]) (by rw [hk9] <;> rfl) (rfl) dX8_split_53 hQ
        · skip
          have hs8 : inI cq 8 = true := (zin_inI cq 8 (by decide) (by decide)).symm.trans (bI_ne0 h36)
          obtain ⟨cc, hcc2, hcc3⟩ := inI_of hs8 (by decide)
          subst hcc3
          have rcc : aN (nI cc) = cc := aNn hcc2 (by decide)
          refine lv_aload_n hx hb dX8_split_39 rfl (lv_at hl 0 rfl) ?_
          refine lv_iload_n hx hb dX8_split_40 rfl (lv_at hl 1 rfl) ?_
          refine lv_iload_n hx hb dX8_split_41 rfl (lv_at hl 2 rfl) ?_
          refine lv_iload_n hx hb dX8_split_42 rfl (lv_at hl 3 rfl) ?_
          refine lv_iload hx hb dX8_split_43 (lv_at hl 4 rfl) ?_
          have hk9 : spK (nI pp) (nI aa) mq (nI cc) = true := dB_t.mpr ⟨hpp1, haa1, hm9, hs8⟩
          refine zVi zm_X8_321 hF hB (c_X8_splitBy l D ka kb q ad o z nu le pp aa mq cc (hpp2) (haa2) (hcc2)) [0, 1, 2] rfl (by decide) [q, (ad 8), (ad 3)] (fun _ => rfl) rfl 0 8 rfl rfl rfl ⟨Nat.le_of_ble_eq_true rfl, Nat.le_of_ble_eq_true rfl⟩ rfl hl.1 (Nat.le_of_ble_eq_true rfl) ⟨Nat.le_refl _, Nat.le_refl _⟩ dX8_split_45 ?_
          clear hB
          try clear locs
          try clear H
          intro r5 u5 H locs hp hB
          obtain rfl : r5 = (spZ (le pp) aa mq cc nu).1 := hp
          replace hB : zB D A s ([(q, .inr (8, mO ad o z)), ((ad 8), .inl (ka 0, 2, .inl le)), ((ad 3), .inl (ka 1, 200, .inr (.inl ((spZ (le pp) aa mq cc nu).2))))]) H locs := hB
          refine lv_goto (tgt := 53) hx hb dX8_split_48 (by decide) ?_
          exact zreti hF hB () (by rw [if_pos hk9, rpp, raa, rcc]) (by rw [if_pos hk9, rpp, raa, rcc]) (rfl) dX8_split_53 hQ
