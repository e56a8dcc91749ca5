noncomputable def trK (k m a : Int32) : Bool := dB (inI k 3 = true ∧ (k = 0 ∨ (inM m = true ∧ inI a 12 = true)))
/-- the reading by a trial, bearing b -/
def rdT (k m a : Int32) (L : Nat) (mo an pl ho ga lg : Nat → Int32) (b : Nat) : N5 := rd3 (pulI 0 L mo an pl ho) (pulI 1 L mo an pl ho) (if aN k = 1 then m.toInt else 0) (if aN k = 2 then m.toInt else 0) (if aN k = 0 then 0 else aN a) (ga (2 * b)).toInt (aN (lg (2 * b))) (ga (2 * b + 1)).toInt (aN (lg (2 * b + 1)))
set_option maxHeartbeats 4000000 in
set_option maxRecDepth 100000 in
theorem c_X8_trial_b (l : Launch) (D : va_G) (ka : Nat → ClassId) (kb : Nat → Nat) (q : Nat) (ad : Nat → Nat) (o : Bool) (z : mZ) (pu : Nat → Int64) (L : Nat) (mo : Nat → Int32) (an : Nat → Int32) (pl : Nat → Int32) (ho : Nat → Int32) (nu : Nat → Int64) (ga : Nat → Int32) (lg : Nat → Int32) (pm : Nat → Int32) (pa : Nat → Int32) (kq : Int32) (mq : Int32) (aq : Int32) (hL : z.2.1 = nI L) (hok : okL L mo an pl) (hoh : okH ho) (hga : ∀ i, i < 4 → 0 ≤ (ga i).toInt ∧ (ga i).toInt ≤ 9) (hlg : ∀ i, i < 4 → ∃ l9, l9 < 12 ∧ lg i = nI l9) (hkb : trK kq mq aq = false) : zI l D ka kb yX8_trial cX8_trial 6 .int 2 45 [.ref q, .int kq, .int mq, .int aq] ([(q, .inr (8, mO ad o z)), ((ad 9), .inl (ka 1, 4, .inr (.inl pu))), ((ad 4), .inl (ka 0, 8, .inl mo)), ((ad 5), .inl (ka 0, 8, .inl an)), ((ad 6), .inl (ka 0, 8, .inl pl)), ((ad 7), .inl (ka 0, 24, .inl ho)), ((ad 3), .inl (ka 1, 200, .inr (.inl nu))), ((ad 10), .inl (ka 0, 4, .inl ga)), ((ad 11), .inl (ka 0, 4, .inl lg)), ((ad 12), .inl (ka 0, 3, .inl pm)), ((ad 13), .inl (ka 0, 3, .inl pa))]) (fun (r : Int32) (u : Bool × (Nat → Int64) × (Nat → Int64)) => r = (if trK kq mq aq = true then bcnt (z.2.2.2.2.1 ||| ((1 : Int32) <<< (kq &&& 31))) 12 else -2) ∧ (trK kq mq aq = false → u.2.2 = nu) ∧ (trK kq mq aq = true → keepN [20, 21, 22, 23, 24, 25, 6 + 2 * aN kq, 6 + 2 * aN kq + 1] nu u.2.2 ∧ getN u.2.2 (6 + 2 * aN kq) = rdT kq mq aq L mo an pl ho ga lg 0 ∧ getN u.2.2 (6 + 2 * aN kq + 1) = rdT kq mq aq L mo an pl ho ga lg 1)) (fun (u : Bool × (Nat → Int64) × (Nat → Int64)) => [(q, .inr (8, mX ad (bI u.1) z.1 z.2.1 z.2.2.1 z.2.2.2.1 (if trK kq mq aq = true then (z.2.2.2.2.1 ||| ((1 : Int32) <<< (kq &&& 31))) else z.2.2.2.2.1) z.2.2.2.2.2.1 z.2.2.2.2.2.2.1 z.2.2.2.2.2.2.2)), ((ad 9), .inl (ka 1, 4, .inr (.inl u.2.1))), ((ad 4), .inl (ka 0, 8, .inl mo)), ((ad 5), .inl (ka 0, 8, .inl an)), ((ad 6), .inl (ka 0, 8, .inl pl)), ((ad 7), .inl (ka 0, 24, .inl ho)), ((ad 3), .inl (ka 1, 200, .inr (.inl u.2.2))), ((ad 10), .inl (ka 0, 4, .inl ga)), ((ad 11), .inl (ka 0, 4, .inl lg)), ((ad 12), .inl (ka 0, 3, .inl (if trK kq mq aq = true then upd pm (aN kq) (if aN kq = 0 then 0 else mq) else pm))), ((ad 13), .inl (ka 0, 3, .inl (if trK kq mq aq = true then upd pa (aN kq) (if aN kq = 0 then 0 else aq) else pa)))]) := by
  refine zI.mk RX8 (by decide +kernel) rfl (Nat.le_of_ble_eq_true rfl) ?_
  intro p e s m below meth c A ls args Q hQ hx hb hF hB hl
  replace hl : lv_has ls 6 [(0, .ref q), (1, .int kq), (2, .int mq), (3, .int aq)] := hl
  refine lv_iload_n hx hb dX8_trial_0 rfl (lv_at hl 1 rfl) ?_
  refine lv_i2l (v := kq.toInt64) hx hb dX8_trial_1 rfl ?_
  refine lv_lconst (v := 0) hx hb dX8_trial_2 (by decide) ?_
  refine zldc2 (v := (2 : Int64)) ww_26_6 hF dX8_trial_3 ?_
  refine zSi zm_X8_72 hF hB (c_X8_in l D ka kb kq.toInt64 (0 : Int64) (2 : Int64) ) [] rfl (by decide) [] (fun _ => rfl) rfl rfl ⟨Nat.le_of_ble_eq_true rfl, Nat.le_of_ble_eq_true rfl⟩ rfl hl.1 (Nat.le_of_ble_eq_true rfl) ⟨Nat.le_refl _, Nat.le_refl _⟩ dX8_trial_6 ?_
  clear hB
  try clear locs
  try clear H
  intro r1 u1 H locs hp hB
  obtain rfl : r1 = bI (zin kq.toInt64 (0 : Int64) (2 : Int64)) := hp
  replace hB : zB D A s ([(q, .inr (8, mO ad o z)), ((ad 9), .inl (ka 1, 4, .inr (.inl pu))), ((ad 4), .inl (ka 0, 8, .inl mo)), ((ad 5), .inl (ka 0, 8, .inl an)), ((ad 6), .inl (ka 0, 8, .inl pl)), ((ad 7), .inl (ka 0, 24, .inl ho)), ((ad 3), .inl (ka 1, 200, .inr (.inl nu))), ((ad 10), .inl (ka 0, 4, .inl ga)), ((ad 11), .inl (ka 0, 4, .inl lg)), ((ad 12), .inl (ka 0, 3, .inl pm)), ((ad 13), .inl (ka 0, 3, .inl pa))]) H locs := hB
  refine lv_if_eq (tgt := 35) hx hb dX8_trial_9 (by decide) (fun h9 => ?_) (fun h9 => ?_)
  · skip
    have hs9 : inI kq 3 = false := (zin_inI kq 3 (by decide) (by decide)).symm.trans (bI_eq0 h9)
    refine lv_bipush (v := -2) hx hb dX8_trial_35 (by decide) ?_
    exact zreti hF hB (o, pu, nu) (⟨by rw [if_neg (by rw [hkb]; decide)], fun _ => rfl, fun e8 => by rw [hkb] at e8; exact absurd e8 (by decide)⟩) (by rw [hkb] <;> rfl) (rfl) dX8_trial_37 hQ
  · skip
    have hs9 : inI kq 3 = true := (zin_inI kq 3 (by decide) (by decide)).symm.trans (bI_ne0 h9)
    refine lv_iload_n hx hb dX8_trial_12 rfl (lv_at hl 1 rfl) ?_
    refine lv_if_le (tgt := 38) hx hb dX8_trial_13 (by decide) (fun h13 => ?_) (fun h13 => ?_)
    · skip
      exact absurd (hkb.symm.trans (dB_t.mpr ⟨hs9, Or.inl (by have h8 := (i32_le_i _ _).mp h13; have h7 := dB_t.mp hs9; have e6 : (0 : Int32).toInt = 0 := rfl; exact i32_eq.mpr (by omega))⟩)) (by decide)
    · skip
      refine lv_iload_n hx hb dX8_trial_16 rfl (lv_at hl 2 rfl) ?_
      refine lv_i2l (v := mq.toInt64) hx hb dX8_trial_17 rfl ?_
      refine lv_lconst (v := 1) hx hb dX8_trial_18 (by decide) ?_
      refine zldc2 (v := (99 : Int64)) ww_18_5 hF dX8_trial_19 ?_
      refine zSi zm_X8_72 hF hB (c_X8_in l D ka kb mq.toInt64 (1 : Int64) (99 : Int64) ) [] rfl (by decide) [] (fun _ => rfl) rfl rfl ⟨Nat.le_of_ble_eq_true rfl, Nat.le_of_ble_eq_true rfl⟩ rfl hl.1 (Nat.le_of_ble_eq_true rfl) ⟨Nat.le_refl _, Nat.le_refl _⟩ dX8_trial_22 ?_
      clear hB
      try clear locs
      try clear H
      intro r2 u2 H locs hp hB
      obtain rfl : r2 = bI (zin mq.toInt64 (1 : Int64) (99 : Int64)) := hp
      replace hB : zB D A s ([(q, .inr (8, mO ad o z)), ((ad 9), .inl (ka 1, 4, .inr (.inl pu))), ((ad 4), .inl (ka 0, 8, .inl mo)), ((ad 5), .inl (ka 0, 8, .inl an)), ((ad 6), .inl (ka 0, 8, .inl pl)), ((ad 7), .inl (ka 0, 24, .inl ho)), ((ad 3), .inl (ka 1, 200, .inr (.inl nu))), ((ad 10), .inl (ka 0, 4, .inl ga)), ((ad 11), .inl (ka 0, 4, .inl lg)), ((ad 12), .inl (ka 0, 3, .inl pm)), ((ad 13), .inl (ka 0, 3, .inl pa))]) H locs := hB
      refine lv_if_eq (tgt := 35) hx hb dX8_trial_25 (by decide) (fun h25 => ?_) (fun h25 => ?_)
      · skip
        have hm9 : inM mq = false := (zin_M mq).symm.trans (bI_eq0 h25)
        refine lv_bipush (v := -2) hx hb dX8_trial_35 (by decide) ?_
        exact zreti hF hB (o, pu, nu) (⟨by rw [if_neg (by rw [hkb]; decide)], fun _ => rfl, fun e8 => by rw [hkb] at e8; exact absurd e8 (by decide)⟩) (by rw [hkb] <;> rfl) (rfl) dX8_trial_37 hQ
      · skip
        have hm9 : inM mq = true := (zin_M mq).symm.trans (bI_ne0 h25)
        have hm99 : 0 ≤ mq.toInt ∧ mq.toInt ≤ 99 := by have := dB_t.mp hm9; omega
        refine lv_iload_n hx hb dX8_trial_28 rfl (lv_at hl 3 rfl) ?_
        refine zSi zm_X8_218 hF hB (c_X8_isAngle l D ka kb aq ) [] rfl (by decide) [] (fun _ => rfl) rfl rfl ⟨Nat.le_of_ble_eq_true rfl, Nat.le_of_ble_eq_true rfl⟩ rfl hl.1 (Nat.le_of_ble_eq_true rfl) ⟨Nat.le_refl _, Nat.le_refl _⟩ dX8_trial_29 ?_
        clear hB
        try clear locs
        try clear H
        intro r3 u3 H locs hp hB
        obtain rfl : r3 = bI (inI aq 12) := hp
        replace hB : zB D A s ([(q, .inr (8, mO ad o z)), ((ad 9), .inl (ka 1, 4, .inr (.inl pu))), ((ad 4), .inl (ka 0, 8, .inl mo)), ((ad 5), .inl (ka 0, 8, .inl an)), ((ad 6), .inl (ka 0, 8, .inl pl)), ((ad 7), .inl (ka 0, 24, .inl ho)), ((ad 3), .inl (ka 1, 200, .inr (.inl nu))), ((ad 10), .inl (ka 0, 4, .inl ga)), ((ad 11), .inl (ka 0, 4, .inl lg)), ((ad 12), .inl (ka 0, 3, .inl pm)), ((ad 13), .inl (ka 0, 3, .inl pa))]) H locs := hB
        refine lv_if_ne (tgt := 38) hx hb dX8_trial_32 (by decide) (fun h32 => ?_) (fun h32 => ?_)
        · skip
          exact absurd (hkb.symm.trans (dB_t.mpr ⟨hs9, Or.inr ⟨hm9, bI_ne0 h32⟩⟩)) (by decide)
        · skip
          refine lv_bipush (v := -2) hx hb dX8_trial_35 (by decide) ?_
          exact zreti hF hB (o, pu, nu) (⟨by rw [if_neg (by rw [hkb]; decide)], fun _ => rfl, fun e8 => by rw [hkb] at e8; exact absurd e8 (by decide)⟩) (by rw [hkb] <;> rfl) (rfl) dX8_trial_37 hQ
