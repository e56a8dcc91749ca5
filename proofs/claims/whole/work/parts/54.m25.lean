def shB (k : Nat) (v : N5) : Int64 := if nI k = 0 then v.1 else if nI k = 1 then v.2.1 else v.2.2.2.2
set_option maxHeartbeats 4000000 in
set_option maxRecDepth 100000 in
theorem c_X8_shareBy (l : Launch) (D : va_G) (ka : Nat → ClassId) (kb : Nat → Nat) (q : Nat) (ad : Nat → Nat) (o : Bool) (z : mZ) (nu : Nat → Int64) (k : Nat)  : zI l D ka kb yX8_shareBy cX8_shareBy 2 .int 1 22 [.ref q, .int (nI k)] ([(q, .inr (8, mO ad o z)), ((ad 3), .inl (ka 1, 200, .inr (.inl nu)))]) (fun (r : Int32) (_ : Unit) => r = (shB k (getN nu 29)).toInt32) (fun (_ : Unit) => [(q, .inr (8, mO ad o z)), ((ad 3), .inl (ka 1, 200, .inr (.inl nu)))]) := by
  refine zI.mk RX8 (by decide +kernel) rfl (Nat.le_of_ble_eq_true rfl) ?_
  intro p e s m below meth c A ls args Q hQ hx hb hF hB hl
  replace hl : lv_has ls 2 [(0, .ref q), (1, .int (nI k))] := hl
  refine lv_iload_n hx hb dX8_shareBy_0 rfl (lv_at hl 1 rfl) ?_
  refine lv_if_ne (tgt := 14) hx hb dX8_shareBy_1 (by decide) (fun h1 => ?_) (fun h1 => ?_)
  · skip
    have h0 : ¬ nI k = 0 := h1
    refine lv_iload_n hx hb dX8_shareBy_14 rfl (lv_at hl 1 rfl) ?_
    refine lv_iconst (v := 1) hx hb dX8_shareBy_15 (by decide) ?_
    refine lv_icmp_ne (tgt := 29) hx hb dX8_shareBy_16 (by decide) (fun h16 => ?_) (fun h16 => ?_)
    · skip
      have h1 : ¬ nI k = 1 := h16
      refine lv_aload_n hx hb dX8_shareBy_29 rfl (lv_at hl 0 rfl) ?_
      refine lv_bipush (v := 29) hx hb dX8_shareBy_30 (by decide) ?_
      refine lv_iconst (v := 4) hx hb dX8_shareBy_32 (by decide) ?_
      refine zVl zm_X8_120 hF hB (c_X8_at l D ka kb q ad o z nu 29 4 (by decide) (by decide)) [0, 1] rfl (by decide) [q, (ad 3)] (fun _ => rfl) rfl 0 8 rfl rfl rfl ⟨Nat.le_of_ble_eq_true rfl, Nat.le_of_ble_eq_true rfl⟩ rfl hl.1 (Nat.le_of_ble_eq_true rfl) ⟨Nat.le_refl _, Nat.le_refl _⟩ dX8_shareBy_33 ?_
      clear hB
      try clear locs
      try clear H
      intro r1 u1 H locs hp hB
      obtain rfl : r1 = nu (5 * 29 + 4) := hp
      replace hB : zB D A s ([(q, .inr (8, mO ad o z)), ((ad 3), .inl (ka 1, 200, .inr (.inl nu)))]) H locs := hB
      refine lv_l2i (v := (nu (5 * 29 + 4)).toInt32) hx hb dX8_shareBy_36 rfl ?_
      exact zreti hF hB () (by rw [shB, if_neg h0, if_neg h1] <;> rfl) (rfl) (rfl) dX8_shareBy_37 hQ
    · skip
      have h1 : nI k = 1 := h16
      refine lv_aload_n hx hb dX8_shareBy_19 rfl (lv_at hl 0 rfl) ?_
      refine lv_bipush (v := 29) hx hb dX8_shareBy_20 (by decide) ?_
      refine lv_iconst (v := 1) hx hb dX8_shareBy_22 (by decide) ?_
      refine zVl zm_X8_120 hF hB (c_X8_at l D ka kb q ad o z nu 29 1 (by decide) (by decide)) [0, 1] rfl (by decide) [q, (ad 3)] (fun _ => rfl) rfl 0 8 rfl rfl rfl ⟨Nat.le_of_ble_eq_true rfl, Nat.le_of_ble_eq_true rfl⟩ rfl hl.1 (Nat.le_of_ble_eq_true rfl) ⟨Nat.le_refl _, Nat.le_refl _⟩ dX8_shareBy_23 ?_
      clear hB
      try clear locs
      try clear H
      intro r2 u2 H locs hp hB
      obtain rfl : r2 = nu (5 * 29 + 1) := hp
      replace hB : zB D A s ([(q, .inr (8, mO ad o z)), ((ad 3), .inl (ka 1, 200, .inr (.inl nu)))]) H locs := hB
      refine lv_goto (tgt := 36) hx hb dX8_shareBy_26 (by decide) ?_
      refine lv_l2i (v := (nu (5 * 29 + 1)).toInt32) hx hb dX8_shareBy_36 rfl ?_
      exact zreti hF hB () (by rw [shB, if_neg h0, if_pos h1] <;> rfl) (rfl) (rfl) dX8_shareBy_37 hQ
  · skip
    have h0 : nI k = 0 := h1
    refine lv_aload_n hx hb dX8_shareBy_4 rfl (lv_at hl 0 rfl) ?_
    refine lv_bipush (v := 29) hx hb dX8_shareBy_5 (by decide) ?_
    refine lv_iconst (v := 0) hx hb dX8_shareBy_7 (by decide) ?_
    refine zVl zm_X8_120 hF hB (c_X8_at l D ka kb q ad o z nu 29 0 (by decide) (by decide)) [0, 1] rfl (by decide) [q, (ad 3)] (fun _ => rfl) rfl 0 8 rfl rfl rfl ⟨Nat.le_of_ble_eq_true rfl, Nat.le_of_ble_eq_true rfl⟩ rfl hl.1 (Nat.le_of_ble_eq_true rfl) ⟨Nat.le_refl _, Nat.le_refl _⟩ dX8_shareBy_8 ?_
    clear hB
    try clear locs
    try clear H
    intro r3 u3 H locs hp hB
    obtain rfl : r3 = nu (5 * 29 + 0) := hp
    replace hB : zB D A s ([(q, .inr (8, mO ad o z)), ((ad 3), .inl (ka 1, 200, .inr (.inl nu)))]) H locs := hB
    refine lv_goto (tgt := 36) hx hb dX8_shareBy_11 (by decide) ?_
    refine lv_l2i (v := (nu (5 * 29 + 0)).toInt32) hx hb dX8_shareBy_36 rfl ?_
    exact zreti hF hB () (by rw [shB, if_pos h0] <;> rfl) (rfl) (rfl) dX8_shareBy_37 hQ
