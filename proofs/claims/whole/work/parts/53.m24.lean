def shN (m : Int32) (k j : Nat) : N5 := if siW j true = 1 then lowN (3 * (m.toInt64 * (nI (siW k true)).toInt64)) (m.toInt64 * (nI (siW k false)).toInt64) 0 0 3 else lowN (m.toInt64 * (nI (siW k false)).toInt64) (m.toInt64 * (nI (siW k true)).toInt64) 0 0 (nI (siW j false)).toInt64
theorem siW_b (k : Nat) (co : Bool) : siW k co < 2 ^ 31 := by unfold siW; split <;> split <;> (try split) <;> omega
theorem siW_d {j : Nat} (h : 1 ≤ j ∧ j ≤ 5) (h2 : ¬ siW j true = 1) : 0 < (nI (siW j false)).toInt64.toInt := by
  rcases (show j = 1 ∨ j = 2 ∨ j = 3 ∨ j = 4 ∨ j = 5 by omega) with rfl | rfl | rfl | rfl | rfl
  · decide
  · exact absurd rfl h2
  · decide
  · exact absurd rfl h2
  · decide
set_option maxHeartbeats 4000000 in
set_option maxRecDepth 100000 in
theorem c_X8_shares (l : Launch) (D : va_G) (ka : Nat → ClassId) (kb : Nat → Nat) (q : Nat) (ad : Nat → Nat) (o : Bool) (z : mZ) (nu : Nat → Int64) (mq : Int32) (k : Nat) (j : Nat) (hk : k < 12) (hj : 1 ≤ j ∧ j ≤ 5) : zV l D ka kb yX8_shares cX8_shares 8 2 63 [.ref q, .int mq, .int (nI k), .int (nI j)] ([(q, .inr (8, mO ad o z)), ((ad 3), .inl (ka 1, 200, .inr (.inl nu)))]) (fun (_ : Unit) => True) (fun (_ : Unit) => [(q, .inr (8, mO ad o z)), ((ad 3), .inl (ka 1, 200, .inr (.inl (setN nu 29 (shN mq k j)))))]) := by
  refine zV.mk RX8 (by decide +kernel) rfl (Nat.le_of_ble_eq_true rfl) ?_
  intro p e s m below meth c A ls args Q hQ hx hb hF hB hl
  replace hl : lv_has ls 8 [(0, .ref q), (1, .int mq), (2, .int (nI k)), (3, .int (nI j))] := hl
  refine lv_iload_n hx hb dX8_shares_0 rfl (lv_at hl 1 rfl) ?_
  refine lv_i2l (v := mq.toInt64) hx hb dX8_shares_1 rfl ?_
  refine lv_iload_n hx hb dX8_shares_2 rfl (lv_at hl 2 rfl) ?_
  refine lv_iconst (v := 0) hx hb dX8_shares_3 (by decide) ?_
  refine zSi zm_X8_306 hF hB (c_X8_sine l D ka kb k false (hk)) [] rfl (by decide) [] (fun _ => rfl) rfl rfl ⟨Nat.le_of_ble_eq_true rfl, Nat.le_of_ble_eq_true rfl⟩ rfl hl.1 (Nat.le_of_ble_eq_true rfl) ⟨Nat.le_refl _, Nat.le_refl _⟩ dX8_shares_4 ?_
  clear hB
  try clear locs
  try clear H
  intro r1 u1 H locs hp hB
  obtain rfl : r1 = nI (siW k false) := hp
  replace hB : zB D A s ([(q, .inr (8, mO ad o z)), ((ad 3), .inl (ka 1, 200, .inr (.inl nu)))]) H locs := hB
  refine lv_i2l (v := (nI (siW k false)).toInt64) hx hb dX8_shares_7 rfl ?_
  refine lv_lmul hx hb dX8_shares_8 ?_
  refine lv_lstore (lv' := [(4, .long (mq.toInt64 * (nI (siW k false)).toInt64)), (0, .ref q), (1, .int mq), (2, .int (nI k)), (3, .int (nI j))]) hx hb dX8_shares_9 hl (by decide) rfl ?_
  clear hl
  clear ls
  intro ls hl
  refine lv_iload_n hx hb dX8_shares_11 rfl (lv_at hl 2 rfl) ?_
  refine lv_i2l (v := mq.toInt64) hx hb dX8_shares_12 rfl ?_
  refine lv_iload_n hx hb dX8_shares_13 rfl (lv_at hl 3 rfl) ?_
  refine lv_iconst (v := 1) hx hb dX8_shares_14 (by decide) ?_
  refine zSi zm_X8_306 hF hB (c_X8_sine l D ka kb k true (hk)) [] rfl (by decide) [] (fun _ => rfl) rfl rfl ⟨Nat.le_of_ble_eq_true rfl, Nat.le_of_ble_eq_true rfl⟩ rfl hl.1 (Nat.le_of_ble_eq_true rfl) ⟨Nat.le_refl _, Nat.le_refl _⟩ dX8_shares_15 ?_
  clear hB
  try clear locs
  try clear H
  intro r2 u2 H locs hp hB
  obtain rfl : r2 = nI (siW k true) := hp
  replace hB : zB D A s ([(q, .inr (8, mO ad o z)), ((ad 3), .inl (ka 1, 200, .inr (.inl nu)))]) H locs := hB
  refine lv_i2l (v := (nI (siW k true)).toInt64) hx hb dX8_shares_18 rfl ?_
  refine lv_lmul hx hb dX8_shares_19 ?_
  refine lv_lstore (lv' := [(6, .long (mq.toInt64 * (nI (siW k true)).toInt64)), (4, .long (mq.toInt64 * (nI (siW k false)).toInt64)), (0, .ref q), (1, .int mq), (2, .int (nI k)), (3, .int (nI j))]) hx hb dX8_shares_20 hl (by decide) rfl ?_
  clear hl
  clear ls
  intro ls hl
  refine lv_iload_n hx hb dX8_shares_22 rfl (lv_at hl 5 rfl) ?_
  refine lv_iconst (v := 1) hx hb dX8_shares_23 (by decide) ?_
  refine zSi zm_X8_306 hF hB (c_X8_sine l D ka kb j true (by omega)) [] rfl (by decide) [] (fun _ => rfl) rfl rfl ⟨Nat.le_of_ble_eq_true rfl, Nat.le_of_ble_eq_true rfl⟩ rfl hl.1 (Nat.le_of_ble_eq_true rfl) ⟨Nat.le_refl _, Nat.le_refl _⟩ dX8_shares_24 ?_
  clear hB
  try clear locs
  try clear H
  intro r3 u3 H locs hp hB
  obtain rfl : r3 = nI (siW j true) := hp
  replace hB : zB D A s ([(q, .inr (8, mO ad o z)), ((ad 3), .inl (ka 1, 200, .inr (.inl nu)))]) H locs := hB
  refine lv_iconst (v := 1) hx hb dX8_shares_27 (by decide) ?_
  refine lv_icmp_ne (tgt := 53) hx hb dX8_shares_28 (by decide) (fun h28 => ?_) (fun h28 => ?_)
  · skip
    have hs9 : ¬ siW j true = 1 := fun e8 => h28 (by rw [e8]; rfl)
    refine lv_aload_n hx hb dX8_shares_53 rfl (lv_at hl 2 rfl) ?_
    refine lv_bipush (v := 29) hx hb dX8_shares_54 (by decide) ?_
    refine lv_lload hx hb dX8_shares_56 (lv_at hl 1 rfl) ?_
    refine lv_lload hx hb dX8_shares_58 (lv_at hl 0 rfl) ?_
    refine lv_lconst (v := 0) hx hb dX8_shares_60 (by decide) ?_
    refine lv_lconst (v := 0) hx hb dX8_shares_61 (by decide) ?_
    refine lv_iload_n hx hb dX8_shares_62 rfl (lv_at hl 5 rfl) ?_
    refine lv_iconst (v := 0) hx hb dX8_shares_63 (by decide) ?_
    refine zSi16 zm_X8_306 hF hB (c_X8_sine l D ka kb j false (by omega)) [] rfl (by decide) [] (fun _ => rfl) rfl rfl ⟨Nat.le_of_ble_eq_true rfl, Nat.le_of_ble_eq_true rfl⟩ rfl hl.1 (Nat.le_of_ble_eq_true rfl) ⟨Nat.le_refl _, Nat.le_refl _⟩ dX8_shares_64 ?_
    clear hB
    try clear locs
    try clear H
    intro r4 u4 H locs hp hB
    obtain rfl : r4 = nI (siW j false) := hp
    replace hB : zB D A s ([(q, .inr (8, mO ad o z)), ((ad 3), .inl (ka 1, 200, .inr (.inl nu)))]) H locs := hB
    refine lv_i2l (v := (nI (siW j false)).toInt64) hx hb dX8_shares_67 rfl ?_
    refine zVv zm_X8_134 hF hB (c_X8_lays l D ka kb q ad o z nu 29 (mq.toInt64 * (nI (siW k false)).toInt64) (mq.toInt64 * (nI (siW k true)).toInt64) (0 : Int64) (0 : Int64) ((nI (siW j false)).toInt64) (by decide) (siW_d hj hs9)) [0, 1] rfl (by decide) [q, (ad 3)] (fun _ => rfl) rfl 0 8 rfl rfl rfl ⟨Nat.le_of_ble_eq_true rfl, Nat.le_of_ble_eq_true rfl⟩ rfl hl.1 (Nat.le_of_ble_eq_true rfl) ⟨Nat.le_refl _, Nat.le_refl _⟩ dX8_shares_68 ?_
    clear hB
    try clear locs
    try clear H
    intro u5 H locs hp hB
    replace hB : zB D A s ([(q, .inr (8, mO ad o z)), ((ad 3), .inl (ka 1, 200, .inr (.inl (setN nu 29 (lowN (mq.toInt64 * (nI (siW k false)).toInt64) (mq.toInt64 * (nI (siW k true)).toInt64) (0 : Int64) (0 : Int64) ((nI (siW j false)).toInt64))))))]) H locs := hB
    exact zretv hF hB () (trivial) (by rw [shN, if_neg hs9] <;> rfl) dX8_shares_71 hQ
  · skip
    have hs9 : siW j true = 1 := (nI_eq (b := 1) (siW_b j true) (by decide)).mp h28
    refine lv_aload_n hx hb dX8_shares_31 rfl (lv_at hl 2 rfl) ?_
    refine lv_bipush (v := 29) hx hb dX8_shares_32 (by decide) ?_
    refine zldc2 (v := (3 : Int64)) ww_9_19 hF dX8_shares_34 ?_
    refine lv_lload hx hb dX8_shares_37 (lv_at hl 0 rfl) ?_
    refine lv_lmul hx hb dX8_shares_39 ?_
    refine lv_lload hx hb dX8_shares_40 (lv_at hl 1 rfl) ?_
    refine lv_lconst (v := 0) hx hb dX8_shares_42 (by decide) ?_
    refine lv_lconst (v := 0) hx hb dX8_shares_43 (by decide) ?_
    refine zldc2 (v := (3 : Int64)) ww_9_19 hF dX8_shares_44 ?_
    refine zVv zm_X8_134 hF hB (c_X8_lays l D ka kb q ad o z nu 29 ((3 : Int64) * (mq.toInt64 * (nI (siW k true)).toInt64)) (mq.toInt64 * (nI (siW k false)).toInt64) (0 : Int64) (0 : Int64) (3 : Int64) (by decide) (by decide)) [0, 1] rfl (by decide) [q, (ad 3)] (fun _ => rfl) rfl 0 8 rfl rfl rfl ⟨Nat.le_of_ble_eq_true rfl, Nat.le_of_ble_eq_true rfl⟩ rfl hl.1 (Nat.le_of_ble_eq_true rfl) ⟨Nat.le_refl _, Nat.le_refl _⟩ dX8_shares_47 ?_
    clear hB
    try clear locs
    try clear H
    intro u6 H locs hp hB
    replace hB : zB D A s ([(q, .inr (8, mO ad o z)), ((ad 3), .inl (ka 1, 200, .inr (.inl (setN nu 29 (lowN ((3 : Int64) * (mq.toInt64 * (nI (siW k true)).toInt64)) (mq.toInt64 * (nI (siW k false)).toInt64) (0 : Int64) (0 : Int64) (3 : Int64))))))]) H locs := hB
    refine lv_goto (tgt := 71) hx hb dX8_shares_50 (by decide) ?_
    exact zretv hF hB () (trivial) (by rw [shN, if_pos hs9] <;> rfl) dX8_shares_71 hQ
