noncomputable def inM (m : Int32) : Bool := dB (1 ≤ m.toInt ∧ m.toInt ≤ 99)
theorem zin_M (m : Int32) : zin m.toInt64 1 99 = inM m := by
  unfold zin inM
  apply dB_c
  rw [Int64.le_iff_toInt_le, Int64.le_iff_toInt_le, i32_w, show (1 : Int64).toInt = 1 from rfl, show (99 : Int64).toInt = 99 from rfl]
noncomputable def luA (m a p : Int32) (L : Nat) : Int32 := if ¬ (inM m = true ∧ inI a 12 = true ∧ inI p 11 = true) then -2 else if L = 8 then -4 else nI L
noncomputable def luB (m a p : Int32) (L : Nat) : Bool := dB ((inM m = true ∧ inI a 12 = true ∧ inI p 11 = true) ∧ L < 8)
set_option maxHeartbeats 4000000 in
set_option maxRecDepth 100000 in
theorem c_X8_squareOf (l : Launch) (D : va_G) (ka : Nat → ClassId) (kb : Nat → Nat) (q : Nat) (ad : Nat → Nat) (o : Bool) (z : mZ) (pu : Nat → Int64) (k : Nat) (hk : k < 2) : zL l D ka kb yX8_squareOf cX8_squareOf 10 0 0 [.ref q, .int (nI k)] ([(q, .inr (8, mO ad o z)), ((ad 9), .inl (ka 1, 4, .inr (.inl pu)))]) (fun (r : Int64) (_ : Unit) => r = sqV (pu 0) (pu 1) (pu 2) (pu 3) k) (fun (_ : Unit) => [(q, .inr (8, mO ad o z)), ((ad 9), .inl (ka 1, 4, .inr (.inl pu)))]) := by
  refine zL.mk RX8 (by decide +kernel) rfl (Nat.le_of_ble_eq_true rfl) ?_
  intro p e s m below meth c A ls args Q hQ hx hb hF hB hl
  replace hl : lv_has ls 10 [(0, .ref q), (1, .int (nI k))] := hl
  refine lv_aload_n hx hb dX8_squareOf_0 rfl (lv_at hl 0 rfl) ?_
  refine zget zf_X8_38 hF hB 0 rfl rfl dX8_squareOf_1 ?_
  refine lv_iconst (v := 0) hx hb dX8_squareOf_4 (by decide) ?_
  refine zlald hF hB 1 rfl 0 (by decide) (by decide) (by decide) (v := (pu 0)) (rfl) dX8_squareOf_5 ?_
  refine lv_lstore_n (lv' := [(2, .long (pu 0)), (0, .ref q), (1, .int (nI k))]) hx hb dX8_squareOf_6 rfl hl (by decide) rfl ?_
  clear hl
  clear ls
  intro ls hl
  refine lv_aload_n hx hb dX8_squareOf_7 rfl (lv_at hl 1 rfl) ?_
  refine zget zf_X8_38 hF hB 0 rfl rfl dX8_squareOf_8 ?_
  refine lv_iconst (v := 1) hx hb dX8_squareOf_11 (by decide) ?_
  refine zlald hF hB 1 rfl 1 (by decide) (by decide) (by decide) (v := (pu 1)) (rfl) dX8_squareOf_12 ?_
  refine lv_lstore (lv' := [(4, .long (pu 1)), (2, .long (pu 0)), (0, .ref q), (1, .int (nI k))]) hx hb dX8_squareOf_13 hl (by decide) rfl ?_
  clear hl
  clear ls
  intro ls hl
  refine lv_aload_n hx hb dX8_squareOf_15 rfl (lv_at hl 2 rfl) ?_
  refine zget zf_X8_38 hF hB 0 rfl rfl dX8_squareOf_16 ?_
  refine lv_iconst (v := 2) hx hb dX8_squareOf_19 (by decide) ?_
  refine zlald hF hB 1 rfl 2 (by decide) (by decide) (by decide) (v := (pu 2)) (rfl) dX8_squareOf_20 ?_
  refine lv_lstore (lv' := [(6, .long (pu 2)), (4, .long (pu 1)), (2, .long (pu 0)), (0, .ref q), (1, .int (nI k))]) hx hb dX8_squareOf_21 hl (by decide) rfl ?_
  clear hl
  clear ls
  intro ls hl
  refine lv_aload_n hx hb dX8_squareOf_23 rfl (lv_at hl 3 rfl) ?_
  refine zget zf_X8_38 hF hB 0 rfl rfl dX8_squareOf_24 ?_
  refine lv_iconst (v := 3) hx hb dX8_squareOf_27 (by decide) ?_
  refine zlald hF hB 1 rfl 3 (by decide) (by decide) (by decide) (v := (pu 3)) (rfl) dX8_squareOf_28 ?_
  refine lv_lstore (lv' := [(8, .long (pu 3)), (6, .long (pu 2)), (4, .long (pu 1)), (2, .long (pu 0)), (0, .ref q), (1, .int (nI k))]) hx hb dX8_squareOf_29 hl (by decide) rfl ?_
  clear hl
  clear ls
  intro ls hl
  refine lv_iload_n hx hb dX8_squareOf_31 rfl (lv_at hl 5 rfl) ?_
  refine lv_if_ne (tgt := 67) hx hb dX8_squareOf_32 (by decide) (fun h32 => ?_) (fun h32 => ?_)
  · skip
    have hk0 : k ≠ 0 := fun e8 => h32 (by rw [e8]; rfl)
    refine zldc2 (v := (2 : Int64)) ww_26_6 hF dX8_squareOf_67 ?_
    refine lv_lload_n hx hb dX8_squareOf_70 rfl (lv_at hl 3 rfl) ?_
    refine lv_lmul hx hb dX8_squareOf_71 ?_
    refine lv_lload hx hb dX8_squareOf_72 (lv_at hl 2 rfl) ?_
    refine lv_lmul hx hb dX8_squareOf_74 ?_
    refine zldc2 (v := (2 : Int64)) ww_26_6 hF dX8_squareOf_75 ?_
    refine lv_lload hx hb dX8_squareOf_78 (lv_at hl 1 rfl) ?_
    refine lv_lmul hx hb dX8_squareOf_80 ?_
    refine lv_lload hx hb dX8_squareOf_81 (lv_at hl 0 rfl) ?_
    refine lv_lmul hx hb dX8_squareOf_83 ?_
    refine lv_ladd hx hb dX8_squareOf_84 ?_
    exact zretl hF hB () (by rw [sqV, if_neg hk0]) (rfl) dX8_squareOf_85 hQ
  · skip
    have hk0 : k = 0 := by
      rcases (show k = 0 ∨ k = 1 by omega) with e8 | e8
      · exact e8
      · rw [e8] at h32; exact absurd h32 (by decide)
    refine lv_lload_n hx hb dX8_squareOf_35 rfl (lv_at hl 3 rfl) ?_
    refine lv_lload_n hx hb dX8_squareOf_36 rfl (lv_at hl 3 rfl) ?_
    refine lv_lmul hx hb dX8_squareOf_37 ?_
    refine zldc2 (v := (3 : Int64)) ww_9_19 hF dX8_squareOf_38 ?_
    refine lv_lload hx hb dX8_squareOf_41 (lv_at hl 2 rfl) ?_
    refine lv_lmul hx hb dX8_squareOf_43 ?_
    refine lv_lload hx hb dX8_squareOf_44 (lv_at hl 2 rfl) ?_
    refine lv_lmul hx hb dX8_squareOf_46 ?_
    refine lv_ladd hx hb dX8_squareOf_47 ?_
    refine lv_lload hx hb dX8_squareOf_48 (lv_at hl 1 rfl) ?_
    refine lv_lload hx hb dX8_squareOf_50 (lv_at hl 1 rfl) ?_
    refine lv_lmul hx hb dX8_squareOf_52 ?_
    refine lv_ladd hx hb dX8_squareOf_53 ?_
    refine zldc2 (v := (3 : Int64)) ww_9_19 hF dX8_squareOf_54 ?_
    refine lv_lload hx hb dX8_squareOf_57 (lv_at hl 0 rfl) ?_
    refine lv_lmul hx hb dX8_squareOf_59 ?_
    refine lv_lload hx hb dX8_squareOf_60 (lv_at hl 0 rfl) ?_
    refine lv_lmul hx hb dX8_squareOf_62 ?_
    refine lv_ladd hx hb dX8_squareOf_63 ?_
    refine lv_goto (tgt := 85) hx hb dX8_squareOf_64 (by decide) ?_
    exact zretl hF hB () (by rw [sqV, if_pos hk0]) (rfl) dX8_squareOf_85 hQ

set_option maxHeartbeats 4000000 in
set_option maxRecDepth 100000 in
theorem c_X8_isQuiet (l : Launch) (D : va_G) (ka : Nat → ClassId) (kb : Nat → Nat) (q : Nat) (ad : Nat → Nat) (o : Bool) (z : mZ) (pu : Nat → Int64) (P : Nat → Int) (hP : ∀ k, k < 4 → pu k = Int64.ofInt (P k)) (hbd : bdP P) (hli : 0 ≤ z.2.2.2.1.toInt ∧ z.2.2.2.1.toInt ≤ 99) : zI l D ka kb yX8_isQuiet cX8_isQuiet 1 .boolean 3 77 [.ref q] ([(q, .inr (8, mO ad o z)), ((ad 9), .inl (ka 1, 4, .inr (.inl pu)))]) (fun (r : Int32) (_ : Unit) => r = bI (quB P z.2.2.2.1.toInt)) (fun (_ : Unit) => [(q, .inr (8, mO ad o z)), ((ad 9), .inl (ka 1, 4, .inr (.inl pu)))]) := by
  refine zI.mk RX8 (by decide +kernel) rfl (Nat.le_of_ble_eq_true rfl) ?_
  intro p e s m below meth c A ls args Q hQ hx hb hF hB hl
  replace hl : lv_has ls 1 [(0, .ref q)] := hl
  have hs0 : sqV (pu 0) (pu 1) (pu 2) (pu 3) 0 = Int64.ofInt (sqI P 0) := by rw [hP 0 (by decide), hP 1 (by decide), hP 2 (by decide), hP 3 (by decide)]; exact sqV_I 0
  have hs1 : sqV (pu 0) (pu 1) (pu 2) (pu 3) 1 = Int64.ofInt (sqI P 1) := by rw [hP 0 (by decide), hP 1 (by decide), hP 2 (by decide), hP 3 (by decide)]; exact sqV_I 1
  have hsm := sm_qu hbd (li := z.2.2.2.1.toInt) (by omega)
  refine lv_aload_n hx hb dX8_isQuiet_0 rfl (lv_at hl 0 rfl) ?_
  refine lv_aload_n hx hb dX8_isQuiet_1 rfl (lv_at hl 0 rfl) ?_
  refine lv_iconst (v := 0) hx hb dX8_isQuiet_2 (by decide) ?_
  refine zVl zm_X8_203 hF hB (c_X8_squareOf l D ka kb q ad o z pu 0 (by first | assumption | omega | decide)) [0, 1] rfl (by decide) [q, (ad 9)] (fun _ => rfl) rfl 0 8 rfl rfl rfl ⟨Nat.le_of_ble_eq_true rfl, Nat.le_of_ble_eq_true rfl⟩ rfl hl.1 (Nat.le_of_ble_eq_true rfl) ⟨Nat.le_refl _, Nat.le_refl _⟩ dX8_isQuiet_3 ?_
  clear hB
  try clear locs
  try clear H
  intro r1 u1 H locs hp hB
  obtain rfl : r1 = sqV (pu 0) (pu 1) (pu 2) (pu 3) 0 := hp
  replace hB : zB D A s ([(q, .inr (8, mO ad o z)), ((ad 9), .inl (ka 1, 4, .inr (.inl pu)))]) H locs := hB
  refine ztopl (y := Int64.ofInt (sqI P 0)) (hs0) ?_
  refine zldc2 (v := (400 : Int64)) ww_25_13 hF dX8_isQuiet_6 ?_
  refine lv_aload_n hx hb dX8_isQuiet_9 rfl (lv_at hl 0 rfl) ?_
  refine zget zf_X8_69 hF hB 0 rfl rfl dX8_isQuiet_10 ?_
  refine lv_i2l (v := z.2.2.2.1.toInt64) hx hb dX8_isQuiet_13 rfl ?_
  refine lv_lmul hx hb dX8_isQuiet_14 ?_
  refine lv_aload_n hx hb dX8_isQuiet_15 rfl (lv_at hl 0 rfl) ?_
  refine zget zf_X8_69 hF hB 0 rfl rfl dX8_isQuiet_16 ?_
  refine lv_i2l (v := z.2.2.2.1.toInt64) hx hb dX8_isQuiet_19 rfl ?_
  refine lv_lmul hx hb dX8_isQuiet_20 ?_
  refine lv_lsub hx hb dX8_isQuiet_21 ?_
  refine ztopl (y := Int64.ofInt (sqI P 0 - 400 * z.2.2.2.1.toInt * z.2.2.2.1.toInt)) (by rw [i64_w, show (400 : Int64) = Int64.ofInt 400 from rfl, ofI_mul, ofI_mul, ← Int64.ofInt_sub]) ?_
  refine lv_aload_n hx hb dX8_isQuiet_22 rfl (lv_at hl 0 rfl) ?_
  refine lv_iconst (v := 1) hx hb dX8_isQuiet_23 (by decide) ?_
  refine zVl zm_X8_203 hF hB (c_X8_squareOf l D ka kb q ad o z pu 1 (by first | assumption | omega | decide)) [0, 1] rfl (by decide) [q, (ad 9)] (fun _ => rfl) rfl 0 8 rfl rfl rfl ⟨Nat.le_of_ble_eq_true rfl, Nat.le_of_ble_eq_true rfl⟩ rfl hl.1 (Nat.le_of_ble_eq_true rfl) ⟨Nat.le_refl _, Nat.le_refl _⟩ dX8_isQuiet_24 ?_
  clear hB
  try clear locs
  try clear H
  intro r2 u2 H locs hp hB
  obtain rfl : r2 = sqV (pu 0) (pu 1) (pu 2) (pu 3) 1 := hp
  replace hB : zB D A s ([(q, .inr (8, mO ad o z)), ((ad 9), .inl (ka 1, 4, .inr (.inl pu)))]) H locs := hB
  refine ztopl (y := Int64.ofInt (sqI P 1)) (hs1) ?_
  refine zVi zm_X8_185 hF hB (c_X8_sign l D ka kb q ad o z (Int64.ofInt (sqI P 0 - 400 * z.2.2.2.1.toInt * z.2.2.2.1.toInt)) (Int64.ofInt (sqI P 1)) ) [0] rfl (by decide) [q] (fun _ => rfl) rfl 0 8 rfl rfl rfl ⟨Nat.le_of_ble_eq_true rfl, Nat.le_of_ble_eq_true rfl⟩ rfl hl.1 (Nat.le_of_ble_eq_true rfl) ⟨Nat.le_refl _, Nat.le_refl _⟩ dX8_isQuiet_27 ?_
  clear hB
  try clear locs
  try clear H
  intro r3 u3 H locs hp hB
  obtain rfl : r3 = signV (Int64.ofInt (sqI P 0 - 400 * z.2.2.2.1.toInt * z.2.2.2.1.toInt)) (Int64.ofInt (sqI P 1)) := hp
  replace hB : zB D A s ([(q, .inr (8, mO ad (o || (sgN (Int64.ofInt (sqI P 0 - 400 * z.2.2.2.1.toInt * z.2.2.2.1.toInt)) (Int64.ofInt (sqI P 1)) && sgSq (Int64.ofInt (sqI P 0 - 400 * z.2.2.2.1.toInt * z.2.2.2.1.toInt)) (Int64.ofInt (sqI P 1)))) z)), ((ad 9), .inl (ka 1, 4, .inr (.inl pu)))]) H locs := hB
  have hz : (o || (sgN (Int64.ofInt (sqI P 0 - 400 * z.2.2.2.1.toInt * z.2.2.2.1.toInt)) (Int64.ofInt (sqI P 1)) && sgSq (Int64.ofInt (sqI P 0 - 400 * z.2.2.2.1.toInt * z.2.2.2.1.toInt)) (Int64.ofInt (sqI P 1)))) = o := by rw [(sgSq_I hsm).1, Bool.and_false, Bool.or_false]
  rw [hz] at hB
  replace hB : zB D A s ([(q, .inr (8, mO ad o z)), ((ad 9), .inl (ka 1, 4, .inr (.inl pu)))]) H locs := hB
  refine ztopi (y := sgI (sqI P 0 - 400 * z.2.2.2.1.toInt * z.2.2.2.1.toInt) (sqI P 1)) (signV_I hsm) ?_
  refine lv_if_gt (tgt := 37) hx hb dX8_isQuiet_30 (by decide) (fun h30 => ?_) (fun h30 => ?_)
  · skip
    refine lv_iconst (v := 0) hx hb dX8_isQuiet_37 (by decide) ?_
    refine ztopi (y := bI (quB P z.2.2.2.1.toInt)) (bI_0 (dB_f.mpr (Int32.not_le.mpr h30))) ?_
    exact zreti hF hB () (rfl) (rfl) (zbI_n _) dX8_isQuiet_38 hQ
  · skip
    refine lv_iconst (v := 1) hx hb dX8_isQuiet_33 (by decide) ?_
    refine ztopi (y := bI (quB P z.2.2.2.1.toInt)) (bI_1 (dB_t.mpr (Int32.not_lt.mp h30))) ?_
    refine lv_goto (tgt := 38) hx hb dX8_isQuiet_34 (by decide) ?_
    exact zreti hF hB () (rfl) (rfl) (zbI_n _) dX8_isQuiet_38 hQ

set_option maxHeartbeats 4000000 in
set_option maxRecDepth 100000 in
theorem c_X8_pullTo (l : Launch) (D : va_G) (ka : Nat → ClassId) (kb : Nat → Nat) (q : Nat) (ad : Nat → Nat) (o : Bool) (z : mZ) (pu : Nat → Int64) (t : Nat) (p9 : Nat) (L : Nat) (mo : Nat → Int32) (an : Nat → Int32) (pl : Nat → Int32) (ho : Nat → Int32) (nu : Nat → Int64) (ht : t < 40) (hp9 : p9 < 2) (hL : z.2.1 = nI L) (hok : okL L mo an pl) (hoh : okH ho) : zV l D ka kb yX8_pullTo cX8_pullTo 3 3 69 [.ref q, .int (nI t), .int (nI p9)] ([(q, .inr (8, mO ad o z)), ((ad 9), .inl (ka 1, 4, .inr (.inl pu))), ((ad 4), .inl (ka 0, 8, .inl mo)), ((ad 5), .inl (ka 0, 8, .inl an)), ((ad 6), .inl (ka 0, 8, .inl pl)), ((ad 7), .inl (ka 0, 24, .inl ho)), ((ad 3), .inl (ka 1, 200, .inr (.inl nu)))]) (fun (pu2 : Nat → Int64) => True) (fun (pu2 : Nat → Int64) => [(q, .inr (8, mO ad o z)), ((ad 9), .inl (ka 1, 4, .inr (.inl pu2))), ((ad 4), .inl (ka 0, 8, .inl mo)), ((ad 5), .inl (ka 0, 8, .inl an)), ((ad 6), .inl (ka 0, 8, .inl pl)), ((ad 7), .inl (ka 0, 24, .inl ho)), ((ad 3), .inl (ka 1, 200, .inr (.inl (setN nu t (plN (pulI p9 L mo an pl ho))))))]) := by
  refine zV.mk RX8 (by decide +kernel) rfl (Nat.le_of_ble_eq_true rfl) ?_
  intro p e s m below meth c A ls args Q hQ hx hb hF hB hl
  replace hl : lv_has ls 3 [(0, .ref q), (1, .int (nI t)), (2, .int (nI p9))] := hl
  refine lv_aload_n hx hb dX8_pullTo_0 rfl (lv_at hl 0 rfl) ?_
  refine lv_iload_n hx hb dX8_pullTo_1 rfl (lv_at hl 2 rfl) ?_
  refine zVv zm_X8_208 hF hB (c_X8_pulls l D ka kb q ad o z pu p9 L mo an pl ho (hp9) (hL) (hok) (hoh)) [0, 1, 2, 3, 4, 5] rfl (by decide) [q, (ad 9), (ad 4), (ad 5), (ad 6), (ad 7)] (fun _ => rfl) rfl 0 8 rfl rfl rfl ⟨Nat.le_of_ble_eq_true rfl, Nat.le_of_ble_eq_true rfl⟩ rfl hl.1 (Nat.le_of_ble_eq_true rfl) ⟨Nat.le_refl _, Nat.le_refl _⟩ dX8_pullTo_2 ?_
  clear hB
  try clear locs
  try clear H
  intro u1 H locs hp hB
  obtain ⟨pu21, rfl⟩ : ∃ z, z = u1 := ⟨_, rfl⟩
  have hp1 : ∀ k, k < 4 → pu21 k = Int64.ofInt (pulI p9 L mo an pl ho k) := hp
  have HPP := hp1
  replace hB : zB D A s ([(q, .inr (8, mO ad o z)), ((ad 9), .inl (ka 1, 4, .inr (.inl pu21))), ((ad 4), .inl (ka 0, 8, .inl mo)), ((ad 5), .inl (ka 0, 8, .inl an)), ((ad 6), .inl (ka 0, 8, .inl pl)), ((ad 7), .inl (ka 0, 24, .inl ho)), ((ad 3), .inl (ka 1, 200, .inr (.inl nu)))]) H locs := hB
  refine lv_aload_n hx hb dX8_pullTo_5 rfl (lv_at hl 0 rfl) ?_
  refine lv_iload_n hx hb dX8_pullTo_6 rfl (lv_at hl 1 rfl) ?_
  refine lv_aload_n hx hb dX8_pullTo_7 rfl (lv_at hl 0 rfl) ?_
  refine zget zf_X8_38 hF hB 0 rfl rfl dX8_pullTo_8 ?_
  refine lv_iconst (v := 0) hx hb dX8_pullTo_11 (by decide) ?_
  refine zlald hF hB 1 rfl 0 (by decide) (by decide) (by decide) (v := (Int64.ofInt (pulI p9 L mo an pl ho 0))) (hp1 0 (by decide)) dX8_pullTo_12 ?_
  refine lv_aload_n hx hb dX8_pullTo_13 rfl (lv_at hl 0 rfl) ?_
  refine zget zf_X8_38 hF hB 0 rfl rfl dX8_pullTo_14 ?_
  refine lv_iconst (v := 1) hx hb dX8_pullTo_17 (by decide) ?_
  refine zlald hF hB 1 rfl 1 (by decide) (by decide) (by decide) (v := (Int64.ofInt (pulI p9 L mo an pl ho 1))) (hp1 1 (by decide)) dX8_pullTo_18 ?_
  refine lv_aload_n hx hb dX8_pullTo_19 rfl (lv_at hl 0 rfl) ?_
  refine zget zf_X8_38 hF hB 0 rfl rfl dX8_pullTo_20 ?_
  refine lv_iconst (v := 2) hx hb dX8_pullTo_23 (by decide) ?_
  refine zlald hF hB 1 rfl 2 (by decide) (by decide) (by decide) (v := (Int64.ofInt (pulI p9 L mo an pl ho 2))) (hp1 2 (by decide)) dX8_pullTo_24 ?_
  refine lv_aload_n hx hb dX8_pullTo_25 rfl (lv_at hl 0 rfl) ?_
  refine zget zf_X8_38 hF hB 0 rfl rfl dX8_pullTo_26 ?_
  refine lv_iconst (v := 3) hx hb dX8_pullTo_29 (by decide) ?_
  refine zlald hF hB 1 rfl 3 (by decide) (by decide) (by decide) (v := (Int64.ofInt (pulI p9 L mo an pl ho 3))) (hp1 3 (by decide)) dX8_pullTo_30 ?_
  refine zldc2 (v := (20 : Int64)) ww_25_12 hF dX8_pullTo_31 ?_
  refine zVv zm_X8_134 hF hB (c_X8_lays l D ka kb q ad o z nu t (Int64.ofInt (pulI p9 L mo an pl ho 0)) (Int64.ofInt (pulI p9 L mo an pl ho 1)) (Int64.ofInt (pulI p9 L mo an pl ho 2)) (Int64.ofInt (pulI p9 L mo an pl ho 3)) (20 : Int64) (ht) (by decide)) [0, 6] rfl (by decide) [q, (ad 3)] (fun _ => rfl) rfl 0 8 rfl rfl rfl ⟨Nat.le_of_ble_eq_true rfl, Nat.le_of_ble_eq_true rfl⟩ rfl hl.1 (Nat.le_of_ble_eq_true rfl) ⟨Nat.le_refl _, Nat.le_refl _⟩ dX8_pullTo_34 ?_
  clear hB
  try clear locs
  try clear H
  intro u2 H locs hp hB
  replace hB : zB D A s ([(q, .inr (8, mO ad o z)), ((ad 9), .inl (ka 1, 4, .inr (.inl pu21))), ((ad 4), .inl (ka 0, 8, .inl mo)), ((ad 5), .inl (ka 0, 8, .inl an)), ((ad 6), .inl (ka 0, 8, .inl pl)), ((ad 7), .inl (ka 0, 24, .inl ho)), ((ad 3), .inl (ka 1, 200, .inr (.inl (setN nu t (lowN (Int64.ofInt (pulI p9 L mo an pl ho 0)) (Int64.ofInt (pulI p9 L mo an pl ho 1)) (Int64.ofInt (pulI p9 L mo an pl ho 2)) (Int64.ofInt (pulI p9 L mo an pl ho 3)) (20 : Int64))))))]) H locs := hB
  exact zretv hF hB pu21 (trivial) (rfl) dX8_pullTo_37 hQ

set_option maxHeartbeats 4000000 in
set_option maxRecDepth 100000 in
theorem c_X8_forgets (l : Launch) (D : va_G) (ka : Nat → ClassId) (kb : Nat → Nat) (q : Nat) (ad : Nat → Nat) (o : Bool) (z : mZ)  : zV l D ka kb yX8_forgets cX8_forgets 1 0 0 [.ref q] ([(q, .inr (8, mO ad o z))]) (fun (_ : Unit) => True) (fun (_ : Unit) => [(q, .inr (8, mX ad (bI o) z.1 z.2.1 z.2.2.1 z.2.2.2.1 (0 : Int32) z.2.2.2.2.2.1 z.2.2.2.2.2.2.1 z.2.2.2.2.2.2.2))]) := by
  refine zV.mk RX8 (by decide +kernel) rfl (Nat.le_of_ble_eq_true rfl) ?_
  intro p e s m below meth c A ls args Q hQ hx hb hF hB hl
  replace hl : lv_has ls 1 [(0, .ref q)] := hl
  refine lv_aload_n hx hb dX8_forgets_0 rfl (lv_at hl 0 rfl) ?_
  refine lv_iconst (v := 0) hx hb dX8_forgets_1 (by decide) ?_
  refine zput_f zp_X8_213 hF hB 0 rfl (rfl) (rfl) (Nat.le_of_ble_eq_true rfl) dX8_forgets_2 ?_
  clear hB
  try clear locs
  try clear H
  intro H locs hB
  replace hB : zB D A s ([(q, .inr (8, mX ad (bI o) z.1 z.2.1 z.2.2.1 z.2.2.2.1 (0 : Int32) z.2.2.2.2.2.1 z.2.2.2.2.2.2.1 z.2.2.2.2.2.2.2))]) H locs := hB
  exact zretv hF hB () (trivial) (rfl) dX8_forgets_5 hQ

set_option maxHeartbeats 4000000 in
set_option maxRecDepth 100000 in
theorem c_X8_lump (l : Launch) (D : va_G) (ka : Nat → ClassId) (kb : Nat → Nat) (q : Nat) (ad : Nat → Nat) (o : Bool) (z : mZ) (L : Nat) (mo : Nat → Int32) (an : Nat → Int32) (pl : Nat → Int32) (mm : Int32) (aa : Int32) (pp : Int32) (hL : z.2.1 = nI L) (hL8 : L ≤ 8) : zI l D ka kb yX8_lump cX8_lump 4 .int 2 45 [.ref q, .int mm, .int aa, .int pp] ([(q, .inr (8, mO ad o z)), ((ad 4), .inl (ka 0, 8, .inl mo)), ((ad 5), .inl (ka 0, 8, .inl an)), ((ad 6), .inl (ka 0, 8, .inl pl))]) (fun (r : Int32) (_ : Unit) => r = luA mm aa pp L) (fun (_ : Unit) => [(q, .inr (8, mX ad (bI o) z.1 (if luB mm aa pp L = true then nI (L + 1) else z.2.1) z.2.2.1 z.2.2.2.1 (if luB mm aa pp L = true then (0 : Int32) else z.2.2.2.2.1) z.2.2.2.2.2.1 z.2.2.2.2.2.2.1 z.2.2.2.2.2.2.2)), ((ad 4), .inl (ka 0, 8, .inl (if luB mm aa pp L = true then upd mo L mm else mo))), ((ad 5), .inl (ka 0, 8, .inl (if luB mm aa pp L = true then upd an L aa else an))), ((ad 6), .inl (ka 0, 8, .inl (if luB mm aa pp L = true then upd pl L pp else pl)))]) := by
  refine zI.mk RX8 (by decide +kernel) rfl (Nat.le_of_ble_eq_true rfl) ?_
  intro p e s m below meth c A ls args Q hQ hx hb hF hB hl
  replace hl : lv_has ls 4 [(0, .ref q), (1, .int mm), (2, .int aa), (3, .int pp)] := hl
  refine lv_iload_n hx hb dX8_lump_0 rfl (lv_at hl 1 rfl) ?_
  refine lv_i2l (v := mm.toInt64) hx hb dX8_lump_1 rfl ?_
  refine lv_lconst (v := 1) hx hb dX8_lump_2 (by decide) ?_
  refine zldc2 (v := (99 : Int64)) ww_18_5 hF dX8_lump_3 ?_
  refine zSi zm_X8_72 hF hB (c_X8_in l D ka kb mm.toInt64 (1 : Int64) (99 : Int64) ) [] rfl (by decide) [] (fun _ => rfl) rfl rfl ⟨Nat.le_of_ble_eq_true rfl, Nat.le_of_ble_eq_true rfl⟩ rfl hl.1 (Nat.le_of_ble_eq_true rfl) ⟨Nat.le_refl _, Nat.le_refl _⟩ dX8_lump_6 ?_
  clear hB
  try clear locs
  try clear H
  intro r1 u1 H locs hp hB
  obtain rfl : r1 = bI (zin mm.toInt64 (1 : Int64) (99 : Int64)) := hp
  replace hB : zB D A s ([(q, .inr (8, mO ad o z)), ((ad 4), .inl (ka 0, 8, .inl mo)), ((ad 5), .inl (ka 0, 8, .inl an)), ((ad 6), .inl (ka 0, 8, .inl pl))]) H locs := hB
  refine lv_if_eq (tgt := 31) hx hb dX8_lump_9 (by decide) (fun h9 => ?_) (fun h9 => ?_)
  · skip
    have hm9 : inM mm = false := (zin_M mm).symm.trans (bI_eq0 h9)
    refine lv_bipush (v := -2) hx hb dX8_lump_31 (by decide) ?_
    have hok : ¬ (inM mm = true ∧ inI aa 12 = true ∧ inI pp 11 = true) := fun e8 => by rw [hm9] at e8; exact absurd e8.1 (by decide)
    exact zreti hF hB () (by rw [luA, if_pos hok]) (by rw [show luB mm aa pp L = false from dB_f.mpr (fun e8 => hok e8.1)] <;> rfl) (rfl) dX8_lump_33 hQ
  · skip
    have hm9 : inM mm = true := (zin_M mm).symm.trans (bI_ne0 h9)
    refine lv_iload_n hx hb dX8_lump_12 rfl (lv_at hl 2 rfl) ?_
    refine zSi zm_X8_218 hF hB (c_X8_isAngle l D ka kb aa ) [] rfl (by decide) [] (fun _ => rfl) rfl rfl ⟨Nat.le_of_ble_eq_true rfl, Nat.le_of_ble_eq_true rfl⟩ rfl hl.1 (Nat.le_of_ble_eq_true rfl) ⟨Nat.le_refl _, Nat.le_refl _⟩ dX8_lump_13 ?_
    clear hB
    try clear locs
    try clear H
    intro r2 u2 H locs hp hB
    obtain rfl : r2 = bI (inI aa 12) := hp
    replace hB : zB D A s ([(q, .inr (8, mO ad o z)), ((ad 4), .inl (ka 0, 8, .inl mo)), ((ad 5), .inl (ka 0, 8, .inl an)), ((ad 6), .inl (ka 0, 8, .inl pl))]) H locs := hB
    refine lv_if_eq (tgt := 31) hx hb dX8_lump_16 (by decide) (fun h16 => ?_) (fun h16 => ?_)
    · skip
      refine lv_bipush (v := -2) hx hb dX8_lump_31 (by decide) ?_
      have hok : ¬ (inM mm = true ∧ inI aa 12 = true ∧ inI pp 11 = true) := fun e8 => by rw [bI_eq0 h16] at e8; exact absurd e8.2.1 (by decide)
      exact zreti hF hB () (by rw [luA, if_pos hok]) (by rw [show luB mm aa pp L = false from dB_f.mpr (fun e8 => hok e8.1)] <;> rfl) (rfl) dX8_lump_33 hQ
    · skip
      have ha9 : inI aa 12 = true := bI_ne0 h16
      refine lv_iload_n hx hb dX8_lump_19 rfl (lv_at hl 3 rfl) ?_
      refine lv_i2l (v := pp.toInt64) hx hb dX8_lump_20 rfl ?_
      refine lv_lconst (v := 0) hx hb dX8_lump_21 (by decide) ?_
      refine zldc2 (v := (10 : Int64)) ww_18_6 hF dX8_lump_22 ?_
      refine zSi zm_X8_72 hF hB (c_X8_in l D ka kb pp.toInt64 (0 : Int64) (10 : Int64) ) [] rfl (by decide) [] (fun _ => rfl) rfl rfl ⟨Nat.le_of_ble_eq_true rfl, Nat.le_of_ble_eq_true rfl⟩ rfl hl.1 (Nat.le_of_ble_eq_true rfl) ⟨Nat.le_refl _, Nat.le_refl _⟩ dX8_lump_25 ?_
      clear hB
      try clear locs
      try clear H
      intro r3 u3 H locs hp hB
      obtain rfl : r3 = bI (zin pp.toInt64 (0 : Int64) (10 : Int64)) := hp
      replace hB : zB D A s ([(q, .inr (8, mO ad o z)), ((ad 4), .inl (ka 0, 8, .inl mo)), ((ad 5), .inl (ka 0, 8, .inl an)), ((ad 6), .inl (ka 0, 8, .inl pl))]) H locs := hB
      refine lv_if_ne (tgt := 34) hx hb dX8_lump_28 (by decide) (fun h28 => ?_) (fun h28 => ?_)
      · skip
        have hok : inM mm = true ∧ inI aa 12 = true ∧ inI pp 11 = true := ⟨hm9, ha9, (zin_inI pp 11 (by decide) (by decide)).symm.trans (bI_ne0 h28)⟩
        refine lv_aload_n hx hb dX8_lump_34 rfl (lv_at hl 0 rfl) ?_
        refine zget zf_X8_192 hF hB 0 rfl rfl dX8_lump_35 ?_
        refine ztopi (y := nI L) (hL) ?_
        refine lv_bipush (v := 8) hx hb dX8_lump_38 (by decide) ?_
        refine lv_icmp_ne (tgt := 46) hx hb dX8_lump_40 (by decide) (fun h40 => ?_) (fun h40 => ?_)
        · skip
          have hL7 : L ≠ 8 := fun e8 => h40 (by rw [e8]; rfl)
          have hLn : L < 8 := by omega
          refine lv_aload_n hx hb dX8_lump_46 rfl (lv_at hl 0 rfl) ?_
          refine zget zf_X8_23 hF hB 0 rfl rfl dX8_lump_47 ?_
          refine lv_aload_n hx hb dX8_lump_50 rfl (lv_at hl 0 rfl) ?_
          refine zget zf_X8_192 hF hB 0 rfl rfl dX8_lump_51 ?_
          refine ztopi (y := nI L) (hL) ?_
          refine lv_iload_n hx hb dX8_lump_54 rfl (lv_at hl 1 rfl) ?_
          refine ziast hF hB 1 rfl L (rfl) (by omega) (by decide) dX8_lump_55 ?_
          clear hB
          try clear locs
          try clear H
          intro H locs hB
          replace hB : zB D A s ([(q, .inr (8, mO ad o z)), ((ad 4), .inl (ka 0, 8, .inl (upd mo L mm))), ((ad 5), .inl (ka 0, 8, .inl an)), ((ad 6), .inl (ka 0, 8, .inl pl))]) H locs := hB
          refine lv_aload_n hx hb dX8_lump_56 rfl (lv_at hl 0 rfl) ?_
          refine zget zf_X8_26 hF hB 0 rfl rfl dX8_lump_57 ?_
          refine lv_aload_n hx hb dX8_lump_60 rfl (lv_at hl 0 rfl) ?_
          refine zget zf_X8_192 hF hB 0 rfl rfl dX8_lump_61 ?_
          refine ztopi (y := nI L) (hL) ?_
          refine lv_iload_n hx hb dX8_lump_64 rfl (lv_at hl 2 rfl) ?_
          refine ziast hF hB 2 rfl L (rfl) (by omega) (by decide) dX8_lump_65 ?_
          clear hB
          try clear locs
          try clear H
          intro H locs hB
          replace hB : zB D A s ([(q, .inr (8, mO ad o z)), ((ad 4), .inl (ka 0, 8, .inl (upd mo L mm))), ((ad 5), .inl (ka 0, 8, .inl (upd an L aa))), ((ad 6), .inl (ka 0, 8, .inl pl))]) H locs := hB
          refine lv_aload_n hx hb dX8_lump_66 rfl (lv_at hl 0 rfl) ?_
          refine zget zf_X8_29 hF hB 0 rfl rfl dX8_lump_67 ?_
          refine lv_aload_n hx hb dX8_lump_70 rfl (lv_at hl 0 rfl) ?_
          refine zget zf_X8_192 hF hB 0 rfl rfl dX8_lump_71 ?_
          refine ztopi (y := nI L) (hL) ?_
          refine lv_iload_n hx hb dX8_lump_74 rfl (lv_at hl 3 rfl) ?_
          refine ziast hF hB 3 rfl L (rfl) (by omega) (by decide) dX8_lump_75 ?_
          clear hB
          try clear locs
          try clear H
          intro H locs hB
          replace hB : zB D A s ([(q, .inr (8, mO ad o z)), ((ad 4), .inl (ka 0, 8, .inl (upd mo L mm))), ((ad 5), .inl (ka 0, 8, .inl (upd an L aa))), ((ad 6), .inl (ka 0, 8, .inl (upd pl L pp)))]) H locs := hB
          refine lv_aload_n hx hb dX8_lump_76 rfl (lv_at hl 0 rfl) ?_
          refine lv_dup hx hb dX8_lump_77 rfl ?_
          refine zget zf_X8_192 hF hB 0 rfl rfl dX8_lump_78 ?_
          refine ztopi (y := nI L) (hL) ?_
          refine lv_iconst (v := 1) hx hb dX8_lump_81 (by decide) ?_
          refine lv_iadd hx hb dX8_lump_82 ?_
          refine ztopi (y := nI (L + 1)) (nI_add L 1) ?_
          refine zput_f zp_X8_192 hF hB 0 rfl (rfl) (rfl) (Nat.le_of_ble_eq_true rfl) dX8_lump_83 ?_
          clear hB
          try clear locs
          try clear H
          intro H locs hB
          replace hB : zB D A s ([(q, .inr (8, mX ad (bI o) z.1 (nI (L + 1)) z.2.2.1 z.2.2.2.1 z.2.2.2.2.1 z.2.2.2.2.2.1 z.2.2.2.2.2.2.1 z.2.2.2.2.2.2.2)), ((ad 4), .inl (ka 0, 8, .inl (upd mo L mm))), ((ad 5), .inl (ka 0, 8, .inl (upd an L aa))), ((ad 6), .inl (ka 0, 8, .inl (upd pl L pp)))]) H locs := hB
          refine lv_aload_n hx hb dX8_lump_86 rfl (lv_at hl 0 rfl) ?_
          refine zVv zm_X8_223 hF hB (c_X8_forgets l D ka kb q ad o (z.1, (nI (L + 1)), z.2.2.1, z.2.2.2.1, z.2.2.2.2.1, z.2.2.2.2.2.1, z.2.2.2.2.2.2.1, z.2.2.2.2.2.2.2) ) [0] rfl (by decide) [q] (fun _ => rfl) rfl 0 8 rfl rfl rfl ⟨Nat.le_of_ble_eq_true rfl, Nat.le_of_ble_eq_true rfl⟩ rfl hl.1 (Nat.le_of_ble_eq_true rfl) ⟨Nat.le_refl _, Nat.le_refl _⟩ dX8_lump_87 ?_
          clear hB
          try clear locs
          try clear H
          intro u4 H locs hp hB
          replace hB : zB D A s ([(q, .inr (8, mX ad (bI o) z.1 (nI (L + 1)) z.2.2.1 z.2.2.2.1 (0 : Int32) z.2.2.2.2.2.1 z.2.2.2.2.2.2.1 z.2.2.2.2.2.2.2)), ((ad 4), .inl (ka 0, 8, .inl (upd mo L mm))), ((ad 5), .inl (ka 0, 8, .inl (upd an L aa))), ((ad 6), .inl (ka 0, 8, .inl (upd pl L pp)))]) H locs := hB
          refine lv_aload_n hx hb dX8_lump_90 rfl (lv_at hl 0 rfl) ?_
          refine zget zf_X8_192 hF hB 0 rfl rfl dX8_lump_91 ?_
          refine lv_iconst (v := 1) hx hb dX8_lump_94 (by decide) ?_
          refine lv_isub hx hb dX8_lump_95 ?_
          refine ztopi (y := nI L) (pk_sub (a := L + 1) (b := 1) (by omega)) ?_
          exact zreti hF hB () (by rw [luA, if_neg (not_not_intro hok), if_neg (by omega)]) (by rw [show luB mm aa pp L = true from dB_t.mpr ⟨hok, hLn⟩] <;> rfl) (rfl) dX8_lump_96 hQ
        · skip
          have hLe : L = 8 := (nI_eq (by omega) (by decide)).mp h40
          refine lv_bipush (v := -4) hx hb dX8_lump_43 (by decide) ?_
          exact zreti hF hB () (by rw [luA, if_neg (not_not_intro hok), if_pos hLe]) (by rw [show luB mm aa pp L = false from dB_f.mpr (fun e8 => by have := e8.2; omega)] <;> rfl) (rfl) dX8_lump_45 hQ
      · skip
        refine lv_bipush (v := -2) hx hb dX8_lump_31 (by decide) ?_
        have hok : ¬ (inM mm = true ∧ inI aa 12 = true ∧ inI pp 11 = true) := fun e8 => by have e7 := e8.2.2; rw [← zin_inI pp 11 (by decide) (by decide)] at e7; exact absurd ((bI_eq0 h28).symm.trans e7) (by decide)
        exact zreti hF hB () (by rw [luA, if_pos hok]) (by rw [show luB mm aa pp L = false from dB_f.mpr (fun e8 => hok e8.1)] <;> rfl) (rfl) dX8_lump_33 hQ

set_option maxHeartbeats 4000000 in
set_option maxRecDepth 100000 in
theorem c_X8_unlump (l : Launch) (D : va_G) (ka : Nat → ClassId) (kb : Nat → Nat) (q : Nat) (ad : Nat → Nat) (o : Bool) (z : mZ) (L : Nat) (hL : z.2.1 = nI L) (hL8 : L ≤ 8) : zI l D ka kb yX8_unlump cX8_unlump 1 .int 1 20 [.ref q] ([(q, .inr (8, mO ad o z))]) (fun (r : Int32) (_ : Unit) => r = if L = 0 then -3 else nI (L - 1)) (fun (_ : Unit) => [(q, .inr (8, mX ad (bI o) z.1 (if L = 0 then z.2.1 else nI (L - 1)) z.2.2.1 z.2.2.2.1 (if L = 0 then z.2.2.2.2.1 else (0 : Int32)) z.2.2.2.2.2.1 z.2.2.2.2.2.2.1 z.2.2.2.2.2.2.2))]) := by
  refine zI.mk RX8 (by decide +kernel) rfl (Nat.le_of_ble_eq_true rfl) ?_
  intro p e s m below meth c A ls args Q hQ hx hb hF hB hl
  replace hl : lv_has ls 1 [(0, .ref q)] := hl
  refine lv_aload_n hx hb dX8_unlump_0 rfl (lv_at hl 0 rfl) ?_
  refine zget zf_X8_192 hF hB 0 rfl rfl dX8_unlump_1 ?_
  refine ztopi (y := nI L) (hL) ?_
  refine lv_if_ne (tgt := 10) hx hb dX8_unlump_4 (by decide) (fun h4 => ?_) (fun h4 => ?_)
  · skip
    have hL0 : L ≠ 0 := fun e8 => h4 (by rw [e8]; rfl)
    refine lv_aload_n hx hb dX8_unlump_10 rfl (lv_at hl 0 rfl) ?_
    refine lv_dup hx hb dX8_unlump_11 rfl ?_
    refine zget zf_X8_192 hF hB 0 rfl rfl dX8_unlump_12 ?_
    refine ztopi (y := nI L) (hL) ?_
    refine lv_iconst (v := 1) hx hb dX8_unlump_15 (by decide) ?_
    refine lv_isub hx hb dX8_unlump_16 ?_
    refine ztopi (y := nI (L - 1)) (pk_sub (a := L) (b := 1) (by omega)) ?_
    refine zput_f zp_X8_192 hF hB 0 rfl (rfl) (rfl) (Nat.le_of_ble_eq_true rfl) dX8_unlump_17 ?_
    clear hB
    try clear locs
    try clear H
    intro H locs hB
    replace hB : zB D A s ([(q, .inr (8, mX ad (bI o) z.1 (nI (L - 1)) z.2.2.1 z.2.2.2.1 z.2.2.2.2.1 z.2.2.2.2.2.1 z.2.2.2.2.2.2.1 z.2.2.2.2.2.2.2))]) H locs := hB
    refine lv_aload_n hx hb dX8_unlump_20 rfl (lv_at hl 0 rfl) ?_
    refine zVv zm_X8_223 hF hB (c_X8_forgets l D ka kb q ad o (z.1, nI (L - 1), z.2.2.1, z.2.2.2.1, z.2.2.2.2.1, z.2.2.2.2.2.1, z.2.2.2.2.2.2.1, z.2.2.2.2.2.2.2) ) [0] rfl (by decide) [q] (fun _ => rfl) rfl 0 8 rfl rfl rfl ⟨Nat.le_of_ble_eq_true rfl, Nat.le_of_ble_eq_true rfl⟩ rfl hl.1 (Nat.le_of_ble_eq_true rfl) ⟨Nat.le_refl _, Nat.le_refl _⟩ dX8_unlump_21 ?_
    clear hB
    try clear locs
    try clear H
    intro u1 H locs hp hB
    replace hB : zB D A s ([(q, .inr (8, mX ad (bI o) z.1 (nI (L - 1)) z.2.2.1 z.2.2.2.1 (0 : Int32) z.2.2.2.2.2.1 z.2.2.2.2.2.2.1 z.2.2.2.2.2.2.2))]) H locs := hB
    refine lv_aload_n hx hb dX8_unlump_24 rfl (lv_at hl 0 rfl) ?_
    refine zget zf_X8_192 hF hB 0 rfl rfl dX8_unlump_25 ?_
    exact zreti hF hB () (by rw [if_neg hL0]) (by rw [if_neg hL0, if_neg hL0] <;> rfl) (rfl) dX8_unlump_28 hQ
  · skip
    have hL0 : L = 0 := (nI_eq (b := 0) (by omega) (by decide)).mp h4
    refine lv_bipush (v := -3) hx hb dX8_unlump_7 (by decide) ?_
    exact zreti hF hB () (by rw [if_pos hL0]) (by rw [if_pos hL0, if_pos hL0] <;> rfl) (rfl) dX8_unlump_9 hQ

set_option maxHeartbeats 4000000 in
set_option maxRecDepth 100000 in
theorem c_X8_holesIn (l : Launch) (D : va_G) (ka : Nat → ClassId) (kb : Nat → Nat) (q : Nat) (ad : Nat → Nat) (o : Bool) (z : mZ) (ho : Nat → Int32) (p9 : Nat) (hp9 : p9 < 2) : zI l D ka kb yX8_holesIn cX8_holesIn 4 .int 0 0 [.ref q, .int (nI p9)] ([(q, .inr (8, mO ad o z)), ((ad 7), .inl (ka 0, 24, .inl ho))]) (fun (r : Int32) (_ : Unit) => r = nI (hcnt p9 ho 12)) (fun (_ : Unit) => [(q, .inr (8, mO ad o z)), ((ad 7), .inl (ka 0, 24, .inl ho))]) := by
  refine zI.mk RX8 (by decide +kernel) rfl (Nat.le_of_ble_eq_true rfl) ?_
  intro p e s m below meth c A ls args Q hQ hx hb hF hB hl
  replace hl : lv_has ls 4 [(0, .ref q), (1, .int (nI p9))] := hl
  refine lv_iconst (v := 0) hx hb dX8_holesIn_0 (by decide) ?_
  refine lv_istore_n (lv' := [(2, .int (0 : Int32)), (0, .ref q), (1, .int (nI p9))]) hx hb dX8_holesIn_1 rfl hl (by decide) rfl ?_
  clear hl
  clear ls
  intro ls hl
  refine lv_iconst (v := 0) hx hb dX8_holesIn_2 (by decide) ?_
  refine lv_istore_n (lv' := [(3, .int (0 : Int32)), (2, .int (0 : Int32)), (0, .ref q), (1, .int (nI p9))]) hx hb dX8_holesIn_3 rfl hl (by decide) rfl ?_
  clear hl
  clear ls
  intro ls hl
  have lp4 : ∀ (fl : Nat) (j : Nat), (hj : j ≤ 12) → 12 - j < fl → ∀ (H : Heap) (locs : List Loc), zB D A s ([(q, .inr (8, mO ad o z)), ((ad 7), .inl (ka 0, 24, .inl ho))]) H locs → ∀ ls : Array Slot, lv_has ls 4 [(2, .int (nI (hcnt p9 ho j))), (3, .int (nI j)), (0, .ref q), (1, .int (nI p9))] → W p l e (zRm 0 0 0 0) s m args below meth c H locs 0 0 Q (F0 m 4 ls []) := by
    intro fl
    induction fl with
    | zero => intro j hj hfl; exact absurd hfl (Nat.not_lt_zero _)
    | succ fl ih4 =>
      intro j hj hfl4 H locs hB ls hl
      refine lv_iload_n hx hb dX8_holesIn_4 rfl (lv_at hl 1 rfl) ?_
      refine lv_bipush (v := 12) hx hb dX8_holesIn_5 (by decide) ?_
      refine lv_icmp_ge (tgt := 38) hx hb dX8_holesIn_7 (by decide) (fun h7 => ?_) (fun h7 => ?_)
      · skip
        have hj12 : j = 12 := by have := (nI_leI (a := 12) (b := j) (by decide) (by omega)).mp h7; omega
        subst hj12
        refine lv_iload_n hx hb dX8_holesIn_38 rfl (lv_at hl 0 rfl) ?_
        exact zreti hF hB () (rfl) (rfl) (rfl) dX8_holesIn_39 hQ
      · skip
        have hj12 : j < 12 := Nat.not_le.mp (fun e9 => h7 ((nI_leI (a := 12) (b := j) (by decide) (by omega)).mpr e9))
        refine lv_iload_n hx hb dX8_holesIn_10 rfl (lv_at hl 0 rfl) ?_
        refine lv_aload_n hx hb dX8_holesIn_11 rfl (lv_at hl 2 rfl) ?_
        refine zget zf_X8_32 hF hB 0 rfl rfl dX8_holesIn_12 ?_
        refine lv_bipush (v := 12) hx hb dX8_holesIn_15 (by decide) ?_
        refine lv_iload_n hx hb dX8_holesIn_17 rfl (lv_at hl 3 rfl) ?_
        refine lv_imul hx hb dX8_holesIn_18 ?_
        refine ztopi (y := nI (12 * p9)) (pk_mul 12 p9) ?_
        refine lv_iload_n hx hb dX8_holesIn_19 rfl (lv_at hl 1 rfl) ?_
        refine lv_iadd hx hb dX8_holesIn_20 ?_
        refine ztopi (y := nI ((12 * p9) + j)) (nI_add (12 * p9) j) ?_
        refine ziald hF hB 1 rfl ((12 * p9) + j) (rfl) (by omega) (by decide) (v := (ho ((12 * p9) + j))) (rfl) dX8_holesIn_21 ?_
        refine lv_if_le (tgt := 29) hx hb dX8_holesIn_22 (by decide) (fun h22 => ?_) (fun h22 => ?_)
        · skip
          refine lv_iconst (v := 0) hx hb dX8_holesIn_29 (by decide) ?_
          refine lv_iadd hx hb dX8_holesIn_30 ?_
          refine ztopi (y := nI (hcnt p9 ho (j + 1))) (by rw [show hcnt p9 ho (j + 1) = hcnt p9 ho j + (if 0 < (ho (12 * p9 + j)).toInt then 1 else 0) from rfl, if_neg (fun e8 => by have := (i32_le_i _ _).mp h22; have e6 : (0 : Int32).toInt = 0 := rfl; omega)]; exact nI_add _ 0) ?_
          refine lv_istore_n (lv' := [(2, .int (nI (hcnt p9 ho (j + 1)))), (3, .int (nI j)), (0, .ref q), (1, .int (nI p9))]) hx hb dX8_holesIn_31 rfl hl (by decide) rfl ?_
          clear hl
          clear ls
          intro ls hl
          refine lv_iinc (v := nI (j + 1)) (lv' := [(3, .int (nI (j + 1))), (2, .int (nI (hcnt p9 ho (j + 1)))), (0, .ref q), (1, .int (nI p9))]) hx hb dX8_holesIn_32 hl (k := 1) rfl (nI_1 _) (by decide) rfl ?_
          clear hl
          clear ls
          intro ls hl
          refine lv_goto (tgt := 4) hx hb dX8_holesIn_35 (by decide) ?_
          exact ih4 (j + 1) (by omega) (by omega) _ _ (hB) _ (lv_sub hl [1, 0, 2, 3] rfl)
        · skip
          refine lv_iconst (v := 1) hx hb dX8_holesIn_25 (by decide) ?_
          refine lv_goto (tgt := 30) hx hb dX8_holesIn_26 (by decide) ?_
          refine lv_iadd hx hb dX8_holesIn_30 ?_
          refine ztopi (y := nI (hcnt p9 ho (j + 1))) (by rw [show hcnt p9 ho (j + 1) = hcnt p9 ho j + (if 0 < (ho (12 * p9 + j)).toInt then 1 else 0) from rfl, if_pos (by have := mt (i32_le_i _ _).mpr h22; have e6 : (0 : Int32).toInt = 0 := rfl; omega)]; exact nI_add _ 1) ?_
          refine lv_istore_n (lv' := [(2, .int (nI (hcnt p9 ho (j + 1)))), (3, .int (nI j)), (0, .ref q), (1, .int (nI p9))]) hx hb dX8_holesIn_31 rfl hl (by decide) rfl ?_
          clear hl
          clear ls
          intro ls hl
          refine lv_iinc (v := nI (j + 1)) (lv' := [(3, .int (nI (j + 1))), (2, .int (nI (hcnt p9 ho (j + 1)))), (0, .ref q), (1, .int (nI p9))]) hx hb dX8_holesIn_32 hl (k := 1) rfl (nI_1 _) (by decide) rfl ?_
          clear hl
          clear ls
          intro ls hl
          refine lv_goto (tgt := 4) hx hb dX8_holesIn_35 (by decide) ?_
          exact ih4 (j + 1) (by omega) (by omega) _ _ (hB) _ (lv_sub hl [1, 0, 2, 3] rfl)
  exact lp4 (12 - 0 + 1) 0 (Nat.zero_le _) (by omega) _ _ (hB) _ (lv_sub hl [1, 0, 2, 3] rfl)

set_option maxHeartbeats 4000000 in
set_option maxRecDepth 100000 in
theorem c_X8_isFree (l : Launch) (D : va_G) (ka : Nat → ClassId) (kb : Nat → Nat) (q : Nat) (ad : Nat → Nat) (o : Bool) (z : mZ) (le : Nat → Int32) (ho : Nat → Int32) (p9 : Nat) (a : Nat) (hp9 : p9 < 2) (ha : a < 12) : zI l D ka kb yX8_isFree cX8_isFree 3 .boolean 0 0 [.ref q, .int (nI p9), .int (nI a)] ([(q, .inr (8, mO ad o z)), ((ad 8), .inl (ka 0, 2, .inl le)), ((ad 7), .inl (ka 0, 24, .inl ho))]) (fun (r : Int32) (_ : Unit) => r = bI (frB p9 a le ho)) (fun (_ : Unit) => [(q, .inr (8, mO ad o z)), ((ad 8), .inl (ka 0, 2, .inl le)), ((ad 7), .inl (ka 0, 24, .inl ho))]) := by
  refine zI.mk RX8 (by decide +kernel) rfl (Nat.le_of_ble_eq_true rfl) ?_
  intro p e s m below meth c A ls args Q hQ hx hb hF hB hl
  replace hl : lv_has ls 3 [(0, .ref q), (1, .int (nI p9)), (2, .int (nI a))] := hl
  refine lv_aload_n hx hb dX8_isFree_0 rfl (lv_at hl 0 rfl) ?_
  refine zget zf_X8_35 hF hB 0 rfl rfl dX8_isFree_1 ?_
  refine lv_iload_n hx hb dX8_isFree_4 rfl (lv_at hl 1 rfl) ?_
  refine ziald hF hB 1 rfl p9 (rfl) (by omega) (by decide) (v := (le p9)) (rfl) dX8_isFree_5 ?_
  refine lv_iload_n hx hb dX8_isFree_6 rfl (lv_at hl 2 rfl) ?_
  refine lv_ishr hx hb dX8_isFree_7 ?_
  refine lv_iconst (v := 1) hx hb dX8_isFree_8 (by decide) ?_
  refine lv_iand hx hb dX8_isFree_9 ?_
  refine lv_iconst (v := 1) hx hb dX8_isFree_10 (by decide) ?_
  refine lv_icmp_ne (tgt := 32) hx hb dX8_isFree_11 (by decide) (fun h11 => ?_) (fun h11 => ?_)
  · skip
    refine lv_iconst (v := 0) hx hb dX8_isFree_32 (by decide) ?_
    refine ztopi (y := bI (frB p9 a le ho)) (bI_0 (dB_f.mpr (fun e8 => h11 e8.1))) ?_
    exact zreti hF hB () (rfl) (rfl) (zbI_n _) dX8_isFree_33 hQ
  · skip
    refine lv_aload_n hx hb dX8_isFree_14 rfl (lv_at hl 0 rfl) ?_
    refine zget zf_X8_32 hF hB 0 rfl rfl dX8_isFree_15 ?_
    refine lv_bipush (v := 12) hx hb dX8_isFree_18 (by decide) ?_
    refine lv_iload_n hx hb dX8_isFree_20 rfl (lv_at hl 1 rfl) ?_
    refine lv_imul hx hb dX8_isFree_21 ?_
    refine ztopi (y := nI (12 * p9)) (pk_mul 12 p9) ?_
    refine lv_iload_n hx hb dX8_isFree_22 rfl (lv_at hl 2 rfl) ?_
    refine lv_iadd hx hb dX8_isFree_23 ?_
    refine ztopi (y := nI ((12 * p9) + a)) (nI_add (12 * p9) a) ?_
    refine ziald hF hB 2 rfl ((12 * p9) + a) (rfl) (by omega) (by decide) (v := (ho ((12 * p9) + a))) (rfl) dX8_isFree_24 ?_
    refine lv_if_ne (tgt := 32) hx hb dX8_isFree_25 (by decide) (fun h25 => ?_) (fun h25 => ?_)
    · skip
      refine lv_iconst (v := 0) hx hb dX8_isFree_32 (by decide) ?_
      refine ztopi (y := bI (frB p9 a le ho)) (bI_0 (dB_f.mpr (fun e8 => h25 e8.2))) ?_
      exact zreti hF hB () (rfl) (rfl) (zbI_n _) dX8_isFree_33 hQ
    · skip
      refine lv_iconst (v := 1) hx hb dX8_isFree_28 (by decide) ?_
      refine ztopi (y := bI (frB p9 a le ho)) (bI_1 (dB_t.mpr ⟨h11, h25⟩)) ?_
      refine lv_goto (tgt := 33) hx hb dX8_isFree_29 (by decide) ?_
      exact zreti hF hB () (rfl) (rfl) (zbI_n _) dX8_isFree_33 hQ
