noncomputable def kpB (t : Int32) (k : Nat) : Bool := dB (lgX t k = 1)
noncomputable def rdK (k b c : Int32) : Bool := dB (inI k 3 = true ∧ inI b 2 = true ∧ inI c 5 = true)
noncomputable def rdW (k b c t : Int32) (G : Nat → N5) : Int64 := if rdK k b c = true then (if kpB t (aN k) = true then cmp5 (G (6 + 2 * aN k + aN b)) (aN c) else lMin - (-3 : Int32).toInt64) else lMin - (-2 : Int32).toInt64
noncomputable def beK (b p w v : Int32) : Bool := dB (inI b 2 = true ∧ inI p 2 = true ∧ inI w 2 = true ∧ inR v 0 (if aN w = 0 then 9 else 11) = true)
noncomputable def beA (b p w v : Int32) (ga lg : Nat → Int32) : Int32 := if beK b p w v = true then (if aN w = 0 then ga (2 * aN b + aN p) else lg (2 * aN b + aN p)) else -2
set_option maxHeartbeats 4000000 in
set_option maxRecDepth 100000 in
theorem c_X8_wayTo (l : Launch) (D : va_G) (ka : Nat → ClassId) (kb : Nat → Nat) (q : Nat) (ad : Nat → Nat) (o : Bool) (z : mZ) (nu : Nat → Int64) (t : Nat) (a : Nat) (y : Int) (ht : t < 40) (ha : a < 12) : zV l D ka kb yX8_wayTo cX8_wayTo 5 2 63 [.ref q, .int (nI t), .int (nI a), .long (Int64.ofInt y)] ([(q, .inr (8, mO ad o z)), ((ad 3), .inl (ka 1, 200, .inr (.inl nu)))]) (fun (_ : Unit) => True) (fun (_ : Unit) => [(q, .inr (8, mO ad o z)), ((ad 3), .inl (ka 1, 200, .inr (.inl (setN nu t (wyN y a)))))]) := by
  refine zV.mk RX8 (by decide +kernel) rfl (Nat.le_of_ble_eq_true rfl) ?_
  intro p e s m below meth c A ls args Q hQ hx hb hF hB hl
  replace hl : lv_has ls 5 [(0, .ref q), (1, .int (nI t)), (2, .int (nI a)), (3, .long (Int64.ofInt y))] := hl
  refine lv_aload_n hx hb dX8_wayTo_0 rfl (lv_at hl 0 rfl) ?_
  refine lv_iload_n hx hb dX8_wayTo_1 rfl (lv_at hl 1 rfl) ?_
  refine lv_lload_n hx hb dX8_wayTo_2 rfl (lv_at hl 3 rfl) ?_
  refine lv_iload_n hx hb dX8_wayTo_3 rfl (lv_at hl 2 rfl) ?_
  refine lv_iconst (v := 0) hx hb dX8_wayTo_4 (by decide) ?_
  refine zSi zm_X8_189 hF hB (c_X8_way l D ka kb a 0 (ha) (by decide)) [] rfl (by decide) [] (fun _ => rfl) rfl rfl ⟨Nat.le_of_ble_eq_true rfl, Nat.le_of_ble_eq_true rfl⟩ rfl hl.1 (Nat.le_of_ble_eq_true rfl) ⟨Nat.le_refl _, Nat.le_refl _⟩ dX8_wayTo_5 ?_
  clear hB
  try clear locs
  try clear H
  intro r1 u1 H locs hp hB
  obtain rfl : r1 = zways.getD (4 * a + 0) 0 := hp
  replace hB : zB D A s ([(q, .inr (8, mO ad o z)), ((ad 3), .inl (ka 1, 200, .inr (.inl nu)))]) H locs := hB
  refine lv_i2l (v := (zways.getD (4 * a + 0) 0).toInt64) hx hb dX8_wayTo_8 rfl ?_
  refine lv_lmul hx hb dX8_wayTo_9 ?_
  refine ztopl (y := Int64.ofInt (y * wI a 0)) (by rw [i64_w, ofI_mul] <;> rfl) ?_
  refine lv_lload_n hx hb dX8_wayTo_10 rfl (lv_at hl 3 rfl) ?_
  refine lv_iload_n hx hb dX8_wayTo_11 rfl (lv_at hl 2 rfl) ?_
  refine lv_iconst (v := 1) hx hb dX8_wayTo_12 (by decide) ?_
  refine zSi zm_X8_189 hF hB (c_X8_way l D ka kb a 1 (ha) (by decide)) [] rfl (by decide) [] (fun _ => rfl) rfl rfl ⟨Nat.le_of_ble_eq_true rfl, Nat.le_of_ble_eq_true rfl⟩ rfl hl.1 (Nat.le_of_ble_eq_true rfl) ⟨Nat.le_refl _, Nat.le_refl _⟩ dX8_wayTo_13 ?_
  clear hB
  try clear locs
  try clear H
  intro r2 u2 H locs hp hB
  obtain rfl : r2 = zways.getD (4 * a + 1) 0 := hp
  replace hB : zB D A s ([(q, .inr (8, mO ad o z)), ((ad 3), .inl (ka 1, 200, .inr (.inl nu)))]) H locs := hB
  refine lv_i2l (v := (zways.getD (4 * a + 1) 0).toInt64) hx hb dX8_wayTo_16 rfl ?_
  refine lv_lmul hx hb dX8_wayTo_17 ?_
  refine ztopl (y := Int64.ofInt (y * wI a 1)) (by rw [i64_w, ofI_mul] <;> rfl) ?_
  refine lv_lload_n hx hb dX8_wayTo_18 rfl (lv_at hl 3 rfl) ?_
  refine lv_iload_n hx hb dX8_wayTo_19 rfl (lv_at hl 2 rfl) ?_
  refine lv_iconst (v := 2) hx hb dX8_wayTo_20 (by decide) ?_
  refine zSi zm_X8_189 hF hB (c_X8_way l D ka kb a 2 (ha) (by decide)) [] rfl (by decide) [] (fun _ => rfl) rfl rfl ⟨Nat.le_of_ble_eq_true rfl, Nat.le_of_ble_eq_true rfl⟩ rfl hl.1 (Nat.le_of_ble_eq_true rfl) ⟨Nat.le_refl _, Nat.le_refl _⟩ dX8_wayTo_21 ?_
  clear hB
  try clear locs
  try clear H
  intro r3 u3 H locs hp hB
  obtain rfl : r3 = zways.getD (4 * a + 2) 0 := hp
  replace hB : zB D A s ([(q, .inr (8, mO ad o z)), ((ad 3), .inl (ka 1, 200, .inr (.inl nu)))]) H locs := hB
  refine lv_i2l (v := (zways.getD (4 * a + 2) 0).toInt64) hx hb dX8_wayTo_24 rfl ?_
  refine lv_lmul hx hb dX8_wayTo_25 ?_
  refine ztopl (y := Int64.ofInt (y * wI a 2)) (by rw [i64_w, ofI_mul] <;> rfl) ?_
  refine lv_lload_n hx hb dX8_wayTo_26 rfl (lv_at hl 3 rfl) ?_
  refine lv_iload_n hx hb dX8_wayTo_27 rfl (lv_at hl 2 rfl) ?_
  refine lv_iconst (v := 3) hx hb dX8_wayTo_28 (by decide) ?_
  refine zSi16 zm_X8_189 hF hB (c_X8_way l D ka kb a 3 (ha) (by decide)) [] rfl (by decide) [] (fun _ => rfl) rfl rfl ⟨Nat.le_of_ble_eq_true rfl, Nat.le_of_ble_eq_true rfl⟩ rfl hl.1 (Nat.le_of_ble_eq_true rfl) ⟨Nat.le_refl _, Nat.le_refl _⟩ dX8_wayTo_29 ?_
  clear hB
  try clear locs
  try clear H
  intro r4 u4 H locs hp hB
  obtain rfl : r4 = zways.getD (4 * a + 3) 0 := hp
  replace hB : zB D A s ([(q, .inr (8, mO ad o z)), ((ad 3), .inl (ka 1, 200, .inr (.inl nu)))]) H locs := hB
  refine lv_i2l (v := (zways.getD (4 * a + 3) 0).toInt64) hx hb dX8_wayTo_32 rfl ?_
  refine lv_lmul hx hb dX8_wayTo_33 ?_
  refine ztopl (y := Int64.ofInt (y * wI a 3)) (by rw [i64_w, ofI_mul] <;> rfl) ?_
  refine zldc2 (v := (2 : Int64)) ww_26_6 hF dX8_wayTo_34 ?_
  refine zVv zm_X8_134 hF hB (c_X8_lays l D ka kb q ad o z nu t (Int64.ofInt (y * wI a 0)) (Int64.ofInt (y * wI a 1)) (Int64.ofInt (y * wI a 2)) (Int64.ofInt (y * wI a 3)) (2 : Int64) (ht) (by decide)) [0, 1] rfl (by decide) [q, (ad 3)] (fun _ => rfl) rfl 0 8 rfl rfl rfl ⟨Nat.le_of_ble_eq_true rfl, Nat.le_of_ble_eq_true rfl⟩ rfl hl.1 (Nat.le_of_ble_eq_true rfl) ⟨Nat.le_refl _, Nat.le_refl _⟩ dX8_wayTo_37 ?_
  clear hB
  try clear locs
  try clear H
  intro u5 H locs hp hB
  replace hB : zB D A s ([(q, .inr (8, mO ad o z)), ((ad 3), .inl (ka 1, 200, .inr (.inl (setN nu t (lowN (Int64.ofInt (y * wI a 0)) (Int64.ofInt (y * wI a 1)) (Int64.ofInt (y * wI a 2)) (Int64.ofInt (y * wI a 3)) (2 : Int64))))))]) H locs := hB
  exact zretv hF hB () (trivial) (rfl) dX8_wayTo_40 hQ

set_option maxHeartbeats 4000000 in
set_option maxRecDepth 100000 in
theorem c_X8_kept (l : Launch) (D : va_G) (ka : Nat → ClassId) (kb : Nat → Nat) (q : Nat) (ad : Nat → Nat) (o : Bool) (z : mZ)  : zI l D ka kb yX8_kept cX8_kept 1 .int 1 22 [.ref q] ([(q, .inr (8, mO ad o z))]) (fun (r : Int32) (_ : Unit) => r = bcnt z.2.2.2.2.1 12) (fun (_ : Unit) => [(q, .inr (8, mO ad o z))]) := by
  refine zI.mk RX8 (by decide +kernel) rfl (Nat.le_of_ble_eq_true rfl) ?_
  intro p e s m below meth c A ls args Q hQ hx hb hF hB hl
  replace hl : lv_has ls 1 [(0, .ref q)] := hl
  refine lv_aload_n hx hb dX8_kept_0 rfl (lv_at hl 0 rfl) ?_
  refine zget zf_X8_213 hF hB 0 rfl rfl dX8_kept_1 ?_
  refine zSi zm_X8_242 hF hB (c_X8_bitsIn l D ka kb z.2.2.2.2.1 ) [] rfl (by decide) [] (fun _ => rfl) rfl rfl ⟨Nat.le_of_ble_eq_true rfl, Nat.le_of_ble_eq_true rfl⟩ rfl hl.1 (Nat.le_of_ble_eq_true rfl) ⟨Nat.le_refl _, Nat.le_refl _⟩ dX8_kept_4 ?_
  clear hB
  try clear locs
  try clear H
  intro r1 u1 H locs hp hB
  obtain rfl : r1 = bcnt z.2.2.2.2.1 12 := hp
  replace hB : zB D A s ([(q, .inr (8, mO ad o z))]) H locs := hB
  exact zreti hF hB () (rfl) (rfl) (rfl) dX8_kept_7 hQ

set_option maxHeartbeats 4000000 in
set_option maxRecDepth 100000 in
theorem c_X8_isKept (l : Launch) (D : va_G) (ka : Nat → ClassId) (kb : Nat → Nat) (q : Nat) (ad : Nat → Nat) (o : Bool) (z : mZ) (k : Nat)  : zI l D ka kb yX8_isKept cX8_isKept 2 .boolean 0 0 [.ref q, .int (nI k)] ([(q, .inr (8, mO ad o z))]) (fun (r : Int32) (_ : Unit) => r = bI (kpB z.2.2.2.2.1 k)) (fun (_ : Unit) => [(q, .inr (8, mO ad o z))]) := by
  refine zI.mk RX8 (by decide +kernel) rfl (Nat.le_of_ble_eq_true rfl) ?_
  intro p e s m below meth c A ls args Q hQ hx hb hF hB hl
  replace hl : lv_has ls 2 [(0, .ref q), (1, .int (nI k))] := hl
  refine lv_aload_n hx hb dX8_isKept_0 rfl (lv_at hl 0 rfl) ?_
  refine zget zf_X8_213 hF hB 0 rfl rfl dX8_isKept_1 ?_
  refine lv_iload_n hx hb dX8_isKept_4 rfl (lv_at hl 1 rfl) ?_
  refine lv_ishr hx hb dX8_isKept_5 ?_
  refine lv_iconst (v := 1) hx hb dX8_isKept_6 (by decide) ?_
  refine lv_iand hx hb dX8_isKept_7 ?_
  refine lv_iconst (v := 1) hx hb dX8_isKept_8 (by decide) ?_
  refine lv_icmp_ne (tgt := 16) hx hb dX8_isKept_9 (by decide) (fun h9 => ?_) (fun h9 => ?_)
  · skip
    refine lv_iconst (v := 0) hx hb dX8_isKept_16 (by decide) ?_
    refine ztopi (y := bI (kpB z.2.2.2.2.1 k)) (bI_0 (dB_f.mpr h9)) ?_
    exact zreti hF hB () (rfl) (rfl) (zbI_n _) dX8_isKept_17 hQ
  · skip
    refine lv_iconst (v := 1) hx hb dX8_isKept_12 (by decide) ?_
    refine ztopi (y := bI (kpB z.2.2.2.2.1 k)) (bI_1 (dB_t.mpr h9)) ?_
    refine lv_goto (tgt := 17) hx hb dX8_isKept_13 (by decide) ?_
    exact zreti hF hB () (rfl) (rfl) (zbI_n _) dX8_isKept_17 hQ

set_option maxHeartbeats 4000000 in
set_option maxRecDepth 100000 in
theorem c_X8_readingBy (l : Launch) (D : va_G) (ka : Nat → ClassId) (kb : Nat → Nat) (q : Nat) (ad : Nat → Nat) (o : Bool) (z : mZ) (nu : Nat → Int64) (k : Nat) (b : Nat) (c9 : Nat) (hk : k < 3) (hb2 : b < 2) (hc : c9 < 5) : zL l D ka kb yX8_readingBy cX8_readingBy 4 1 22 [.ref q, .int (nI k), .int (nI b), .int (nI c9)] ([(q, .inr (8, mO ad o z)), ((ad 3), .inl (ka 1, 200, .inr (.inl nu)))]) (fun (r : Int64) (_ : Unit) => r = (if kpB z.2.2.2.2.1 k = true then cmp5 (getN nu (6 + 2 * k + b)) c9 else lMin - (-3 : Int32).toInt64)) (fun (_ : Unit) => [(q, .inr (8, mO ad o z)), ((ad 3), .inl (ka 1, 200, .inr (.inl nu)))]) := by
  refine zL.mk RX8 (by decide +kernel) rfl (Nat.le_of_ble_eq_true rfl) ?_
  intro p e s m below meth c A ls args Q hQ hx hb hF hB hl
  replace hl : lv_has ls 4 [(0, .ref q), (1, .int (nI k)), (2, .int (nI b)), (3, .int (nI c9))] := hl
  refine lv_aload_n hx hb dX8_readingBy_0 rfl (lv_at hl 0 rfl) ?_
  refine lv_iload_n hx hb dX8_readingBy_1 rfl (lv_at hl 1 rfl) ?_
  refine zVi zm_X8_265 hF hB (c_X8_isKept l D ka kb q ad o z k ) [0] rfl (by decide) [q] (fun _ => rfl) rfl 0 8 rfl rfl rfl ⟨Nat.le_of_ble_eq_true rfl, Nat.le_of_ble_eq_true rfl⟩ rfl hl.1 (Nat.le_of_ble_eq_true rfl) ⟨Nat.le_refl _, Nat.le_refl _⟩ dX8_readingBy_2 ?_
  clear hB
  try clear locs
  try clear H
  intro r1 u1 H locs hp hB
  obtain rfl : r1 = bI (kpB z.2.2.2.2.1 k) := hp
  replace hB : zB D A s ([(q, .inr (8, mO ad o z)), ((ad 3), .inl (ka 1, 200, .inr (.inl nu)))]) H locs := hB
  refine lv_if_eq (tgt := 24) hx hb dX8_readingBy_5 (by decide) (fun h5 => ?_) (fun h5 => ?_)
  · skip
    have hk0 := bI_eq0 h5
    refine lv_bipush (v := -3) hx hb dX8_readingBy_24 (by decide) ?_
    refine zSl zm_X8_99 hF hB (c_X8_no l D ka kb (-3 : Int32) ) [] rfl (by decide) [] (fun _ => rfl) rfl rfl ⟨Nat.le_of_ble_eq_true rfl, Nat.le_of_ble_eq_true rfl⟩ rfl hl.1 (Nat.le_of_ble_eq_true rfl) ⟨Nat.le_refl _, Nat.le_refl _⟩ dX8_readingBy_26 ?_
    clear hB
    try clear locs
    try clear H
    intro r2 u2 H locs hp hB
    obtain rfl : r2 = lMin - (-3 : Int32).toInt64 := hp
    replace hB : zB D A s ([(q, .inr (8, mO ad o z)), ((ad 3), .inl (ka 1, 200, .inr (.inl nu)))]) H locs := hB
    exact zretl hF hB () (by rw [if_neg (by rw [hk0]; decide)]) (rfl) dX8_readingBy_29 hQ
  · skip
    have hk0 := bI_ne0 h5
    refine lv_aload_n hx hb dX8_readingBy_8 rfl (lv_at hl 0 rfl) ?_
    refine lv_bipush (v := 6) hx hb dX8_readingBy_9 (by decide) ?_
    refine lv_iconst (v := 2) hx hb dX8_readingBy_11 (by decide) ?_
    refine lv_iload_n hx hb dX8_readingBy_12 rfl (lv_at hl 1 rfl) ?_
    refine lv_imul hx hb dX8_readingBy_13 ?_
    refine ztopi (y := nI (2 * k)) (pk_mul 2 k) ?_
    refine lv_iadd hx hb dX8_readingBy_14 ?_
    refine ztopi (y := nI (6 + (2 * k))) (nI_add 6 (2 * k)) ?_
    refine lv_iload_n hx hb dX8_readingBy_15 rfl (lv_at hl 2 rfl) ?_
    refine lv_iadd hx hb dX8_readingBy_16 ?_
    refine ztopi (y := nI ((6 + (2 * k)) + b)) (nI_add (6 + (2 * k)) b) ?_
    refine lv_iload_n hx hb dX8_readingBy_17 rfl (lv_at hl 3 rfl) ?_
    refine zVl zm_X8_120 hF hB (c_X8_at l D ka kb q ad o z nu ((6 + (2 * k)) + b) c9 (by first | assumption | omega | decide) (by first | assumption | omega | decide)) [0, 1] rfl (by decide) [q, (ad 3)] (fun _ => rfl) rfl 0 8 rfl rfl rfl ⟨Nat.le_of_ble_eq_true rfl, Nat.le_of_ble_eq_true rfl⟩ rfl hl.1 (Nat.le_of_ble_eq_true rfl) ⟨Nat.le_refl _, Nat.le_refl _⟩ dX8_readingBy_18 ?_
    clear hB
    try clear locs
    try clear H
    intro r3 u3 H locs hp hB
    obtain rfl : r3 = nu (5 * ((6 + (2 * k)) + b) + c9) := hp
    replace hB : zB D A s ([(q, .inr (8, mO ad o z)), ((ad 3), .inl (ka 1, 200, .inr (.inl nu)))]) H locs := hB
    refine lv_goto (tgt := 29) hx hb dX8_readingBy_21 (by decide) ?_
    exact zretl hF hB () (by rw [if_pos hk0, ← cmp5_get _ _ hc]) (rfl) dX8_readingBy_29 hQ

set_option maxHeartbeats 4000000 in
set_option maxRecDepth 100000 in
theorem c_X8_reading (l : Launch) (D : va_G) (ka : Nat → ClassId) (kb : Nat → Nat) (q : Nat) (ad : Nat → Nat) (o : Bool) (z : mZ) (nu : Nat → Int64) (kq : Int32) (bq : Int32) (cq : Int32)  : zL l D ka kb yX8_reading cX8_reading 4 2 45 [.ref q, .int kq, .int bq, .int cq] ([(q, .inr (8, mO ad o z)), ((ad 3), .inl (ka 1, 200, .inr (.inl nu)))]) (fun (r : Int64) (_ : Unit) => r = rdW kq bq cq z.2.2.2.2.1 (getN nu)) (fun (_ : Unit) => [(q, .inr (8, mO ad o z)), ((ad 3), .inl (ka 1, 200, .inr (.inl nu)))]) := by
  refine zL.mk RX8 (by decide +kernel) rfl (Nat.le_of_ble_eq_true rfl) ?_
  intro p e s m below meth c A ls args Q hQ hx hb hF hB hl
  replace hl : lv_has ls 4 [(0, .ref q), (1, .int kq), (2, .int bq), (3, .int cq)] := hl
  refine lv_iload_n hx hb dX8_reading_0 rfl (lv_at hl 1 rfl) ?_
  refine lv_i2l (v := kq.toInt64) hx hb dX8_reading_1 rfl ?_
  refine lv_lconst (v := 0) hx hb dX8_reading_2 (by decide) ?_
  refine zldc2 (v := (2 : Int64)) ww_26_6 hF dX8_reading_3 ?_
  refine zSi zm_X8_72 hF hB (c_X8_in l D ka kb kq.toInt64 (0 : Int64) (2 : Int64) ) [] rfl (by decide) [] (fun _ => rfl) rfl rfl ⟨Nat.le_of_ble_eq_true rfl, Nat.le_of_ble_eq_true rfl⟩ rfl hl.1 (Nat.le_of_ble_eq_true rfl) ⟨Nat.le_refl _, Nat.le_refl _⟩ dX8_reading_6 ?_
  clear hB
  try clear locs
  try clear H
  intro r1 u1 H locs hp hB
  obtain rfl : r1 = bI (zin kq.toInt64 (0 : Int64) (2 : Int64)) := hp
  replace hB : zB D A s ([(q, .inr (8, mO ad o z)), ((ad 3), .inl (ka 1, 200, .inr (.inl nu)))]) H locs := hB
  refine lv_if_eq (tgt := 41) hx hb dX8_reading_9 (by decide) (fun h9 => ?_) (fun h9 => ?_)
  · skip
    have hs9 : inI kq 3 = false := (zin_inI kq 3 (by decide) (by decide)).symm.trans (bI_eq0 h9)
    refine lv_bipush (v := -2) hx hb dX8_reading_41 (by decide) ?_
    refine zSl zm_X8_99 hF hB (c_X8_no l D ka kb (-2 : Int32) ) [] rfl (by decide) [] (fun _ => rfl) rfl rfl ⟨Nat.le_of_ble_eq_true rfl, Nat.le_of_ble_eq_true rfl⟩ rfl hl.1 (Nat.le_of_ble_eq_true rfl) ⟨Nat.le_refl _, Nat.le_refl _⟩ dX8_reading_43 ?_
    clear hB
    try clear locs
    try clear H
    intro r2 u2 H locs hp hB
    obtain rfl : r2 = lMin - (-2 : Int32).toInt64 := hp
    replace hB : zB D A s ([(q, .inr (8, mO ad o z)), ((ad 3), .inl (ka 1, 200, .inr (.inl nu)))]) H locs := hB
    exact zretl hF hB () (by rw [rdW, if_neg (by rw [show rdK kq bq cq = false from dB_f.mpr (fun e8 => by rw [hs9] at e8; exact absurd e8.1 (by decide))]; decide)]) (rfl) dX8_reading_46 hQ
  · skip
    have hs9 : inI kq 3 = true := (zin_inI kq 3 (by decide) (by decide)).symm.trans (bI_ne0 h9)
    obtain ⟨k, hk2, hk3⟩ := inI_of hs9 (by decide)
    subst hk3
    have rk : aN (nI k) = k := aNn hk2 (by decide)
    refine lv_iload_n hx hb dX8_reading_12 rfl (lv_at hl 2 rfl) ?_
    refine zSi zm_X8_226 hF hB (c_X8_isTwo l D ka kb bq ) [] rfl (by decide) [] (fun _ => rfl) rfl rfl ⟨Nat.le_of_ble_eq_true rfl, Nat.le_of_ble_eq_true rfl⟩ rfl hl.1 (Nat.le_of_ble_eq_true rfl) ⟨Nat.le_refl _, Nat.le_refl _⟩ dX8_reading_13 ?_
    clear hB
    try clear locs
    try clear H
    intro r3 u3 H locs hp hB
    obtain rfl : r3 = bI (inI bq 2) := hp
    replace hB : zB D A s ([(q, .inr (8, mO ad o z)), ((ad 3), .inl (ka 1, 200, .inr (.inl nu)))]) H locs := hB
    refine lv_if_eq (tgt := 41) hx hb dX8_reading_16 (by decide) (fun h16 => ?_) (fun h16 => ?_)
    · skip
      refine lv_bipush (v := -2) hx hb dX8_reading_41 (by decide) ?_
      refine zSl zm_X8_99 hF hB (c_X8_no l D ka kb (-2 : Int32) ) [] rfl (by decide) [] (fun _ => rfl) rfl rfl ⟨Nat.le_of_ble_eq_true rfl, Nat.le_of_ble_eq_true rfl⟩ rfl hl.1 (Nat.le_of_ble_eq_true rfl) ⟨Nat.le_refl _, Nat.le_refl _⟩ dX8_reading_43 ?_
      clear hB
      try clear locs
      try clear H
      intro r4 u4 H locs hp hB
      obtain rfl : r4 = lMin - (-2 : Int32).toInt64 := hp
      replace hB : zB D A s ([(q, .inr (8, mO ad o z)), ((ad 3), .inl (ka 1, 200, .inr (.inl nu)))]) H locs := hB
      exact zretl hF hB () (by rw [rdW, if_neg (by rw [show rdK (nI k) bq cq = false from dB_f.mpr (fun e8 => by rw [bI_eq0 h16] at e8; exact absurd e8.2.1 (by decide))]; decide)]) (rfl) dX8_reading_46 hQ
    · skip
      have hb1 : inI bq 2 = true := bI_ne0 h16
      obtain ⟨b, hb2, hb3⟩ := inI_of hb1 (by decide)
      subst hb3
      have rb : aN (nI b) = b := aNn hb2 (by decide)
      refine lv_iload_n hx hb dX8_reading_19 rfl (lv_at hl 3 rfl) ?_
      refine lv_i2l (v := cq.toInt64) hx hb dX8_reading_20 rfl ?_
      refine lv_lconst (v := 0) hx hb dX8_reading_21 (by decide) ?_
      refine zldc2 (v := (4 : Int64)) ww_9_15 hF dX8_reading_22 ?_
      refine zSi zm_X8_72 hF hB (c_X8_in l D ka kb cq.toInt64 (0 : Int64) (4 : Int64) ) [] rfl (by decide) [] (fun _ => rfl) rfl rfl ⟨Nat.le_of_ble_eq_true rfl, Nat.le_of_ble_eq_true rfl⟩ rfl hl.1 (Nat.le_of_ble_eq_true rfl) ⟨Nat.le_refl _, Nat.le_refl _⟩ dX8_reading_25 ?_
      clear hB
      try clear locs
      try clear H
      intro r5 u5 H locs hp hB
      obtain rfl : r5 = bI (zin cq.toInt64 (0 : Int64) (4 : Int64)) := hp
      replace hB : zB D A s ([(q, .inr (8, mO ad o z)), ((ad 3), .inl (ka 1, 200, .inr (.inl nu)))]) H locs := hB
      refine lv_if_eq (tgt := 41) hx hb dX8_reading_28 (by decide) (fun h28 => ?_) (fun h28 => ?_)
      · skip
        have hs8 : inI cq 5 = false := (zin_inI cq 5 (by decide) (by decide)).symm.trans (bI_eq0 h28)
        refine lv_bipush (v := -2) hx hb dX8_reading_41 (by decide) ?_
        refine zSl zm_X8_99 hF hB (c_X8_no l D ka kb (-2 : Int32) ) [] rfl (by decide) [] (fun _ => rfl) rfl rfl ⟨Nat.le_of_ble_eq_true rfl, Nat.le_of_ble_eq_true rfl⟩ rfl hl.1 (Nat.le_of_ble_eq_true rfl) ⟨Nat.le_refl _, Nat.le_refl _⟩ dX8_reading_43 ?_
        clear hB
        try clear locs
        try clear H
        intro r6 u6 H locs hp hB
        obtain rfl : r6 = lMin - (-2 : Int32).toInt64 := hp
        replace hB : zB D A s ([(q, .inr (8, mO ad o z)), ((ad 3), .inl (ka 1, 200, .inr (.inl nu)))]) H locs := hB
        exact zretl hF hB () (by rw [rdW, if_neg (by rw [show rdK (nI k) (nI b) cq = false from dB_f.mpr (fun e8 => by rw [hs8] at e8; exact absurd e8.2.2 (by decide))]; decide)]) (rfl) dX8_reading_46 hQ
      · skip
        have hs8 : inI cq 5 = true := (zin_inI cq 5 (by decide) (by decide)).symm.trans (bI_ne0 h28)
        obtain ⟨j, hj2, hj3⟩ := inI_of hs8 (by decide)
        subst hj3
        have rj : aN (nI j) = j := aNn hj2 (by decide)
        refine lv_aload_n hx hb dX8_reading_31 rfl (lv_at hl 0 rfl) ?_
        refine lv_iload_n hx hb dX8_reading_32 rfl (lv_at hl 1 rfl) ?_
        refine lv_iload_n hx hb dX8_reading_33 rfl (lv_at hl 2 rfl) ?_
        refine lv_iload_n hx hb dX8_reading_34 rfl (lv_at hl 3 rfl) ?_
        refine zVl zm_X8_268 hF hB (c_X8_readingBy l D ka kb q ad o z nu k b j (hk2) (hb2) (hj2)) [0, 1] rfl (by decide) [q, (ad 3)] (fun _ => rfl) rfl 0 8 rfl rfl rfl ⟨Nat.le_of_ble_eq_true rfl, Nat.le_of_ble_eq_true rfl⟩ rfl hl.1 (Nat.le_of_ble_eq_true rfl) ⟨Nat.le_refl _, Nat.le_refl _⟩ dX8_reading_35 ?_
        clear hB
        try clear locs
        try clear H
        intro r7 u7 H locs hp hB
        obtain rfl : r7 = (if kpB z.2.2.2.2.1 k = true then cmp5 (getN nu (6 + 2 * k + b)) j else lMin - (-3 : Int32).toInt64) := hp
        replace hB : zB D A s ([(q, .inr (8, mO ad o z)), ((ad 3), .inl (ka 1, 200, .inr (.inl nu)))]) H locs := hB
        refine lv_goto (tgt := 46) hx hb dX8_reading_38 (by decide) ?_
        exact zretl hF hB () (by rw [rdW, if_pos (show rdK (nI k) (nI b) (nI j) = true from dB_t.mpr ⟨hs9, hb1, hs8⟩), rk, rb, rj]) (rfl) dX8_reading_46 hQ

set_option maxHeartbeats 4000000 in
set_option maxRecDepth 100000 in
theorem c_X8_bearing (l : Launch) (D : va_G) (ka : Nat → ClassId) (kb : Nat → Nat) (q : Nat) (ad : Nat → Nat) (o : Bool) (z : mZ) (ga : Nat → Int32) (lg : Nat → Int32) (bq : Int32) (pq : Int32) (wq : Int32) (vq : Int32)  : zI l D ka kb yX8_bearing cX8_bearing 7 .int 2 45 [.ref q, .int bq, .int pq, .int wq, .int vq] ([(q, .inr (8, mO ad o z)), ((ad 10), .inl (ka 0, 4, .inl ga)), ((ad 11), .inl (ka 0, 4, .inl lg))]) (fun (r : Int32) (_ : Unit) => r = beA bq pq wq vq ga lg) (fun (_ : Unit) => [(q, .inr (8, mX ad (bI o) z.1 z.2.1 z.2.2.1 z.2.2.2.1 (if beK bq pq wq vq = true then (0 : Int32) else z.2.2.2.2.1) z.2.2.2.2.2.1 z.2.2.2.2.2.2.1 z.2.2.2.2.2.2.2)), ((ad 10), .inl (ka 0, 4, .inl (if beK bq pq wq vq = true ∧ aN wq = 0 then upd ga (2 * aN bq + aN pq) vq else ga))), ((ad 11), .inl (ka 0, 4, .inl (if beK bq pq wq vq = true ∧ aN wq ≠ 0 then upd lg (2 * aN bq + aN pq) vq else lg)))]) := by
  refine zI.mk RX8 (by decide +kernel) rfl (Nat.le_of_ble_eq_true rfl) ?_
  intro p e s m below meth c A ls args Q hQ hx hb hF hB hl
  replace hl : lv_has ls 7 [(0, .ref q), (1, .int bq), (2, .int pq), (3, .int wq), (4, .int vq)] := hl
  refine lv_iload_n hx hb dX8_bearing_0 rfl (lv_at hl 1 rfl) ?_
  refine zSi zm_X8_226 hF hB (c_X8_isTwo l D ka kb bq ) [] rfl (by decide) [] (fun _ => rfl) rfl rfl ⟨Nat.le_of_ble_eq_true rfl, Nat.le_of_ble_eq_true rfl⟩ rfl hl.1 (Nat.le_of_ble_eq_true rfl) ⟨Nat.le_refl _, Nat.le_refl _⟩ dX8_bearing_1 ?_
  clear hB
  try clear locs
  try clear H
  intro r1 u1 H locs hp hB
  obtain rfl : r1 = bI (inI bq 2) := hp
  replace hB : zB D A s ([(q, .inr (8, mO ad o z)), ((ad 10), .inl (ka 0, 4, .inl ga)), ((ad 11), .inl (ka 0, 4, .inl lg))]) H locs := hB
  refine lv_if_eq (tgt := 44) hx hb dX8_bearing_4 (by decide) (fun h4 => ?_) (fun h4 => ?_)
  · skip
    refine lv_bipush (v := -2) hx hb dX8_bearing_44 (by decide) ?_
    have hk9 : beK bq pq wq vq = false := dB_f.mpr (fun e8 => by rw [bI_eq0 h4] at e8; exact absurd e8.1 (by decide))
    exact zreti hF hB () (by rw [beA, if_neg (by rw [hk9]; decide)]) (by rw [hk9] <;> rfl) (rfl) dX8_bearing_46 hQ
  · skip
    have hb1 : inI bq 2 = true := bI_ne0 h4
    obtain ⟨b, hb2, hb3⟩ := inI_of hb1 (by decide)
    subst hb3
    have rb : aN (nI b) = b := aNn hb2 (by decide)
    refine lv_iload_n hx hb dX8_bearing_7 rfl (lv_at hl 2 rfl) ?_
    refine zSi zm_X8_226 hF hB (c_X8_isTwo l D ka kb pq ) [] rfl (by decide) [] (fun _ => rfl) rfl rfl ⟨Nat.le_of_ble_eq_true rfl, Nat.le_of_ble_eq_true rfl⟩ rfl hl.1 (Nat.le_of_ble_eq_true rfl) ⟨Nat.le_refl _, Nat.le_refl _⟩ dX8_bearing_8 ?_
    clear hB
    try clear locs
    try clear H
    intro r2 u2 H locs hp hB
    obtain rfl : r2 = bI (inI pq 2) := hp
    replace hB : zB D A s ([(q, .inr (8, mO ad o z)), ((ad 10), .inl (ka 0, 4, .inl ga)), ((ad 11), .inl (ka 0, 4, .inl lg))]) H locs := hB
    refine lv_if_eq (tgt := 44) hx hb dX8_bearing_11 (by decide) (fun h11 => ?_) (fun h11 => ?_)
    · skip
      refine lv_bipush (v := -2) hx hb dX8_bearing_44 (by decide) ?_
      have hk9 : beK (nI b) pq wq vq = false := dB_f.mpr (fun e8 => by rw [bI_eq0 h11] at e8; exact absurd e8.2.1 (by decide))
      exact zreti hF hB () (by rw [beA, if_neg (by rw [hk9]; decide)]) (by rw [hk9] <;> rfl) (rfl) dX8_bearing_46 hQ
    · skip
      have hp1 : inI pq 2 = true := bI_ne0 h11
      obtain ⟨p, hp2, hp3⟩ := inI_of hp1 (by decide)
      subst hp3
      have rp : aN (nI p) = p := aNn hp2 (by decide)
      refine lv_iload_n hx hb dX8_bearing_14 rfl (lv_at hl 3 rfl) ?_
      refine zSi zm_X8_226 hF hB (c_X8_isTwo l D ka kb wq ) [] rfl (by decide) [] (fun _ => rfl) rfl rfl ⟨Nat.le_of_ble_eq_true rfl, Nat.le_of_ble_eq_true rfl⟩ rfl hl.1 (Nat.le_of_ble_eq_true rfl) ⟨Nat.le_refl _, Nat.le_refl _⟩ dX8_bearing_15 ?_
      clear hB
      try clear locs
      try clear H
      intro r3 u3 H locs hp hB
      obtain rfl : r3 = bI (inI wq 2) := hp
      replace hB : zB D A s ([(q, .inr (8, mO ad o z)), ((ad 10), .inl (ka 0, 4, .inl ga)), ((ad 11), .inl (ka 0, 4, .inl lg))]) H locs := hB
      refine lv_if_eq (tgt := 44) hx hb dX8_bearing_18 (by decide) (fun h18 => ?_) (fun h18 => ?_)
      · skip
        refine lv_bipush (v := -2) hx hb dX8_bearing_44 (by decide) ?_
        have hk9 : beK (nI b) (nI p) wq vq = false := dB_f.mpr (fun e8 => by rw [bI_eq0 h18] at e8; exact absurd e8.2.2.1 (by decide))
        exact zreti hF hB () (by rw [beA, if_neg (by rw [hk9]; decide)]) (by rw [hk9] <;> rfl) (rfl) dX8_bearing_46 hQ
      · skip
        have hw91 : inI wq 2 = true := bI_ne0 h18
        obtain ⟨w9, hw92, hw93⟩ := inI_of hw91 (by decide)
        subst hw93
        have rw9 : aN (nI w9) = w9 := aNn hw92 (by decide)
        refine lv_iload hx hb dX8_bearing_21 (lv_at hl 4 rfl) ?_
        refine lv_i2l (v := vq.toInt64) hx hb dX8_bearing_23 rfl ?_
        refine lv_lconst (v := 0) hx hb dX8_bearing_24 (by decide) ?_
        refine lv_iload_n hx hb dX8_bearing_25 rfl (lv_at hl 3 rfl) ?_
        refine lv_if_ne (tgt := 35) hx hb dX8_bearing_26 (by decide) (fun h26 => ?_) (fun h26 => ?_)
        · skip
          have hw0 : w9 ≠ 0 := fun e8 => h26 (by rw [e8]; rfl)
          refine zldc2 (v := (11 : Int64)) ww_18_11 hF dX8_bearing_35 ?_
          refine zSi zm_X8_72 hF hB (c_X8_in l D ka kb vq.toInt64 (0 : Int64) (11 : Int64) ) [] rfl (by decide) [] (fun _ => rfl) rfl rfl ⟨Nat.le_of_ble_eq_true rfl, Nat.le_of_ble_eq_true rfl⟩ rfl hl.1 (Nat.le_of_ble_eq_true rfl) ⟨Nat.le_refl _, Nat.le_refl _⟩ dX8_bearing_38 ?_
          clear hB
          try clear locs
          try clear H
          intro r4 u4 H locs hp hB
          obtain rfl : r4 = bI (zin vq.toInt64 (0 : Int64) (11 : Int64)) := hp
          replace hB : zB D A s ([(q, .inr (8, mO ad o z)), ((ad 10), .inl (ka 0, 4, .inl ga)), ((ad 11), .inl (ka 0, 4, .inl lg))]) H locs := hB
          refine lv_if_ne (tgt := 47) hx hb dX8_bearing_41 (by decide) (fun h41 => ?_) (fun h41 => ?_)
          · skip
            have hs9 : inR vq 0 (if aN (nI w9) = 0 then 9 else 11) = true := by rw [rw9, if_neg hw0]; exact (zin_R (a := 0) (b := 11) rfl rfl).symm.trans (bI_ne0 h41)
            have hk9 : beK (nI b) (nI p) (nI w9) vq = true := dB_t.mpr ⟨hb1, hp1, hw91, hs9⟩
            refine lv_iconst (v := 2) hx hb dX8_bearing_47 (by decide) ?_
            refine lv_iload_n hx hb dX8_bearing_48 rfl (lv_at hl 1 rfl) ?_
            refine lv_imul hx hb dX8_bearing_49 ?_
            refine ztopi (y := nI (2 * b)) (pk_mul 2 b) ?_
            refine lv_iload_n hx hb dX8_bearing_50 rfl (lv_at hl 2 rfl) ?_
            refine lv_iadd hx hb dX8_bearing_51 ?_
            refine ztopi (y := nI ((2 * b) + p)) (nI_add (2 * b) p) ?_
            refine lv_istore (lv' := [(5, .int (nI ((2 * b) + p))), (0, .ref q), (1, .int (nI b)), (2, .int (nI p)), (3, .int (nI w9)), (4, .int vq)]) hx hb dX8_bearing_52 hl (by decide) rfl ?_
            clear hl
            clear ls
            intro ls hl
            refine lv_iload_n hx hb dX8_bearing_54 rfl (lv_at hl 4 rfl) ?_
            refine lv_if_ne (tgt := 68) hx hb dX8_bearing_55 (by decide) (fun h55 => ?_) (fun h55 => ?_)
            · skip
              refine lv_aload_n hx hb dX8_bearing_68 rfl (lv_at hl 1 rfl) ?_
              refine zget zf_X8_44 hF hB 0 rfl rfl dX8_bearing_69 ?_
              refine lv_iload hx hb dX8_bearing_72 (lv_at hl 0 rfl) ?_
              refine ziald hF hB 2 rfl ((2 * b) + p) (rfl) (by omega) (by decide) (v := (lg ((2 * b) + p))) (rfl) dX8_bearing_74 ?_
              refine lv_istore (lv' := [(6, .int (lg ((2 * b) + p))), (5, .int (nI ((2 * b) + p))), (0, .ref q), (1, .int (nI b)), (2, .int (nI p)), (3, .int (nI w9)), (4, .int vq)]) hx hb dX8_bearing_75 hl (by decide) rfl ?_
              clear hl
              clear ls
              intro ls hl
              refine lv_iload_n hx hb dX8_bearing_77 rfl (lv_at hl 5 rfl) ?_
              refine lv_if_ne (tgt := 93) hx hb dX8_bearing_78 (by decide) (fun h78 => ?_) (fun h78 => ?_)
              · skip
                refine lv_aload_n hx hb dX8_bearing_93 rfl (lv_at hl 2 rfl) ?_
                refine zget zf_X8_44 hF hB 0 rfl rfl dX8_bearing_94 ?_
                refine lv_iload hx hb dX8_bearing_97 (lv_at hl 1 rfl) ?_
                refine lv_iload hx hb dX8_bearing_99 (lv_at hl 6 rfl) ?_
                refine ziast hF hB 2 rfl ((2 * b) + p) (rfl) (by omega) (by decide) dX8_bearing_101 ?_
                clear hB
                try clear locs
                try clear H
                intro H locs hB
                replace hB : zB D A s ([(q, .inr (8, mO ad o z)), ((ad 10), .inl (ka 0, 4, .inl ga)), ((ad 11), .inl (ka 0, 4, .inl (upd lg ((2 * b) + p) vq)))]) H locs := hB
                refine lv_aload_n hx hb dX8_bearing_102 rfl (lv_at hl 2 rfl) ?_
                refine zVv zm_X8_223 hF hB (c_X8_forgets l D ka kb q ad o z ) [0] rfl (by decide) [q] (fun _ => rfl) rfl 0 8 rfl rfl rfl ⟨Nat.le_of_ble_eq_true rfl, Nat.le_of_ble_eq_true rfl⟩ rfl hl.1 (Nat.le_of_ble_eq_true rfl) ⟨Nat.le_refl _, Nat.le_refl _⟩ dX8_bearing_103 ?_
                clear hB
                try clear locs
                try clear H
                intro u5 H locs hp hB
                replace hB : zB D A s ([(q, .inr (8, mX ad (bI o) z.1 z.2.1 z.2.2.1 z.2.2.2.1 (0 : Int32) z.2.2.2.2.2.1 z.2.2.2.2.2.2.1 z.2.2.2.2.2.2.2)), ((ad 10), .inl (ka 0, 4, .inl ga)), ((ad 11), .inl (ka 0, 4, .inl (upd lg ((2 * b) + p) vq)))]) H locs := hB
                refine lv_iload hx hb dX8_bearing_106 (lv_at hl 0 rfl) ?_
                exact zreti hF hB () (by rw [beA, if_pos hk9, rb, rp, rw9, if_neg hw0]) (by rw [hk9, rb, rp, rw9, if_neg (show ¬ (true = true ∧ w9 = 0) from fun e8 => hw0 e8.2), if_pos (show true = true ∧ w9 ≠ 0 from ⟨rfl, hw0⟩)] <;> rfl) (rfl) dX8_bearing_108 hQ
              · skip
                exact absurd h78 h26
            · skip
              exact absurd h55 h26
          · skip
            have hs9 : inR vq 0 (if aN (nI w9) = 0 then 9 else 11) = false := by rw [rw9, if_neg hw0]; exact (zin_R (a := 0) (b := 11) rfl rfl).symm.trans (bI_eq0 h41)
            refine lv_bipush (v := -2) hx hb dX8_bearing_44 (by decide) ?_
            have hk9 : beK (nI b) (nI p) (nI w9) vq = false := dB_f.mpr (fun e8 => by rw [hs9] at e8; exact absurd e8.2.2.2 (by decide))
            exact zreti hF hB () (by rw [beA, if_neg (by rw [hk9]; decide)]) (by rw [hk9] <;> rfl) (rfl) dX8_bearing_46 hQ
        · skip
          have hw0 : w9 = 0 := (nI_eq (b := 0) (by omega) (by decide)).mp h26
          refine zldc2 (v := (9 : Int64)) ww_20_9 hF dX8_bearing_29 ?_
          refine lv_goto (tgt := 38) hx hb dX8_bearing_32 (by decide) ?_
          refine zSi zm_X8_72 hF hB (c_X8_in l D ka kb vq.toInt64 (0 : Int64) (9 : Int64) ) [] rfl (by decide) [] (fun _ => rfl) rfl rfl ⟨Nat.le_of_ble_eq_true rfl, Nat.le_of_ble_eq_true rfl⟩ rfl hl.1 (Nat.le_of_ble_eq_true rfl) ⟨Nat.le_refl _, Nat.le_refl _⟩ dX8_bearing_38 ?_
          clear hB
          try clear locs
          try clear H
          intro r6 u6 H locs hp hB
          obtain rfl : r6 = bI (zin vq.toInt64 (0 : Int64) (9 : Int64)) := hp
          replace hB : zB D A s ([(q, .inr (8, mO ad o z)), ((ad 10), .inl (ka 0, 4, .inl ga)), ((ad 11), .inl (ka 0, 4, .inl lg))]) H locs := hB
          refine lv_if_ne (tgt := 47) hx hb dX8_bearing_41 (by decide) (fun h41 => ?_) (fun h41 => ?_)
          · skip
            have hs9 : inR vq 0 (if aN (nI w9) = 0 then 9 else 11) = true := by rw [rw9, if_pos hw0]; exact (zin_R (a := 0) (b := 9) rfl rfl).symm.trans (bI_ne0 h41)
            have hk9 : beK (nI b) (nI p) (nI w9) vq = true := dB_t.mpr ⟨hb1, hp1, hw91, hs9⟩
            refine lv_iconst (v := 2) hx hb dX8_bearing_47 (by decide) ?_
            refine lv_iload_n hx hb dX8_bearing_48 rfl (lv_at hl 1 rfl) ?_
            refine lv_imul hx hb dX8_bearing_49 ?_
            refine ztopi (y := nI (2 * b)) (pk_mul 2 b) ?_
            refine lv_iload_n hx hb dX8_bearing_50 rfl (lv_at hl 2 rfl) ?_
            refine lv_iadd hx hb dX8_bearing_51 ?_
            refine ztopi (y := nI ((2 * b) + p)) (nI_add (2 * b) p) ?_
            refine lv_istore (lv' := [(5, .int (nI ((2 * b) + p))), (0, .ref q), (1, .int (nI b)), (2, .int (nI p)), (3, .int (nI w9)), (4, .int vq)]) hx hb dX8_bearing_52 hl (by decide) rfl ?_
            clear hl
            clear ls
            intro ls hl
            refine lv_iload_n hx hb dX8_bearing_54 rfl (lv_at hl 4 rfl) ?_
            refine lv_if_ne (tgt := 68) hx hb dX8_bearing_55 (by decide) (fun h55 => ?_) (fun h55 => ?_)
            · skip
              exact absurd h55 (by rw [hw0]; exact not_not_intro rfl)
            · skip
              refine lv_aload_n hx hb dX8_bearing_58 rfl (lv_at hl 1 rfl) ?_
              refine zget zf_X8_41 hF hB 0 rfl rfl dX8_bearing_59 ?_
              refine lv_iload hx hb dX8_bearing_62 (lv_at hl 0 rfl) ?_
              refine ziald hF hB 1 rfl ((2 * b) + p) (rfl) (by omega) (by decide) (v := (ga ((2 * b) + p))) (rfl) dX8_bearing_64 ?_
              refine lv_goto (tgt := 75) hx hb dX8_bearing_65 (by decide) ?_
              refine lv_istore (lv' := [(6, .int (ga ((2 * b) + p))), (5, .int (nI ((2 * b) + p))), (0, .ref q), (1, .int (nI b)), (2, .int (nI p)), (3, .int (nI w9)), (4, .int vq)]) hx hb dX8_bearing_75 hl (by decide) rfl ?_
              clear hl
              clear ls
              intro ls hl
              refine lv_iload_n hx hb dX8_bearing_77 rfl (lv_at hl 5 rfl) ?_
              refine lv_if_ne (tgt := 93) hx hb dX8_bearing_78 (by decide) (fun h78 => ?_) (fun h78 => ?_)
              · skip
                exact absurd h78 (by rw [hw0]; exact not_not_intro rfl)
              · skip
                refine lv_aload_n hx hb dX8_bearing_81 rfl (lv_at hl 2 rfl) ?_
                refine zget zf_X8_41 hF hB 0 rfl rfl dX8_bearing_82 ?_
                refine lv_iload hx hb dX8_bearing_85 (lv_at hl 1 rfl) ?_
                refine lv_iload hx hb dX8_bearing_87 (lv_at hl 6 rfl) ?_
                refine ziast hF hB 1 rfl ((2 * b) + p) (rfl) (by omega) (by decide) dX8_bearing_89 ?_
                clear hB
                try clear locs
                try clear H
                intro H locs hB
                replace hB : zB D A s ([(q, .inr (8, mO ad o z)), ((ad 10), .inl (ka 0, 4, .inl (upd ga ((2 * b) + p) vq))), ((ad 11), .inl (ka 0, 4, .inl lg))]) H locs := hB
                refine lv_goto (tgt := 102) hx hb dX8_bearing_90 (by decide) ?_
                refine lv_aload_n hx hb dX8_bearing_102 rfl (lv_at hl 2 rfl) ?_
                refine zVv zm_X8_223 hF hB (c_X8_forgets l D ka kb q ad o z ) [0] rfl (by decide) [q] (fun _ => rfl) rfl 0 8 rfl rfl rfl ⟨Nat.le_of_ble_eq_true rfl, Nat.le_of_ble_eq_true rfl⟩ rfl hl.1 (Nat.le_of_ble_eq_true rfl) ⟨Nat.le_refl _, Nat.le_refl _⟩ dX8_bearing_103 ?_
                clear hB
                try clear locs
                try clear H
                intro u7 H locs hp hB
                replace hB : zB D A s ([(q, .inr (8, mX ad (bI o) z.1 z.2.1 z.2.2.1 z.2.2.2.1 (0 : Int32) z.2.2.2.2.2.1 z.2.2.2.2.2.2.1 z.2.2.2.2.2.2.2)), ((ad 10), .inl (ka 0, 4, .inl (upd ga ((2 * b) + p) vq))), ((ad 11), .inl (ka 0, 4, .inl lg))]) H locs := hB
                refine lv_iload hx hb dX8_bearing_106 (lv_at hl 0 rfl) ?_
                exact zreti hF hB () (by rw [beA, if_pos hk9, rb, rp, rw9, if_pos hw0]) (by rw [hk9, rb, rp, rw9, if_pos (show true = true ∧ w9 = 0 from ⟨rfl, hw0⟩), if_neg (show ¬ (true = true ∧ w9 ≠ 0) from fun e8 => e8.2 hw0)] <;> rfl) (rfl) dX8_bearing_108 hQ
          · skip
            have hs9 : inR vq 0 (if aN (nI w9) = 0 then 9 else 11) = false := by rw [rw9, if_pos hw0]; exact (zin_R (a := 0) (b := 9) rfl rfl).symm.trans (bI_eq0 h41)
            refine lv_bipush (v := -2) hx hb dX8_bearing_44 (by decide) ?_
            have hk9 : beK (nI b) (nI p) (nI w9) vq = false := dB_f.mpr (fun e8 => by rw [hs9] at e8; exact absurd e8.2.2.2 (by decide))
            exact zreti hF hB () (by rw [beA, if_neg (by rw [hk9]; decide)]) (by rw [hk9] <;> rfl) (rfl) dX8_bearing_46 hQ
