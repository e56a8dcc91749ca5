theorem b9_t {x : Bool} (h : ¬ bI (!x) = 0) : x = false := by
  have h2 := bI_ne0 h
  cases x
  · rfl
  · exact absurd h2 (by decide)
theorem b9_f {x : Bool} (h : bI (!x) = 0) : x = true := by
  have h2 := bI_eq0 h
  cases x
  · exact absurd h2 (by decide)
  · rfl
theorem io_t {x : Bool} (h : x = false) : (1 : Int32) = bI (!x) := by rw [h]; rfl
theorem io_f {x : Bool} (h : x = true) : (0 : Int32) = bI (!x) := by rw [h]; rfl
set_option maxHeartbeats 4000000 in
set_option maxRecDepth 100000 in
theorem c_X7_isOutside (l : Launch) (D : va_G) (ka : Nat → ClassId) (kb : Nat → Nat) (v : Int32) (n9 : Nat) (hn9 : n9 < 2 ^ 31) : zI l D ka kb yX7_isOutside cX7_isOutside 2 .boolean 0 0 [.int v, .int (nI n9)] ([]) (fun (r : Int32) (_ : Unit) => r = bI (!(inI v n9))) (fun (_ : Unit) => []) := by
  refine zI.mk RX7 (by decide +kernel) rfl (Nat.le_of_ble_eq_true rfl) ?_
  intro p e s m below meth c A ls args Q hQ hx hb hF hB hl
  replace hl : lv_has ls 2 [(0, .int v), (1, .int (nI n9))] := hl
  refine lv_iload_n hx hb dX7_isOutside_0 rfl (lv_at hl 0 rfl) ?_
  refine lv_if_lt (tgt := 9) hx hb dX7_isOutside_1 (by decide) (fun h1 => ?_) (fun h1 => ?_)
  · skip
    refine lv_iconst (v := 1) hx hb dX7_isOutside_9 (by decide) ?_
    refine ztopi (y := bI (!(inI v n9))) (io_t (dB_f.mpr (fun e8 => by have e7 := (i32_lt_i _ _).mp h1; rw [show (0 : Int32).toInt = 0 from rfl] at e7; omega))) ?_
    refine lv_goto (tgt := 14) hx hb dX7_isOutside_10 (by decide) ?_
    exact zreti hF hB () (rfl) (rfl) (zbI_n _) dX7_isOutside_14 hQ
  · skip
    refine lv_iload_n hx hb dX7_isOutside_4 rfl (lv_at hl 0 rfl) ?_
    refine lv_iload_n hx hb dX7_isOutside_5 rfl (lv_at hl 1 rfl) ?_
    refine lv_icmp_lt (tgt := 13) hx hb dX7_isOutside_6 (by decide) (fun h6 => ?_) (fun h6 => ?_)
    · skip
      refine lv_iconst (v := 0) hx hb dX7_isOutside_13 (by decide) ?_
      refine ztopi (y := bI (!(inI v n9))) (io_f (dB_t.mpr (by have e7 := mt (i32_lt_i _ _).mpr h1; have e6 := (i32_lt_i _ _).mp h6; rw [nI_toInt (by omega)] at e6; rw [show (0 : Int32).toInt = 0 from rfl] at e7; omega))) ?_
      exact zreti hF hB () (rfl) (rfl) (zbI_n _) dX7_isOutside_14 hQ
    · skip
      refine lv_iconst (v := 1) hx hb dX7_isOutside_9 (by decide) ?_
      refine ztopi (y := bI (!(inI v n9))) (io_t (dB_f.mpr (fun e8 => by have e7 := mt (i32_lt_i _ _).mpr h6; rw [nI_toInt (by omega)] at e7; omega))) ?_
      refine lv_goto (tgt := 14) hx hb dX7_isOutside_10 (by decide) ?_
      exact zreti hF hB () (rfl) (rfl) (zbI_n _) dX7_isOutside_14 hQ

set_option maxHeartbeats 4000000 in
set_option maxRecDepth 100000 in
theorem c_X7_isNoMoment (l : Launch) (D : va_G) (ka : Nat → ClassId) (kb : Nat → Nat) (v : Int32)  : zI l D ka kb yX7_isNoMoment cX7_isNoMoment 1 .boolean 0 0 [.int v] ([]) (fun (r : Int32) (_ : Unit) => r = bI (!(inM v))) (fun (_ : Unit) => []) := by
  refine zI.mk RX7 (by decide +kernel) rfl (Nat.le_of_ble_eq_true rfl) ?_
  intro p e s m below meth c A ls args Q hQ hx hb hF hB hl
  replace hl : lv_has ls 1 [(0, .int v)] := hl
  refine lv_iload_n hx hb dX7_isNoMoment_0 rfl (lv_at hl 0 rfl) ?_
  refine lv_iconst (v := 1) hx hb dX7_isNoMoment_1 (by decide) ?_
  refine lv_icmp_lt (tgt := 11) hx hb dX7_isNoMoment_2 (by decide) (fun h2 => ?_) (fun h2 => ?_)
  · skip
    refine lv_iconst (v := 1) hx hb dX7_isNoMoment_11 (by decide) ?_
    refine ztopi (y := bI (!(inM v))) (io_t (dB_f.mpr (fun e8 => by have e7 := (i32_lt_i _ _).mp h2; rw [show (1 : Int32).toInt = 1 from rfl] at e7; omega))) ?_
    refine lv_goto (tgt := 16) hx hb dX7_isNoMoment_12 (by decide) ?_
    exact zreti hF hB () (rfl) (rfl) (zbI_n _) dX7_isNoMoment_16 hQ
  · skip
    refine lv_iload_n hx hb dX7_isNoMoment_5 rfl (lv_at hl 0 rfl) ?_
    refine lv_bipush (v := 99) hx hb dX7_isNoMoment_6 (by decide) ?_
    refine lv_icmp_le (tgt := 15) hx hb dX7_isNoMoment_8 (by decide) (fun h8 => ?_) (fun h8 => ?_)
    · skip
      refine lv_iconst (v := 0) hx hb dX7_isNoMoment_15 (by decide) ?_
      refine ztopi (y := bI (!(inM v))) (io_f (dB_t.mpr (by have e7 := mt (i32_lt_i _ _).mpr h2; have e6 := (i32_le_i _ _).mp h8; rw [show (99 : Int32).toInt = 99 from rfl] at e6; rw [show (1 : Int32).toInt = 1 from rfl] at e7; omega))) ?_
      exact zreti hF hB () (rfl) (rfl) (zbI_n _) dX7_isNoMoment_16 hQ
    · skip
      refine lv_iconst (v := 1) hx hb dX7_isNoMoment_11 (by decide) ?_
      refine ztopi (y := bI (!(inM v))) (io_t (dB_f.mpr (fun e8 => by have e7 := mt (i32_le_i _ _).mpr h8; rw [show (99 : Int32).toInt = 99 from rfl] at e7; omega))) ?_
      refine lv_goto (tgt := 16) hx hb dX7_isNoMoment_12 (by decide) ?_
      exact zreti hF hB () (rfl) (rfl) (zbI_n _) dX7_isNoMoment_16 hQ

set_option maxHeartbeats 4000000 in
set_option maxRecDepth 100000 in
theorem c_X7_asLong (l : Launch) (D : va_G) (ka : Nat → ClassId) (kb : Nat → Nat) (v : Int32)  : zL l D ka kb yX7_asLong cX7_asLong 1 0 0 [.int v] ([]) (fun (r : Int64) (_ : Unit) => r = lMin - v.toInt64) (fun (_ : Unit) => []) := by
  refine zL.mk RX7 (by decide +kernel) rfl (Nat.le_of_ble_eq_true rfl) ?_
  intro p e s m below meth c A ls args Q hQ hx hb hF hB hl
  replace hl : lv_has ls 1 [(0, .int v)] := hl
  refine zldc2 (v := (-9223372036854775808 : Int64)) ww_7_10 hF dX7_asLong_0 ?_
  refine lv_iload_n hx hb dX7_asLong_3 rfl (lv_at hl 0 rfl) ?_
  refine lv_i2l (v := v.toInt64) hx hb dX7_asLong_4 rfl ?_
  refine lv_lsub hx hb dX7_asLong_5 ?_
  exact zretl hF hB () (rfl) (rfl) dX7_asLong_6 hQ

set_option maxHeartbeats 4000000 in
set_option maxRecDepth 100000 in
theorem c_X7_put (l : Launch) (D : va_G) (ka : Nat → ClassId) (kb : Nat → Nat) (bd : Nat → Nat) (na : Nat → Nat) (N : Nat → N5) (rr : Int32) (a : Int32) (b : Int32) (c9 : Int32) (e9 : Int32) (d : Int32)  : zI l D ka kb yX7_put cX7_put 7 .int 3 112 [.ref (bd 31), .int rr, .int a, .int b, .int c9, .int e9, .int d] ([((bd 31), .inr (7, [.ref (bd 0), .ref (bd 1), .ref (na 6), .ref (na 7), .ref (bd 2), .ref (bd 3), .ref (bd 4), .ref (bd 5), .ref (bd 6)])), ((bd 1), .inl (ka 3, 6, .inr (.inr (.inr (.inr (nR na 0))))))] ++ nP na N) (fun (r : Int32) (_ : Unit) => r = if inI rr 6 = true ∧ 1 ≤ d then 1 else (-2 : Int32)) (fun (_ : Unit) => [((bd 31), .inr (7, [.ref (bd 0), .ref (bd 1), .ref (na 6), .ref (na 7), .ref (bd 2), .ref (bd 3), .ref (bd 4), .ref (bd 5), .ref (bd 6)])), ((bd 1), .inl (ka 3, 6, .inr (.inr (.inr (.inr (nR na 0))))))] ++ nP na (if inI rr 6 = true ∧ 1 ≤ d then upN N (aN rr) (lowN a.toInt64 b.toInt64 c9.toInt64 e9.toInt64 d.toInt64) else N)) := by
  refine zI.mk RX7 (by decide +kernel) rfl (Nat.le_of_ble_eq_true rfl) ?_
  intro p e s m below meth c A ls args Q hQ hx hb hF hB hl
  replace hl : lv_has ls 7 [(0, .ref (bd 31)), (1, .int rr), (2, .int a), (3, .int b), (4, .int c9), (5, .int e9), (6, .int d)] := hl
  refine lv_iload_n hx hb dX7_put_0 rfl (lv_at hl 1 rfl) ?_
  refine lv_bipush (v := 6) hx hb dX7_put_1 (by decide) ?_
  refine zSi zm_X7_65 hF hB (c_X7_isOutside l D ka kb rr 6 (by decide)) [] rfl (by decide) [] (fun _ => rfl) rfl rfl ⟨Nat.le_of_ble_eq_true rfl, Nat.le_of_ble_eq_true rfl⟩ rfl hl.1 (Nat.le_of_ble_eq_true rfl) ⟨Nat.le_refl _, Nat.le_refl _⟩ dX7_put_3 ?_
  clear hB
  try clear locs
  try clear H
  intro r1 u1 H locs hp hB
  obtain rfl : r1 = bI (!(inI rr 6)) := hp
  replace hB : zB D A s ([((bd 31), .inr (7, [.ref (bd 0), .ref (bd 1), .ref (na 6), .ref (na 7), .ref (bd 2), .ref (bd 3), .ref (bd 4), .ref (bd 5), .ref (bd 6)])), ((bd 1), .inl (ka 3, 6, .inr (.inr (.inr (.inr (nR na 0))))))] ++ nP na N) H locs := hB
  refine lv_if_ne (tgt := 15) hx hb dX7_put_6 (by decide) (fun h6 => ?_) (fun h6 => ?_)
  · skip
    replace h6 := (b9_t h6)
    refine lv_bipush (v := -2) hx hb dX7_put_15 (by decide) ?_
    have hK : ¬ (inI rr 6 = true ∧ 1 ≤ d) := fun e8 => absurd (h6.symm.trans e8.1) (by decide)
    exact zreti hF hB () (by rw [if_neg hK]) (by rw [if_neg hK]) (rfl) dX7_put_17 hQ
  · skip
    replace h6 := (b9_f h6)
    obtain ⟨ii, hii2, hii3⟩ := inI_of h6 (by decide)
    subst hii3
    have rii : aN (nI ii) = ii := aNn hii2 (by decide)
    have hii1 : inI (nI ii) 6 = true := h6
    refine lv_iload hx hb dX7_put_9 (lv_at hl 6 rfl) ?_
    refine lv_iconst (v := 1) hx hb dX7_put_11 (by decide) ?_
    refine lv_icmp_ge (tgt := 18) hx hb dX7_put_12 (by decide) (fun h12 => ?_) (fun h12 => ?_)
    · skip
      refine lv_aload_n hx hb dX7_put_18 rfl (lv_at hl 0 rfl) ?_
      refine zget zf_X7_18 hF hB 0 rfl rfl dX7_put_19 ?_
      refine lv_iload_n hx hb dX7_put_22 rfl (lv_at hl 1 rfl) ?_
      refine zaald hF hB 1 rfl (t0 := 3) rfl ii (rfl) (by omega) (by decide) (r := na ii) (nR_0 _ _) dX7_put_23 ?_
      refine lv_iload_n hx hb dX7_put_24 rfl (lv_at hl 2 rfl) ?_
      refine lv_i2l (v := a.toInt64) hx hb dX7_put_25 rfl ?_
      refine lv_iload_n hx hb dX7_put_26 rfl (lv_at hl 3 rfl) ?_
      refine lv_i2l (v := b.toInt64) hx hb dX7_put_27 rfl ?_
      refine lv_iload hx hb dX7_put_28 (lv_at hl 4 rfl) ?_
      refine lv_i2l (v := c9.toInt64) hx hb dX7_put_30 rfl ?_
      refine lv_iload hx hb dX7_put_31 (lv_at hl 5 rfl) ?_
      refine lv_i2l (v := e9.toInt64) hx hb dX7_put_33 rfl ?_
      refine lv_iload hx hb dX7_put_34 (lv_at hl 6 rfl) ?_
      refine lv_i2l (v := d.toInt64) hx hb dX7_put_36 rfl ?_
      refine zVv zm_X7_69 hF hB (c_X1_become l D ka kb (na ii) (N ii) a.toInt64 b.toInt64 c9.toInt64 e9.toInt64 d.toInt64 ) [2 + ii] (zsel_num rfl (by omega)) (va_nd_1 _) [na ii] (fun _ => rfl) rfl (2 + ii) 1 rfl (nP_atn rfl (by omega)) rfl ⟨Nat.le_of_ble_eq_true rfl, Nat.le_of_ble_eq_true rfl⟩ rfl hl.1 (Nat.le_of_ble_eq_true rfl) ⟨Nat.le_refl _, Nat.le_refl _⟩ dX7_put_37 ?_
      clear hB
      try clear locs
      try clear H
      intro u2 H locs hp hB
      replace hB : zB D A s ([((bd 31), .inr (7, [.ref (bd 0), .ref (bd 1), .ref (na 6), .ref (na 7), .ref (bd 2), .ref (bd 3), .ref (bd 4), .ref (bd 5), .ref (bd 6)])), ((bd 1), .inl (ka 3, 6, .inr (.inr (.inr (.inr (nR na 0))))))] ++ nP na (upN N ii (a.toInt64, b.toInt64, c9.toInt64, e9.toInt64, d.toInt64))) H locs := zB_num (X := (a.toInt64, b.toInt64, c9.toInt64, e9.toInt64, d.toInt64)) hB rfl (by omega)
      refine lv_aload_n hx hb dX7_put_40 rfl (lv_at hl 0 rfl) ?_
      refine zget zf_X7_18 hF hB 0 rfl rfl dX7_put_41 ?_
      refine lv_iload_n hx hb dX7_put_44 rfl (lv_at hl 1 rfl) ?_
      refine zaald hF hB 1 rfl (t0 := 3) rfl ii (rfl) (by omega) (by decide) (r := na ii) (nR_0 _ _) dX7_put_45 ?_
      refine zVv zm_X7_73 hF hB (c_X1_shorten l D ka kb (na ii) ((upN N ii (a.toInt64, b.toInt64, c9.toInt64, e9.toInt64, d.toInt64)) ii) (by rw [upN_eq]; show 0 < d.toInt64.toInt; rw [i32_w]; have e7 := (i32_le_i _ _).mp h12; rw [show (1 : Int32).toInt = 1 from rfl] at e7; omega)) [2 + ii] (zsel_num rfl (by omega)) (va_nd_1 _) [na ii] (fun _ => rfl) rfl (2 + ii) 1 rfl (nP_atn rfl (by omega)) rfl ⟨Nat.le_of_ble_eq_true rfl, Nat.le_of_ble_eq_true rfl⟩ rfl hl.1 (Nat.le_of_ble_eq_true rfl) ⟨Nat.le_refl _, Nat.le_refl _⟩ dX7_put_46 ?_
      clear hB
      try clear locs
      try clear H
      intro u3 H locs hp hB
      replace hB : zB D A s ([((bd 31), .inr (7, [.ref (bd 0), .ref (bd 1), .ref (na 6), .ref (na 7), .ref (bd 2), .ref (bd 3), .ref (bd 4), .ref (bd 5), .ref (bd 6)])), ((bd 1), .inl (ka 3, 6, .inr (.inr (.inr (.inr (nR na 0))))))] ++ nP na (upN (upN N ii (a.toInt64, b.toInt64, c9.toInt64, e9.toInt64, d.toInt64)) ii (lowN ((upN N ii (a.toInt64, b.toInt64, c9.toInt64, e9.toInt64, d.toInt64)) ii).1 ((upN N ii (a.toInt64, b.toInt64, c9.toInt64, e9.toInt64, d.toInt64)) ii).2.1 ((upN N ii (a.toInt64, b.toInt64, c9.toInt64, e9.toInt64, d.toInt64)) ii).2.2.1 ((upN N ii (a.toInt64, b.toInt64, c9.toInt64, e9.toInt64, d.toInt64)) ii).2.2.2.1 ((upN N ii (a.toInt64, b.toInt64, c9.toInt64, e9.toInt64, d.toInt64)) ii).2.2.2.2))) H locs := zB_num (X := (lowN ((upN N ii (a.toInt64, b.toInt64, c9.toInt64, e9.toInt64, d.toInt64)) ii).1 ((upN N ii (a.toInt64, b.toInt64, c9.toInt64, e9.toInt64, d.toInt64)) ii).2.1 ((upN N ii (a.toInt64, b.toInt64, c9.toInt64, e9.toInt64, d.toInt64)) ii).2.2.1 ((upN N ii (a.toInt64, b.toInt64, c9.toInt64, e9.toInt64, d.toInt64)) ii).2.2.2.1 ((upN N ii (a.toInt64, b.toInt64, c9.toInt64, e9.toInt64, d.toInt64)) ii).2.2.2.2)) hB rfl (by omega)
      refine lv_iconst (v := 1) hx hb dX7_put_49 (by decide) ?_
      have hK : inI (nI ii) 6 = true ∧ 1 ≤ d := ⟨hii1, h12⟩
      exact zreti hF hB () (by rw [if_pos hK]) (by rw [if_pos hK, rii, upN_up, upN_eq] <;> rfl) (rfl) dX7_put_50 hQ
    · skip
      refine lv_bipush (v := -2) hx hb dX7_put_15 (by decide) ?_
      have hK : ¬ (inI (nI ii) 6 = true ∧ 1 ≤ d) := fun e8 => h12 e8.2
      exact zreti hF hB () (by rw [if_neg hK]) (by rw [if_neg hK]) (rfl) dX7_put_17 hQ

set_option maxHeartbeats 4000000 in
set_option maxRecDepth 100000 in
theorem c_X7_part (l : Launch) (D : va_G) (ka : Nat → ClassId) (kb : Nat → Nat) (bd : Nat → Nat) (na : Nat → Nat) (N : Nat → N5) (rr : Int32) (pp : Int32)  : zL l D ka kb yX7_part cX7_part 3 1 21 [.ref (bd 31), .int rr, .int pp] ([((bd 31), .inr (7, [.ref (bd 0), .ref (bd 1), .ref (na 6), .ref (na 7), .ref (bd 2), .ref (bd 3), .ref (bd 4), .ref (bd 5), .ref (bd 6)])), ((bd 1), .inl (ka 3, 6, .inr (.inr (.inr (.inr (nR na 0))))))] ++ nP na N) (fun (r : Int64) (_ : Unit) => r = if inI rr 6 = true ∧ inI pp 5 = true then cmp5 (N (aN rr)) (aN pp) else lMin - (-2 : Int32).toInt64) (fun (_ : Unit) => [((bd 31), .inr (7, [.ref (bd 0), .ref (bd 1), .ref (na 6), .ref (na 7), .ref (bd 2), .ref (bd 3), .ref (bd 4), .ref (bd 5), .ref (bd 6)])), ((bd 1), .inl (ka 3, 6, .inr (.inr (.inr (.inr (nR na 0))))))] ++ nP na N) := by
  refine zL.mk RX7 (by decide +kernel) rfl (Nat.le_of_ble_eq_true rfl) ?_
  intro p e s m below meth c A ls args Q hQ hx hb hF hB hl
  replace hl : lv_has ls 3 [(0, .ref (bd 31)), (1, .int rr), (2, .int pp)] := hl
  refine lv_iload_n hx hb dX7_part_0 rfl (lv_at hl 1 rfl) ?_
  refine lv_bipush (v := 6) hx hb dX7_part_1 (by decide) ?_
  refine zSi zm_X7_65 hF hB (c_X7_isOutside l D ka kb rr 6 (by decide)) [] rfl (by decide) [] (fun _ => rfl) rfl rfl ⟨Nat.le_of_ble_eq_true rfl, Nat.le_of_ble_eq_true rfl⟩ rfl hl.1 (Nat.le_of_ble_eq_true rfl) ⟨Nat.le_refl _, Nat.le_refl _⟩ dX7_part_3 ?_
  clear hB
  try clear locs
  try clear H
  intro r1 u1 H locs hp hB
  obtain rfl : r1 = bI (!(inI rr 6)) := hp
  replace hB : zB D A s ([((bd 31), .inr (7, [.ref (bd 0), .ref (bd 1), .ref (na 6), .ref (na 7), .ref (bd 2), .ref (bd 3), .ref (bd 4), .ref (bd 5), .ref (bd 6)])), ((bd 1), .inl (ka 3, 6, .inr (.inr (.inr (.inr (nR na 0))))))] ++ nP na N) H locs := hB
  refine lv_if_ne (tgt := 17) hx hb dX7_part_6 (by decide) (fun h6 => ?_) (fun h6 => ?_)
  · skip
    replace h6 := (b9_t h6)
    refine lv_bipush (v := -2) hx hb dX7_part_17 (by decide) ?_
    refine zSl zm_X7_109 hF hB (c_X7_asLong l D ka kb (-2 : Int32) ) [] rfl (by decide) [] (fun _ => rfl) rfl rfl ⟨Nat.le_of_ble_eq_true rfl, Nat.le_of_ble_eq_true rfl⟩ rfl hl.1 (Nat.le_of_ble_eq_true rfl) ⟨Nat.le_refl _, Nat.le_refl _⟩ dX7_part_19 ?_
    clear hB
    try clear locs
    try clear H
    intro r2 u2 H locs hp hB
    obtain rfl : r2 = lMin - (-2 : Int32).toInt64 := hp
    replace hB : zB D A s ([((bd 31), .inr (7, [.ref (bd 0), .ref (bd 1), .ref (na 6), .ref (na 7), .ref (bd 2), .ref (bd 3), .ref (bd 4), .ref (bd 5), .ref (bd 6)])), ((bd 1), .inl (ka 3, 6, .inr (.inr (.inr (.inr (nR na 0))))))] ++ nP na N) H locs := hB
    exact zretl hF hB () (by rw [if_neg (fun e8 => absurd (h6.symm.trans e8.1) (by decide))]) (rfl) dX7_part_22 hQ
  · skip
    replace h6 := (b9_f h6)
    obtain ⟨rg, hrg2, hrg3⟩ := inI_of h6 (by decide)
    subst hrg3
    have rrg : aN (nI rg) = rg := aNn hrg2 (by decide)
    have hrg1 : inI (nI rg) 6 = true := h6
    refine lv_iload_n hx hb dX7_part_9 rfl (lv_at hl 2 rfl) ?_
    refine lv_iconst (v := 5) hx hb dX7_part_10 (by decide) ?_
    refine zSi zm_X7_65 hF hB (c_X7_isOutside l D ka kb pp 5 (by decide)) [] rfl (by decide) [] (fun _ => rfl) rfl rfl ⟨Nat.le_of_ble_eq_true rfl, Nat.le_of_ble_eq_true rfl⟩ rfl hl.1 (Nat.le_of_ble_eq_true rfl) ⟨Nat.le_refl _, Nat.le_refl _⟩ dX7_part_11 ?_
    clear hB
    try clear locs
    try clear H
    intro r3 u3 H locs hp hB
    obtain rfl : r3 = bI (!(inI pp 5)) := hp
    replace hB : zB D A s ([((bd 31), .inr (7, [.ref (bd 0), .ref (bd 1), .ref (na 6), .ref (na 7), .ref (bd 2), .ref (bd 3), .ref (bd 4), .ref (bd 5), .ref (bd 6)])), ((bd 1), .inl (ka 3, 6, .inr (.inr (.inr (.inr (nR na 0))))))] ++ nP na N) H locs := hB
    refine lv_if_eq (tgt := 23) hx hb dX7_part_14 (by decide) (fun h14 => ?_) (fun h14 => ?_)
    · skip
      replace h14 := (b9_f h14)
      obtain ⟨pg, hpg2, hpg3⟩ := inI_of h14 (by decide)
      subst hpg3
      have rpg : aN (nI pg) = pg := aNn hpg2 (by decide)
      have hpg1 : inI (nI pg) 5 = true := h14
      refine lv_aload_n hx hb dX7_part_23 rfl (lv_at hl 0 rfl) ?_
      refine zget zf_X7_18 hF hB 0 rfl rfl dX7_part_24 ?_
      refine lv_iload_n hx hb dX7_part_27 rfl (lv_at hl 1 rfl) ?_
      refine zaald hF hB 1 rfl (t0 := 3) rfl rg (rfl) (by omega) (by decide) (r := na rg) (nR_0 _ _) dX7_part_28 ?_
      refine lv_iload_n hx hb dX7_part_29 rfl (lv_at hl 2 rfl) ?_
      refine zVl zm_X7_113 hF hB (c_X1_item l D ka kb (na rg) (N rg) pg (hpg2)) [2 + rg] (zsel_num rfl (by omega)) (va_nd_1 _) [na rg] (fun _ => rfl) rfl (2 + rg) 1 rfl (nP_atn rfl (by omega)) rfl ⟨Nat.le_of_ble_eq_true rfl, Nat.le_of_ble_eq_true rfl⟩ rfl hl.1 (Nat.le_of_ble_eq_true rfl) ⟨Nat.le_refl _, Nat.le_refl _⟩ dX7_part_30 ?_
      clear hB
      try clear locs
      try clear H
      intro r4 u4 H locs hp hB
      obtain rfl : r4 = cmp5 (N rg) pg := hp
      replace hB : zB D A s ([((bd 31), .inr (7, [.ref (bd 0), .ref (bd 1), .ref (na 6), .ref (na 7), .ref (bd 2), .ref (bd 3), .ref (bd 4), .ref (bd 5), .ref (bd 6)])), ((bd 1), .inl (ka 3, 6, .inr (.inr (.inr (.inr (nR na 0))))))] ++ nP na N) H locs := (by have e9 := zB_num (X := (N rg)) hB rfl (by omega); rw [upN_id] at e9; exact e9)
      exact zretl hF hB () (by rw [if_pos ⟨hrg1, hpg1⟩, rrg, rpg]) (rfl) dX7_part_33 hQ
    · skip
      replace h14 := (b9_t h14)
      refine lv_bipush (v := -2) hx hb dX7_part_17 (by decide) ?_
      refine zSl zm_X7_109 hF hB (c_X7_asLong l D ka kb (-2 : Int32) ) [] rfl (by decide) [] (fun _ => rfl) rfl rfl ⟨Nat.le_of_ble_eq_true rfl, Nat.le_of_ble_eq_true rfl⟩ rfl hl.1 (Nat.le_of_ble_eq_true rfl) ⟨Nat.le_refl _, Nat.le_refl _⟩ dX7_part_19 ?_
      clear hB
      try clear locs
      try clear H
      intro r5 u5 H locs hp hB
      obtain rfl : r5 = lMin - (-2 : Int32).toInt64 := hp
      replace hB : zB D A s ([((bd 31), .inr (7, [.ref (bd 0), .ref (bd 1), .ref (na 6), .ref (na 7), .ref (bd 2), .ref (bd 3), .ref (bd 4), .ref (bd 5), .ref (bd 6)])), ((bd 1), .inl (ka 3, 6, .inr (.inr (.inr (.inr (nR na 0))))))] ++ nP na N) H locs := hB
      exact zretl hF hB () (by rw [if_neg (fun e8 => absurd (h14.symm.trans e8.2) (by decide))]) (rfl) dX7_part_22 hQ

set_option maxHeartbeats 4000000 in
set_option maxRecDepth 100000 in
theorem c_X7_compare (l : Launch) (D : va_G) (ka : Nat → ClassId) (kb : Nat → Nat) (bd : Nat → Nat) (na : Nat → Nat) (o : Bool) (N : Nat → N5) (rr : Int32) (ss : Int32) (hd6 : ∀ k, k < 6 → 0 < (N k).2.2.2.2.toInt) : zI l D ka kb yX7_compare cX7_compare 3 .int 5 174 [.ref (bd 31), .int rr, .int ss] ([((bd 31), .inr (7, [.ref (bd 0), .ref (bd 1), .ref (na 6), .ref (na 7), .ref (bd 2), .ref (bd 3), .ref (bd 4), .ref (bd 5), .ref (bd 6)])), ((bd 1), .inl (ka 3, 6, .inr (.inr (.inr (.inr (nR na 0)))))), ((bd 0), .inr (2, [.int (bI o), .ref (na 25), .ref (na 26), .ref (na 27)]))] ++ nP na N) (fun (r : Int32) (u : (Nat → N5) × Bool) => r = cmpV rr ss N ∧ (∀ k9, k9 ≠ 6 → u.1 k9 = N k9)) (fun (u : (Nat → N5) × Bool) => [((bd 31), .inr (7, [.ref (bd 0), .ref (bd 1), .ref (na 6), .ref (na 7), .ref (bd 2), .ref (bd 3), .ref (bd 4), .ref (bd 5), .ref (bd 6)])), ((bd 1), .inl (ka 3, 6, .inr (.inr (.inr (.inr (nR na 0)))))), ((bd 0), .inr (2, [.int (bI u.2), .ref (na 25), .ref (na 26), .ref (na 27)]))] ++ nP na u.1) := by
  refine zI.mk RX7 (by decide +kernel) rfl (Nat.le_of_ble_eq_true rfl) ?_
  intro p e s m below meth c A ls args Q hQ hx hb hF hB hl
  replace hl : lv_has ls 3 [(0, .ref (bd 31)), (1, .int rr), (2, .int ss)] := hl
  refine lv_iload_n hx hb dX7_compare_0 rfl (lv_at hl 1 rfl) ?_
  refine lv_bipush (v := 6) hx hb dX7_compare_1 (by decide) ?_
  refine zSi zm_X7_65 hF hB (c_X7_isOutside l D ka kb rr 6 (by decide)) [] rfl (by decide) [] (fun _ => rfl) rfl rfl ⟨Nat.le_of_ble_eq_true rfl, Nat.le_of_ble_eq_true rfl⟩ rfl hl.1 (Nat.le_of_ble_eq_true rfl) ⟨Nat.le_refl _, Nat.le_refl _⟩ dX7_compare_3 ?_
  clear hB
  try clear locs
  try clear H
  intro r1 u1 H locs hp hB
  obtain rfl : r1 = bI (!(inI rr 6)) := hp
  replace hB : zB D A s ([((bd 31), .inr (7, [.ref (bd 0), .ref (bd 1), .ref (na 6), .ref (na 7), .ref (bd 2), .ref (bd 3), .ref (bd 4), .ref (bd 5), .ref (bd 6)])), ((bd 1), .inl (ka 3, 6, .inr (.inr (.inr (.inr (nR na 0)))))), ((bd 0), .inr (2, [.int (bI o), .ref (na 25), .ref (na 26), .ref (na 27)]))] ++ nP na N) H locs := hB
  refine lv_if_ne (tgt := 18) hx hb dX7_compare_6 (by decide) (fun h6 => ?_) (fun h6 => ?_)
  · skip
    replace h6 := (b9_t h6)
    refine zldc (v := (-2147483648 : Int32)) ww_10_11 hF dX7_compare_18 ?_
    exact zreti hF hB (N, o) (⟨by rw [cmpV, if_pos (fun e8 => absurd (h6.symm.trans e8.1) (by decide))], fun _ _ => rfl⟩) (rfl) (rfl) dX7_compare_20 hQ
  · skip
    replace h6 := (b9_f h6)
    obtain ⟨rg, hrg2, hrg3⟩ := inI_of h6 (by decide)
    subst hrg3
    have rrg : aN (nI rg) = rg := aNn hrg2 (by decide)
    have hrg1 : inI (nI rg) 6 = true := h6
    refine lv_iload_n hx hb dX7_compare_9 rfl (lv_at hl 2 rfl) ?_
    refine lv_bipush (v := 6) hx hb dX7_compare_10 (by decide) ?_
    refine zSi zm_X7_65 hF hB (c_X7_isOutside l D ka kb ss 6 (by decide)) [] rfl (by decide) [] (fun _ => rfl) rfl rfl ⟨Nat.le_of_ble_eq_true rfl, Nat.le_of_ble_eq_true rfl⟩ rfl hl.1 (Nat.le_of_ble_eq_true rfl) ⟨Nat.le_refl _, Nat.le_refl _⟩ dX7_compare_12 ?_
    clear hB
    try clear locs
    try clear H
    intro r2 u2 H locs hp hB
    obtain rfl : r2 = bI (!(inI ss 6)) := hp
    replace hB : zB D A s ([((bd 31), .inr (7, [.ref (bd 0), .ref (bd 1), .ref (na 6), .ref (na 7), .ref (bd 2), .ref (bd 3), .ref (bd 4), .ref (bd 5), .ref (bd 6)])), ((bd 1), .inl (ka 3, 6, .inr (.inr (.inr (.inr (nR na 0)))))), ((bd 0), .inr (2, [.int (bI o), .ref (na 25), .ref (na 26), .ref (na 27)]))] ++ nP na N) H locs := hB
    refine lv_if_eq (tgt := 21) hx hb dX7_compare_15 (by decide) (fun h15 => ?_) (fun h15 => ?_)
    · skip
      replace h15 := (b9_f h15)
      obtain ⟨sg, hsg2, hsg3⟩ := inI_of h15 (by decide)
      subst hsg3
      have rsg : aN (nI sg) = sg := aNn hsg2 (by decide)
      have hsg1 : inI (nI sg) 6 = true := h15
      refine lv_aload_n hx hb dX7_compare_21 rfl (lv_at hl 0 rfl) ?_
      refine zget zf_X7_10 hF hB 0 rfl rfl dX7_compare_22 ?_
      refine lv_aload_n hx hb dX7_compare_25 rfl (lv_at hl 0 rfl) ?_
      refine zget zf_X7_18 hF hB 0 rfl rfl dX7_compare_26 ?_
      refine lv_iload_n hx hb dX7_compare_29 rfl (lv_at hl 1 rfl) ?_
      refine zaald hF hB 1 rfl (t0 := 3) rfl rg (rfl) (by omega) (by decide) (r := na rg) (nR_0 _ _) dX7_compare_30 ?_
      refine lv_aload_n hx hb dX7_compare_31 rfl (lv_at hl 0 rfl) ?_
      refine zget zf_X7_18 hF hB 0 rfl rfl dX7_compare_32 ?_
      refine lv_iload_n hx hb dX7_compare_35 rfl (lv_at hl 2 rfl) ?_
      refine zaald hF hB 1 rfl (t0 := 3) rfl sg (rfl) (by omega) (by decide) (r := na sg) (nR_0 _ _) dX7_compare_36 ?_
      refine lv_aload_n hx hb dX7_compare_37 rfl (lv_at hl 0 rfl) ?_
      refine zget zf_X7_23 hF hB 0 rfl rfl dX7_compare_38 ?_
      refine zVi zm_X7_100 hF hB (c_X2_difference l D ka kb (bd 0) na o 25 26 27 N 6 rg sg (by decide) (by omega) (by omega) (hd6 rg hrg2) (hd6 sg hsg2)) ([2] ++ npr 3) (zsel_pool rfl rfl) (va_nd_pool rfl rfl) ([(bd 0)] ++ nA na) (fun _ => zad_pool rfl) (zad_pool rfl) 2 2 rfl rfl rfl ⟨Nat.le_of_ble_eq_true rfl, Nat.le_of_ble_eq_true rfl⟩ rfl hl.1 (Nat.le_of_ble_eq_true rfl) ⟨Nat.le_refl _, Nat.le_refl _⟩ dX7_compare_41 ?_
      clear hB
      try clear locs
      try clear H
      intro r3 u3 H locs hp hB
      obtain rfl : r3 = bI (!(sumO true (N rg) (N sg))) := hp
      replace hB : zB D A s ([((bd 31), .inr (7, [.ref (bd 0), .ref (bd 1), .ref (na 6), .ref (na 7), .ref (bd 2), .ref (bd 3), .ref (bd 4), .ref (bd 5), .ref (bd 6)])), ((bd 1), .inl (ka 3, 6, .inr (.inr (.inr (.inr (nR na 0)))))), ((bd 0), .inr (2, [.int (bI (sumO true (N rg) (N sg))), .ref (na 25), .ref (na 26), .ref (na 27)]))] ++ nP na (if sumO true (N rg) (N sg) = true then N else upN N 6 (sumV true (N rg) (N sg)))) H locs := zB_pool hB rfl rfl rfl rfl
      obtain ⟨M1, hM1⟩ : ∃ M, M = (if sumO true (N rg) (N sg) = true then N else upN N 6 (sumV true (N rg) (N sg))) := ⟨_, rfl⟩
      rw [← hM1] at hB
      refine lv_if_ne (tgt := 50) hx hb dX7_compare_44 (by decide) (fun h44 => ?_) (fun h44 => ?_)
      · skip
        replace h44 := (b9_t h44)
        rw [if_neg (by rw [h44]; decide)] at hM1
        have vM1 : M1 6 = (sumV true (N rg) (N sg)) := by rw [hM1, upN_eq]
        have kM1 : ∀ k9, k9 ≠ 6 → M1 k9 = N k9 := fun k9 h9 => by rw [hM1, upN_ne h9]
        refine lv_aload_n hx hb dX7_compare_50 rfl (lv_at hl 0 rfl) ?_
        refine zget zf_X7_23 hF hB 0 rfl rfl dX7_compare_51 ?_
        refine zVi zm_X7_116 hF hB (c_X1_isTurned l D ka kb (na 6) (M1 6) ) [3 + 6] (zsel_num rfl (by decide)) (va_nd_1 _) [na 6] (fun _ => rfl) rfl (3 + 6) 1 rfl (nP_atn rfl (by decide)) rfl ⟨Nat.le_of_ble_eq_true rfl, Nat.le_of_ble_eq_true rfl⟩ rfl hl.1 (Nat.le_of_ble_eq_true rfl) ⟨Nat.le_refl _, Nat.le_refl _⟩ dX7_compare_54 ?_
        clear hB
        try clear locs
        try clear H
        intro r4 u4 H locs hp hB
        obtain rfl : r4 = bI (tnN (M1 6)) := hp
        replace hB : zB D A s ([((bd 31), .inr (7, [.ref (bd 0), .ref (bd 1), .ref (na 6), .ref (na 7), .ref (bd 2), .ref (bd 3), .ref (bd 4), .ref (bd 5), .ref (bd 6)])), ((bd 1), .inl (ka 3, 6, .inr (.inr (.inr (.inr (nR na 0)))))), ((bd 0), .inr (2, [.int (bI (sumO true (N rg) (N sg))), .ref (na 25), .ref (na 26), .ref (na 27)]))] ++ nP na M1) H locs := (by have e9 := zB_num (X := (M1 6)) hB rfl (by decide); rw [upN_id] at e9; exact e9)
        refine ztopi (y := bI (tnN (sumV true (N rg) (N sg)))) (by rw [vM1]) ?_
        refine lv_if_eq (tgt := 63) hx hb dX7_compare_57 (by decide) (fun h57 => ?_) (fun h57 => ?_)
        · skip
          have htn : (sumV true (N rg) (N sg)).2.2.1 = 0 ∧ (sumV true (N rg) (N sg)).2.2.2.1 = 0 := ⟨Decidable.of_not_not (fun e8 => dB_f.mp (bI_eq0 h57) (Or.inl e8)), Decidable.of_not_not (fun e8 => dB_f.mp (bI_eq0 h57) (Or.inr e8))⟩
          refine lv_aload_n hx hb dX7_compare_63 rfl (lv_at hl 0 rfl) ?_
          refine zget zf_X7_10 hF hB 0 rfl rfl dX7_compare_64 ?_
          refine lv_aload_n hx hb dX7_compare_67 rfl (lv_at hl 0 rfl) ?_
          refine zget zf_X7_23 hF hB 0 rfl rfl dX7_compare_68 ?_
          refine lv_iconst (v := 0) hx hb dX7_compare_71 (by decide) ?_
          refine zVl zm_X7_113 hF hB (c_X1_item l D ka kb (na 6) (M1 6) 0 (by decide)) [3 + 6] (zsel_num rfl (by decide)) (va_nd_1 _) [na 6] (fun _ => rfl) rfl (3 + 6) 1 rfl (nP_atn rfl (by decide)) rfl ⟨Nat.le_of_ble_eq_true rfl, Nat.le_of_ble_eq_true rfl⟩ rfl hl.1 (Nat.le_of_ble_eq_true rfl) ⟨Nat.le_refl _, Nat.le_refl _⟩ dX7_compare_72 ?_
          clear hB
          try clear locs
          try clear H
          intro r5 u5 H locs hp hB
          obtain rfl : r5 = cmp5 (M1 6) 0 := hp
          replace hB : zB D A s ([((bd 31), .inr (7, [.ref (bd 0), .ref (bd 1), .ref (na 6), .ref (na 7), .ref (bd 2), .ref (bd 3), .ref (bd 4), .ref (bd 5), .ref (bd 6)])), ((bd 1), .inl (ka 3, 6, .inr (.inr (.inr (.inr (nR na 0)))))), ((bd 0), .inr (2, [.int (bI (sumO true (N rg) (N sg))), .ref (na 25), .ref (na 26), .ref (na 27)]))] ++ nP na M1) H locs := (by have e9 := zB_num (X := (M1 6)) hB rfl (by decide); rw [upN_id] at e9; exact e9)
          refine lv_aload_n hx hb dX7_compare_75 rfl (lv_at hl 0 rfl) ?_
          refine zget zf_X7_23 hF hB 0 rfl rfl dX7_compare_76 ?_
          refine lv_iconst (v := 1) hx hb dX7_compare_79 (by decide) ?_
          refine zVl zm_X7_113 hF hB (c_X1_item l D ka kb (na 6) (M1 6) 1 (by decide)) [3 + 6] (zsel_num rfl (by decide)) (va_nd_1 _) [na 6] (fun _ => rfl) rfl (3 + 6) 1 rfl (nP_atn rfl (by decide)) rfl ⟨Nat.le_of_ble_eq_true rfl, Nat.le_of_ble_eq_true rfl⟩ rfl hl.1 (Nat.le_of_ble_eq_true rfl) ⟨Nat.le_refl _, Nat.le_refl _⟩ dX7_compare_80 ?_
          clear hB
          try clear locs
          try clear H
          intro r6 u6 H locs hp hB
          obtain rfl : r6 = cmp5 (M1 6) 1 := hp
          replace hB : zB D A s ([((bd 31), .inr (7, [.ref (bd 0), .ref (bd 1), .ref (na 6), .ref (na 7), .ref (bd 2), .ref (bd 3), .ref (bd 4), .ref (bd 5), .ref (bd 6)])), ((bd 1), .inl (ka 3, 6, .inr (.inr (.inr (.inr (nR na 0)))))), ((bd 0), .inr (2, [.int (bI (sumO true (N rg) (N sg))), .ref (na 25), .ref (na 26), .ref (na 27)]))] ++ nP na M1) H locs := (by have e9 := zB_num (X := (M1 6)) hB rfl (by decide); rw [upN_id] at e9; exact e9)
          refine zVi zm_X7_119 hF hB (c_X2_sign l D ka kb (bd 0) na (sumO true (N rg) (N sg)) 25 26 27 (cmp5 (M1 6) 0) (cmp5 (M1 6) 1) ) [2] rfl (by decide) [(bd 0)] (fun _ => rfl) rfl 2 2 rfl rfl rfl ⟨Nat.le_of_ble_eq_true rfl, Nat.le_of_ble_eq_true rfl⟩ rfl hl.1 (Nat.le_of_ble_eq_true rfl) ⟨Nat.le_refl _, Nat.le_refl _⟩ dX7_compare_83 ?_
          clear hB
          try clear locs
          try clear H
          intro r7 u7 H locs hp hB
          obtain rfl : r7 = if (sgN (cmp5 (M1 6) 0) (cmp5 (M1 6) 1) && sgSq (cmp5 (M1 6) 0) (cmp5 (M1 6) 1)) = true then (-5 : Int32) else signV (cmp5 (M1 6) 0) (cmp5 (M1 6) 1) := hp
          replace hB : zB D A s ([((bd 31), .inr (7, [.ref (bd 0), .ref (bd 1), .ref (na 6), .ref (na 7), .ref (bd 2), .ref (bd 3), .ref (bd 4), .ref (bd 5), .ref (bd 6)])), ((bd 1), .inl (ka 3, 6, .inr (.inr (.inr (.inr (nR na 0)))))), ((bd 0), .inr (2, [.int (bI (if sgN (cmp5 (M1 6) 0) (cmp5 (M1 6) 1) = true then sgSq (cmp5 (M1 6) 0) (cmp5 (M1 6) 1) else (sumO true (N rg) (N sg)))), .ref (na 25), .ref (na 26), .ref (na 27)]))] ++ nP na M1) H locs := hB
          have hcv : cmpV (nI rg) (nI sg) N = (if (sgN (sumV true (N rg) (N sg)).1 (sumV true (N rg) (N sg)).2.1 && sgSq (sumV true (N rg) (N sg)).1 (sumV true (N rg) (N sg)).2.1) = true then (-5 : Int32) else signV (sumV true (N rg) (N sg)).1 (sumV true (N rg) (N sg)).2.1) := by rw [cmpV, if_neg (fun e8 => e8 ⟨hrg1, hsg1⟩), show (nI rg).toInt.toNat = rg from rrg, show (nI sg).toInt.toNat = sg from rsg, if_neg (by rw [h44]; decide), if_neg (fun e8 => e8 htn)]
          exact zreti hF hB (M1, (if sgN (cmp5 (M1 6) 0) (cmp5 (M1 6) 1) = true then sgSq (cmp5 (M1 6) 0) (cmp5 (M1 6) 1) else (sumO true (N rg) (N sg)))) (⟨by rw [hcv, vM1] <;> rfl, kM1⟩) (rfl) (rfl) dX7_compare_86 hQ
        · skip
          have htn : ¬ ((sumV true (N rg) (N sg)).2.2.1 = 0 ∧ (sumV true (N rg) (N sg)).2.2.2.1 = 0) := fun e8 => (dB_t.mp (bI_ne0 h57)).elim (fun e7 => e7 e8.1) (fun e7 => e7 e8.2)
          refine lv_bipush (v := -3) hx hb dX7_compare_60 (by decide) ?_
          exact zreti hF hB (M1, (sumO true (N rg) (N sg))) (⟨by rw [cmpV, if_neg (fun e8 => e8 ⟨hrg1, hsg1⟩), show (nI rg).toInt.toNat = rg from rrg, show (nI sg).toInt.toNat = sg from rsg, if_neg (by rw [h44]; decide), if_pos htn], kM1⟩) (rfl) (rfl) dX7_compare_62 hQ
      · skip
        replace h44 := (b9_f h44)
        rw [if_pos h44] at hM1
        refine lv_bipush (v := -5) hx hb dX7_compare_47 (by decide) ?_
        exact zreti hF hB (M1, (sumO true (N rg) (N sg))) (⟨by rw [cmpV, if_neg (fun e8 => e8 ⟨hrg1, hsg1⟩), show (nI rg).toInt.toNat = rg from rrg, show (nI sg).toInt.toNat = sg from rsg, if_pos h44], fun k9 _ => congrFun hM1 k9⟩) (rfl) (rfl) dX7_compare_49 hQ
    · skip
      replace h15 := (b9_t h15)
      refine zldc (v := (-2147483648 : Int32)) ww_10_11 hF dX7_compare_18 ?_
      exact zreti hF hB (N, o) (⟨by rw [cmpV, if_pos (fun e8 => absurd (h15.symm.trans e8.2) (by decide))], fun _ _ => rfl⟩) (rfl) (rfl) dX7_compare_20 hQ

