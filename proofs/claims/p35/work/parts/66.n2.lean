theorem sumO_d {mi : Bool} {X Y : N5} (h : sumO mi X Y = false) : tOv X.2.2.2.2 Y.2.2.2.2 = false := (Bool.or_eq_false_iff.mp h).2
theorem tOv_far {x y : Int64} (hy : y ≠ 0) (h : ¬ (x * y) / y = x) : tOv x y = true := by
  cases e9 : tOv x y with
  | true => rfl
  | false =>
    by_cases hm : y = -1 ∧ x = lMin
    · rw [tOv_m1 hm.1 hm.2] at e9; exact absurd e9 (by decide)
    · exact absurd ((tOv_iff hy hm).mpr e9) h
theorem prodO_d {X Y : N5} (h : prodO X Y = false) : tOv X.2.2.2.2 Y.2.2.2.2 = false := (Bool.or_eq_false_iff.mp h).2
set_option maxHeartbeats 4000000 in
set_option maxRecDepth 100000 in
theorem c_X2_plus (l : Launch) (D : va_G) (ka : Nat → ClassId) (kb : Nat → Nat) (g : Nat) (na : Nat → Nat) (o : Bool) (tp : Nat) (fp : Nat) (ip : Nat) (x : Int64) (y : Int64)  : zL l D ka kb yX2_plus cX2_plus 7 0 0 [.ref g, .long x, .long y] ([(g, .inr (2, [.int (bI o), .ref (na tp), .ref (na fp), .ref (na ip)]))]) (fun (r : Int64) (_ : Unit) => r = x + y) (fun (_ : Unit) => [(g, .inr (2, [.int (bI (o || pOv x y)), .ref (na tp), .ref (na fp), .ref (na ip)]))]) := by
  refine zL.mk RX2 (by decide +kernel) rfl (Nat.le_of_ble_eq_true rfl) ?_
  intro p e s m below meth c A ls args Q hQ hx hb hF hB hl
  replace hl : lv_has ls 7 [(0, .ref g), (1, .long x), (3, .long y)] := hl
  refine lv_lload_n hx hb dX2_plus_0 rfl (lv_at hl 1 rfl) ?_
  refine lv_lload_n hx hb dX2_plus_1 rfl (lv_at hl 2 rfl) ?_
  refine lv_ladd hx hb dX2_plus_2 ?_
  refine lv_lstore (lv' := [(5, .long (x + y)), (0, .ref g), (1, .long x), (3, .long y)]) hx hb dX2_plus_3 hl (by decide) rfl ?_
  clear hl
  clear ls
  intro ls hl
  refine lv_lload_n hx hb dX2_plus_5 rfl (lv_at hl 2 rfl) ?_
  refine lv_lload hx hb dX2_plus_6 (lv_at hl 0 rfl) ?_
  refine lv_lxor hx hb dX2_plus_8 ?_
  refine lv_lload_n hx hb dX2_plus_9 rfl (lv_at hl 3 rfl) ?_
  refine lv_lload hx hb dX2_plus_10 (lv_at hl 0 rfl) ?_
  refine lv_lxor hx hb dX2_plus_12 ?_
  refine lv_land hx hb dX2_plus_13 ?_
  refine lv_lconst (v := 0) hx hb dX2_plus_14 (by decide) ?_
  refine W.lcmp hx hb dX2_plus_15 ?_
  refine lv_if_ge (tgt := 24) hx hb dX2_plus_16 (by decide) (fun h16 => ?_) (fun h16 => ?_)
  · skip
    replace h16 := (lg_cmp_ge _ _).mp h16
    refine lv_lload hx hb dX2_plus_24 (lv_at hl 0 rfl) ?_
    exact zretl hF hB () (rfl) (by rw [show (o || pOv x y) = o from by rw [Bool.eq_false_iff.mpr (fun e9 => Int64.not_lt.mpr h16 ((pOv_iff x y).mpr e9))]; exact Bool.or_false o]) dX2_plus_26 hQ
  · skip
    replace h16 := (fun e9 => h16 ((lg_cmp_ge _ _).mpr e9))
    refine lv_aload_n hx hb dX2_plus_19 rfl (lv_at hl 1 rfl) ?_
    refine lv_iconst (v := 1) hx hb dX2_plus_20 (by decide) ?_
    refine zput_f zp_X2_24 hF hB 0 rfl (rfl) (rfl) (Nat.le_of_ble_eq_true rfl) dX2_plus_21 ?_
    clear hB
    try clear locs
    try clear H
    intro H locs hB
    replace hB : zB D A s ([(g, .inr (2, [.int (1 : Int32), .ref (na tp), .ref (na fp), .ref (na ip)]))]) H locs := hB
    refine lv_lload hx hb dX2_plus_24 (lv_at hl 0 rfl) ?_
    exact zretl hF hB () (rfl) (by rw [show (o || pOv x y) = true from by rw [(pOv_iff x y).mp (Int64.not_le.mp h16)]; exact Bool.or_true o] <;> rfl) dX2_plus_26 hQ

set_option maxHeartbeats 4000000 in
set_option maxRecDepth 100000 in
theorem c_X2_less (l : Launch) (D : va_G) (ka : Nat → ClassId) (kb : Nat → Nat) (g : Nat) (na : Nat → Nat) (o : Bool) (tp : Nat) (fp : Nat) (ip : Nat) (x : Int64) (y : Int64)  : zL l D ka kb yX2_less cX2_less 7 0 0 [.ref g, .long x, .long y] ([(g, .inr (2, [.int (bI o), .ref (na tp), .ref (na fp), .ref (na ip)]))]) (fun (r : Int64) (_ : Unit) => r = x - y) (fun (_ : Unit) => [(g, .inr (2, [.int (bI (o || mOv x y)), .ref (na tp), .ref (na fp), .ref (na ip)]))]) := by
  refine zL.mk RX2 (by decide +kernel) rfl (Nat.le_of_ble_eq_true rfl) ?_
  intro p e s m below meth c A ls args Q hQ hx hb hF hB hl
  replace hl : lv_has ls 7 [(0, .ref g), (1, .long x), (3, .long y)] := hl
  refine lv_lload_n hx hb dX2_less_0 rfl (lv_at hl 1 rfl) ?_
  refine lv_lload_n hx hb dX2_less_1 rfl (lv_at hl 2 rfl) ?_
  refine lv_lsub hx hb dX2_less_2 ?_
  refine lv_lstore (lv' := [(5, .long (x - y)), (0, .ref g), (1, .long x), (3, .long y)]) hx hb dX2_less_3 hl (by decide) rfl ?_
  clear hl
  clear ls
  intro ls hl
  refine lv_lload_n hx hb dX2_less_5 rfl (lv_at hl 2 rfl) ?_
  refine lv_lload_n hx hb dX2_less_6 rfl (lv_at hl 3 rfl) ?_
  refine lv_lxor hx hb dX2_less_7 ?_
  refine lv_lload_n hx hb dX2_less_8 rfl (lv_at hl 2 rfl) ?_
  refine lv_lload hx hb dX2_less_9 (lv_at hl 0 rfl) ?_
  refine lv_lxor hx hb dX2_less_11 ?_
  refine lv_land hx hb dX2_less_12 ?_
  refine lv_lconst (v := 0) hx hb dX2_less_13 (by decide) ?_
  refine W.lcmp hx hb dX2_less_14 ?_
  refine lv_if_ge (tgt := 23) hx hb dX2_less_15 (by decide) (fun h15 => ?_) (fun h15 => ?_)
  · skip
    replace h15 := (lg_cmp_ge _ _).mp h15
    refine lv_lload hx hb dX2_less_23 (lv_at hl 0 rfl) ?_
    exact zretl hF hB () (rfl) (by rw [show (o || mOv x y) = o from by rw [Bool.eq_false_iff.mpr (fun e9 => Int64.not_lt.mpr h15 ((mOv_iff x y).mpr e9))]; exact Bool.or_false o]) dX2_less_25 hQ
  · skip
    replace h15 := (fun e9 => h15 ((lg_cmp_ge _ _).mpr e9))
    refine lv_aload_n hx hb dX2_less_18 rfl (lv_at hl 1 rfl) ?_
    refine lv_iconst (v := 1) hx hb dX2_less_19 (by decide) ?_
    refine zput_f zp_X2_24 hF hB 0 rfl (rfl) (rfl) (Nat.le_of_ble_eq_true rfl) dX2_less_20 ?_
    clear hB
    try clear locs
    try clear H
    intro H locs hB
    replace hB : zB D A s ([(g, .inr (2, [.int (1 : Int32), .ref (na tp), .ref (na fp), .ref (na ip)]))]) H locs := hB
    refine lv_lload hx hb dX2_less_23 (lv_at hl 0 rfl) ?_
    exact zretl hF hB () (rfl) (by rw [show (o || mOv x y) = true from by rw [(mOv_iff x y).mp (Int64.not_le.mp h15)]; exact Bool.or_true o] <;> rfl) dX2_less_25 hQ

set_option maxHeartbeats 4000000 in
set_option maxRecDepth 100000 in
theorem c_X2_times (l : Launch) (D : va_G) (ka : Nat → ClassId) (kb : Nat → Nat) (g : Nat) (na : Nat → Nat) (o : Bool) (tp : Nat) (fp : Nat) (ip : Nat) (x : Int64) (y : Int64)  : zL l D ka kb yX2_times cX2_times 7 0 0 [.ref g, .long x, .long y] ([(g, .inr (2, [.int (bI o), .ref (na tp), .ref (na fp), .ref (na ip)]))]) (fun (r : Int64) (_ : Unit) => r = x * y) (fun (_ : Unit) => [(g, .inr (2, [.int (bI (o || tOv x y)), .ref (na tp), .ref (na fp), .ref (na ip)]))]) := by
  refine zL.mk RX2 (by decide +kernel) rfl (Nat.le_of_ble_eq_true rfl) ?_
  intro p e s m below meth c A ls args Q hQ hx hb hF hB hl
  replace hl : lv_has ls 7 [(0, .ref g), (1, .long x), (3, .long y)] := hl
  refine lv_lload_n hx hb dX2_times_0 rfl (lv_at hl 1 rfl) ?_
  refine lv_lload_n hx hb dX2_times_1 rfl (lv_at hl 2 rfl) ?_
  refine lv_lmul hx hb dX2_times_2 ?_
  refine lv_lstore (lv' := [(5, .long (x * y)), (0, .ref g), (1, .long x), (3, .long y)]) hx hb dX2_times_3 hl (by decide) rfl ?_
  clear hl
  clear ls
  intro ls hl
  refine lv_lload_n hx hb dX2_times_5 rfl (lv_at hl 3 rfl) ?_
  refine lv_lconst (v := 0) hx hb dX2_times_6 (by decide) ?_
  refine W.lcmp hx hb dX2_times_7 ?_
  refine lv_if_eq (tgt := 41) hx hb dX2_times_8 (by decide) (fun h8 => ?_) (fun h8 => ?_)
  · skip
    replace h8 := (lg_cmp_eq _ _).mp h8
    refine lv_lload hx hb dX2_times_41 (lv_at hl 0 rfl) ?_
    exact zretl hF hB () (rfl) (by rw [show (o || tOv x y) = o from by rw [tOv_0y h8]; exact Bool.or_false o]) dX2_times_43 hQ
  · skip
    replace h8 := (fun e9 => h8 ((lg_cmp_eq _ _).mpr e9))
    refine lv_lload hx hb dX2_times_11 (lv_at hl 0 rfl) ?_
    refine lv_lload_n hx hb dX2_times_13 rfl (lv_at hl 3 rfl) ?_
    refine lv_ldiv hx hb dX2_times_14 h8 ?_
    refine lv_lload_n hx hb dX2_times_15 rfl (lv_at hl 2 rfl) ?_
    refine W.lcmp hx hb dX2_times_16 ?_
    refine lv_if_ne (tgt := 36) hx hb dX2_times_17 (by decide) (fun h17 => ?_) (fun h17 => ?_)
    · skip
      replace h17 := (fun e9 => h17 ((lg_cmp_eq _ _).mpr e9))
      refine lv_aload_n hx hb dX2_times_36 rfl (lv_at hl 1 rfl) ?_
      refine lv_iconst (v := 1) hx hb dX2_times_37 (by decide) ?_
      refine zput_f zp_X2_24 hF hB 0 rfl (rfl) (rfl) (Nat.le_of_ble_eq_true rfl) dX2_times_38 ?_
      clear hB
      try clear locs
      try clear H
      intro H locs hB
      replace hB : zB D A s ([(g, .inr (2, [.int (1 : Int32), .ref (na tp), .ref (na fp), .ref (na ip)]))]) H locs := hB
      refine lv_lload hx hb dX2_times_41 (lv_at hl 0 rfl) ?_
      exact zretl hF hB () (rfl) (by rw [show (o || tOv x y) = true from by rw [tOv_far h8 h17]; exact Bool.or_true o] <;> rfl) dX2_times_43 hQ
    · skip
      replace h17 := (lg_cmp_eq _ _).mp h17
      refine lv_lload_n hx hb dX2_times_20 rfl (lv_at hl 3 rfl) ?_
      refine zldc2 (v := (-1 : Int64)) ww_8_17 hF dX2_times_21 ?_
      refine W.lcmp hx hb dX2_times_24 ?_
      refine lv_if_ne (tgt := 41) hx hb dX2_times_25 (by decide) (fun h25 => ?_) (fun h25 => ?_)
      · skip
        replace h25 := (fun e9 => h25 ((lg_cmp_eq _ _).mpr e9))
        refine lv_lload hx hb dX2_times_41 (lv_at hl 0 rfl) ?_
        exact zretl hF hB () (rfl) (by rw [show (o || tOv x y) = o from by rw [(tOv_iff h8 (fun e9 => h25 e9.1)).mp h17]; exact Bool.or_false o]) dX2_times_43 hQ
      · skip
        replace h25 := (lg_cmp_eq _ _).mp h25
        refine lv_lload_n hx hb dX2_times_28 rfl (lv_at hl 2 rfl) ?_
        refine zldc2 (v := (-9223372036854775808 : Int64)) ww_8_18 hF dX2_times_29 ?_
        refine W.lcmp hx hb dX2_times_32 ?_
        refine lv_if_ne (tgt := 41) hx hb dX2_times_33 (by decide) (fun h33 => ?_) (fun h33 => ?_)
        · skip
          replace h33 := (fun e9 => h33 ((lg_cmp_eq _ _).mpr e9))
          refine lv_lload hx hb dX2_times_41 (lv_at hl 0 rfl) ?_
          exact zretl hF hB () (rfl) (by rw [show (o || tOv x y) = o from by rw [(tOv_iff h8 (fun e9 => h33 e9.2)).mp h17]; exact Bool.or_false o]) dX2_times_43 hQ
        · skip
          replace h33 := (lg_cmp_eq _ _).mp h33
          refine lv_aload_n hx hb dX2_times_36 rfl (lv_at hl 1 rfl) ?_
          refine lv_iconst (v := 1) hx hb dX2_times_37 (by decide) ?_
          refine zput_f zp_X2_24 hF hB 0 rfl (rfl) (rfl) (Nat.le_of_ble_eq_true rfl) dX2_times_38 ?_
          clear hB
          try clear locs
          try clear H
          intro H locs hB
          replace hB : zB D A s ([(g, .inr (2, [.int (1 : Int32), .ref (na tp), .ref (na fp), .ref (na ip)]))]) H locs := hB
          refine lv_lload hx hb dX2_times_41 (lv_at hl 0 rfl) ?_
          exact zretl hF hB () (rfl) (by rw [show (o || tOv x y) = true from by rw [tOv_m1 h25 h33]; exact Bool.or_true o] <;> rfl) dX2_times_43 hQ

set_option maxHeartbeats 4000000 in
set_option maxRecDepth 100000 in
theorem c_X2_thrice (l : Launch) (D : va_G) (ka : Nat → ClassId) (kb : Nat → Nat) (g : Nat) (na : Nat → Nat) (o : Bool) (tp : Nat) (fp : Nat) (ip : Nat) (x : Int64) (y : Int64)  : zL l D ka kb yX2_thrice cX2_thrice 5 1 26 [.ref g, .long x, .long y] ([(g, .inr (2, [.int (bI o), .ref (na tp), .ref (na fp), .ref (na ip)]))]) (fun (r : Int64) (_ : Unit) => r = thV x y) (fun (_ : Unit) => [(g, .inr (2, [.int (bI (o || thO x y)), .ref (na tp), .ref (na fp), .ref (na ip)]))]) := by
  refine zL.mk RX2 (by decide +kernel) rfl (Nat.le_of_ble_eq_true rfl) ?_
  intro p e s m below meth c A ls args Q hQ hx hb hF hB hl
  replace hl : lv_has ls 5 [(0, .ref g), (1, .long x), (3, .long y)] := hl
  refine lv_aload_n hx hb dX2_thrice_0 rfl (lv_at hl 0 rfl) ?_
  refine lv_aload_n hx hb dX2_thrice_1 rfl (lv_at hl 0 rfl) ?_
  refine zldc2 (v := (3 : Int64)) ww_9_21 hF dX2_thrice_2 ?_
  refine lv_lload_n hx hb dX2_thrice_5 rfl (lv_at hl 1 rfl) ?_
  refine zVl zm_X2_35 hF hB (c_X2_times l D ka kb g na o tp fp ip (3 : Int64) x ) [0] rfl (by decide) [g] (fun _ => rfl) rfl 0 2 rfl rfl rfl ⟨Nat.le_of_ble_eq_true rfl, Nat.le_of_ble_eq_true rfl⟩ rfl hl.1 (Nat.le_of_ble_eq_true rfl) ⟨Nat.le_refl _, Nat.le_refl _⟩ dX2_thrice_6 ?_
  clear hB
  try clear locs
  try clear H
  intro r1 u1 H locs hp hB
  obtain rfl : r1 = (3 : Int64) * x := hp
  replace hB : zB D A s ([(g, .inr (2, [.int (bI (o || tOv (3 : Int64) x)), .ref (na tp), .ref (na fp), .ref (na ip)]))]) H locs := hB
  refine lv_lload_n hx hb dX2_thrice_9 rfl (lv_at hl 2 rfl) ?_
  refine zVl zm_X2_35 hF hB (c_X2_times l D ka kb g na (o || tOv (3 : Int64) x) tp fp ip ((3 : Int64) * x) y ) [0] rfl (by decide) [g] (fun _ => rfl) rfl 0 2 rfl rfl rfl ⟨Nat.le_of_ble_eq_true rfl, Nat.le_of_ble_eq_true rfl⟩ rfl hl.1 (Nat.le_of_ble_eq_true rfl) ⟨Nat.le_refl _, Nat.le_refl _⟩ dX2_thrice_10 ?_
  clear hB
  try clear locs
  try clear H
  intro r2 u2 H locs hp hB
  obtain rfl : r2 = ((3 : Int64) * x) * y := hp
  replace hB : zB D A s ([(g, .inr (2, [.int (bI ((o || tOv (3 : Int64) x) || tOv ((3 : Int64) * x) y)), .ref (na tp), .ref (na fp), .ref (na ip)]))]) H locs := hB
  exact zretl hF hB () (by rw [thV]) (by rw [show (o || thO x y) = ((o || tOv 3 x) || tOv (3 * x) y) from (Bool.or_assoc _ _ _).symm]) dX2_thrice_13 hQ

set_option maxHeartbeats 4000000 in
set_option maxRecDepth 100000 in
theorem c_X2_deliver (l : Launch) (D : va_G) (ka : Nat → ClassId) (kb : Nat → Nat) (g : Nat) (na : Nat → Nat) (o : Bool) (tp : Nat) (fp : Nat) (ip : Nat) (N : Nat → N5) (t : Nat) (a : Int64) (b : Int64) (c9 : Int64) (e9 : Int64) (d : Int64) (ht : t < 41) (hd : o = false → 0 < d.toInt) : zI l D ka kb yX2_deliver cX2_deliver 12 .boolean 3 112 [.ref g, .ref (na t), .long a, .long b, .long c9, .long e9, .long d] ([(g, .inr (2, [.int (bI o), .ref (na tp), .ref (na fp), .ref (na ip)]))] ++ nP na N) (fun (r : Int32) (_ : Unit) => r = bI (!o)) (fun (_ : Unit) => [(g, .inr (2, [.int (bI o), .ref (na tp), .ref (na fp), .ref (na ip)]))] ++ nP na (if o = true then N else upN N t (lowN a b c9 e9 d))) := by
  refine zI.mk RX2 (by decide +kernel) rfl (Nat.le_of_ble_eq_true rfl) ?_
  intro p e s m below meth c A ls args Q hQ hx hb hF hB hl
  replace hl : lv_has ls 12 [(0, .ref g), (1, .ref (na t)), (2, .long a), (4, .long b), (6, .long c9), (8, .long e9), (10, .long d)] := hl
  refine lv_aload_n hx hb dX2_deliver_0 rfl (lv_at hl 0 rfl) ?_
  refine zget zf_X2_24 hF hB 0 rfl rfl dX2_deliver_1 ?_
  refine lv_if_eq (tgt := 9) hx hb dX2_deliver_4 (by decide) (fun h4 => ?_) (fun h4 => ?_)
  · skip
    have e9 := bI_eq0 h4; subst e9
    refine lv_aload_n hx hb dX2_deliver_9 rfl (lv_at hl 1 rfl) ?_
    refine lv_lload_n hx hb dX2_deliver_10 rfl (lv_at hl 2 rfl) ?_
    refine lv_lload hx hb dX2_deliver_11 (lv_at hl 3 rfl) ?_
    refine lv_lload hx hb dX2_deliver_13 (lv_at hl 4 rfl) ?_
    refine lv_lload hx hb dX2_deliver_15 (lv_at hl 5 rfl) ?_
    refine lv_lload hx hb dX2_deliver_17 (lv_at hl 6 rfl) ?_
    refine zVv zm_X2_65 hF hB (c_X1_become l D ka kb (na t) (N t) a b c9 e9 d ) [1 + t] (zsel_num rfl (by omega)) (va_nd_1 _) [na t] (fun _ => rfl) rfl (1 + t) 1 rfl (nP_atn rfl (by omega)) rfl ⟨Nat.le_of_ble_eq_true rfl, Nat.le_of_ble_eq_true rfl⟩ rfl hl.1 (Nat.le_of_ble_eq_true rfl) ⟨Nat.le_refl _, Nat.le_refl _⟩ dX2_deliver_19 ?_
    clear hB
    try clear locs
    try clear H
    intro u1 H locs hp hB
    replace hB : zB D A s ([(g, .inr (2, [.int (bI false), .ref (na tp), .ref (na fp), .ref (na ip)]))] ++ nP na (upN N t (a, b, c9, e9, d))) H locs := zB_num (X := (a, b, c9, e9, d)) hB rfl (by omega)
    refine lv_aload_n hx hb dX2_deliver_22 rfl (lv_at hl 1 rfl) ?_
    refine zVv zm_X2_73 hF hB (c_X1_shorten l D ka kb (na t) ((upN N t (a, b, c9, e9, d)) t) (by rw [upN_eq]; exact hd rfl)) [1 + t] (zsel_num rfl (by omega)) (va_nd_1 _) [na t] (fun _ => rfl) rfl (1 + t) 1 rfl (nP_atn rfl (by omega)) rfl ⟨Nat.le_of_ble_eq_true rfl, Nat.le_of_ble_eq_true rfl⟩ rfl hl.1 (Nat.le_of_ble_eq_true rfl) ⟨Nat.le_refl _, Nat.le_refl _⟩ dX2_deliver_23 ?_
    clear hB
    try clear locs
    try clear H
    intro u2 H locs hp hB
    replace hB : zB D A s ([(g, .inr (2, [.int (bI false), .ref (na tp), .ref (na fp), .ref (na ip)]))] ++ nP na (upN (upN N t (a, b, c9, e9, d)) t (lowN ((upN N t (a, b, c9, e9, d)) t).1 ((upN N t (a, b, c9, e9, d)) t).2.1 ((upN N t (a, b, c9, e9, d)) t).2.2.1 ((upN N t (a, b, c9, e9, d)) t).2.2.2.1 ((upN N t (a, b, c9, e9, d)) t).2.2.2.2))) H locs := zB_num (X := (lowN ((upN N t (a, b, c9, e9, d)) t).1 ((upN N t (a, b, c9, e9, d)) t).2.1 ((upN N t (a, b, c9, e9, d)) t).2.2.1 ((upN N t (a, b, c9, e9, d)) t).2.2.2.1 ((upN N t (a, b, c9, e9, d)) t).2.2.2.2)) hB rfl (by omega)
    refine lv_iconst (v := 1) hx hb dX2_deliver_26 (by decide) ?_
    exact zreti hF hB () (rfl) (by rw [upN_up, upN_eq] <;> rfl) (rfl) dX2_deliver_27 hQ
  · skip
    have e9 := bI_ne0 h4; subst e9
    refine lv_iconst (v := 0) hx hb dX2_deliver_7 (by decide) ?_
    exact zreti hF hB () (rfl) (rfl) (rfl) dX2_deliver_8 hQ

set_option maxHeartbeats 4000000 in
set_option maxRecDepth 100000 in
theorem c_X2_sum (l : Launch) (D : va_G) (ka : Nat → ClassId) (kb : Nat → Nat) (g : Nat) (na : Nat → Nat) (o : Bool) (tp : Nat) (fp : Nat) (ip : Nat) (N : Nat → N5) (t : Nat) (i : Nat) (j : Nat) (ht : t < 41) (hi : i < 41) (hj : j < 41) (hdi : 0 < (N i).2.2.2.2.toInt) (hdj : 0 < (N j).2.2.2.2.toInt) : zI l D ka kb yX2_sum cX2_sum 12 .boolean 4 143 [.ref g, .ref (na i), .ref (na j), .ref (na t)] ([(g, .inr (2, [.int (bI o), .ref (na tp), .ref (na fp), .ref (na ip)]))] ++ nP na N) (fun (r : Int32) (_ : Unit) => r = bI (!(sumO false (N i) (N j)))) (fun (_ : Unit) => [(g, .inr (2, [.int (bI (sumO false (N i) (N j))), .ref (na tp), .ref (na fp), .ref (na ip)]))] ++ nP na (if sumO false (N i) (N j) = true then N else upN N t (sumV false (N i) (N j)))) := by
  refine zI.mk RX2 (by decide +kernel) rfl (Nat.le_of_ble_eq_true rfl) ?_
  intro p e s m below meth c A ls args Q hQ hx hb hF hB hl
  replace hl : lv_has ls 12 [(0, .ref g), (1, .ref (na i)), (2, .ref (na j)), (3, .ref (na t))] := hl
  refine lv_aload_n hx hb dX2_sum_0 rfl (lv_at hl 0 rfl) ?_
  refine lv_iconst (v := 0) hx hb dX2_sum_1 (by decide) ?_
  refine zput_f zp_X2_24 hF hB 0 rfl (rfl) (rfl) (Nat.le_of_ble_eq_true rfl) dX2_sum_2 ?_
  clear hB
  try clear locs
  try clear H
  intro H locs hB
  replace hB : zB D A s ([(g, .inr (2, [.int (0 : Int32), .ref (na tp), .ref (na fp), .ref (na ip)]))] ++ nP na N) H locs := hB
  refine lv_aload_n hx hb dX2_sum_5 rfl (lv_at hl 0 rfl) ?_
  refine lv_aload_n hx hb dX2_sum_6 rfl (lv_at hl 0 rfl) ?_
  refine lv_aload_n hx hb dX2_sum_7 rfl (lv_at hl 1 rfl) ?_
  refine zgetN zf_X2_28 hF hB i (by omega) rfl dX2_sum_8 ?_
  refine lv_aload_n hx hb dX2_sum_11 rfl (lv_at hl 2 rfl) ?_
  refine zgetN zf_X2_32 hF hB j (by omega) rfl dX2_sum_12 ?_
  refine zVl zm_X2_35 hF hB (c_X2_times l D ka kb g na false tp fp ip ((N i).1) ((N j).2.2.2.2) ) [0] rfl (by decide) [g] (fun _ => rfl) rfl 0 2 rfl rfl rfl ⟨Nat.le_of_ble_eq_true rfl, Nat.le_of_ble_eq_true rfl⟩ rfl hl.1 (Nat.le_of_ble_eq_true rfl) ⟨Nat.le_refl _, Nat.le_refl _⟩ dX2_sum_15 ?_
  clear hB
  try clear locs
  try clear H
  intro r1 u1 H locs hp hB
  obtain rfl : r1 = ((N i).1) * ((N j).2.2.2.2) := hp
  replace hB : zB D A s ([(g, .inr (2, [.int (bI (false || tOv ((N i).1) ((N j).2.2.2.2))), .ref (na tp), .ref (na fp), .ref (na ip)]))] ++ nP na N) H locs := hB
  refine lv_aload_n hx hb dX2_sum_18 rfl (lv_at hl 0 rfl) ?_
  refine lv_aload_n hx hb dX2_sum_19 rfl (lv_at hl 2 rfl) ?_
  refine zgetN zf_X2_28 hF hB j (by omega) rfl dX2_sum_20 ?_
  refine lv_aload_n hx hb dX2_sum_23 rfl (lv_at hl 1 rfl) ?_
  refine zgetN zf_X2_32 hF hB i (by omega) rfl dX2_sum_24 ?_
  refine zVl zm_X2_35 hF hB (c_X2_times l D ka kb g na (false || tOv ((N i).1) ((N j).2.2.2.2)) tp fp ip ((N j).1) ((N i).2.2.2.2) ) [0] rfl (by decide) [g] (fun _ => rfl) rfl 0 2 rfl rfl rfl ⟨Nat.le_of_ble_eq_true rfl, Nat.le_of_ble_eq_true rfl⟩ rfl hl.1 (Nat.le_of_ble_eq_true rfl) ⟨Nat.le_refl _, Nat.le_refl _⟩ dX2_sum_27 ?_
  clear hB
  try clear locs
  try clear H
  intro r2 u2 H locs hp hB
  obtain rfl : r2 = ((N j).1) * ((N i).2.2.2.2) := hp
  replace hB : zB D A s ([(g, .inr (2, [.int (bI ((false || tOv ((N i).1) ((N j).2.2.2.2)) || tOv ((N j).1) ((N i).2.2.2.2))), .ref (na tp), .ref (na fp), .ref (na ip)]))] ++ nP na N) H locs := hB
  refine zVl zm_X2_39 hF hB (c_X2_plus l D ka kb g na ((false || tOv ((N i).1) ((N j).2.2.2.2)) || tOv ((N j).1) ((N i).2.2.2.2)) tp fp ip (((N i).1) * ((N j).2.2.2.2)) (((N j).1) * ((N i).2.2.2.2)) ) [0] rfl (by decide) [g] (fun _ => rfl) rfl 0 2 rfl rfl rfl ⟨Nat.le_of_ble_eq_true rfl, Nat.le_of_ble_eq_true rfl⟩ rfl hl.1 (Nat.le_of_ble_eq_true rfl) ⟨Nat.le_refl _, Nat.le_refl _⟩ dX2_sum_30 ?_
  clear hB
  try clear locs
  try clear H
  intro r3 u3 H locs hp hB
  obtain rfl : r3 = (((N i).1) * ((N j).2.2.2.2)) + (((N j).1) * ((N i).2.2.2.2)) := hp
  replace hB : zB D A s ([(g, .inr (2, [.int (bI (((false || tOv ((N i).1) ((N j).2.2.2.2)) || tOv ((N j).1) ((N i).2.2.2.2)) || pOv (((N i).1) * ((N j).2.2.2.2)) (((N j).1) * ((N i).2.2.2.2)))), .ref (na tp), .ref (na fp), .ref (na ip)]))] ++ nP na N) H locs := hB
  refine lv_lstore (lv' := [(4, .long ((((N i).1) * ((N j).2.2.2.2)) + (((N j).1) * ((N i).2.2.2.2)))), (0, .ref g), (1, .ref (na i)), (2, .ref (na j)), (3, .ref (na t))]) hx hb dX2_sum_33 hl (by decide) rfl ?_
  clear hl
  clear ls
  intro ls hl
  refine lv_aload_n hx hb dX2_sum_35 rfl (lv_at hl 1 rfl) ?_
  refine lv_aload_n hx hb dX2_sum_36 rfl (lv_at hl 1 rfl) ?_
  refine lv_aload_n hx hb dX2_sum_37 rfl (lv_at hl 2 rfl) ?_
  refine zgetN zf_X2_42 hF hB i (by omega) rfl dX2_sum_38 ?_
  refine lv_aload_n hx hb dX2_sum_41 rfl (lv_at hl 3 rfl) ?_
  refine zgetN zf_X2_32 hF hB j (by omega) rfl dX2_sum_42 ?_
  refine zVl zm_X2_35 hF hB (c_X2_times l D ka kb g na (((false || tOv ((N i).1) ((N j).2.2.2.2)) || tOv ((N j).1) ((N i).2.2.2.2)) || pOv (((N i).1) * ((N j).2.2.2.2)) (((N j).1) * ((N i).2.2.2.2))) tp fp ip ((N i).2.1) ((N j).2.2.2.2) ) [0] rfl (by decide) [g] (fun _ => rfl) rfl 0 2 rfl rfl rfl ⟨Nat.le_of_ble_eq_true rfl, Nat.le_of_ble_eq_true rfl⟩ rfl hl.1 (Nat.le_of_ble_eq_true rfl) ⟨Nat.le_refl _, Nat.le_refl _⟩ dX2_sum_45 ?_
  clear hB
  try clear locs
  try clear H
  intro r4 u4 H locs hp hB
  obtain rfl : r4 = ((N i).2.1) * ((N j).2.2.2.2) := hp
  replace hB : zB D A s ([(g, .inr (2, [.int (bI ((((false || tOv ((N i).1) ((N j).2.2.2.2)) || tOv ((N j).1) ((N i).2.2.2.2)) || pOv (((N i).1) * ((N j).2.2.2.2)) (((N j).1) * ((N i).2.2.2.2))) || tOv ((N i).2.1) ((N j).2.2.2.2))), .ref (na tp), .ref (na fp), .ref (na ip)]))] ++ nP na N) H locs := hB
  refine lv_aload_n hx hb dX2_sum_48 rfl (lv_at hl 1 rfl) ?_
  refine lv_aload_n hx hb dX2_sum_49 rfl (lv_at hl 3 rfl) ?_
  refine zgetN zf_X2_42 hF hB j (by omega) rfl dX2_sum_50 ?_
  refine lv_aload_n hx hb dX2_sum_53 rfl (lv_at hl 2 rfl) ?_
  refine zgetN zf_X2_32 hF hB i (by omega) rfl dX2_sum_54 ?_
  refine zVl zm_X2_35 hF hB (c_X2_times l D ka kb g na ((((false || tOv ((N i).1) ((N j).2.2.2.2)) || tOv ((N j).1) ((N i).2.2.2.2)) || pOv (((N i).1) * ((N j).2.2.2.2)) (((N j).1) * ((N i).2.2.2.2))) || tOv ((N i).2.1) ((N j).2.2.2.2)) tp fp ip ((N j).2.1) ((N i).2.2.2.2) ) [0] rfl (by decide) [g] (fun _ => rfl) rfl 0 2 rfl rfl rfl ⟨Nat.le_of_ble_eq_true rfl, Nat.le_of_ble_eq_true rfl⟩ rfl hl.1 (Nat.le_of_ble_eq_true rfl) ⟨Nat.le_refl _, Nat.le_refl _⟩ dX2_sum_57 ?_
  clear hB
  try clear locs
  try clear H
  intro r5 u5 H locs hp hB
  obtain rfl : r5 = ((N j).2.1) * ((N i).2.2.2.2) := hp
  replace hB : zB D A s ([(g, .inr (2, [.int (bI (((((false || tOv ((N i).1) ((N j).2.2.2.2)) || tOv ((N j).1) ((N i).2.2.2.2)) || pOv (((N i).1) * ((N j).2.2.2.2)) (((N j).1) * ((N i).2.2.2.2))) || tOv ((N i).2.1) ((N j).2.2.2.2)) || tOv ((N j).2.1) ((N i).2.2.2.2))), .ref (na tp), .ref (na fp), .ref (na ip)]))] ++ nP na N) H locs := hB
  refine zVl zm_X2_39 hF hB (c_X2_plus l D ka kb g na (((((false || tOv ((N i).1) ((N j).2.2.2.2)) || tOv ((N j).1) ((N i).2.2.2.2)) || pOv (((N i).1) * ((N j).2.2.2.2)) (((N j).1) * ((N i).2.2.2.2))) || tOv ((N i).2.1) ((N j).2.2.2.2)) || tOv ((N j).2.1) ((N i).2.2.2.2)) tp fp ip (((N i).2.1) * ((N j).2.2.2.2)) (((N j).2.1) * ((N i).2.2.2.2)) ) [0] rfl (by decide) [g] (fun _ => rfl) rfl 0 2 rfl rfl rfl ⟨Nat.le_of_ble_eq_true rfl, Nat.le_of_ble_eq_true rfl⟩ rfl hl.1 (Nat.le_of_ble_eq_true rfl) ⟨Nat.le_refl _, Nat.le_refl _⟩ dX2_sum_60 ?_
  clear hB
  try clear locs
  try clear H
  intro r6 u6 H locs hp hB
  obtain rfl : r6 = (((N i).2.1) * ((N j).2.2.2.2)) + (((N j).2.1) * ((N i).2.2.2.2)) := hp
  replace hB : zB D A s ([(g, .inr (2, [.int (bI ((((((false || tOv ((N i).1) ((N j).2.2.2.2)) || tOv ((N j).1) ((N i).2.2.2.2)) || pOv (((N i).1) * ((N j).2.2.2.2)) (((N j).1) * ((N i).2.2.2.2))) || tOv ((N i).2.1) ((N j).2.2.2.2)) || tOv ((N j).2.1) ((N i).2.2.2.2)) || pOv (((N i).2.1) * ((N j).2.2.2.2)) (((N j).2.1) * ((N i).2.2.2.2)))), .ref (na tp), .ref (na fp), .ref (na ip)]))] ++ nP na N) H locs := hB
  refine lv_lstore (lv' := [(6, .long ((((N i).2.1) * ((N j).2.2.2.2)) + (((N j).2.1) * ((N i).2.2.2.2)))), (4, .long ((((N i).1) * ((N j).2.2.2.2)) + (((N j).1) * ((N i).2.2.2.2)))), (0, .ref g), (1, .ref (na i)), (2, .ref (na j)), (3, .ref (na t))]) hx hb dX2_sum_63 hl (by decide) rfl ?_
  clear hl
  clear ls
  intro ls hl
  refine lv_aload_n hx hb dX2_sum_65 rfl (lv_at hl 2 rfl) ?_
  refine lv_aload_n hx hb dX2_sum_66 rfl (lv_at hl 2 rfl) ?_
  refine lv_aload_n hx hb dX2_sum_67 rfl (lv_at hl 3 rfl) ?_
  refine zgetN zf_X2_45 hF hB i (by omega) rfl dX2_sum_68 ?_
  refine lv_aload_n hx hb dX2_sum_71 rfl (lv_at hl 4 rfl) ?_
  refine zgetN zf_X2_32 hF hB j (by omega) rfl dX2_sum_72 ?_
  refine zVl zm_X2_35 hF hB (c_X2_times l D ka kb g na ((((((false || tOv ((N i).1) ((N j).2.2.2.2)) || tOv ((N j).1) ((N i).2.2.2.2)) || pOv (((N i).1) * ((N j).2.2.2.2)) (((N j).1) * ((N i).2.2.2.2))) || tOv ((N i).2.1) ((N j).2.2.2.2)) || tOv ((N j).2.1) ((N i).2.2.2.2)) || pOv (((N i).2.1) * ((N j).2.2.2.2)) (((N j).2.1) * ((N i).2.2.2.2))) tp fp ip ((N i).2.2.1) ((N j).2.2.2.2) ) [0] rfl (by decide) [g] (fun _ => rfl) rfl 0 2 rfl rfl rfl ⟨Nat.le_of_ble_eq_true rfl, Nat.le_of_ble_eq_true rfl⟩ rfl hl.1 (Nat.le_of_ble_eq_true rfl) ⟨Nat.le_refl _, Nat.le_refl _⟩ dX2_sum_75 ?_
  clear hB
  try clear locs
  try clear H
  intro r7 u7 H locs hp hB
  obtain rfl : r7 = ((N i).2.2.1) * ((N j).2.2.2.2) := hp
  replace hB : zB D A s ([(g, .inr (2, [.int (bI (((((((false || tOv ((N i).1) ((N j).2.2.2.2)) || tOv ((N j).1) ((N i).2.2.2.2)) || pOv (((N i).1) * ((N j).2.2.2.2)) (((N j).1) * ((N i).2.2.2.2))) || tOv ((N i).2.1) ((N j).2.2.2.2)) || tOv ((N j).2.1) ((N i).2.2.2.2)) || pOv (((N i).2.1) * ((N j).2.2.2.2)) (((N j).2.1) * ((N i).2.2.2.2))) || tOv ((N i).2.2.1) ((N j).2.2.2.2))), .ref (na tp), .ref (na fp), .ref (na ip)]))] ++ nP na N) H locs := hB
  refine lv_aload_n hx hb dX2_sum_78 rfl (lv_at hl 2 rfl) ?_
  refine lv_aload_n hx hb dX2_sum_79 rfl (lv_at hl 4 rfl) ?_
  refine zgetN zf_X2_45 hF hB j (by omega) rfl dX2_sum_80 ?_
  refine lv_aload_n hx hb dX2_sum_83 rfl (lv_at hl 3 rfl) ?_
  refine zgetN zf_X2_32 hF hB i (by omega) rfl dX2_sum_84 ?_
  refine zVl zm_X2_35 hF hB (c_X2_times l D ka kb g na (((((((false || tOv ((N i).1) ((N j).2.2.2.2)) || tOv ((N j).1) ((N i).2.2.2.2)) || pOv (((N i).1) * ((N j).2.2.2.2)) (((N j).1) * ((N i).2.2.2.2))) || tOv ((N i).2.1) ((N j).2.2.2.2)) || tOv ((N j).2.1) ((N i).2.2.2.2)) || pOv (((N i).2.1) * ((N j).2.2.2.2)) (((N j).2.1) * ((N i).2.2.2.2))) || tOv ((N i).2.2.1) ((N j).2.2.2.2)) tp fp ip ((N j).2.2.1) ((N i).2.2.2.2) ) [0] rfl (by decide) [g] (fun _ => rfl) rfl 0 2 rfl rfl rfl ⟨Nat.le_of_ble_eq_true rfl, Nat.le_of_ble_eq_true rfl⟩ rfl hl.1 (Nat.le_of_ble_eq_true rfl) ⟨Nat.le_refl _, Nat.le_refl _⟩ dX2_sum_87 ?_
  clear hB
  try clear locs
  try clear H
  intro r8 u8 H locs hp hB
  obtain rfl : r8 = ((N j).2.2.1) * ((N i).2.2.2.2) := hp
  replace hB : zB D A s ([(g, .inr (2, [.int (bI ((((((((false || tOv ((N i).1) ((N j).2.2.2.2)) || tOv ((N j).1) ((N i).2.2.2.2)) || pOv (((N i).1) * ((N j).2.2.2.2)) (((N j).1) * ((N i).2.2.2.2))) || tOv ((N i).2.1) ((N j).2.2.2.2)) || tOv ((N j).2.1) ((N i).2.2.2.2)) || pOv (((N i).2.1) * ((N j).2.2.2.2)) (((N j).2.1) * ((N i).2.2.2.2))) || tOv ((N i).2.2.1) ((N j).2.2.2.2)) || tOv ((N j).2.2.1) ((N i).2.2.2.2))), .ref (na tp), .ref (na fp), .ref (na ip)]))] ++ nP na N) H locs := hB
  refine zVl zm_X2_39 hF hB (c_X2_plus l D ka kb g na ((((((((false || tOv ((N i).1) ((N j).2.2.2.2)) || tOv ((N j).1) ((N i).2.2.2.2)) || pOv (((N i).1) * ((N j).2.2.2.2)) (((N j).1) * ((N i).2.2.2.2))) || tOv ((N i).2.1) ((N j).2.2.2.2)) || tOv ((N j).2.1) ((N i).2.2.2.2)) || pOv (((N i).2.1) * ((N j).2.2.2.2)) (((N j).2.1) * ((N i).2.2.2.2))) || tOv ((N i).2.2.1) ((N j).2.2.2.2)) || tOv ((N j).2.2.1) ((N i).2.2.2.2)) tp fp ip (((N i).2.2.1) * ((N j).2.2.2.2)) (((N j).2.2.1) * ((N i).2.2.2.2)) ) [0] rfl (by decide) [g] (fun _ => rfl) rfl 0 2 rfl rfl rfl ⟨Nat.le_of_ble_eq_true rfl, Nat.le_of_ble_eq_true rfl⟩ rfl hl.1 (Nat.le_of_ble_eq_true rfl) ⟨Nat.le_refl _, Nat.le_refl _⟩ dX2_sum_90 ?_
  clear hB
  try clear locs
  try clear H
  intro r9 u9 H locs hp hB
  obtain rfl : r9 = (((N i).2.2.1) * ((N j).2.2.2.2)) + (((N j).2.2.1) * ((N i).2.2.2.2)) := hp
  replace hB : zB D A s ([(g, .inr (2, [.int (bI (((((((((false || tOv ((N i).1) ((N j).2.2.2.2)) || tOv ((N j).1) ((N i).2.2.2.2)) || pOv (((N i).1) * ((N j).2.2.2.2)) (((N j).1) * ((N i).2.2.2.2))) || tOv ((N i).2.1) ((N j).2.2.2.2)) || tOv ((N j).2.1) ((N i).2.2.2.2)) || pOv (((N i).2.1) * ((N j).2.2.2.2)) (((N j).2.1) * ((N i).2.2.2.2))) || tOv ((N i).2.2.1) ((N j).2.2.2.2)) || tOv ((N j).2.2.1) ((N i).2.2.2.2)) || pOv (((N i).2.2.1) * ((N j).2.2.2.2)) (((N j).2.2.1) * ((N i).2.2.2.2)))), .ref (na tp), .ref (na fp), .ref (na ip)]))] ++ nP na N) H locs := hB
  refine lv_lstore (lv' := [(8, .long ((((N i).2.2.1) * ((N j).2.2.2.2)) + (((N j).2.2.1) * ((N i).2.2.2.2)))), (6, .long ((((N i).2.1) * ((N j).2.2.2.2)) + (((N j).2.1) * ((N i).2.2.2.2)))), (4, .long ((((N i).1) * ((N j).2.2.2.2)) + (((N j).1) * ((N i).2.2.2.2)))), (0, .ref g), (1, .ref (na i)), (2, .ref (na j)), (3, .ref (na t))]) hx hb dX2_sum_93 hl (by decide) rfl ?_
  clear hl
  clear ls
  intro ls hl
  refine lv_aload_n hx hb dX2_sum_95 rfl (lv_at hl 3 rfl) ?_
  refine lv_aload_n hx hb dX2_sum_96 rfl (lv_at hl 3 rfl) ?_
  refine lv_aload_n hx hb dX2_sum_97 rfl (lv_at hl 4 rfl) ?_
  refine zgetN zf_X2_48 hF hB i (by omega) rfl dX2_sum_98 ?_
  refine lv_aload_n hx hb dX2_sum_101 rfl (lv_at hl 5 rfl) ?_
  refine zgetN zf_X2_32 hF hB j (by omega) rfl dX2_sum_102 ?_
  refine zVl zm_X2_35 hF hB (c_X2_times l D ka kb g na (((((((((false || tOv ((N i).1) ((N j).2.2.2.2)) || tOv ((N j).1) ((N i).2.2.2.2)) || pOv (((N i).1) * ((N j).2.2.2.2)) (((N j).1) * ((N i).2.2.2.2))) || tOv ((N i).2.1) ((N j).2.2.2.2)) || tOv ((N j).2.1) ((N i).2.2.2.2)) || pOv (((N i).2.1) * ((N j).2.2.2.2)) (((N j).2.1) * ((N i).2.2.2.2))) || tOv ((N i).2.2.1) ((N j).2.2.2.2)) || tOv ((N j).2.2.1) ((N i).2.2.2.2)) || pOv (((N i).2.2.1) * ((N j).2.2.2.2)) (((N j).2.2.1) * ((N i).2.2.2.2))) tp fp ip ((N i).2.2.2.1) ((N j).2.2.2.2) ) [0] rfl (by decide) [g] (fun _ => rfl) rfl 0 2 rfl rfl rfl ⟨Nat.le_of_ble_eq_true rfl, Nat.le_of_ble_eq_true rfl⟩ rfl hl.1 (Nat.le_of_ble_eq_true rfl) ⟨Nat.le_refl _, Nat.le_refl _⟩ dX2_sum_105 ?_
  clear hB
  try clear locs
  try clear H
  intro r10 u10 H locs hp hB
  obtain rfl : r10 = ((N i).2.2.2.1) * ((N j).2.2.2.2) := hp
  replace hB : zB D A s ([(g, .inr (2, [.int (bI ((((((((((false || tOv ((N i).1) ((N j).2.2.2.2)) || tOv ((N j).1) ((N i).2.2.2.2)) || pOv (((N i).1) * ((N j).2.2.2.2)) (((N j).1) * ((N i).2.2.2.2))) || tOv ((N i).2.1) ((N j).2.2.2.2)) || tOv ((N j).2.1) ((N i).2.2.2.2)) || pOv (((N i).2.1) * ((N j).2.2.2.2)) (((N j).2.1) * ((N i).2.2.2.2))) || tOv ((N i).2.2.1) ((N j).2.2.2.2)) || tOv ((N j).2.2.1) ((N i).2.2.2.2)) || pOv (((N i).2.2.1) * ((N j).2.2.2.2)) (((N j).2.2.1) * ((N i).2.2.2.2))) || tOv ((N i).2.2.2.1) ((N j).2.2.2.2))), .ref (na tp), .ref (na fp), .ref (na ip)]))] ++ nP na N) H locs := hB
  refine lv_aload_n hx hb dX2_sum_108 rfl (lv_at hl 3 rfl) ?_
  refine lv_aload_n hx hb dX2_sum_109 rfl (lv_at hl 5 rfl) ?_
  refine zgetN zf_X2_48 hF hB j (by omega) rfl dX2_sum_110 ?_
  refine lv_aload_n hx hb dX2_sum_113 rfl (lv_at hl 4 rfl) ?_
  refine zgetN zf_X2_32 hF hB i (by omega) rfl dX2_sum_114 ?_
  refine zVl zm_X2_35 hF hB (c_X2_times l D ka kb g na ((((((((((false || tOv ((N i).1) ((N j).2.2.2.2)) || tOv ((N j).1) ((N i).2.2.2.2)) || pOv (((N i).1) * ((N j).2.2.2.2)) (((N j).1) * ((N i).2.2.2.2))) || tOv ((N i).2.1) ((N j).2.2.2.2)) || tOv ((N j).2.1) ((N i).2.2.2.2)) || pOv (((N i).2.1) * ((N j).2.2.2.2)) (((N j).2.1) * ((N i).2.2.2.2))) || tOv ((N i).2.2.1) ((N j).2.2.2.2)) || tOv ((N j).2.2.1) ((N i).2.2.2.2)) || pOv (((N i).2.2.1) * ((N j).2.2.2.2)) (((N j).2.2.1) * ((N i).2.2.2.2))) || tOv ((N i).2.2.2.1) ((N j).2.2.2.2)) tp fp ip ((N j).2.2.2.1) ((N i).2.2.2.2) ) [0] rfl (by decide) [g] (fun _ => rfl) rfl 0 2 rfl rfl rfl ⟨Nat.le_of_ble_eq_true rfl, Nat.le_of_ble_eq_true rfl⟩ rfl hl.1 (Nat.le_of_ble_eq_true rfl) ⟨Nat.le_refl _, Nat.le_refl _⟩ dX2_sum_117 ?_
  clear hB
  try clear locs
  try clear H
  intro r11 u11 H locs hp hB
  obtain rfl : r11 = ((N j).2.2.2.1) * ((N i).2.2.2.2) := hp
  replace hB : zB D A s ([(g, .inr (2, [.int (bI (((((((((((false || tOv ((N i).1) ((N j).2.2.2.2)) || tOv ((N j).1) ((N i).2.2.2.2)) || pOv (((N i).1) * ((N j).2.2.2.2)) (((N j).1) * ((N i).2.2.2.2))) || tOv ((N i).2.1) ((N j).2.2.2.2)) || tOv ((N j).2.1) ((N i).2.2.2.2)) || pOv (((N i).2.1) * ((N j).2.2.2.2)) (((N j).2.1) * ((N i).2.2.2.2))) || tOv ((N i).2.2.1) ((N j).2.2.2.2)) || tOv ((N j).2.2.1) ((N i).2.2.2.2)) || pOv (((N i).2.2.1) * ((N j).2.2.2.2)) (((N j).2.2.1) * ((N i).2.2.2.2))) || tOv ((N i).2.2.2.1) ((N j).2.2.2.2)) || tOv ((N j).2.2.2.1) ((N i).2.2.2.2))), .ref (na tp), .ref (na fp), .ref (na ip)]))] ++ nP na N) H locs := hB
  refine zVl zm_X2_39 hF hB (c_X2_plus l D ka kb g na (((((((((((false || tOv ((N i).1) ((N j).2.2.2.2)) || tOv ((N j).1) ((N i).2.2.2.2)) || pOv (((N i).1) * ((N j).2.2.2.2)) (((N j).1) * ((N i).2.2.2.2))) || tOv ((N i).2.1) ((N j).2.2.2.2)) || tOv ((N j).2.1) ((N i).2.2.2.2)) || pOv (((N i).2.1) * ((N j).2.2.2.2)) (((N j).2.1) * ((N i).2.2.2.2))) || tOv ((N i).2.2.1) ((N j).2.2.2.2)) || tOv ((N j).2.2.1) ((N i).2.2.2.2)) || pOv (((N i).2.2.1) * ((N j).2.2.2.2)) (((N j).2.2.1) * ((N i).2.2.2.2))) || tOv ((N i).2.2.2.1) ((N j).2.2.2.2)) || tOv ((N j).2.2.2.1) ((N i).2.2.2.2)) tp fp ip (((N i).2.2.2.1) * ((N j).2.2.2.2)) (((N j).2.2.2.1) * ((N i).2.2.2.2)) ) [0] rfl (by decide) [g] (fun _ => rfl) rfl 0 2 rfl rfl rfl ⟨Nat.le_of_ble_eq_true rfl, Nat.le_of_ble_eq_true rfl⟩ rfl hl.1 (Nat.le_of_ble_eq_true rfl) ⟨Nat.le_refl _, Nat.le_refl _⟩ dX2_sum_120 ?_
  clear hB
  try clear locs
  try clear H
  intro r12 u12 H locs hp hB
  obtain rfl : r12 = (((N i).2.2.2.1) * ((N j).2.2.2.2)) + (((N j).2.2.2.1) * ((N i).2.2.2.2)) := hp
  replace hB : zB D A s ([(g, .inr (2, [.int (bI ((((((((((((false || tOv ((N i).1) ((N j).2.2.2.2)) || tOv ((N j).1) ((N i).2.2.2.2)) || pOv (((N i).1) * ((N j).2.2.2.2)) (((N j).1) * ((N i).2.2.2.2))) || tOv ((N i).2.1) ((N j).2.2.2.2)) || tOv ((N j).2.1) ((N i).2.2.2.2)) || pOv (((N i).2.1) * ((N j).2.2.2.2)) (((N j).2.1) * ((N i).2.2.2.2))) || tOv ((N i).2.2.1) ((N j).2.2.2.2)) || tOv ((N j).2.2.1) ((N i).2.2.2.2)) || pOv (((N i).2.2.1) * ((N j).2.2.2.2)) (((N j).2.2.1) * ((N i).2.2.2.2))) || tOv ((N i).2.2.2.1) ((N j).2.2.2.2)) || tOv ((N j).2.2.2.1) ((N i).2.2.2.2)) || pOv (((N i).2.2.2.1) * ((N j).2.2.2.2)) (((N j).2.2.2.1) * ((N i).2.2.2.2)))), .ref (na tp), .ref (na fp), .ref (na ip)]))] ++ nP na N) H locs := hB
  refine lv_lstore (lv' := [(10, .long ((((N i).2.2.2.1) * ((N j).2.2.2.2)) + (((N j).2.2.2.1) * ((N i).2.2.2.2)))), (8, .long ((((N i).2.2.1) * ((N j).2.2.2.2)) + (((N j).2.2.1) * ((N i).2.2.2.2)))), (6, .long ((((N i).2.1) * ((N j).2.2.2.2)) + (((N j).2.1) * ((N i).2.2.2.2)))), (4, .long ((((N i).1) * ((N j).2.2.2.2)) + (((N j).1) * ((N i).2.2.2.2)))), (0, .ref g), (1, .ref (na i)), (2, .ref (na j)), (3, .ref (na t))]) hx hb dX2_sum_123 hl (by decide) rfl ?_
  clear hl
  clear ls
  intro ls hl
  refine lv_aload_n hx hb dX2_sum_125 rfl (lv_at hl 4 rfl) ?_
  refine lv_aload_n hx hb dX2_sum_126 rfl (lv_at hl 7 rfl) ?_
  refine lv_lload hx hb dX2_sum_127 (lv_at hl 3 rfl) ?_
  refine lv_lload hx hb dX2_sum_129 (lv_at hl 2 rfl) ?_
  refine lv_lload hx hb dX2_sum_131 (lv_at hl 1 rfl) ?_
  refine lv_lload hx hb dX2_sum_133 (lv_at hl 0 rfl) ?_
  refine lv_aload_n hx hb dX2_sum_135 rfl (lv_at hl 4 rfl) ?_
  refine lv_aload_n hx hb dX2_sum_136 rfl (lv_at hl 5 rfl) ?_
  refine zgetN zf_X2_32 hF hB i (by omega) rfl dX2_sum_137 ?_
  refine lv_aload_n hx hb dX2_sum_140 rfl (lv_at hl 6 rfl) ?_
  refine zgetN zf_X2_32 hF hB j (by omega) rfl dX2_sum_141 ?_
  refine zVl16 zm_X2_35 hF hB (c_X2_times l D ka kb g na ((((((((((((false || tOv ((N i).1) ((N j).2.2.2.2)) || tOv ((N j).1) ((N i).2.2.2.2)) || pOv (((N i).1) * ((N j).2.2.2.2)) (((N j).1) * ((N i).2.2.2.2))) || tOv ((N i).2.1) ((N j).2.2.2.2)) || tOv ((N j).2.1) ((N i).2.2.2.2)) || pOv (((N i).2.1) * ((N j).2.2.2.2)) (((N j).2.1) * ((N i).2.2.2.2))) || tOv ((N i).2.2.1) ((N j).2.2.2.2)) || tOv ((N j).2.2.1) ((N i).2.2.2.2)) || pOv (((N i).2.2.1) * ((N j).2.2.2.2)) (((N j).2.2.1) * ((N i).2.2.2.2))) || tOv ((N i).2.2.2.1) ((N j).2.2.2.2)) || tOv ((N j).2.2.2.1) ((N i).2.2.2.2)) || pOv (((N i).2.2.2.1) * ((N j).2.2.2.2)) (((N j).2.2.2.1) * ((N i).2.2.2.2))) tp fp ip ((N i).2.2.2.2) ((N j).2.2.2.2) ) [0] rfl (by decide) [g] (fun _ => rfl) rfl 0 2 rfl rfl rfl ⟨Nat.le_of_ble_eq_true rfl, Nat.le_of_ble_eq_true rfl⟩ rfl hl.1 (Nat.le_of_ble_eq_true rfl) ⟨Nat.le_refl _, Nat.le_refl _⟩ dX2_sum_144 ?_
  clear hB
  try clear locs
  try clear H
  intro r13 u13 H locs hp hB
  obtain rfl : r13 = ((N i).2.2.2.2) * ((N j).2.2.2.2) := hp
  replace hB : zB D A s ([(g, .inr (2, [.int (bI (((((((((((((false || tOv ((N i).1) ((N j).2.2.2.2)) || tOv ((N j).1) ((N i).2.2.2.2)) || pOv (((N i).1) * ((N j).2.2.2.2)) (((N j).1) * ((N i).2.2.2.2))) || tOv ((N i).2.1) ((N j).2.2.2.2)) || tOv ((N j).2.1) ((N i).2.2.2.2)) || pOv (((N i).2.1) * ((N j).2.2.2.2)) (((N j).2.1) * ((N i).2.2.2.2))) || tOv ((N i).2.2.1) ((N j).2.2.2.2)) || tOv ((N j).2.2.1) ((N i).2.2.2.2)) || pOv (((N i).2.2.1) * ((N j).2.2.2.2)) (((N j).2.2.1) * ((N i).2.2.2.2))) || tOv ((N i).2.2.2.1) ((N j).2.2.2.2)) || tOv ((N j).2.2.2.1) ((N i).2.2.2.2)) || pOv (((N i).2.2.2.1) * ((N j).2.2.2.2)) (((N j).2.2.2.1) * ((N i).2.2.2.2))) || tOv ((N i).2.2.2.2) ((N j).2.2.2.2))), .ref (na tp), .ref (na fp), .ref (na ip)]))] ++ nP na N) H locs := hB
  have hE : sumO false (N i) (N j) = (((((((((((((false || tOv ((N i).1) ((N j).2.2.2.2)) || tOv ((N j).1) ((N i).2.2.2.2)) || pOv (((N i).1) * ((N j).2.2.2.2)) (((N j).1) * ((N i).2.2.2.2))) || tOv ((N i).2.1) ((N j).2.2.2.2)) || tOv ((N j).2.1) ((N i).2.2.2.2)) || pOv (((N i).2.1) * ((N j).2.2.2.2)) (((N j).2.1) * ((N i).2.2.2.2))) || tOv ((N i).2.2.1) ((N j).2.2.2.2)) || tOv ((N j).2.2.1) ((N i).2.2.2.2)) || pOv (((N i).2.2.1) * ((N j).2.2.2.2)) (((N j).2.2.1) * ((N i).2.2.2.2))) || tOv ((N i).2.2.2.1) ((N j).2.2.2.2)) || tOv ((N j).2.2.2.1) ((N i).2.2.2.2)) || pOv (((N i).2.2.2.1) * ((N j).2.2.2.2)) (((N j).2.2.2.1) * ((N i).2.2.2.2))) || tOv ((N i).2.2.2.2) ((N j).2.2.2.2)) := by simp [sumO, ssO, sgO, Bool.or_assoc]
  refine zVi zm_X2_51 hF hB (c_X2_deliver l D ka kb g na (((((((((((((false || tOv ((N i).1) ((N j).2.2.2.2)) || tOv ((N j).1) ((N i).2.2.2.2)) || pOv (((N i).1) * ((N j).2.2.2.2)) (((N j).1) * ((N i).2.2.2.2))) || tOv ((N i).2.1) ((N j).2.2.2.2)) || tOv ((N j).2.1) ((N i).2.2.2.2)) || pOv (((N i).2.1) * ((N j).2.2.2.2)) (((N j).2.1) * ((N i).2.2.2.2))) || tOv ((N i).2.2.1) ((N j).2.2.2.2)) || tOv ((N j).2.2.1) ((N i).2.2.2.2)) || pOv (((N i).2.2.1) * ((N j).2.2.2.2)) (((N j).2.2.1) * ((N i).2.2.2.2))) || tOv ((N i).2.2.2.1) ((N j).2.2.2.2)) || tOv ((N j).2.2.2.1) ((N i).2.2.2.2)) || pOv (((N i).2.2.2.1) * ((N j).2.2.2.2)) (((N j).2.2.2.1) * ((N i).2.2.2.2))) || tOv ((N i).2.2.2.2) ((N j).2.2.2.2)) tp fp ip N t ((((N i).1) * ((N j).2.2.2.2)) + (((N j).1) * ((N i).2.2.2.2))) ((((N i).2.1) * ((N j).2.2.2.2)) + (((N j).2.1) * ((N i).2.2.2.2))) ((((N i).2.2.1) * ((N j).2.2.2.2)) + (((N j).2.2.1) * ((N i).2.2.2.2))) ((((N i).2.2.2.1) * ((N j).2.2.2.2)) + (((N j).2.2.2.1) * ((N i).2.2.2.2))) (((N i).2.2.2.2) * ((N j).2.2.2.2)) (ht) (fun e8 => by
    rw [← hE] at e8
    have e7 := sumO_d e8
    rw [i64_mul e7]; exact Int.mul_pos hdi hdj)) ([0] ++ npr 1) (zsel_pool rfl rfl) (va_nd_pool rfl rfl) ([g] ++ nA na) (fun _ => zad_pool rfl) (zad_pool rfl) 0 2 rfl rfl rfl ⟨Nat.le_of_ble_eq_true rfl, Nat.le_of_ble_eq_true rfl⟩ rfl hl.1 (Nat.le_of_ble_eq_true rfl) ⟨Nat.le_refl _, Nat.le_refl _⟩ dX2_sum_147 ?_
  clear hB
  try clear locs
  try clear H
  intro r14 u14 H locs hp hB
  obtain rfl : r14 = bI (!(((((((((((((false || tOv ((N i).1) ((N j).2.2.2.2)) || tOv ((N j).1) ((N i).2.2.2.2)) || pOv (((N i).1) * ((N j).2.2.2.2)) (((N j).1) * ((N i).2.2.2.2))) || tOv ((N i).2.1) ((N j).2.2.2.2)) || tOv ((N j).2.1) ((N i).2.2.2.2)) || pOv (((N i).2.1) * ((N j).2.2.2.2)) (((N j).2.1) * ((N i).2.2.2.2))) || tOv ((N i).2.2.1) ((N j).2.2.2.2)) || tOv ((N j).2.2.1) ((N i).2.2.2.2)) || pOv (((N i).2.2.1) * ((N j).2.2.2.2)) (((N j).2.2.1) * ((N i).2.2.2.2))) || tOv ((N i).2.2.2.1) ((N j).2.2.2.2)) || tOv ((N j).2.2.2.1) ((N i).2.2.2.2)) || pOv (((N i).2.2.2.1) * ((N j).2.2.2.2)) (((N j).2.2.2.1) * ((N i).2.2.2.2))) || tOv ((N i).2.2.2.2) ((N j).2.2.2.2))) := hp
  replace hB : zB D A s ([(g, .inr (2, [.int (bI (((((((((((((false || tOv ((N i).1) ((N j).2.2.2.2)) || tOv ((N j).1) ((N i).2.2.2.2)) || pOv (((N i).1) * ((N j).2.2.2.2)) (((N j).1) * ((N i).2.2.2.2))) || tOv ((N i).2.1) ((N j).2.2.2.2)) || tOv ((N j).2.1) ((N i).2.2.2.2)) || pOv (((N i).2.1) * ((N j).2.2.2.2)) (((N j).2.1) * ((N i).2.2.2.2))) || tOv ((N i).2.2.1) ((N j).2.2.2.2)) || tOv ((N j).2.2.1) ((N i).2.2.2.2)) || pOv (((N i).2.2.1) * ((N j).2.2.2.2)) (((N j).2.2.1) * ((N i).2.2.2.2))) || tOv ((N i).2.2.2.1) ((N j).2.2.2.2)) || tOv ((N j).2.2.2.1) ((N i).2.2.2.2)) || pOv (((N i).2.2.2.1) * ((N j).2.2.2.2)) (((N j).2.2.2.1) * ((N i).2.2.2.2))) || tOv ((N i).2.2.2.2) ((N j).2.2.2.2))), .ref (na tp), .ref (na fp), .ref (na ip)]))] ++ nP na (if (((((((((((((false || tOv ((N i).1) ((N j).2.2.2.2)) || tOv ((N j).1) ((N i).2.2.2.2)) || pOv (((N i).1) * ((N j).2.2.2.2)) (((N j).1) * ((N i).2.2.2.2))) || tOv ((N i).2.1) ((N j).2.2.2.2)) || tOv ((N j).2.1) ((N i).2.2.2.2)) || pOv (((N i).2.1) * ((N j).2.2.2.2)) (((N j).2.1) * ((N i).2.2.2.2))) || tOv ((N i).2.2.1) ((N j).2.2.2.2)) || tOv ((N j).2.2.1) ((N i).2.2.2.2)) || pOv (((N i).2.2.1) * ((N j).2.2.2.2)) (((N j).2.2.1) * ((N i).2.2.2.2))) || tOv ((N i).2.2.2.1) ((N j).2.2.2.2)) || tOv ((N j).2.2.2.1) ((N i).2.2.2.2)) || pOv (((N i).2.2.2.1) * ((N j).2.2.2.2)) (((N j).2.2.2.1) * ((N i).2.2.2.2))) || tOv ((N i).2.2.2.2) ((N j).2.2.2.2)) = true then N else upN N t (lowN ((((N i).1) * ((N j).2.2.2.2)) + (((N j).1) * ((N i).2.2.2.2))) ((((N i).2.1) * ((N j).2.2.2.2)) + (((N j).2.1) * ((N i).2.2.2.2))) ((((N i).2.2.1) * ((N j).2.2.2.2)) + (((N j).2.2.1) * ((N i).2.2.2.2))) ((((N i).2.2.2.1) * ((N j).2.2.2.2)) + (((N j).2.2.2.1) * ((N i).2.2.2.2))) (((N i).2.2.2.2) * ((N j).2.2.2.2))))) H locs := zB_pool hB rfl rfl rfl rfl
  exact zreti hF hB () (by rw [hE]) (by rw [hE] <;> rfl) (zbI_n _) dX2_sum_150 hQ

set_option maxHeartbeats 4000000 in
set_option maxRecDepth 100000 in
theorem c_X2_difference (l : Launch) (D : va_G) (ka : Nat → ClassId) (kb : Nat → Nat) (g : Nat) (na : Nat → Nat) (o : Bool) (tp : Nat) (fp : Nat) (ip : Nat) (N : Nat → N5) (t : Nat) (i : Nat) (j : Nat) (ht : t < 41) (hi : i < 41) (hj : j < 41) (hdi : 0 < (N i).2.2.2.2.toInt) (hdj : 0 < (N j).2.2.2.2.toInt) : zI l D ka kb yX2_difference cX2_difference 12 .boolean 4 143 [.ref g, .ref (na i), .ref (na j), .ref (na t)] ([(g, .inr (2, [.int (bI o), .ref (na tp), .ref (na fp), .ref (na ip)]))] ++ nP na N) (fun (r : Int32) (_ : Unit) => r = bI (!(sumO true (N i) (N j)))) (fun (_ : Unit) => [(g, .inr (2, [.int (bI (sumO true (N i) (N j))), .ref (na tp), .ref (na fp), .ref (na ip)]))] ++ nP na (if sumO true (N i) (N j) = true then N else upN N t (sumV true (N i) (N j)))) := by
  refine zI.mk RX2 (by decide +kernel) rfl (Nat.le_of_ble_eq_true rfl) ?_
  intro p e s m below meth c A ls args Q hQ hx hb hF hB hl
  replace hl : lv_has ls 12 [(0, .ref g), (1, .ref (na i)), (2, .ref (na j)), (3, .ref (na t))] := hl
  refine lv_aload_n hx hb dX2_difference_0 rfl (lv_at hl 0 rfl) ?_
  refine lv_iconst (v := 0) hx hb dX2_difference_1 (by decide) ?_
  refine zput_f zp_X2_24 hF hB 0 rfl (rfl) (rfl) (Nat.le_of_ble_eq_true rfl) dX2_difference_2 ?_
  clear hB
  try clear locs
  try clear H
  intro H locs hB
  replace hB : zB D A s ([(g, .inr (2, [.int (0 : Int32), .ref (na tp), .ref (na fp), .ref (na ip)]))] ++ nP na N) H locs := hB
  refine lv_aload_n hx hb dX2_difference_5 rfl (lv_at hl 0 rfl) ?_
  refine lv_aload_n hx hb dX2_difference_6 rfl (lv_at hl 0 rfl) ?_
  refine lv_aload_n hx hb dX2_difference_7 rfl (lv_at hl 1 rfl) ?_
  refine zgetN zf_X2_28 hF hB i (by omega) rfl dX2_difference_8 ?_
  refine lv_aload_n hx hb dX2_difference_11 rfl (lv_at hl 2 rfl) ?_
  refine zgetN zf_X2_32 hF hB j (by omega) rfl dX2_difference_12 ?_
  refine zVl zm_X2_35 hF hB (c_X2_times l D ka kb g na false tp fp ip ((N i).1) ((N j).2.2.2.2) ) [0] rfl (by decide) [g] (fun _ => rfl) rfl 0 2 rfl rfl rfl ⟨Nat.le_of_ble_eq_true rfl, Nat.le_of_ble_eq_true rfl⟩ rfl hl.1 (Nat.le_of_ble_eq_true rfl) ⟨Nat.le_refl _, Nat.le_refl _⟩ dX2_difference_15 ?_
  clear hB
  try clear locs
  try clear H
  intro r1 u1 H locs hp hB
  obtain rfl : r1 = ((N i).1) * ((N j).2.2.2.2) := hp
  replace hB : zB D A s ([(g, .inr (2, [.int (bI (false || tOv ((N i).1) ((N j).2.2.2.2))), .ref (na tp), .ref (na fp), .ref (na ip)]))] ++ nP na N) H locs := hB
  refine lv_aload_n hx hb dX2_difference_18 rfl (lv_at hl 0 rfl) ?_
  refine lv_aload_n hx hb dX2_difference_19 rfl (lv_at hl 2 rfl) ?_
  refine zgetN zf_X2_28 hF hB j (by omega) rfl dX2_difference_20 ?_
  refine lv_aload_n hx hb dX2_difference_23 rfl (lv_at hl 1 rfl) ?_
  refine zgetN zf_X2_32 hF hB i (by omega) rfl dX2_difference_24 ?_
  refine zVl zm_X2_35 hF hB (c_X2_times l D ka kb g na (false || tOv ((N i).1) ((N j).2.2.2.2)) tp fp ip ((N j).1) ((N i).2.2.2.2) ) [0] rfl (by decide) [g] (fun _ => rfl) rfl 0 2 rfl rfl rfl ⟨Nat.le_of_ble_eq_true rfl, Nat.le_of_ble_eq_true rfl⟩ rfl hl.1 (Nat.le_of_ble_eq_true rfl) ⟨Nat.le_refl _, Nat.le_refl _⟩ dX2_difference_27 ?_
  clear hB
  try clear locs
  try clear H
  intro r2 u2 H locs hp hB
  obtain rfl : r2 = ((N j).1) * ((N i).2.2.2.2) := hp
  replace hB : zB D A s ([(g, .inr (2, [.int (bI ((false || tOv ((N i).1) ((N j).2.2.2.2)) || tOv ((N j).1) ((N i).2.2.2.2))), .ref (na tp), .ref (na fp), .ref (na ip)]))] ++ nP na N) H locs := hB
  refine zVl zm_X2_55 hF hB (c_X2_less l D ka kb g na ((false || tOv ((N i).1) ((N j).2.2.2.2)) || tOv ((N j).1) ((N i).2.2.2.2)) tp fp ip (((N i).1) * ((N j).2.2.2.2)) (((N j).1) * ((N i).2.2.2.2)) ) [0] rfl (by decide) [g] (fun _ => rfl) rfl 0 2 rfl rfl rfl ⟨Nat.le_of_ble_eq_true rfl, Nat.le_of_ble_eq_true rfl⟩ rfl hl.1 (Nat.le_of_ble_eq_true rfl) ⟨Nat.le_refl _, Nat.le_refl _⟩ dX2_difference_30 ?_
  clear hB
  try clear locs
  try clear H
  intro r3 u3 H locs hp hB
  obtain rfl : r3 = (((N i).1) * ((N j).2.2.2.2)) - (((N j).1) * ((N i).2.2.2.2)) := hp
  replace hB : zB D A s ([(g, .inr (2, [.int (bI (((false || tOv ((N i).1) ((N j).2.2.2.2)) || tOv ((N j).1) ((N i).2.2.2.2)) || mOv (((N i).1) * ((N j).2.2.2.2)) (((N j).1) * ((N i).2.2.2.2)))), .ref (na tp), .ref (na fp), .ref (na ip)]))] ++ nP na N) H locs := hB
  refine lv_lstore (lv' := [(4, .long ((((N i).1) * ((N j).2.2.2.2)) - (((N j).1) * ((N i).2.2.2.2)))), (0, .ref g), (1, .ref (na i)), (2, .ref (na j)), (3, .ref (na t))]) hx hb dX2_difference_33 hl (by decide) rfl ?_
  clear hl
  clear ls
  intro ls hl
  refine lv_aload_n hx hb dX2_difference_35 rfl (lv_at hl 1 rfl) ?_
  refine lv_aload_n hx hb dX2_difference_36 rfl (lv_at hl 1 rfl) ?_
  refine lv_aload_n hx hb dX2_difference_37 rfl (lv_at hl 2 rfl) ?_
  refine zgetN zf_X2_42 hF hB i (by omega) rfl dX2_difference_38 ?_
  refine lv_aload_n hx hb dX2_difference_41 rfl (lv_at hl 3 rfl) ?_
  refine zgetN zf_X2_32 hF hB j (by omega) rfl dX2_difference_42 ?_
  refine zVl zm_X2_35 hF hB (c_X2_times l D ka kb g na (((false || tOv ((N i).1) ((N j).2.2.2.2)) || tOv ((N j).1) ((N i).2.2.2.2)) || mOv (((N i).1) * ((N j).2.2.2.2)) (((N j).1) * ((N i).2.2.2.2))) tp fp ip ((N i).2.1) ((N j).2.2.2.2) ) [0] rfl (by decide) [g] (fun _ => rfl) rfl 0 2 rfl rfl rfl ⟨Nat.le_of_ble_eq_true rfl, Nat.le_of_ble_eq_true rfl⟩ rfl hl.1 (Nat.le_of_ble_eq_true rfl) ⟨Nat.le_refl _, Nat.le_refl _⟩ dX2_difference_45 ?_
  clear hB
  try clear locs
  try clear H
  intro r4 u4 H locs hp hB
  obtain rfl : r4 = ((N i).2.1) * ((N j).2.2.2.2) := hp
  replace hB : zB D A s ([(g, .inr (2, [.int (bI ((((false || tOv ((N i).1) ((N j).2.2.2.2)) || tOv ((N j).1) ((N i).2.2.2.2)) || mOv (((N i).1) * ((N j).2.2.2.2)) (((N j).1) * ((N i).2.2.2.2))) || tOv ((N i).2.1) ((N j).2.2.2.2))), .ref (na tp), .ref (na fp), .ref (na ip)]))] ++ nP na N) H locs := hB
  refine lv_aload_n hx hb dX2_difference_48 rfl (lv_at hl 1 rfl) ?_
  refine lv_aload_n hx hb dX2_difference_49 rfl (lv_at hl 3 rfl) ?_
  refine zgetN zf_X2_42 hF hB j (by omega) rfl dX2_difference_50 ?_
  refine lv_aload_n hx hb dX2_difference_53 rfl (lv_at hl 2 rfl) ?_
  refine zgetN zf_X2_32 hF hB i (by omega) rfl dX2_difference_54 ?_
  refine zVl zm_X2_35 hF hB (c_X2_times l D ka kb g na ((((false || tOv ((N i).1) ((N j).2.2.2.2)) || tOv ((N j).1) ((N i).2.2.2.2)) || mOv (((N i).1) * ((N j).2.2.2.2)) (((N j).1) * ((N i).2.2.2.2))) || tOv ((N i).2.1) ((N j).2.2.2.2)) tp fp ip ((N j).2.1) ((N i).2.2.2.2) ) [0] rfl (by decide) [g] (fun _ => rfl) rfl 0 2 rfl rfl rfl ⟨Nat.le_of_ble_eq_true rfl, Nat.le_of_ble_eq_true rfl⟩ rfl hl.1 (Nat.le_of_ble_eq_true rfl) ⟨Nat.le_refl _, Nat.le_refl _⟩ dX2_difference_57 ?_
  clear hB
  try clear locs
  try clear H
  intro r5 u5 H locs hp hB
  obtain rfl : r5 = ((N j).2.1) * ((N i).2.2.2.2) := hp
  replace hB : zB D A s ([(g, .inr (2, [.int (bI (((((false || tOv ((N i).1) ((N j).2.2.2.2)) || tOv ((N j).1) ((N i).2.2.2.2)) || mOv (((N i).1) * ((N j).2.2.2.2)) (((N j).1) * ((N i).2.2.2.2))) || tOv ((N i).2.1) ((N j).2.2.2.2)) || tOv ((N j).2.1) ((N i).2.2.2.2))), .ref (na tp), .ref (na fp), .ref (na ip)]))] ++ nP na N) H locs := hB
  refine zVl zm_X2_55 hF hB (c_X2_less l D ka kb g na (((((false || tOv ((N i).1) ((N j).2.2.2.2)) || tOv ((N j).1) ((N i).2.2.2.2)) || mOv (((N i).1) * ((N j).2.2.2.2)) (((N j).1) * ((N i).2.2.2.2))) || tOv ((N i).2.1) ((N j).2.2.2.2)) || tOv ((N j).2.1) ((N i).2.2.2.2)) tp fp ip (((N i).2.1) * ((N j).2.2.2.2)) (((N j).2.1) * ((N i).2.2.2.2)) ) [0] rfl (by decide) [g] (fun _ => rfl) rfl 0 2 rfl rfl rfl ⟨Nat.le_of_ble_eq_true rfl, Nat.le_of_ble_eq_true rfl⟩ rfl hl.1 (Nat.le_of_ble_eq_true rfl) ⟨Nat.le_refl _, Nat.le_refl _⟩ dX2_difference_60 ?_
  clear hB
  try clear locs
  try clear H
  intro r6 u6 H locs hp hB
  obtain rfl : r6 = (((N i).2.1) * ((N j).2.2.2.2)) - (((N j).2.1) * ((N i).2.2.2.2)) := hp
  replace hB : zB D A s ([(g, .inr (2, [.int (bI ((((((false || tOv ((N i).1) ((N j).2.2.2.2)) || tOv ((N j).1) ((N i).2.2.2.2)) || mOv (((N i).1) * ((N j).2.2.2.2)) (((N j).1) * ((N i).2.2.2.2))) || tOv ((N i).2.1) ((N j).2.2.2.2)) || tOv ((N j).2.1) ((N i).2.2.2.2)) || mOv (((N i).2.1) * ((N j).2.2.2.2)) (((N j).2.1) * ((N i).2.2.2.2)))), .ref (na tp), .ref (na fp), .ref (na ip)]))] ++ nP na N) H locs := hB
  refine lv_lstore (lv' := [(6, .long ((((N i).2.1) * ((N j).2.2.2.2)) - (((N j).2.1) * ((N i).2.2.2.2)))), (4, .long ((((N i).1) * ((N j).2.2.2.2)) - (((N j).1) * ((N i).2.2.2.2)))), (0, .ref g), (1, .ref (na i)), (2, .ref (na j)), (3, .ref (na t))]) hx hb dX2_difference_63 hl (by decide) rfl ?_
  clear hl
  clear ls
  intro ls hl
  refine lv_aload_n hx hb dX2_difference_65 rfl (lv_at hl 2 rfl) ?_
  refine lv_aload_n hx hb dX2_difference_66 rfl (lv_at hl 2 rfl) ?_
  refine lv_aload_n hx hb dX2_difference_67 rfl (lv_at hl 3 rfl) ?_
  refine zgetN zf_X2_45 hF hB i (by omega) rfl dX2_difference_68 ?_
  refine lv_aload_n hx hb dX2_difference_71 rfl (lv_at hl 4 rfl) ?_
  refine zgetN zf_X2_32 hF hB j (by omega) rfl dX2_difference_72 ?_
  refine zVl zm_X2_35 hF hB (c_X2_times l D ka kb g na ((((((false || tOv ((N i).1) ((N j).2.2.2.2)) || tOv ((N j).1) ((N i).2.2.2.2)) || mOv (((N i).1) * ((N j).2.2.2.2)) (((N j).1) * ((N i).2.2.2.2))) || tOv ((N i).2.1) ((N j).2.2.2.2)) || tOv ((N j).2.1) ((N i).2.2.2.2)) || mOv (((N i).2.1) * ((N j).2.2.2.2)) (((N j).2.1) * ((N i).2.2.2.2))) tp fp ip ((N i).2.2.1) ((N j).2.2.2.2) ) [0] rfl (by decide) [g] (fun _ => rfl) rfl 0 2 rfl rfl rfl ⟨Nat.le_of_ble_eq_true rfl, Nat.le_of_ble_eq_true rfl⟩ rfl hl.1 (Nat.le_of_ble_eq_true rfl) ⟨Nat.le_refl _, Nat.le_refl _⟩ dX2_difference_75 ?_
  clear hB
  try clear locs
  try clear H
  intro r7 u7 H locs hp hB
  obtain rfl : r7 = ((N i).2.2.1) * ((N j).2.2.2.2) := hp
  replace hB : zB D A s ([(g, .inr (2, [.int (bI (((((((false || tOv ((N i).1) ((N j).2.2.2.2)) || tOv ((N j).1) ((N i).2.2.2.2)) || mOv (((N i).1) * ((N j).2.2.2.2)) (((N j).1) * ((N i).2.2.2.2))) || tOv ((N i).2.1) ((N j).2.2.2.2)) || tOv ((N j).2.1) ((N i).2.2.2.2)) || mOv (((N i).2.1) * ((N j).2.2.2.2)) (((N j).2.1) * ((N i).2.2.2.2))) || tOv ((N i).2.2.1) ((N j).2.2.2.2))), .ref (na tp), .ref (na fp), .ref (na ip)]))] ++ nP na N) H locs := hB
  refine lv_aload_n hx hb dX2_difference_78 rfl (lv_at hl 2 rfl) ?_
  refine lv_aload_n hx hb dX2_difference_79 rfl (lv_at hl 4 rfl) ?_
  refine zgetN zf_X2_45 hF hB j (by omega) rfl dX2_difference_80 ?_
  refine lv_aload_n hx hb dX2_difference_83 rfl (lv_at hl 3 rfl) ?_
  refine zgetN zf_X2_32 hF hB i (by omega) rfl dX2_difference_84 ?_
  refine zVl zm_X2_35 hF hB (c_X2_times l D ka kb g na (((((((false || tOv ((N i).1) ((N j).2.2.2.2)) || tOv ((N j).1) ((N i).2.2.2.2)) || mOv (((N i).1) * ((N j).2.2.2.2)) (((N j).1) * ((N i).2.2.2.2))) || tOv ((N i).2.1) ((N j).2.2.2.2)) || tOv ((N j).2.1) ((N i).2.2.2.2)) || mOv (((N i).2.1) * ((N j).2.2.2.2)) (((N j).2.1) * ((N i).2.2.2.2))) || tOv ((N i).2.2.1) ((N j).2.2.2.2)) tp fp ip ((N j).2.2.1) ((N i).2.2.2.2) ) [0] rfl (by decide) [g] (fun _ => rfl) rfl 0 2 rfl rfl rfl ⟨Nat.le_of_ble_eq_true rfl, Nat.le_of_ble_eq_true rfl⟩ rfl hl.1 (Nat.le_of_ble_eq_true rfl) ⟨Nat.le_refl _, Nat.le_refl _⟩ dX2_difference_87 ?_
  clear hB
  try clear locs
  try clear H
  intro r8 u8 H locs hp hB
  obtain rfl : r8 = ((N j).2.2.1) * ((N i).2.2.2.2) := hp
  replace hB : zB D A s ([(g, .inr (2, [.int (bI ((((((((false || tOv ((N i).1) ((N j).2.2.2.2)) || tOv ((N j).1) ((N i).2.2.2.2)) || mOv (((N i).1) * ((N j).2.2.2.2)) (((N j).1) * ((N i).2.2.2.2))) || tOv ((N i).2.1) ((N j).2.2.2.2)) || tOv ((N j).2.1) ((N i).2.2.2.2)) || mOv (((N i).2.1) * ((N j).2.2.2.2)) (((N j).2.1) * ((N i).2.2.2.2))) || tOv ((N i).2.2.1) ((N j).2.2.2.2)) || tOv ((N j).2.2.1) ((N i).2.2.2.2))), .ref (na tp), .ref (na fp), .ref (na ip)]))] ++ nP na N) H locs := hB
  refine zVl zm_X2_55 hF hB (c_X2_less l D ka kb g na ((((((((false || tOv ((N i).1) ((N j).2.2.2.2)) || tOv ((N j).1) ((N i).2.2.2.2)) || mOv (((N i).1) * ((N j).2.2.2.2)) (((N j).1) * ((N i).2.2.2.2))) || tOv ((N i).2.1) ((N j).2.2.2.2)) || tOv ((N j).2.1) ((N i).2.2.2.2)) || mOv (((N i).2.1) * ((N j).2.2.2.2)) (((N j).2.1) * ((N i).2.2.2.2))) || tOv ((N i).2.2.1) ((N j).2.2.2.2)) || tOv ((N j).2.2.1) ((N i).2.2.2.2)) tp fp ip (((N i).2.2.1) * ((N j).2.2.2.2)) (((N j).2.2.1) * ((N i).2.2.2.2)) ) [0] rfl (by decide) [g] (fun _ => rfl) rfl 0 2 rfl rfl rfl ⟨Nat.le_of_ble_eq_true rfl, Nat.le_of_ble_eq_true rfl⟩ rfl hl.1 (Nat.le_of_ble_eq_true rfl) ⟨Nat.le_refl _, Nat.le_refl _⟩ dX2_difference_90 ?_
  clear hB
  try clear locs
  try clear H
  intro r9 u9 H locs hp hB
  obtain rfl : r9 = (((N i).2.2.1) * ((N j).2.2.2.2)) - (((N j).2.2.1) * ((N i).2.2.2.2)) := hp
  replace hB : zB D A s ([(g, .inr (2, [.int (bI (((((((((false || tOv ((N i).1) ((N j).2.2.2.2)) || tOv ((N j).1) ((N i).2.2.2.2)) || mOv (((N i).1) * ((N j).2.2.2.2)) (((N j).1) * ((N i).2.2.2.2))) || tOv ((N i).2.1) ((N j).2.2.2.2)) || tOv ((N j).2.1) ((N i).2.2.2.2)) || mOv (((N i).2.1) * ((N j).2.2.2.2)) (((N j).2.1) * ((N i).2.2.2.2))) || tOv ((N i).2.2.1) ((N j).2.2.2.2)) || tOv ((N j).2.2.1) ((N i).2.2.2.2)) || mOv (((N i).2.2.1) * ((N j).2.2.2.2)) (((N j).2.2.1) * ((N i).2.2.2.2)))), .ref (na tp), .ref (na fp), .ref (na ip)]))] ++ nP na N) H locs := hB
  refine lv_lstore (lv' := [(8, .long ((((N i).2.2.1) * ((N j).2.2.2.2)) - (((N j).2.2.1) * ((N i).2.2.2.2)))), (6, .long ((((N i).2.1) * ((N j).2.2.2.2)) - (((N j).2.1) * ((N i).2.2.2.2)))), (4, .long ((((N i).1) * ((N j).2.2.2.2)) - (((N j).1) * ((N i).2.2.2.2)))), (0, .ref g), (1, .ref (na i)), (2, .ref (na j)), (3, .ref (na t))]) hx hb dX2_difference_93 hl (by decide) rfl ?_
  clear hl
  clear ls
  intro ls hl
  refine lv_aload_n hx hb dX2_difference_95 rfl (lv_at hl 3 rfl) ?_
  refine lv_aload_n hx hb dX2_difference_96 rfl (lv_at hl 3 rfl) ?_
  refine lv_aload_n hx hb dX2_difference_97 rfl (lv_at hl 4 rfl) ?_
  refine zgetN zf_X2_48 hF hB i (by omega) rfl dX2_difference_98 ?_
  refine lv_aload_n hx hb dX2_difference_101 rfl (lv_at hl 5 rfl) ?_
  refine zgetN zf_X2_32 hF hB j (by omega) rfl dX2_difference_102 ?_
  refine zVl zm_X2_35 hF hB (c_X2_times l D ka kb g na (((((((((false || tOv ((N i).1) ((N j).2.2.2.2)) || tOv ((N j).1) ((N i).2.2.2.2)) || mOv (((N i).1) * ((N j).2.2.2.2)) (((N j).1) * ((N i).2.2.2.2))) || tOv ((N i).2.1) ((N j).2.2.2.2)) || tOv ((N j).2.1) ((N i).2.2.2.2)) || mOv (((N i).2.1) * ((N j).2.2.2.2)) (((N j).2.1) * ((N i).2.2.2.2))) || tOv ((N i).2.2.1) ((N j).2.2.2.2)) || tOv ((N j).2.2.1) ((N i).2.2.2.2)) || mOv (((N i).2.2.1) * ((N j).2.2.2.2)) (((N j).2.2.1) * ((N i).2.2.2.2))) tp fp ip ((N i).2.2.2.1) ((N j).2.2.2.2) ) [0] rfl (by decide) [g] (fun _ => rfl) rfl 0 2 rfl rfl rfl ⟨Nat.le_of_ble_eq_true rfl, Nat.le_of_ble_eq_true rfl⟩ rfl hl.1 (Nat.le_of_ble_eq_true rfl) ⟨Nat.le_refl _, Nat.le_refl _⟩ dX2_difference_105 ?_
  clear hB
  try clear locs
  try clear H
  intro r10 u10 H locs hp hB
  obtain rfl : r10 = ((N i).2.2.2.1) * ((N j).2.2.2.2) := hp
  replace hB : zB D A s ([(g, .inr (2, [.int (bI ((((((((((false || tOv ((N i).1) ((N j).2.2.2.2)) || tOv ((N j).1) ((N i).2.2.2.2)) || mOv (((N i).1) * ((N j).2.2.2.2)) (((N j).1) * ((N i).2.2.2.2))) || tOv ((N i).2.1) ((N j).2.2.2.2)) || tOv ((N j).2.1) ((N i).2.2.2.2)) || mOv (((N i).2.1) * ((N j).2.2.2.2)) (((N j).2.1) * ((N i).2.2.2.2))) || tOv ((N i).2.2.1) ((N j).2.2.2.2)) || tOv ((N j).2.2.1) ((N i).2.2.2.2)) || mOv (((N i).2.2.1) * ((N j).2.2.2.2)) (((N j).2.2.1) * ((N i).2.2.2.2))) || tOv ((N i).2.2.2.1) ((N j).2.2.2.2))), .ref (na tp), .ref (na fp), .ref (na ip)]))] ++ nP na N) H locs := hB
  refine lv_aload_n hx hb dX2_difference_108 rfl (lv_at hl 3 rfl) ?_
  refine lv_aload_n hx hb dX2_difference_109 rfl (lv_at hl 5 rfl) ?_
  refine zgetN zf_X2_48 hF hB j (by omega) rfl dX2_difference_110 ?_
  refine lv_aload_n hx hb dX2_difference_113 rfl (lv_at hl 4 rfl) ?_
  refine zgetN zf_X2_32 hF hB i (by omega) rfl dX2_difference_114 ?_
  refine zVl zm_X2_35 hF hB (c_X2_times l D ka kb g na ((((((((((false || tOv ((N i).1) ((N j).2.2.2.2)) || tOv ((N j).1) ((N i).2.2.2.2)) || mOv (((N i).1) * ((N j).2.2.2.2)) (((N j).1) * ((N i).2.2.2.2))) || tOv ((N i).2.1) ((N j).2.2.2.2)) || tOv ((N j).2.1) ((N i).2.2.2.2)) || mOv (((N i).2.1) * ((N j).2.2.2.2)) (((N j).2.1) * ((N i).2.2.2.2))) || tOv ((N i).2.2.1) ((N j).2.2.2.2)) || tOv ((N j).2.2.1) ((N i).2.2.2.2)) || mOv (((N i).2.2.1) * ((N j).2.2.2.2)) (((N j).2.2.1) * ((N i).2.2.2.2))) || tOv ((N i).2.2.2.1) ((N j).2.2.2.2)) tp fp ip ((N j).2.2.2.1) ((N i).2.2.2.2) ) [0] rfl (by decide) [g] (fun _ => rfl) rfl 0 2 rfl rfl rfl ⟨Nat.le_of_ble_eq_true rfl, Nat.le_of_ble_eq_true rfl⟩ rfl hl.1 (Nat.le_of_ble_eq_true rfl) ⟨Nat.le_refl _, Nat.le_refl _⟩ dX2_difference_117 ?_
  clear hB
  try clear locs
  try clear H
  intro r11 u11 H locs hp hB
  obtain rfl : r11 = ((N j).2.2.2.1) * ((N i).2.2.2.2) := hp
  replace hB : zB D A s ([(g, .inr (2, [.int (bI (((((((((((false || tOv ((N i).1) ((N j).2.2.2.2)) || tOv ((N j).1) ((N i).2.2.2.2)) || mOv (((N i).1) * ((N j).2.2.2.2)) (((N j).1) * ((N i).2.2.2.2))) || tOv ((N i).2.1) ((N j).2.2.2.2)) || tOv ((N j).2.1) ((N i).2.2.2.2)) || mOv (((N i).2.1) * ((N j).2.2.2.2)) (((N j).2.1) * ((N i).2.2.2.2))) || tOv ((N i).2.2.1) ((N j).2.2.2.2)) || tOv ((N j).2.2.1) ((N i).2.2.2.2)) || mOv (((N i).2.2.1) * ((N j).2.2.2.2)) (((N j).2.2.1) * ((N i).2.2.2.2))) || tOv ((N i).2.2.2.1) ((N j).2.2.2.2)) || tOv ((N j).2.2.2.1) ((N i).2.2.2.2))), .ref (na tp), .ref (na fp), .ref (na ip)]))] ++ nP na N) H locs := hB
  refine zVl zm_X2_55 hF hB (c_X2_less l D ka kb g na (((((((((((false || tOv ((N i).1) ((N j).2.2.2.2)) || tOv ((N j).1) ((N i).2.2.2.2)) || mOv (((N i).1) * ((N j).2.2.2.2)) (((N j).1) * ((N i).2.2.2.2))) || tOv ((N i).2.1) ((N j).2.2.2.2)) || tOv ((N j).2.1) ((N i).2.2.2.2)) || mOv (((N i).2.1) * ((N j).2.2.2.2)) (((N j).2.1) * ((N i).2.2.2.2))) || tOv ((N i).2.2.1) ((N j).2.2.2.2)) || tOv ((N j).2.2.1) ((N i).2.2.2.2)) || mOv (((N i).2.2.1) * ((N j).2.2.2.2)) (((N j).2.2.1) * ((N i).2.2.2.2))) || tOv ((N i).2.2.2.1) ((N j).2.2.2.2)) || tOv ((N j).2.2.2.1) ((N i).2.2.2.2)) tp fp ip (((N i).2.2.2.1) * ((N j).2.2.2.2)) (((N j).2.2.2.1) * ((N i).2.2.2.2)) ) [0] rfl (by decide) [g] (fun _ => rfl) rfl 0 2 rfl rfl rfl ⟨Nat.le_of_ble_eq_true rfl, Nat.le_of_ble_eq_true rfl⟩ rfl hl.1 (Nat.le_of_ble_eq_true rfl) ⟨Nat.le_refl _, Nat.le_refl _⟩ dX2_difference_120 ?_
  clear hB
  try clear locs
  try clear H
  intro r12 u12 H locs hp hB
  obtain rfl : r12 = (((N i).2.2.2.1) * ((N j).2.2.2.2)) - (((N j).2.2.2.1) * ((N i).2.2.2.2)) := hp
  replace hB : zB D A s ([(g, .inr (2, [.int (bI ((((((((((((false || tOv ((N i).1) ((N j).2.2.2.2)) || tOv ((N j).1) ((N i).2.2.2.2)) || mOv (((N i).1) * ((N j).2.2.2.2)) (((N j).1) * ((N i).2.2.2.2))) || tOv ((N i).2.1) ((N j).2.2.2.2)) || tOv ((N j).2.1) ((N i).2.2.2.2)) || mOv (((N i).2.1) * ((N j).2.2.2.2)) (((N j).2.1) * ((N i).2.2.2.2))) || tOv ((N i).2.2.1) ((N j).2.2.2.2)) || tOv ((N j).2.2.1) ((N i).2.2.2.2)) || mOv (((N i).2.2.1) * ((N j).2.2.2.2)) (((N j).2.2.1) * ((N i).2.2.2.2))) || tOv ((N i).2.2.2.1) ((N j).2.2.2.2)) || tOv ((N j).2.2.2.1) ((N i).2.2.2.2)) || mOv (((N i).2.2.2.1) * ((N j).2.2.2.2)) (((N j).2.2.2.1) * ((N i).2.2.2.2)))), .ref (na tp), .ref (na fp), .ref (na ip)]))] ++ nP na N) H locs := hB
  refine lv_lstore (lv' := [(10, .long ((((N i).2.2.2.1) * ((N j).2.2.2.2)) - (((N j).2.2.2.1) * ((N i).2.2.2.2)))), (8, .long ((((N i).2.2.1) * ((N j).2.2.2.2)) - (((N j).2.2.1) * ((N i).2.2.2.2)))), (6, .long ((((N i).2.1) * ((N j).2.2.2.2)) - (((N j).2.1) * ((N i).2.2.2.2)))), (4, .long ((((N i).1) * ((N j).2.2.2.2)) - (((N j).1) * ((N i).2.2.2.2)))), (0, .ref g), (1, .ref (na i)), (2, .ref (na j)), (3, .ref (na t))]) hx hb dX2_difference_123 hl (by decide) rfl ?_
  clear hl
  clear ls
  intro ls hl
  refine lv_aload_n hx hb dX2_difference_125 rfl (lv_at hl 4 rfl) ?_
  refine lv_aload_n hx hb dX2_difference_126 rfl (lv_at hl 7 rfl) ?_
  refine lv_lload hx hb dX2_difference_127 (lv_at hl 3 rfl) ?_
  refine lv_lload hx hb dX2_difference_129 (lv_at hl 2 rfl) ?_
  refine lv_lload hx hb dX2_difference_131 (lv_at hl 1 rfl) ?_
  refine lv_lload hx hb dX2_difference_133 (lv_at hl 0 rfl) ?_
  refine lv_aload_n hx hb dX2_difference_135 rfl (lv_at hl 4 rfl) ?_
  refine lv_aload_n hx hb dX2_difference_136 rfl (lv_at hl 5 rfl) ?_
  refine zgetN zf_X2_32 hF hB i (by omega) rfl dX2_difference_137 ?_
  refine lv_aload_n hx hb dX2_difference_140 rfl (lv_at hl 6 rfl) ?_
  refine zgetN zf_X2_32 hF hB j (by omega) rfl dX2_difference_141 ?_
  refine zVl16 zm_X2_35 hF hB (c_X2_times l D ka kb g na ((((((((((((false || tOv ((N i).1) ((N j).2.2.2.2)) || tOv ((N j).1) ((N i).2.2.2.2)) || mOv (((N i).1) * ((N j).2.2.2.2)) (((N j).1) * ((N i).2.2.2.2))) || tOv ((N i).2.1) ((N j).2.2.2.2)) || tOv ((N j).2.1) ((N i).2.2.2.2)) || mOv (((N i).2.1) * ((N j).2.2.2.2)) (((N j).2.1) * ((N i).2.2.2.2))) || tOv ((N i).2.2.1) ((N j).2.2.2.2)) || tOv ((N j).2.2.1) ((N i).2.2.2.2)) || mOv (((N i).2.2.1) * ((N j).2.2.2.2)) (((N j).2.2.1) * ((N i).2.2.2.2))) || tOv ((N i).2.2.2.1) ((N j).2.2.2.2)) || tOv ((N j).2.2.2.1) ((N i).2.2.2.2)) || mOv (((N i).2.2.2.1) * ((N j).2.2.2.2)) (((N j).2.2.2.1) * ((N i).2.2.2.2))) tp fp ip ((N i).2.2.2.2) ((N j).2.2.2.2) ) [0] rfl (by decide) [g] (fun _ => rfl) rfl 0 2 rfl rfl rfl ⟨Nat.le_of_ble_eq_true rfl, Nat.le_of_ble_eq_true rfl⟩ rfl hl.1 (Nat.le_of_ble_eq_true rfl) ⟨Nat.le_refl _, Nat.le_refl _⟩ dX2_difference_144 ?_
  clear hB
  try clear locs
  try clear H
  intro r13 u13 H locs hp hB
  obtain rfl : r13 = ((N i).2.2.2.2) * ((N j).2.2.2.2) := hp
  replace hB : zB D A s ([(g, .inr (2, [.int (bI (((((((((((((false || tOv ((N i).1) ((N j).2.2.2.2)) || tOv ((N j).1) ((N i).2.2.2.2)) || mOv (((N i).1) * ((N j).2.2.2.2)) (((N j).1) * ((N i).2.2.2.2))) || tOv ((N i).2.1) ((N j).2.2.2.2)) || tOv ((N j).2.1) ((N i).2.2.2.2)) || mOv (((N i).2.1) * ((N j).2.2.2.2)) (((N j).2.1) * ((N i).2.2.2.2))) || tOv ((N i).2.2.1) ((N j).2.2.2.2)) || tOv ((N j).2.2.1) ((N i).2.2.2.2)) || mOv (((N i).2.2.1) * ((N j).2.2.2.2)) (((N j).2.2.1) * ((N i).2.2.2.2))) || tOv ((N i).2.2.2.1) ((N j).2.2.2.2)) || tOv ((N j).2.2.2.1) ((N i).2.2.2.2)) || mOv (((N i).2.2.2.1) * ((N j).2.2.2.2)) (((N j).2.2.2.1) * ((N i).2.2.2.2))) || tOv ((N i).2.2.2.2) ((N j).2.2.2.2))), .ref (na tp), .ref (na fp), .ref (na ip)]))] ++ nP na N) H locs := hB
  have hE : sumO true (N i) (N j) = (((((((((((((false || tOv ((N i).1) ((N j).2.2.2.2)) || tOv ((N j).1) ((N i).2.2.2.2)) || mOv (((N i).1) * ((N j).2.2.2.2)) (((N j).1) * ((N i).2.2.2.2))) || tOv ((N i).2.1) ((N j).2.2.2.2)) || tOv ((N j).2.1) ((N i).2.2.2.2)) || mOv (((N i).2.1) * ((N j).2.2.2.2)) (((N j).2.1) * ((N i).2.2.2.2))) || tOv ((N i).2.2.1) ((N j).2.2.2.2)) || tOv ((N j).2.2.1) ((N i).2.2.2.2)) || mOv (((N i).2.2.1) * ((N j).2.2.2.2)) (((N j).2.2.1) * ((N i).2.2.2.2))) || tOv ((N i).2.2.2.1) ((N j).2.2.2.2)) || tOv ((N j).2.2.2.1) ((N i).2.2.2.2)) || mOv (((N i).2.2.2.1) * ((N j).2.2.2.2)) (((N j).2.2.2.1) * ((N i).2.2.2.2))) || tOv ((N i).2.2.2.2) ((N j).2.2.2.2)) := by simp [sumO, ssO, sgO, Bool.or_assoc]
  refine zVi zm_X2_51 hF hB (c_X2_deliver l D ka kb g na (((((((((((((false || tOv ((N i).1) ((N j).2.2.2.2)) || tOv ((N j).1) ((N i).2.2.2.2)) || mOv (((N i).1) * ((N j).2.2.2.2)) (((N j).1) * ((N i).2.2.2.2))) || tOv ((N i).2.1) ((N j).2.2.2.2)) || tOv ((N j).2.1) ((N i).2.2.2.2)) || mOv (((N i).2.1) * ((N j).2.2.2.2)) (((N j).2.1) * ((N i).2.2.2.2))) || tOv ((N i).2.2.1) ((N j).2.2.2.2)) || tOv ((N j).2.2.1) ((N i).2.2.2.2)) || mOv (((N i).2.2.1) * ((N j).2.2.2.2)) (((N j).2.2.1) * ((N i).2.2.2.2))) || tOv ((N i).2.2.2.1) ((N j).2.2.2.2)) || tOv ((N j).2.2.2.1) ((N i).2.2.2.2)) || mOv (((N i).2.2.2.1) * ((N j).2.2.2.2)) (((N j).2.2.2.1) * ((N i).2.2.2.2))) || tOv ((N i).2.2.2.2) ((N j).2.2.2.2)) tp fp ip N t ((((N i).1) * ((N j).2.2.2.2)) - (((N j).1) * ((N i).2.2.2.2))) ((((N i).2.1) * ((N j).2.2.2.2)) - (((N j).2.1) * ((N i).2.2.2.2))) ((((N i).2.2.1) * ((N j).2.2.2.2)) - (((N j).2.2.1) * ((N i).2.2.2.2))) ((((N i).2.2.2.1) * ((N j).2.2.2.2)) - (((N j).2.2.2.1) * ((N i).2.2.2.2))) (((N i).2.2.2.2) * ((N j).2.2.2.2)) (ht) (fun e8 => by
    rw [← hE] at e8
    have e7 := sumO_d e8
    rw [i64_mul e7]; exact Int.mul_pos hdi hdj)) ([0] ++ npr 1) (zsel_pool rfl rfl) (va_nd_pool rfl rfl) ([g] ++ nA na) (fun _ => zad_pool rfl) (zad_pool rfl) 0 2 rfl rfl rfl ⟨Nat.le_of_ble_eq_true rfl, Nat.le_of_ble_eq_true rfl⟩ rfl hl.1 (Nat.le_of_ble_eq_true rfl) ⟨Nat.le_refl _, Nat.le_refl _⟩ dX2_difference_147 ?_
  clear hB
  try clear locs
  try clear H
  intro r14 u14 H locs hp hB
  obtain rfl : r14 = bI (!(((((((((((((false || tOv ((N i).1) ((N j).2.2.2.2)) || tOv ((N j).1) ((N i).2.2.2.2)) || mOv (((N i).1) * ((N j).2.2.2.2)) (((N j).1) * ((N i).2.2.2.2))) || tOv ((N i).2.1) ((N j).2.2.2.2)) || tOv ((N j).2.1) ((N i).2.2.2.2)) || mOv (((N i).2.1) * ((N j).2.2.2.2)) (((N j).2.1) * ((N i).2.2.2.2))) || tOv ((N i).2.2.1) ((N j).2.2.2.2)) || tOv ((N j).2.2.1) ((N i).2.2.2.2)) || mOv (((N i).2.2.1) * ((N j).2.2.2.2)) (((N j).2.2.1) * ((N i).2.2.2.2))) || tOv ((N i).2.2.2.1) ((N j).2.2.2.2)) || tOv ((N j).2.2.2.1) ((N i).2.2.2.2)) || mOv (((N i).2.2.2.1) * ((N j).2.2.2.2)) (((N j).2.2.2.1) * ((N i).2.2.2.2))) || tOv ((N i).2.2.2.2) ((N j).2.2.2.2))) := hp
  replace hB : zB D A s ([(g, .inr (2, [.int (bI (((((((((((((false || tOv ((N i).1) ((N j).2.2.2.2)) || tOv ((N j).1) ((N i).2.2.2.2)) || mOv (((N i).1) * ((N j).2.2.2.2)) (((N j).1) * ((N i).2.2.2.2))) || tOv ((N i).2.1) ((N j).2.2.2.2)) || tOv ((N j).2.1) ((N i).2.2.2.2)) || mOv (((N i).2.1) * ((N j).2.2.2.2)) (((N j).2.1) * ((N i).2.2.2.2))) || tOv ((N i).2.2.1) ((N j).2.2.2.2)) || tOv ((N j).2.2.1) ((N i).2.2.2.2)) || mOv (((N i).2.2.1) * ((N j).2.2.2.2)) (((N j).2.2.1) * ((N i).2.2.2.2))) || tOv ((N i).2.2.2.1) ((N j).2.2.2.2)) || tOv ((N j).2.2.2.1) ((N i).2.2.2.2)) || mOv (((N i).2.2.2.1) * ((N j).2.2.2.2)) (((N j).2.2.2.1) * ((N i).2.2.2.2))) || tOv ((N i).2.2.2.2) ((N j).2.2.2.2))), .ref (na tp), .ref (na fp), .ref (na ip)]))] ++ nP na (if (((((((((((((false || tOv ((N i).1) ((N j).2.2.2.2)) || tOv ((N j).1) ((N i).2.2.2.2)) || mOv (((N i).1) * ((N j).2.2.2.2)) (((N j).1) * ((N i).2.2.2.2))) || tOv ((N i).2.1) ((N j).2.2.2.2)) || tOv ((N j).2.1) ((N i).2.2.2.2)) || mOv (((N i).2.1) * ((N j).2.2.2.2)) (((N j).2.1) * ((N i).2.2.2.2))) || tOv ((N i).2.2.1) ((N j).2.2.2.2)) || tOv ((N j).2.2.1) ((N i).2.2.2.2)) || mOv (((N i).2.2.1) * ((N j).2.2.2.2)) (((N j).2.2.1) * ((N i).2.2.2.2))) || tOv ((N i).2.2.2.1) ((N j).2.2.2.2)) || tOv ((N j).2.2.2.1) ((N i).2.2.2.2)) || mOv (((N i).2.2.2.1) * ((N j).2.2.2.2)) (((N j).2.2.2.1) * ((N i).2.2.2.2))) || tOv ((N i).2.2.2.2) ((N j).2.2.2.2)) = true then N else upN N t (lowN ((((N i).1) * ((N j).2.2.2.2)) - (((N j).1) * ((N i).2.2.2.2))) ((((N i).2.1) * ((N j).2.2.2.2)) - (((N j).2.1) * ((N i).2.2.2.2))) ((((N i).2.2.1) * ((N j).2.2.2.2)) - (((N j).2.2.1) * ((N i).2.2.2.2))) ((((N i).2.2.2.1) * ((N j).2.2.2.2)) - (((N j).2.2.2.1) * ((N i).2.2.2.2))) (((N i).2.2.2.2) * ((N j).2.2.2.2))))) H locs := zB_pool hB rfl rfl rfl rfl
  exact zreti hF hB () (by rw [hE]) (by rw [hE] <;> rfl) (zbI_n _) dX2_difference_150 hQ

set_option maxHeartbeats 4000000 in
set_option maxRecDepth 100000 in
theorem c_X2_product (l : Launch) (D : va_G) (ka : Nat → ClassId) (kb : Nat → Nat) (g : Nat) (na : Nat → Nat) (o : Bool) (tp : Nat) (fp : Nat) (ip : Nat) (N : Nat → N5) (t : Nat) (i : Nat) (j : Nat) (ht : t < 41) (hi : i < 41) (hj : j < 41) (hdi : 0 < (N i).2.2.2.2.toInt) (hdj : 0 < (N j).2.2.2.2.toInt) : zI l D ka kb yX2_product cX2_product 12 .boolean 4 143 [.ref g, .ref (na i), .ref (na j), .ref (na t)] ([(g, .inr (2, [.int (bI o), .ref (na tp), .ref (na fp), .ref (na ip)]))] ++ nP na N) (fun (r : Int32) (_ : Unit) => r = bI (!(prodO (N i) (N j)))) (fun (_ : Unit) => [(g, .inr (2, [.int (bI (prodO (N i) (N j))), .ref (na tp), .ref (na fp), .ref (na ip)]))] ++ nP na (if prodO (N i) (N j) = true then N else upN N t (prodV (N i) (N j)))) := by
  refine zI.mk RX2 (by decide +kernel) rfl (Nat.le_of_ble_eq_true rfl) ?_
  intro p e s m below meth c A ls args Q hQ hx hb hF hB hl
  replace hl : lv_has ls 12 [(0, .ref g), (1, .ref (na i)), (2, .ref (na j)), (3, .ref (na t))] := hl
  refine lv_aload_n hx hb dX2_product_0 rfl (lv_at hl 0 rfl) ?_
  refine lv_iconst (v := 0) hx hb dX2_product_1 (by decide) ?_
  refine zput_f zp_X2_24 hF hB 0 rfl (rfl) (rfl) (Nat.le_of_ble_eq_true rfl) dX2_product_2 ?_
  clear hB
  try clear locs
  try clear H
  intro H locs hB
  replace hB : zB D A s ([(g, .inr (2, [.int (0 : Int32), .ref (na tp), .ref (na fp), .ref (na ip)]))] ++ nP na N) H locs := hB
  refine lv_aload_n hx hb dX2_product_5 rfl (lv_at hl 0 rfl) ?_
  refine lv_aload_n hx hb dX2_product_6 rfl (lv_at hl 0 rfl) ?_
  refine lv_aload_n hx hb dX2_product_7 rfl (lv_at hl 0 rfl) ?_
  refine lv_aload_n hx hb dX2_product_8 rfl (lv_at hl 1 rfl) ?_
  refine zgetN zf_X2_28 hF hB i (by omega) rfl dX2_product_9 ?_
  refine lv_aload_n hx hb dX2_product_12 rfl (lv_at hl 2 rfl) ?_
  refine zgetN zf_X2_28 hF hB j (by omega) rfl dX2_product_13 ?_
  refine zVl zm_X2_35 hF hB (c_X2_times l D ka kb g na false tp fp ip ((N i).1) ((N j).1) ) [0] rfl (by decide) [g] (fun _ => rfl) rfl 0 2 rfl rfl rfl ⟨Nat.le_of_ble_eq_true rfl, Nat.le_of_ble_eq_true rfl⟩ rfl hl.1 (Nat.le_of_ble_eq_true rfl) ⟨Nat.le_refl _, Nat.le_refl _⟩ dX2_product_16 ?_
  clear hB
  try clear locs
  try clear H
  intro r1 u1 H locs hp hB
  obtain rfl : r1 = ((N i).1) * ((N j).1) := hp
  replace hB : zB D A s ([(g, .inr (2, [.int (bI (false || tOv ((N i).1) ((N j).1))), .ref (na tp), .ref (na fp), .ref (na ip)]))] ++ nP na N) H locs := hB
  refine lv_aload_n hx hb dX2_product_19 rfl (lv_at hl 0 rfl) ?_
  refine lv_aload_n hx hb dX2_product_20 rfl (lv_at hl 1 rfl) ?_
  refine zgetN zf_X2_42 hF hB i (by omega) rfl dX2_product_21 ?_
  refine lv_aload_n hx hb dX2_product_24 rfl (lv_at hl 2 rfl) ?_
  refine zgetN zf_X2_42 hF hB j (by omega) rfl dX2_product_25 ?_
  refine zVl zm_X2_58 hF hB (c_X2_thrice l D ka kb g na (false || tOv ((N i).1) ((N j).1)) tp fp ip ((N i).2.1) ((N j).2.1) ) [0] rfl (by decide) [g] (fun _ => rfl) rfl 0 2 rfl rfl rfl ⟨Nat.le_of_ble_eq_true rfl, Nat.le_of_ble_eq_true rfl⟩ rfl hl.1 (Nat.le_of_ble_eq_true rfl) ⟨Nat.le_refl _, Nat.le_refl _⟩ dX2_product_28 ?_
  clear hB
  try clear locs
  try clear H
  intro r2 u2 H locs hp hB
  obtain rfl : r2 = thV ((N i).2.1) ((N j).2.1) := hp
  replace hB : zB D A s ([(g, .inr (2, [.int (bI ((false || tOv ((N i).1) ((N j).1)) || thO ((N i).2.1) ((N j).2.1))), .ref (na tp), .ref (na fp), .ref (na ip)]))] ++ nP na N) H locs := hB
  refine zVl zm_X2_39 hF hB (c_X2_plus l D ka kb g na ((false || tOv ((N i).1) ((N j).1)) || thO ((N i).2.1) ((N j).2.1)) tp fp ip (((N i).1) * ((N j).1)) (thV ((N i).2.1) ((N j).2.1)) ) [0] rfl (by decide) [g] (fun _ => rfl) rfl 0 2 rfl rfl rfl ⟨Nat.le_of_ble_eq_true rfl, Nat.le_of_ble_eq_true rfl⟩ rfl hl.1 (Nat.le_of_ble_eq_true rfl) ⟨Nat.le_refl _, Nat.le_refl _⟩ dX2_product_31 ?_
  clear hB
  try clear locs
  try clear H
  intro r3 u3 H locs hp hB
  obtain rfl : r3 = (((N i).1) * ((N j).1)) + (thV ((N i).2.1) ((N j).2.1)) := hp
  replace hB : zB D A s ([(g, .inr (2, [.int (bI (((false || tOv ((N i).1) ((N j).1)) || thO ((N i).2.1) ((N j).2.1)) || pOv (((N i).1) * ((N j).1)) (thV ((N i).2.1) ((N j).2.1)))), .ref (na tp), .ref (na fp), .ref (na ip)]))] ++ nP na N) H locs := hB
  refine lv_aload_n hx hb dX2_product_34 rfl (lv_at hl 0 rfl) ?_
  refine lv_aload_n hx hb dX2_product_35 rfl (lv_at hl 0 rfl) ?_
  refine lv_aload_n hx hb dX2_product_36 rfl (lv_at hl 1 rfl) ?_
  refine zgetN zf_X2_45 hF hB i (by omega) rfl dX2_product_37 ?_
  refine lv_aload_n hx hb dX2_product_40 rfl (lv_at hl 2 rfl) ?_
  refine zgetN zf_X2_45 hF hB j (by omega) rfl dX2_product_41 ?_
  refine zVl zm_X2_35 hF hB (c_X2_times l D ka kb g na (((false || tOv ((N i).1) ((N j).1)) || thO ((N i).2.1) ((N j).2.1)) || pOv (((N i).1) * ((N j).1)) (thV ((N i).2.1) ((N j).2.1))) tp fp ip ((N i).2.2.1) ((N j).2.2.1) ) [0] rfl (by decide) [g] (fun _ => rfl) rfl 0 2 rfl rfl rfl ⟨Nat.le_of_ble_eq_true rfl, Nat.le_of_ble_eq_true rfl⟩ rfl hl.1 (Nat.le_of_ble_eq_true rfl) ⟨Nat.le_refl _, Nat.le_refl _⟩ dX2_product_44 ?_
  clear hB
  try clear locs
  try clear H
  intro r4 u4 H locs hp hB
  obtain rfl : r4 = ((N i).2.2.1) * ((N j).2.2.1) := hp
  replace hB : zB D A s ([(g, .inr (2, [.int (bI ((((false || tOv ((N i).1) ((N j).1)) || thO ((N i).2.1) ((N j).2.1)) || pOv (((N i).1) * ((N j).1)) (thV ((N i).2.1) ((N j).2.1))) || tOv ((N i).2.2.1) ((N j).2.2.1))), .ref (na tp), .ref (na fp), .ref (na ip)]))] ++ nP na N) H locs := hB
  refine lv_aload_n hx hb dX2_product_47 rfl (lv_at hl 0 rfl) ?_
  refine lv_aload_n hx hb dX2_product_48 rfl (lv_at hl 1 rfl) ?_
  refine zgetN zf_X2_48 hF hB i (by omega) rfl dX2_product_49 ?_
  refine lv_aload_n hx hb dX2_product_52 rfl (lv_at hl 2 rfl) ?_
  refine zgetN zf_X2_48 hF hB j (by omega) rfl dX2_product_53 ?_
  refine zVl zm_X2_58 hF hB (c_X2_thrice l D ka kb g na ((((false || tOv ((N i).1) ((N j).1)) || thO ((N i).2.1) ((N j).2.1)) || pOv (((N i).1) * ((N j).1)) (thV ((N i).2.1) ((N j).2.1))) || tOv ((N i).2.2.1) ((N j).2.2.1)) tp fp ip ((N i).2.2.2.1) ((N j).2.2.2.1) ) [0] rfl (by decide) [g] (fun _ => rfl) rfl 0 2 rfl rfl rfl ⟨Nat.le_of_ble_eq_true rfl, Nat.le_of_ble_eq_true rfl⟩ rfl hl.1 (Nat.le_of_ble_eq_true rfl) ⟨Nat.le_refl _, Nat.le_refl _⟩ dX2_product_56 ?_
  clear hB
  try clear locs
  try clear H
  intro r5 u5 H locs hp hB
  obtain rfl : r5 = thV ((N i).2.2.2.1) ((N j).2.2.2.1) := hp
  replace hB : zB D A s ([(g, .inr (2, [.int (bI (((((false || tOv ((N i).1) ((N j).1)) || thO ((N i).2.1) ((N j).2.1)) || pOv (((N i).1) * ((N j).1)) (thV ((N i).2.1) ((N j).2.1))) || tOv ((N i).2.2.1) ((N j).2.2.1)) || thO ((N i).2.2.2.1) ((N j).2.2.2.1))), .ref (na tp), .ref (na fp), .ref (na ip)]))] ++ nP na N) H locs := hB
  refine zVl zm_X2_39 hF hB (c_X2_plus l D ka kb g na (((((false || tOv ((N i).1) ((N j).1)) || thO ((N i).2.1) ((N j).2.1)) || pOv (((N i).1) * ((N j).1)) (thV ((N i).2.1) ((N j).2.1))) || tOv ((N i).2.2.1) ((N j).2.2.1)) || thO ((N i).2.2.2.1) ((N j).2.2.2.1)) tp fp ip (((N i).2.2.1) * ((N j).2.2.1)) (thV ((N i).2.2.2.1) ((N j).2.2.2.1)) ) [0] rfl (by decide) [g] (fun _ => rfl) rfl 0 2 rfl rfl rfl ⟨Nat.le_of_ble_eq_true rfl, Nat.le_of_ble_eq_true rfl⟩ rfl hl.1 (Nat.le_of_ble_eq_true rfl) ⟨Nat.le_refl _, Nat.le_refl _⟩ dX2_product_59 ?_
  clear hB
  try clear locs
  try clear H
  intro r6 u6 H locs hp hB
  obtain rfl : r6 = (((N i).2.2.1) * ((N j).2.2.1)) + (thV ((N i).2.2.2.1) ((N j).2.2.2.1)) := hp
  replace hB : zB D A s ([(g, .inr (2, [.int (bI ((((((false || tOv ((N i).1) ((N j).1)) || thO ((N i).2.1) ((N j).2.1)) || pOv (((N i).1) * ((N j).1)) (thV ((N i).2.1) ((N j).2.1))) || tOv ((N i).2.2.1) ((N j).2.2.1)) || thO ((N i).2.2.2.1) ((N j).2.2.2.1)) || pOv (((N i).2.2.1) * ((N j).2.2.1)) (thV ((N i).2.2.2.1) ((N j).2.2.2.1)))), .ref (na tp), .ref (na fp), .ref (na ip)]))] ++ nP na N) H locs := hB
  refine zVl zm_X2_55 hF hB (c_X2_less l D ka kb g na ((((((false || tOv ((N i).1) ((N j).1)) || thO ((N i).2.1) ((N j).2.1)) || pOv (((N i).1) * ((N j).1)) (thV ((N i).2.1) ((N j).2.1))) || tOv ((N i).2.2.1) ((N j).2.2.1)) || thO ((N i).2.2.2.1) ((N j).2.2.2.1)) || pOv (((N i).2.2.1) * ((N j).2.2.1)) (thV ((N i).2.2.2.1) ((N j).2.2.2.1))) tp fp ip ((((N i).1) * ((N j).1)) + (thV ((N i).2.1) ((N j).2.1))) ((((N i).2.2.1) * ((N j).2.2.1)) + (thV ((N i).2.2.2.1) ((N j).2.2.2.1))) ) [0] rfl (by decide) [g] (fun _ => rfl) rfl 0 2 rfl rfl rfl ⟨Nat.le_of_ble_eq_true rfl, Nat.le_of_ble_eq_true rfl⟩ rfl hl.1 (Nat.le_of_ble_eq_true rfl) ⟨Nat.le_refl _, Nat.le_refl _⟩ dX2_product_62 ?_
  clear hB
  try clear locs
  try clear H
  intro r7 u7 H locs hp hB
  obtain rfl : r7 = ((((N i).1) * ((N j).1)) + (thV ((N i).2.1) ((N j).2.1))) - ((((N i).2.2.1) * ((N j).2.2.1)) + (thV ((N i).2.2.2.1) ((N j).2.2.2.1))) := hp
  replace hB : zB D A s ([(g, .inr (2, [.int (bI (((((((false || tOv ((N i).1) ((N j).1)) || thO ((N i).2.1) ((N j).2.1)) || pOv (((N i).1) * ((N j).1)) (thV ((N i).2.1) ((N j).2.1))) || tOv ((N i).2.2.1) ((N j).2.2.1)) || thO ((N i).2.2.2.1) ((N j).2.2.2.1)) || pOv (((N i).2.2.1) * ((N j).2.2.1)) (thV ((N i).2.2.2.1) ((N j).2.2.2.1))) || mOv ((((N i).1) * ((N j).1)) + (thV ((N i).2.1) ((N j).2.1))) ((((N i).2.2.1) * ((N j).2.2.1)) + (thV ((N i).2.2.2.1) ((N j).2.2.2.1))))), .ref (na tp), .ref (na fp), .ref (na ip)]))] ++ nP na N) H locs := hB
  refine lv_lstore (lv' := [(4, .long (((((N i).1) * ((N j).1)) + (thV ((N i).2.1) ((N j).2.1))) - ((((N i).2.2.1) * ((N j).2.2.1)) + (thV ((N i).2.2.2.1) ((N j).2.2.2.1))))), (0, .ref g), (1, .ref (na i)), (2, .ref (na j)), (3, .ref (na t))]) hx hb dX2_product_65 hl (by decide) rfl ?_
  clear hl
  clear ls
  intro ls hl
  refine lv_aload_n hx hb dX2_product_67 rfl (lv_at hl 1 rfl) ?_
  refine lv_aload_n hx hb dX2_product_68 rfl (lv_at hl 1 rfl) ?_
  refine lv_aload_n hx hb dX2_product_69 rfl (lv_at hl 1 rfl) ?_
  refine lv_aload_n hx hb dX2_product_70 rfl (lv_at hl 2 rfl) ?_
  refine zgetN zf_X2_28 hF hB i (by omega) rfl dX2_product_71 ?_
  refine lv_aload_n hx hb dX2_product_74 rfl (lv_at hl 3 rfl) ?_
  refine zgetN zf_X2_42 hF hB j (by omega) rfl dX2_product_75 ?_
  refine zVl zm_X2_35 hF hB (c_X2_times l D ka kb g na (((((((false || tOv ((N i).1) ((N j).1)) || thO ((N i).2.1) ((N j).2.1)) || pOv (((N i).1) * ((N j).1)) (thV ((N i).2.1) ((N j).2.1))) || tOv ((N i).2.2.1) ((N j).2.2.1)) || thO ((N i).2.2.2.1) ((N j).2.2.2.1)) || pOv (((N i).2.2.1) * ((N j).2.2.1)) (thV ((N i).2.2.2.1) ((N j).2.2.2.1))) || mOv ((((N i).1) * ((N j).1)) + (thV ((N i).2.1) ((N j).2.1))) ((((N i).2.2.1) * ((N j).2.2.1)) + (thV ((N i).2.2.2.1) ((N j).2.2.2.1)))) tp fp ip ((N i).1) ((N j).2.1) ) [0] rfl (by decide) [g] (fun _ => rfl) rfl 0 2 rfl rfl rfl ⟨Nat.le_of_ble_eq_true rfl, Nat.le_of_ble_eq_true rfl⟩ rfl hl.1 (Nat.le_of_ble_eq_true rfl) ⟨Nat.le_refl _, Nat.le_refl _⟩ dX2_product_78 ?_
  clear hB
  try clear locs
  try clear H
  intro r8 u8 H locs hp hB
  obtain rfl : r8 = ((N i).1) * ((N j).2.1) := hp
  replace hB : zB D A s ([(g, .inr (2, [.int (bI ((((((((false || tOv ((N i).1) ((N j).1)) || thO ((N i).2.1) ((N j).2.1)) || pOv (((N i).1) * ((N j).1)) (thV ((N i).2.1) ((N j).2.1))) || tOv ((N i).2.2.1) ((N j).2.2.1)) || thO ((N i).2.2.2.1) ((N j).2.2.2.1)) || pOv (((N i).2.2.1) * ((N j).2.2.1)) (thV ((N i).2.2.2.1) ((N j).2.2.2.1))) || mOv ((((N i).1) * ((N j).1)) + (thV ((N i).2.1) ((N j).2.1))) ((((N i).2.2.1) * ((N j).2.2.1)) + (thV ((N i).2.2.2.1) ((N j).2.2.2.1)))) || tOv ((N i).1) ((N j).2.1))), .ref (na tp), .ref (na fp), .ref (na ip)]))] ++ nP na N) H locs := hB
  refine lv_aload_n hx hb dX2_product_81 rfl (lv_at hl 1 rfl) ?_
  refine lv_aload_n hx hb dX2_product_82 rfl (lv_at hl 2 rfl) ?_
  refine zgetN zf_X2_42 hF hB i (by omega) rfl dX2_product_83 ?_
  refine lv_aload_n hx hb dX2_product_86 rfl (lv_at hl 3 rfl) ?_
  refine zgetN zf_X2_28 hF hB j (by omega) rfl dX2_product_87 ?_
  refine zVl zm_X2_35 hF hB (c_X2_times l D ka kb g na ((((((((false || tOv ((N i).1) ((N j).1)) || thO ((N i).2.1) ((N j).2.1)) || pOv (((N i).1) * ((N j).1)) (thV ((N i).2.1) ((N j).2.1))) || tOv ((N i).2.2.1) ((N j).2.2.1)) || thO ((N i).2.2.2.1) ((N j).2.2.2.1)) || pOv (((N i).2.2.1) * ((N j).2.2.1)) (thV ((N i).2.2.2.1) ((N j).2.2.2.1))) || mOv ((((N i).1) * ((N j).1)) + (thV ((N i).2.1) ((N j).2.1))) ((((N i).2.2.1) * ((N j).2.2.1)) + (thV ((N i).2.2.2.1) ((N j).2.2.2.1)))) || tOv ((N i).1) ((N j).2.1)) tp fp ip ((N i).2.1) ((N j).1) ) [0] rfl (by decide) [g] (fun _ => rfl) rfl 0 2 rfl rfl rfl ⟨Nat.le_of_ble_eq_true rfl, Nat.le_of_ble_eq_true rfl⟩ rfl hl.1 (Nat.le_of_ble_eq_true rfl) ⟨Nat.le_refl _, Nat.le_refl _⟩ dX2_product_90 ?_
  clear hB
  try clear locs
  try clear H
  intro r9 u9 H locs hp hB
  obtain rfl : r9 = ((N i).2.1) * ((N j).1) := hp
  replace hB : zB D A s ([(g, .inr (2, [.int (bI (((((((((false || tOv ((N i).1) ((N j).1)) || thO ((N i).2.1) ((N j).2.1)) || pOv (((N i).1) * ((N j).1)) (thV ((N i).2.1) ((N j).2.1))) || tOv ((N i).2.2.1) ((N j).2.2.1)) || thO ((N i).2.2.2.1) ((N j).2.2.2.1)) || pOv (((N i).2.2.1) * ((N j).2.2.1)) (thV ((N i).2.2.2.1) ((N j).2.2.2.1))) || mOv ((((N i).1) * ((N j).1)) + (thV ((N i).2.1) ((N j).2.1))) ((((N i).2.2.1) * ((N j).2.2.1)) + (thV ((N i).2.2.2.1) ((N j).2.2.2.1)))) || tOv ((N i).1) ((N j).2.1)) || tOv ((N i).2.1) ((N j).1))), .ref (na tp), .ref (na fp), .ref (na ip)]))] ++ nP na N) H locs := hB
  refine zVl zm_X2_39 hF hB (c_X2_plus l D ka kb g na (((((((((false || tOv ((N i).1) ((N j).1)) || thO ((N i).2.1) ((N j).2.1)) || pOv (((N i).1) * ((N j).1)) (thV ((N i).2.1) ((N j).2.1))) || tOv ((N i).2.2.1) ((N j).2.2.1)) || thO ((N i).2.2.2.1) ((N j).2.2.2.1)) || pOv (((N i).2.2.1) * ((N j).2.2.1)) (thV ((N i).2.2.2.1) ((N j).2.2.2.1))) || mOv ((((N i).1) * ((N j).1)) + (thV ((N i).2.1) ((N j).2.1))) ((((N i).2.2.1) * ((N j).2.2.1)) + (thV ((N i).2.2.2.1) ((N j).2.2.2.1)))) || tOv ((N i).1) ((N j).2.1)) || tOv ((N i).2.1) ((N j).1)) tp fp ip (((N i).1) * ((N j).2.1)) (((N i).2.1) * ((N j).1)) ) [0] rfl (by decide) [g] (fun _ => rfl) rfl 0 2 rfl rfl rfl ⟨Nat.le_of_ble_eq_true rfl, Nat.le_of_ble_eq_true rfl⟩ rfl hl.1 (Nat.le_of_ble_eq_true rfl) ⟨Nat.le_refl _, Nat.le_refl _⟩ dX2_product_93 ?_
  clear hB
  try clear locs
  try clear H
  intro r10 u10 H locs hp hB
  obtain rfl : r10 = (((N i).1) * ((N j).2.1)) + (((N i).2.1) * ((N j).1)) := hp
  replace hB : zB D A s ([(g, .inr (2, [.int (bI ((((((((((false || tOv ((N i).1) ((N j).1)) || thO ((N i).2.1) ((N j).2.1)) || pOv (((N i).1) * ((N j).1)) (thV ((N i).2.1) ((N j).2.1))) || tOv ((N i).2.2.1) ((N j).2.2.1)) || thO ((N i).2.2.2.1) ((N j).2.2.2.1)) || pOv (((N i).2.2.1) * ((N j).2.2.1)) (thV ((N i).2.2.2.1) ((N j).2.2.2.1))) || mOv ((((N i).1) * ((N j).1)) + (thV ((N i).2.1) ((N j).2.1))) ((((N i).2.2.1) * ((N j).2.2.1)) + (thV ((N i).2.2.2.1) ((N j).2.2.2.1)))) || tOv ((N i).1) ((N j).2.1)) || tOv ((N i).2.1) ((N j).1)) || pOv (((N i).1) * ((N j).2.1)) (((N i).2.1) * ((N j).1)))), .ref (na tp), .ref (na fp), .ref (na ip)]))] ++ nP na N) H locs := hB
  refine lv_aload_n hx hb dX2_product_96 rfl (lv_at hl 1 rfl) ?_
  refine lv_aload_n hx hb dX2_product_97 rfl (lv_at hl 1 rfl) ?_
  refine lv_aload_n hx hb dX2_product_98 rfl (lv_at hl 2 rfl) ?_
  refine zgetN zf_X2_45 hF hB i (by omega) rfl dX2_product_99 ?_
  refine lv_aload_n hx hb dX2_product_102 rfl (lv_at hl 3 rfl) ?_
  refine zgetN zf_X2_48 hF hB j (by omega) rfl dX2_product_103 ?_
  refine zVl zm_X2_35 hF hB (c_X2_times l D ka kb g na ((((((((((false || tOv ((N i).1) ((N j).1)) || thO ((N i).2.1) ((N j).2.1)) || pOv (((N i).1) * ((N j).1)) (thV ((N i).2.1) ((N j).2.1))) || tOv ((N i).2.2.1) ((N j).2.2.1)) || thO ((N i).2.2.2.1) ((N j).2.2.2.1)) || pOv (((N i).2.2.1) * ((N j).2.2.1)) (thV ((N i).2.2.2.1) ((N j).2.2.2.1))) || mOv ((((N i).1) * ((N j).1)) + (thV ((N i).2.1) ((N j).2.1))) ((((N i).2.2.1) * ((N j).2.2.1)) + (thV ((N i).2.2.2.1) ((N j).2.2.2.1)))) || tOv ((N i).1) ((N j).2.1)) || tOv ((N i).2.1) ((N j).1)) || pOv (((N i).1) * ((N j).2.1)) (((N i).2.1) * ((N j).1))) tp fp ip ((N i).2.2.1) ((N j).2.2.2.1) ) [0] rfl (by decide) [g] (fun _ => rfl) rfl 0 2 rfl rfl rfl ⟨Nat.le_of_ble_eq_true rfl, Nat.le_of_ble_eq_true rfl⟩ rfl hl.1 (Nat.le_of_ble_eq_true rfl) ⟨Nat.le_refl _, Nat.le_refl _⟩ dX2_product_106 ?_
  clear hB
  try clear locs
  try clear H
  intro r11 u11 H locs hp hB
  obtain rfl : r11 = ((N i).2.2.1) * ((N j).2.2.2.1) := hp
  replace hB : zB D A s ([(g, .inr (2, [.int (bI (((((((((((false || tOv ((N i).1) ((N j).1)) || thO ((N i).2.1) ((N j).2.1)) || pOv (((N i).1) * ((N j).1)) (thV ((N i).2.1) ((N j).2.1))) || tOv ((N i).2.2.1) ((N j).2.2.1)) || thO ((N i).2.2.2.1) ((N j).2.2.2.1)) || pOv (((N i).2.2.1) * ((N j).2.2.1)) (thV ((N i).2.2.2.1) ((N j).2.2.2.1))) || mOv ((((N i).1) * ((N j).1)) + (thV ((N i).2.1) ((N j).2.1))) ((((N i).2.2.1) * ((N j).2.2.1)) + (thV ((N i).2.2.2.1) ((N j).2.2.2.1)))) || tOv ((N i).1) ((N j).2.1)) || tOv ((N i).2.1) ((N j).1)) || pOv (((N i).1) * ((N j).2.1)) (((N i).2.1) * ((N j).1))) || tOv ((N i).2.2.1) ((N j).2.2.2.1))), .ref (na tp), .ref (na fp), .ref (na ip)]))] ++ nP na N) H locs := hB
  refine lv_aload_n hx hb dX2_product_109 rfl (lv_at hl 1 rfl) ?_
  refine lv_aload_n hx hb dX2_product_110 rfl (lv_at hl 2 rfl) ?_
  refine zgetN zf_X2_48 hF hB i (by omega) rfl dX2_product_111 ?_
  refine lv_aload_n hx hb dX2_product_114 rfl (lv_at hl 3 rfl) ?_
  refine zgetN zf_X2_45 hF hB j (by omega) rfl dX2_product_115 ?_
  refine zVl zm_X2_35 hF hB (c_X2_times l D ka kb g na (((((((((((false || tOv ((N i).1) ((N j).1)) || thO ((N i).2.1) ((N j).2.1)) || pOv (((N i).1) * ((N j).1)) (thV ((N i).2.1) ((N j).2.1))) || tOv ((N i).2.2.1) ((N j).2.2.1)) || thO ((N i).2.2.2.1) ((N j).2.2.2.1)) || pOv (((N i).2.2.1) * ((N j).2.2.1)) (thV ((N i).2.2.2.1) ((N j).2.2.2.1))) || mOv ((((N i).1) * ((N j).1)) + (thV ((N i).2.1) ((N j).2.1))) ((((N i).2.2.1) * ((N j).2.2.1)) + (thV ((N i).2.2.2.1) ((N j).2.2.2.1)))) || tOv ((N i).1) ((N j).2.1)) || tOv ((N i).2.1) ((N j).1)) || pOv (((N i).1) * ((N j).2.1)) (((N i).2.1) * ((N j).1))) || tOv ((N i).2.2.1) ((N j).2.2.2.1)) tp fp ip ((N i).2.2.2.1) ((N j).2.2.1) ) [0] rfl (by decide) [g] (fun _ => rfl) rfl 0 2 rfl rfl rfl ⟨Nat.le_of_ble_eq_true rfl, Nat.le_of_ble_eq_true rfl⟩ rfl hl.1 (Nat.le_of_ble_eq_true rfl) ⟨Nat.le_refl _, Nat.le_refl _⟩ dX2_product_118 ?_
  clear hB
  try clear locs
  try clear H
  intro r12 u12 H locs hp hB
  obtain rfl : r12 = ((N i).2.2.2.1) * ((N j).2.2.1) := hp
  replace hB : zB D A s ([(g, .inr (2, [.int (bI ((((((((((((false || tOv ((N i).1) ((N j).1)) || thO ((N i).2.1) ((N j).2.1)) || pOv (((N i).1) * ((N j).1)) (thV ((N i).2.1) ((N j).2.1))) || tOv ((N i).2.2.1) ((N j).2.2.1)) || thO ((N i).2.2.2.1) ((N j).2.2.2.1)) || pOv (((N i).2.2.1) * ((N j).2.2.1)) (thV ((N i).2.2.2.1) ((N j).2.2.2.1))) || mOv ((((N i).1) * ((N j).1)) + (thV ((N i).2.1) ((N j).2.1))) ((((N i).2.2.1) * ((N j).2.2.1)) + (thV ((N i).2.2.2.1) ((N j).2.2.2.1)))) || tOv ((N i).1) ((N j).2.1)) || tOv ((N i).2.1) ((N j).1)) || pOv (((N i).1) * ((N j).2.1)) (((N i).2.1) * ((N j).1))) || tOv ((N i).2.2.1) ((N j).2.2.2.1)) || tOv ((N i).2.2.2.1) ((N j).2.2.1))), .ref (na tp), .ref (na fp), .ref (na ip)]))] ++ nP na N) H locs := hB
  refine zVl zm_X2_39 hF hB (c_X2_plus l D ka kb g na ((((((((((((false || tOv ((N i).1) ((N j).1)) || thO ((N i).2.1) ((N j).2.1)) || pOv (((N i).1) * ((N j).1)) (thV ((N i).2.1) ((N j).2.1))) || tOv ((N i).2.2.1) ((N j).2.2.1)) || thO ((N i).2.2.2.1) ((N j).2.2.2.1)) || pOv (((N i).2.2.1) * ((N j).2.2.1)) (thV ((N i).2.2.2.1) ((N j).2.2.2.1))) || mOv ((((N i).1) * ((N j).1)) + (thV ((N i).2.1) ((N j).2.1))) ((((N i).2.2.1) * ((N j).2.2.1)) + (thV ((N i).2.2.2.1) ((N j).2.2.2.1)))) || tOv ((N i).1) ((N j).2.1)) || tOv ((N i).2.1) ((N j).1)) || pOv (((N i).1) * ((N j).2.1)) (((N i).2.1) * ((N j).1))) || tOv ((N i).2.2.1) ((N j).2.2.2.1)) || tOv ((N i).2.2.2.1) ((N j).2.2.1)) tp fp ip (((N i).2.2.1) * ((N j).2.2.2.1)) (((N i).2.2.2.1) * ((N j).2.2.1)) ) [0] rfl (by decide) [g] (fun _ => rfl) rfl 0 2 rfl rfl rfl ⟨Nat.le_of_ble_eq_true rfl, Nat.le_of_ble_eq_true rfl⟩ rfl hl.1 (Nat.le_of_ble_eq_true rfl) ⟨Nat.le_refl _, Nat.le_refl _⟩ dX2_product_121 ?_
  clear hB
  try clear locs
  try clear H
  intro r13 u13 H locs hp hB
  obtain rfl : r13 = (((N i).2.2.1) * ((N j).2.2.2.1)) + (((N i).2.2.2.1) * ((N j).2.2.1)) := hp
  replace hB : zB D A s ([(g, .inr (2, [.int (bI (((((((((((((false || tOv ((N i).1) ((N j).1)) || thO ((N i).2.1) ((N j).2.1)) || pOv (((N i).1) * ((N j).1)) (thV ((N i).2.1) ((N j).2.1))) || tOv ((N i).2.2.1) ((N j).2.2.1)) || thO ((N i).2.2.2.1) ((N j).2.2.2.1)) || pOv (((N i).2.2.1) * ((N j).2.2.1)) (thV ((N i).2.2.2.1) ((N j).2.2.2.1))) || mOv ((((N i).1) * ((N j).1)) + (thV ((N i).2.1) ((N j).2.1))) ((((N i).2.2.1) * ((N j).2.2.1)) + (thV ((N i).2.2.2.1) ((N j).2.2.2.1)))) || tOv ((N i).1) ((N j).2.1)) || tOv ((N i).2.1) ((N j).1)) || pOv (((N i).1) * ((N j).2.1)) (((N i).2.1) * ((N j).1))) || tOv ((N i).2.2.1) ((N j).2.2.2.1)) || tOv ((N i).2.2.2.1) ((N j).2.2.1)) || pOv (((N i).2.2.1) * ((N j).2.2.2.1)) (((N i).2.2.2.1) * ((N j).2.2.1)))), .ref (na tp), .ref (na fp), .ref (na ip)]))] ++ nP na N) H locs := hB
  refine zVl zm_X2_55 hF hB (c_X2_less l D ka kb g na (((((((((((((false || tOv ((N i).1) ((N j).1)) || thO ((N i).2.1) ((N j).2.1)) || pOv (((N i).1) * ((N j).1)) (thV ((N i).2.1) ((N j).2.1))) || tOv ((N i).2.2.1) ((N j).2.2.1)) || thO ((N i).2.2.2.1) ((N j).2.2.2.1)) || pOv (((N i).2.2.1) * ((N j).2.2.1)) (thV ((N i).2.2.2.1) ((N j).2.2.2.1))) || mOv ((((N i).1) * ((N j).1)) + (thV ((N i).2.1) ((N j).2.1))) ((((N i).2.2.1) * ((N j).2.2.1)) + (thV ((N i).2.2.2.1) ((N j).2.2.2.1)))) || tOv ((N i).1) ((N j).2.1)) || tOv ((N i).2.1) ((N j).1)) || pOv (((N i).1) * ((N j).2.1)) (((N i).2.1) * ((N j).1))) || tOv ((N i).2.2.1) ((N j).2.2.2.1)) || tOv ((N i).2.2.2.1) ((N j).2.2.1)) || pOv (((N i).2.2.1) * ((N j).2.2.2.1)) (((N i).2.2.2.1) * ((N j).2.2.1))) tp fp ip ((((N i).1) * ((N j).2.1)) + (((N i).2.1) * ((N j).1))) ((((N i).2.2.1) * ((N j).2.2.2.1)) + (((N i).2.2.2.1) * ((N j).2.2.1))) ) [0] rfl (by decide) [g] (fun _ => rfl) rfl 0 2 rfl rfl rfl ⟨Nat.le_of_ble_eq_true rfl, Nat.le_of_ble_eq_true rfl⟩ rfl hl.1 (Nat.le_of_ble_eq_true rfl) ⟨Nat.le_refl _, Nat.le_refl _⟩ dX2_product_124 ?_
  clear hB
  try clear locs
  try clear H
  intro r14 u14 H locs hp hB
  obtain rfl : r14 = ((((N i).1) * ((N j).2.1)) + (((N i).2.1) * ((N j).1))) - ((((N i).2.2.1) * ((N j).2.2.2.1)) + (((N i).2.2.2.1) * ((N j).2.2.1))) := hp
  replace hB : zB D A s ([(g, .inr (2, [.int (bI ((((((((((((((false || tOv ((N i).1) ((N j).1)) || thO ((N i).2.1) ((N j).2.1)) || pOv (((N i).1) * ((N j).1)) (thV ((N i).2.1) ((N j).2.1))) || tOv ((N i).2.2.1) ((N j).2.2.1)) || thO ((N i).2.2.2.1) ((N j).2.2.2.1)) || pOv (((N i).2.2.1) * ((N j).2.2.1)) (thV ((N i).2.2.2.1) ((N j).2.2.2.1))) || mOv ((((N i).1) * ((N j).1)) + (thV ((N i).2.1) ((N j).2.1))) ((((N i).2.2.1) * ((N j).2.2.1)) + (thV ((N i).2.2.2.1) ((N j).2.2.2.1)))) || tOv ((N i).1) ((N j).2.1)) || tOv ((N i).2.1) ((N j).1)) || pOv (((N i).1) * ((N j).2.1)) (((N i).2.1) * ((N j).1))) || tOv ((N i).2.2.1) ((N j).2.2.2.1)) || tOv ((N i).2.2.2.1) ((N j).2.2.1)) || pOv (((N i).2.2.1) * ((N j).2.2.2.1)) (((N i).2.2.2.1) * ((N j).2.2.1))) || mOv ((((N i).1) * ((N j).2.1)) + (((N i).2.1) * ((N j).1))) ((((N i).2.2.1) * ((N j).2.2.2.1)) + (((N i).2.2.2.1) * ((N j).2.2.1))))), .ref (na tp), .ref (na fp), .ref (na ip)]))] ++ nP na N) H locs := hB
  refine lv_lstore (lv' := [(6, .long (((((N i).1) * ((N j).2.1)) + (((N i).2.1) * ((N j).1))) - ((((N i).2.2.1) * ((N j).2.2.2.1)) + (((N i).2.2.2.1) * ((N j).2.2.1))))), (4, .long (((((N i).1) * ((N j).1)) + (thV ((N i).2.1) ((N j).2.1))) - ((((N i).2.2.1) * ((N j).2.2.1)) + (thV ((N i).2.2.2.1) ((N j).2.2.2.1))))), (0, .ref g), (1, .ref (na i)), (2, .ref (na j)), (3, .ref (na t))]) hx hb dX2_product_127 hl (by decide) rfl ?_
  clear hl
  clear ls
  intro ls hl
  refine lv_aload_n hx hb dX2_product_129 rfl (lv_at hl 2 rfl) ?_
  refine lv_aload_n hx hb dX2_product_130 rfl (lv_at hl 2 rfl) ?_
  refine lv_aload_n hx hb dX2_product_131 rfl (lv_at hl 2 rfl) ?_
  refine lv_aload_n hx hb dX2_product_132 rfl (lv_at hl 2 rfl) ?_
  refine lv_aload_n hx hb dX2_product_133 rfl (lv_at hl 3 rfl) ?_
  refine zgetN zf_X2_28 hF hB i (by omega) rfl dX2_product_134 ?_
  refine lv_aload_n hx hb dX2_product_137 rfl (lv_at hl 4 rfl) ?_
  refine zgetN zf_X2_45 hF hB j (by omega) rfl dX2_product_138 ?_
  refine zVl zm_X2_35 hF hB (c_X2_times l D ka kb g na ((((((((((((((false || tOv ((N i).1) ((N j).1)) || thO ((N i).2.1) ((N j).2.1)) || pOv (((N i).1) * ((N j).1)) (thV ((N i).2.1) ((N j).2.1))) || tOv ((N i).2.2.1) ((N j).2.2.1)) || thO ((N i).2.2.2.1) ((N j).2.2.2.1)) || pOv (((N i).2.2.1) * ((N j).2.2.1)) (thV ((N i).2.2.2.1) ((N j).2.2.2.1))) || mOv ((((N i).1) * ((N j).1)) + (thV ((N i).2.1) ((N j).2.1))) ((((N i).2.2.1) * ((N j).2.2.1)) + (thV ((N i).2.2.2.1) ((N j).2.2.2.1)))) || tOv ((N i).1) ((N j).2.1)) || tOv ((N i).2.1) ((N j).1)) || pOv (((N i).1) * ((N j).2.1)) (((N i).2.1) * ((N j).1))) || tOv ((N i).2.2.1) ((N j).2.2.2.1)) || tOv ((N i).2.2.2.1) ((N j).2.2.1)) || pOv (((N i).2.2.1) * ((N j).2.2.2.1)) (((N i).2.2.2.1) * ((N j).2.2.1))) || mOv ((((N i).1) * ((N j).2.1)) + (((N i).2.1) * ((N j).1))) ((((N i).2.2.1) * ((N j).2.2.2.1)) + (((N i).2.2.2.1) * ((N j).2.2.1)))) tp fp ip ((N i).1) ((N j).2.2.1) ) [0] rfl (by decide) [g] (fun _ => rfl) rfl 0 2 rfl rfl rfl ⟨Nat.le_of_ble_eq_true rfl, Nat.le_of_ble_eq_true rfl⟩ rfl hl.1 (Nat.le_of_ble_eq_true rfl) ⟨Nat.le_refl _, Nat.le_refl _⟩ dX2_product_141 ?_
  clear hB
  try clear locs
  try clear H
  intro r15 u15 H locs hp hB
  obtain rfl : r15 = ((N i).1) * ((N j).2.2.1) := hp
  replace hB : zB D A s ([(g, .inr (2, [.int (bI (((((((((((((((false || tOv ((N i).1) ((N j).1)) || thO ((N i).2.1) ((N j).2.1)) || pOv (((N i).1) * ((N j).1)) (thV ((N i).2.1) ((N j).2.1))) || tOv ((N i).2.2.1) ((N j).2.2.1)) || thO ((N i).2.2.2.1) ((N j).2.2.2.1)) || pOv (((N i).2.2.1) * ((N j).2.2.1)) (thV ((N i).2.2.2.1) ((N j).2.2.2.1))) || mOv ((((N i).1) * ((N j).1)) + (thV ((N i).2.1) ((N j).2.1))) ((((N i).2.2.1) * ((N j).2.2.1)) + (thV ((N i).2.2.2.1) ((N j).2.2.2.1)))) || tOv ((N i).1) ((N j).2.1)) || tOv ((N i).2.1) ((N j).1)) || pOv (((N i).1) * ((N j).2.1)) (((N i).2.1) * ((N j).1))) || tOv ((N i).2.2.1) ((N j).2.2.2.1)) || tOv ((N i).2.2.2.1) ((N j).2.2.1)) || pOv (((N i).2.2.1) * ((N j).2.2.2.1)) (((N i).2.2.2.1) * ((N j).2.2.1))) || mOv ((((N i).1) * ((N j).2.1)) + (((N i).2.1) * ((N j).1))) ((((N i).2.2.1) * ((N j).2.2.2.1)) + (((N i).2.2.2.1) * ((N j).2.2.1)))) || tOv ((N i).1) ((N j).2.2.1))), .ref (na tp), .ref (na fp), .ref (na ip)]))] ++ nP na N) H locs := hB
  refine lv_aload_n hx hb dX2_product_144 rfl (lv_at hl 2 rfl) ?_
  refine lv_aload_n hx hb dX2_product_145 rfl (lv_at hl 3 rfl) ?_
  refine zgetN zf_X2_42 hF hB i (by omega) rfl dX2_product_146 ?_
  refine lv_aload_n hx hb dX2_product_149 rfl (lv_at hl 4 rfl) ?_
  refine zgetN zf_X2_48 hF hB j (by omega) rfl dX2_product_150 ?_
  refine zVl zm_X2_58 hF hB (c_X2_thrice l D ka kb g na (((((((((((((((false || tOv ((N i).1) ((N j).1)) || thO ((N i).2.1) ((N j).2.1)) || pOv (((N i).1) * ((N j).1)) (thV ((N i).2.1) ((N j).2.1))) || tOv ((N i).2.2.1) ((N j).2.2.1)) || thO ((N i).2.2.2.1) ((N j).2.2.2.1)) || pOv (((N i).2.2.1) * ((N j).2.2.1)) (thV ((N i).2.2.2.1) ((N j).2.2.2.1))) || mOv ((((N i).1) * ((N j).1)) + (thV ((N i).2.1) ((N j).2.1))) ((((N i).2.2.1) * ((N j).2.2.1)) + (thV ((N i).2.2.2.1) ((N j).2.2.2.1)))) || tOv ((N i).1) ((N j).2.1)) || tOv ((N i).2.1) ((N j).1)) || pOv (((N i).1) * ((N j).2.1)) (((N i).2.1) * ((N j).1))) || tOv ((N i).2.2.1) ((N j).2.2.2.1)) || tOv ((N i).2.2.2.1) ((N j).2.2.1)) || pOv (((N i).2.2.1) * ((N j).2.2.2.1)) (((N i).2.2.2.1) * ((N j).2.2.1))) || mOv ((((N i).1) * ((N j).2.1)) + (((N i).2.1) * ((N j).1))) ((((N i).2.2.1) * ((N j).2.2.2.1)) + (((N i).2.2.2.1) * ((N j).2.2.1)))) || tOv ((N i).1) ((N j).2.2.1)) tp fp ip ((N i).2.1) ((N j).2.2.2.1) ) [0] rfl (by decide) [g] (fun _ => rfl) rfl 0 2 rfl rfl rfl ⟨Nat.le_of_ble_eq_true rfl, Nat.le_of_ble_eq_true rfl⟩ rfl hl.1 (Nat.le_of_ble_eq_true rfl) ⟨Nat.le_refl _, Nat.le_refl _⟩ dX2_product_153 ?_
  clear hB
  try clear locs
  try clear H
  intro r16 u16 H locs hp hB
  obtain rfl : r16 = thV ((N i).2.1) ((N j).2.2.2.1) := hp
  replace hB : zB D A s ([(g, .inr (2, [.int (bI ((((((((((((((((false || tOv ((N i).1) ((N j).1)) || thO ((N i).2.1) ((N j).2.1)) || pOv (((N i).1) * ((N j).1)) (thV ((N i).2.1) ((N j).2.1))) || tOv ((N i).2.2.1) ((N j).2.2.1)) || thO ((N i).2.2.2.1) ((N j).2.2.2.1)) || pOv (((N i).2.2.1) * ((N j).2.2.1)) (thV ((N i).2.2.2.1) ((N j).2.2.2.1))) || mOv ((((N i).1) * ((N j).1)) + (thV ((N i).2.1) ((N j).2.1))) ((((N i).2.2.1) * ((N j).2.2.1)) + (thV ((N i).2.2.2.1) ((N j).2.2.2.1)))) || tOv ((N i).1) ((N j).2.1)) || tOv ((N i).2.1) ((N j).1)) || pOv (((N i).1) * ((N j).2.1)) (((N i).2.1) * ((N j).1))) || tOv ((N i).2.2.1) ((N j).2.2.2.1)) || tOv ((N i).2.2.2.1) ((N j).2.2.1)) || pOv (((N i).2.2.1) * ((N j).2.2.2.1)) (((N i).2.2.2.1) * ((N j).2.2.1))) || mOv ((((N i).1) * ((N j).2.1)) + (((N i).2.1) * ((N j).1))) ((((N i).2.2.1) * ((N j).2.2.2.1)) + (((N i).2.2.2.1) * ((N j).2.2.1)))) || tOv ((N i).1) ((N j).2.2.1)) || thO ((N i).2.1) ((N j).2.2.2.1))), .ref (na tp), .ref (na fp), .ref (na ip)]))] ++ nP na N) H locs := hB
  refine zVl zm_X2_39 hF hB (c_X2_plus l D ka kb g na ((((((((((((((((false || tOv ((N i).1) ((N j).1)) || thO ((N i).2.1) ((N j).2.1)) || pOv (((N i).1) * ((N j).1)) (thV ((N i).2.1) ((N j).2.1))) || tOv ((N i).2.2.1) ((N j).2.2.1)) || thO ((N i).2.2.2.1) ((N j).2.2.2.1)) || pOv (((N i).2.2.1) * ((N j).2.2.1)) (thV ((N i).2.2.2.1) ((N j).2.2.2.1))) || mOv ((((N i).1) * ((N j).1)) + (thV ((N i).2.1) ((N j).2.1))) ((((N i).2.2.1) * ((N j).2.2.1)) + (thV ((N i).2.2.2.1) ((N j).2.2.2.1)))) || tOv ((N i).1) ((N j).2.1)) || tOv ((N i).2.1) ((N j).1)) || pOv (((N i).1) * ((N j).2.1)) (((N i).2.1) * ((N j).1))) || tOv ((N i).2.2.1) ((N j).2.2.2.1)) || tOv ((N i).2.2.2.1) ((N j).2.2.1)) || pOv (((N i).2.2.1) * ((N j).2.2.2.1)) (((N i).2.2.2.1) * ((N j).2.2.1))) || mOv ((((N i).1) * ((N j).2.1)) + (((N i).2.1) * ((N j).1))) ((((N i).2.2.1) * ((N j).2.2.2.1)) + (((N i).2.2.2.1) * ((N j).2.2.1)))) || tOv ((N i).1) ((N j).2.2.1)) || thO ((N i).2.1) ((N j).2.2.2.1)) tp fp ip (((N i).1) * ((N j).2.2.1)) (thV ((N i).2.1) ((N j).2.2.2.1)) ) [0] rfl (by decide) [g] (fun _ => rfl) rfl 0 2 rfl rfl rfl ⟨Nat.le_of_ble_eq_true rfl, Nat.le_of_ble_eq_true rfl⟩ rfl hl.1 (Nat.le_of_ble_eq_true rfl) ⟨Nat.le_refl _, Nat.le_refl _⟩ dX2_product_156 ?_
  clear hB
  try clear locs
  try clear H
  intro r17 u17 H locs hp hB
  obtain rfl : r17 = (((N i).1) * ((N j).2.2.1)) + (thV ((N i).2.1) ((N j).2.2.2.1)) := hp
  replace hB : zB D A s ([(g, .inr (2, [.int (bI (((((((((((((((((false || tOv ((N i).1) ((N j).1)) || thO ((N i).2.1) ((N j).2.1)) || pOv (((N i).1) * ((N j).1)) (thV ((N i).2.1) ((N j).2.1))) || tOv ((N i).2.2.1) ((N j).2.2.1)) || thO ((N i).2.2.2.1) ((N j).2.2.2.1)) || pOv (((N i).2.2.1) * ((N j).2.2.1)) (thV ((N i).2.2.2.1) ((N j).2.2.2.1))) || mOv ((((N i).1) * ((N j).1)) + (thV ((N i).2.1) ((N j).2.1))) ((((N i).2.2.1) * ((N j).2.2.1)) + (thV ((N i).2.2.2.1) ((N j).2.2.2.1)))) || tOv ((N i).1) ((N j).2.1)) || tOv ((N i).2.1) ((N j).1)) || pOv (((N i).1) * ((N j).2.1)) (((N i).2.1) * ((N j).1))) || tOv ((N i).2.2.1) ((N j).2.2.2.1)) || tOv ((N i).2.2.2.1) ((N j).2.2.1)) || pOv (((N i).2.2.1) * ((N j).2.2.2.1)) (((N i).2.2.2.1) * ((N j).2.2.1))) || mOv ((((N i).1) * ((N j).2.1)) + (((N i).2.1) * ((N j).1))) ((((N i).2.2.1) * ((N j).2.2.2.1)) + (((N i).2.2.2.1) * ((N j).2.2.1)))) || tOv ((N i).1) ((N j).2.2.1)) || thO ((N i).2.1) ((N j).2.2.2.1)) || pOv (((N i).1) * ((N j).2.2.1)) (thV ((N i).2.1) ((N j).2.2.2.1)))), .ref (na tp), .ref (na fp), .ref (na ip)]))] ++ nP na N) H locs := hB
  refine lv_aload_n hx hb dX2_product_159 rfl (lv_at hl 2 rfl) ?_
  refine lv_aload_n hx hb dX2_product_160 rfl (lv_at hl 3 rfl) ?_
  refine zgetN zf_X2_45 hF hB i (by omega) rfl dX2_product_161 ?_
  refine lv_aload_n hx hb dX2_product_164 rfl (lv_at hl 4 rfl) ?_
  refine zgetN zf_X2_28 hF hB j (by omega) rfl dX2_product_165 ?_
  refine zVl zm_X2_35 hF hB (c_X2_times l D ka kb g na (((((((((((((((((false || tOv ((N i).1) ((N j).1)) || thO ((N i).2.1) ((N j).2.1)) || pOv (((N i).1) * ((N j).1)) (thV ((N i).2.1) ((N j).2.1))) || tOv ((N i).2.2.1) ((N j).2.2.1)) || thO ((N i).2.2.2.1) ((N j).2.2.2.1)) || pOv (((N i).2.2.1) * ((N j).2.2.1)) (thV ((N i).2.2.2.1) ((N j).2.2.2.1))) || mOv ((((N i).1) * ((N j).1)) + (thV ((N i).2.1) ((N j).2.1))) ((((N i).2.2.1) * ((N j).2.2.1)) + (thV ((N i).2.2.2.1) ((N j).2.2.2.1)))) || tOv ((N i).1) ((N j).2.1)) || tOv ((N i).2.1) ((N j).1)) || pOv (((N i).1) * ((N j).2.1)) (((N i).2.1) * ((N j).1))) || tOv ((N i).2.2.1) ((N j).2.2.2.1)) || tOv ((N i).2.2.2.1) ((N j).2.2.1)) || pOv (((N i).2.2.1) * ((N j).2.2.2.1)) (((N i).2.2.2.1) * ((N j).2.2.1))) || mOv ((((N i).1) * ((N j).2.1)) + (((N i).2.1) * ((N j).1))) ((((N i).2.2.1) * ((N j).2.2.2.1)) + (((N i).2.2.2.1) * ((N j).2.2.1)))) || tOv ((N i).1) ((N j).2.2.1)) || thO ((N i).2.1) ((N j).2.2.2.1)) || pOv (((N i).1) * ((N j).2.2.1)) (thV ((N i).2.1) ((N j).2.2.2.1))) tp fp ip ((N i).2.2.1) ((N j).1) ) [0] rfl (by decide) [g] (fun _ => rfl) rfl 0 2 rfl rfl rfl ⟨Nat.le_of_ble_eq_true rfl, Nat.le_of_ble_eq_true rfl⟩ rfl hl.1 (Nat.le_of_ble_eq_true rfl) ⟨Nat.le_refl _, Nat.le_refl _⟩ dX2_product_168 ?_
  clear hB
  try clear locs
  try clear H
  intro r18 u18 H locs hp hB
  obtain rfl : r18 = ((N i).2.2.1) * ((N j).1) := hp
  replace hB : zB D A s ([(g, .inr (2, [.int (bI ((((((((((((((((((false || tOv ((N i).1) ((N j).1)) || thO ((N i).2.1) ((N j).2.1)) || pOv (((N i).1) * ((N j).1)) (thV ((N i).2.1) ((N j).2.1))) || tOv ((N i).2.2.1) ((N j).2.2.1)) || thO ((N i).2.2.2.1) ((N j).2.2.2.1)) || pOv (((N i).2.2.1) * ((N j).2.2.1)) (thV ((N i).2.2.2.1) ((N j).2.2.2.1))) || mOv ((((N i).1) * ((N j).1)) + (thV ((N i).2.1) ((N j).2.1))) ((((N i).2.2.1) * ((N j).2.2.1)) + (thV ((N i).2.2.2.1) ((N j).2.2.2.1)))) || tOv ((N i).1) ((N j).2.1)) || tOv ((N i).2.1) ((N j).1)) || pOv (((N i).1) * ((N j).2.1)) (((N i).2.1) * ((N j).1))) || tOv ((N i).2.2.1) ((N j).2.2.2.1)) || tOv ((N i).2.2.2.1) ((N j).2.2.1)) || pOv (((N i).2.2.1) * ((N j).2.2.2.1)) (((N i).2.2.2.1) * ((N j).2.2.1))) || mOv ((((N i).1) * ((N j).2.1)) + (((N i).2.1) * ((N j).1))) ((((N i).2.2.1) * ((N j).2.2.2.1)) + (((N i).2.2.2.1) * ((N j).2.2.1)))) || tOv ((N i).1) ((N j).2.2.1)) || thO ((N i).2.1) ((N j).2.2.2.1)) || pOv (((N i).1) * ((N j).2.2.1)) (thV ((N i).2.1) ((N j).2.2.2.1))) || tOv ((N i).2.2.1) ((N j).1))), .ref (na tp), .ref (na fp), .ref (na ip)]))] ++ nP na N) H locs := hB
  refine zVl zm_X2_39 hF hB (c_X2_plus l D ka kb g na ((((((((((((((((((false || tOv ((N i).1) ((N j).1)) || thO ((N i).2.1) ((N j).2.1)) || pOv (((N i).1) * ((N j).1)) (thV ((N i).2.1) ((N j).2.1))) || tOv ((N i).2.2.1) ((N j).2.2.1)) || thO ((N i).2.2.2.1) ((N j).2.2.2.1)) || pOv (((N i).2.2.1) * ((N j).2.2.1)) (thV ((N i).2.2.2.1) ((N j).2.2.2.1))) || mOv ((((N i).1) * ((N j).1)) + (thV ((N i).2.1) ((N j).2.1))) ((((N i).2.2.1) * ((N j).2.2.1)) + (thV ((N i).2.2.2.1) ((N j).2.2.2.1)))) || tOv ((N i).1) ((N j).2.1)) || tOv ((N i).2.1) ((N j).1)) || pOv (((N i).1) * ((N j).2.1)) (((N i).2.1) * ((N j).1))) || tOv ((N i).2.2.1) ((N j).2.2.2.1)) || tOv ((N i).2.2.2.1) ((N j).2.2.1)) || pOv (((N i).2.2.1) * ((N j).2.2.2.1)) (((N i).2.2.2.1) * ((N j).2.2.1))) || mOv ((((N i).1) * ((N j).2.1)) + (((N i).2.1) * ((N j).1))) ((((N i).2.2.1) * ((N j).2.2.2.1)) + (((N i).2.2.2.1) * ((N j).2.2.1)))) || tOv ((N i).1) ((N j).2.2.1)) || thO ((N i).2.1) ((N j).2.2.2.1)) || pOv (((N i).1) * ((N j).2.2.1)) (thV ((N i).2.1) ((N j).2.2.2.1))) || tOv ((N i).2.2.1) ((N j).1)) tp fp ip ((((N i).1) * ((N j).2.2.1)) + (thV ((N i).2.1) ((N j).2.2.2.1))) (((N i).2.2.1) * ((N j).1)) ) [0] rfl (by decide) [g] (fun _ => rfl) rfl 0 2 rfl rfl rfl ⟨Nat.le_of_ble_eq_true rfl, Nat.le_of_ble_eq_true rfl⟩ rfl hl.1 (Nat.le_of_ble_eq_true rfl) ⟨Nat.le_refl _, Nat.le_refl _⟩ dX2_product_171 ?_
  clear hB
  try clear locs
  try clear H
  intro r19 u19 H locs hp hB
  obtain rfl : r19 = ((((N i).1) * ((N j).2.2.1)) + (thV ((N i).2.1) ((N j).2.2.2.1))) + (((N i).2.2.1) * ((N j).1)) := hp
  replace hB : zB D A s ([(g, .inr (2, [.int (bI (((((((((((((((((((false || tOv ((N i).1) ((N j).1)) || thO ((N i).2.1) ((N j).2.1)) || pOv (((N i).1) * ((N j).1)) (thV ((N i).2.1) ((N j).2.1))) || tOv ((N i).2.2.1) ((N j).2.2.1)) || thO ((N i).2.2.2.1) ((N j).2.2.2.1)) || pOv (((N i).2.2.1) * ((N j).2.2.1)) (thV ((N i).2.2.2.1) ((N j).2.2.2.1))) || mOv ((((N i).1) * ((N j).1)) + (thV ((N i).2.1) ((N j).2.1))) ((((N i).2.2.1) * ((N j).2.2.1)) + (thV ((N i).2.2.2.1) ((N j).2.2.2.1)))) || tOv ((N i).1) ((N j).2.1)) || tOv ((N i).2.1) ((N j).1)) || pOv (((N i).1) * ((N j).2.1)) (((N i).2.1) * ((N j).1))) || tOv ((N i).2.2.1) ((N j).2.2.2.1)) || tOv ((N i).2.2.2.1) ((N j).2.2.1)) || pOv (((N i).2.2.1) * ((N j).2.2.2.1)) (((N i).2.2.2.1) * ((N j).2.2.1))) || mOv ((((N i).1) * ((N j).2.1)) + (((N i).2.1) * ((N j).1))) ((((N i).2.2.1) * ((N j).2.2.2.1)) + (((N i).2.2.2.1) * ((N j).2.2.1)))) || tOv ((N i).1) ((N j).2.2.1)) || thO ((N i).2.1) ((N j).2.2.2.1)) || pOv (((N i).1) * ((N j).2.2.1)) (thV ((N i).2.1) ((N j).2.2.2.1))) || tOv ((N i).2.2.1) ((N j).1)) || pOv ((((N i).1) * ((N j).2.2.1)) + (thV ((N i).2.1) ((N j).2.2.2.1))) (((N i).2.2.1) * ((N j).1)))), .ref (na tp), .ref (na fp), .ref (na ip)]))] ++ nP na N) H locs := hB
  refine lv_aload_n hx hb dX2_product_174 rfl (lv_at hl 2 rfl) ?_
  refine lv_aload_n hx hb dX2_product_175 rfl (lv_at hl 3 rfl) ?_
  refine zgetN zf_X2_48 hF hB i (by omega) rfl dX2_product_176 ?_
  refine lv_aload_n hx hb dX2_product_179 rfl (lv_at hl 4 rfl) ?_
  refine zgetN zf_X2_42 hF hB j (by omega) rfl dX2_product_180 ?_
  refine zVl zm_X2_58 hF hB (c_X2_thrice l D ka kb g na (((((((((((((((((((false || tOv ((N i).1) ((N j).1)) || thO ((N i).2.1) ((N j).2.1)) || pOv (((N i).1) * ((N j).1)) (thV ((N i).2.1) ((N j).2.1))) || tOv ((N i).2.2.1) ((N j).2.2.1)) || thO ((N i).2.2.2.1) ((N j).2.2.2.1)) || pOv (((N i).2.2.1) * ((N j).2.2.1)) (thV ((N i).2.2.2.1) ((N j).2.2.2.1))) || mOv ((((N i).1) * ((N j).1)) + (thV ((N i).2.1) ((N j).2.1))) ((((N i).2.2.1) * ((N j).2.2.1)) + (thV ((N i).2.2.2.1) ((N j).2.2.2.1)))) || tOv ((N i).1) ((N j).2.1)) || tOv ((N i).2.1) ((N j).1)) || pOv (((N i).1) * ((N j).2.1)) (((N i).2.1) * ((N j).1))) || tOv ((N i).2.2.1) ((N j).2.2.2.1)) || tOv ((N i).2.2.2.1) ((N j).2.2.1)) || pOv (((N i).2.2.1) * ((N j).2.2.2.1)) (((N i).2.2.2.1) * ((N j).2.2.1))) || mOv ((((N i).1) * ((N j).2.1)) + (((N i).2.1) * ((N j).1))) ((((N i).2.2.1) * ((N j).2.2.2.1)) + (((N i).2.2.2.1) * ((N j).2.2.1)))) || tOv ((N i).1) ((N j).2.2.1)) || thO ((N i).2.1) ((N j).2.2.2.1)) || pOv (((N i).1) * ((N j).2.2.1)) (thV ((N i).2.1) ((N j).2.2.2.1))) || tOv ((N i).2.2.1) ((N j).1)) || pOv ((((N i).1) * ((N j).2.2.1)) + (thV ((N i).2.1) ((N j).2.2.2.1))) (((N i).2.2.1) * ((N j).1))) tp fp ip ((N i).2.2.2.1) ((N j).2.1) ) [0] rfl (by decide) [g] (fun _ => rfl) rfl 0 2 rfl rfl rfl ⟨Nat.le_of_ble_eq_true rfl, Nat.le_of_ble_eq_true rfl⟩ rfl hl.1 (Nat.le_of_ble_eq_true rfl) ⟨Nat.le_refl _, Nat.le_refl _⟩ dX2_product_183 ?_
  clear hB
  try clear locs
  try clear H
  intro r20 u20 H locs hp hB
  obtain rfl : r20 = thV ((N i).2.2.2.1) ((N j).2.1) := hp
  replace hB : zB D A s ([(g, .inr (2, [.int (bI ((((((((((((((((((((false || tOv ((N i).1) ((N j).1)) || thO ((N i).2.1) ((N j).2.1)) || pOv (((N i).1) * ((N j).1)) (thV ((N i).2.1) ((N j).2.1))) || tOv ((N i).2.2.1) ((N j).2.2.1)) || thO ((N i).2.2.2.1) ((N j).2.2.2.1)) || pOv (((N i).2.2.1) * ((N j).2.2.1)) (thV ((N i).2.2.2.1) ((N j).2.2.2.1))) || mOv ((((N i).1) * ((N j).1)) + (thV ((N i).2.1) ((N j).2.1))) ((((N i).2.2.1) * ((N j).2.2.1)) + (thV ((N i).2.2.2.1) ((N j).2.2.2.1)))) || tOv ((N i).1) ((N j).2.1)) || tOv ((N i).2.1) ((N j).1)) || pOv (((N i).1) * ((N j).2.1)) (((N i).2.1) * ((N j).1))) || tOv ((N i).2.2.1) ((N j).2.2.2.1)) || tOv ((N i).2.2.2.1) ((N j).2.2.1)) || pOv (((N i).2.2.1) * ((N j).2.2.2.1)) (((N i).2.2.2.1) * ((N j).2.2.1))) || mOv ((((N i).1) * ((N j).2.1)) + (((N i).2.1) * ((N j).1))) ((((N i).2.2.1) * ((N j).2.2.2.1)) + (((N i).2.2.2.1) * ((N j).2.2.1)))) || tOv ((N i).1) ((N j).2.2.1)) || thO ((N i).2.1) ((N j).2.2.2.1)) || pOv (((N i).1) * ((N j).2.2.1)) (thV ((N i).2.1) ((N j).2.2.2.1))) || tOv ((N i).2.2.1) ((N j).1)) || pOv ((((N i).1) * ((N j).2.2.1)) + (thV ((N i).2.1) ((N j).2.2.2.1))) (((N i).2.2.1) * ((N j).1))) || thO ((N i).2.2.2.1) ((N j).2.1))), .ref (na tp), .ref (na fp), .ref (na ip)]))] ++ nP na N) H locs := hB
  refine zVl zm_X2_39 hF hB (c_X2_plus l D ka kb g na ((((((((((((((((((((false || tOv ((N i).1) ((N j).1)) || thO ((N i).2.1) ((N j).2.1)) || pOv (((N i).1) * ((N j).1)) (thV ((N i).2.1) ((N j).2.1))) || tOv ((N i).2.2.1) ((N j).2.2.1)) || thO ((N i).2.2.2.1) ((N j).2.2.2.1)) || pOv (((N i).2.2.1) * ((N j).2.2.1)) (thV ((N i).2.2.2.1) ((N j).2.2.2.1))) || mOv ((((N i).1) * ((N j).1)) + (thV ((N i).2.1) ((N j).2.1))) ((((N i).2.2.1) * ((N j).2.2.1)) + (thV ((N i).2.2.2.1) ((N j).2.2.2.1)))) || tOv ((N i).1) ((N j).2.1)) || tOv ((N i).2.1) ((N j).1)) || pOv (((N i).1) * ((N j).2.1)) (((N i).2.1) * ((N j).1))) || tOv ((N i).2.2.1) ((N j).2.2.2.1)) || tOv ((N i).2.2.2.1) ((N j).2.2.1)) || pOv (((N i).2.2.1) * ((N j).2.2.2.1)) (((N i).2.2.2.1) * ((N j).2.2.1))) || mOv ((((N i).1) * ((N j).2.1)) + (((N i).2.1) * ((N j).1))) ((((N i).2.2.1) * ((N j).2.2.2.1)) + (((N i).2.2.2.1) * ((N j).2.2.1)))) || tOv ((N i).1) ((N j).2.2.1)) || thO ((N i).2.1) ((N j).2.2.2.1)) || pOv (((N i).1) * ((N j).2.2.1)) (thV ((N i).2.1) ((N j).2.2.2.1))) || tOv ((N i).2.2.1) ((N j).1)) || pOv ((((N i).1) * ((N j).2.2.1)) + (thV ((N i).2.1) ((N j).2.2.2.1))) (((N i).2.2.1) * ((N j).1))) || thO ((N i).2.2.2.1) ((N j).2.1)) tp fp ip (((((N i).1) * ((N j).2.2.1)) + (thV ((N i).2.1) ((N j).2.2.2.1))) + (((N i).2.2.1) * ((N j).1))) (thV ((N i).2.2.2.1) ((N j).2.1)) ) [0] rfl (by decide) [g] (fun _ => rfl) rfl 0 2 rfl rfl rfl ⟨Nat.le_of_ble_eq_true rfl, Nat.le_of_ble_eq_true rfl⟩ rfl hl.1 (Nat.le_of_ble_eq_true rfl) ⟨Nat.le_refl _, Nat.le_refl _⟩ dX2_product_186 ?_
  clear hB
  try clear locs
  try clear H
  intro r21 u21 H locs hp hB
  obtain rfl : r21 = (((((N i).1) * ((N j).2.2.1)) + (thV ((N i).2.1) ((N j).2.2.2.1))) + (((N i).2.2.1) * ((N j).1))) + (thV ((N i).2.2.2.1) ((N j).2.1)) := hp
  replace hB : zB D A s ([(g, .inr (2, [.int (bI (((((((((((((((((((((false || tOv ((N i).1) ((N j).1)) || thO ((N i).2.1) ((N j).2.1)) || pOv (((N i).1) * ((N j).1)) (thV ((N i).2.1) ((N j).2.1))) || tOv ((N i).2.2.1) ((N j).2.2.1)) || thO ((N i).2.2.2.1) ((N j).2.2.2.1)) || pOv (((N i).2.2.1) * ((N j).2.2.1)) (thV ((N i).2.2.2.1) ((N j).2.2.2.1))) || mOv ((((N i).1) * ((N j).1)) + (thV ((N i).2.1) ((N j).2.1))) ((((N i).2.2.1) * ((N j).2.2.1)) + (thV ((N i).2.2.2.1) ((N j).2.2.2.1)))) || tOv ((N i).1) ((N j).2.1)) || tOv ((N i).2.1) ((N j).1)) || pOv (((N i).1) * ((N j).2.1)) (((N i).2.1) * ((N j).1))) || tOv ((N i).2.2.1) ((N j).2.2.2.1)) || tOv ((N i).2.2.2.1) ((N j).2.2.1)) || pOv (((N i).2.2.1) * ((N j).2.2.2.1)) (((N i).2.2.2.1) * ((N j).2.2.1))) || mOv ((((N i).1) * ((N j).2.1)) + (((N i).2.1) * ((N j).1))) ((((N i).2.2.1) * ((N j).2.2.2.1)) + (((N i).2.2.2.1) * ((N j).2.2.1)))) || tOv ((N i).1) ((N j).2.2.1)) || thO ((N i).2.1) ((N j).2.2.2.1)) || pOv (((N i).1) * ((N j).2.2.1)) (thV ((N i).2.1) ((N j).2.2.2.1))) || tOv ((N i).2.2.1) ((N j).1)) || pOv ((((N i).1) * ((N j).2.2.1)) + (thV ((N i).2.1) ((N j).2.2.2.1))) (((N i).2.2.1) * ((N j).1))) || thO ((N i).2.2.2.1) ((N j).2.1)) || pOv (((((N i).1) * ((N j).2.2.1)) + (thV ((N i).2.1) ((N j).2.2.2.1))) + (((N i).2.2.1) * ((N j).1))) (thV ((N i).2.2.2.1) ((N j).2.1)))), .ref (na tp), .ref (na fp), .ref (na ip)]))] ++ nP na N) H locs := hB
  refine lv_lstore (lv' := [(8, .long ((((((N i).1) * ((N j).2.2.1)) + (thV ((N i).2.1) ((N j).2.2.2.1))) + (((N i).2.2.1) * ((N j).1))) + (thV ((N i).2.2.2.1) ((N j).2.1)))), (6, .long (((((N i).1) * ((N j).2.1)) + (((N i).2.1) * ((N j).1))) - ((((N i).2.2.1) * ((N j).2.2.2.1)) + (((N i).2.2.2.1) * ((N j).2.2.1))))), (4, .long (((((N i).1) * ((N j).1)) + (thV ((N i).2.1) ((N j).2.1))) - ((((N i).2.2.1) * ((N j).2.2.1)) + (thV ((N i).2.2.2.1) ((N j).2.2.2.1))))), (0, .ref g), (1, .ref (na i)), (2, .ref (na j)), (3, .ref (na t))]) hx hb dX2_product_189 hl (by decide) rfl ?_
  clear hl
  clear ls
  intro ls hl
  refine lv_aload_n hx hb dX2_product_191 rfl (lv_at hl 3 rfl) ?_
  refine lv_aload_n hx hb dX2_product_192 rfl (lv_at hl 3 rfl) ?_
  refine lv_aload_n hx hb dX2_product_193 rfl (lv_at hl 3 rfl) ?_
  refine lv_aload_n hx hb dX2_product_194 rfl (lv_at hl 3 rfl) ?_
  refine lv_aload_n hx hb dX2_product_195 rfl (lv_at hl 4 rfl) ?_
  refine zgetN zf_X2_28 hF hB i (by omega) rfl dX2_product_196 ?_
  refine lv_aload_n hx hb dX2_product_199 rfl (lv_at hl 5 rfl) ?_
  refine zgetN zf_X2_48 hF hB j (by omega) rfl dX2_product_200 ?_
  refine zVl zm_X2_35 hF hB (c_X2_times l D ka kb g na (((((((((((((((((((((false || tOv ((N i).1) ((N j).1)) || thO ((N i).2.1) ((N j).2.1)) || pOv (((N i).1) * ((N j).1)) (thV ((N i).2.1) ((N j).2.1))) || tOv ((N i).2.2.1) ((N j).2.2.1)) || thO ((N i).2.2.2.1) ((N j).2.2.2.1)) || pOv (((N i).2.2.1) * ((N j).2.2.1)) (thV ((N i).2.2.2.1) ((N j).2.2.2.1))) || mOv ((((N i).1) * ((N j).1)) + (thV ((N i).2.1) ((N j).2.1))) ((((N i).2.2.1) * ((N j).2.2.1)) + (thV ((N i).2.2.2.1) ((N j).2.2.2.1)))) || tOv ((N i).1) ((N j).2.1)) || tOv ((N i).2.1) ((N j).1)) || pOv (((N i).1) * ((N j).2.1)) (((N i).2.1) * ((N j).1))) || tOv ((N i).2.2.1) ((N j).2.2.2.1)) || tOv ((N i).2.2.2.1) ((N j).2.2.1)) || pOv (((N i).2.2.1) * ((N j).2.2.2.1)) (((N i).2.2.2.1) * ((N j).2.2.1))) || mOv ((((N i).1) * ((N j).2.1)) + (((N i).2.1) * ((N j).1))) ((((N i).2.2.1) * ((N j).2.2.2.1)) + (((N i).2.2.2.1) * ((N j).2.2.1)))) || tOv ((N i).1) ((N j).2.2.1)) || thO ((N i).2.1) ((N j).2.2.2.1)) || pOv (((N i).1) * ((N j).2.2.1)) (thV ((N i).2.1) ((N j).2.2.2.1))) || tOv ((N i).2.2.1) ((N j).1)) || pOv ((((N i).1) * ((N j).2.2.1)) + (thV ((N i).2.1) ((N j).2.2.2.1))) (((N i).2.2.1) * ((N j).1))) || thO ((N i).2.2.2.1) ((N j).2.1)) || pOv (((((N i).1) * ((N j).2.2.1)) + (thV ((N i).2.1) ((N j).2.2.2.1))) + (((N i).2.2.1) * ((N j).1))) (thV ((N i).2.2.2.1) ((N j).2.1))) tp fp ip ((N i).1) ((N j).2.2.2.1) ) [0] rfl (by decide) [g] (fun _ => rfl) rfl 0 2 rfl rfl rfl ⟨Nat.le_of_ble_eq_true rfl, Nat.le_of_ble_eq_true rfl⟩ rfl hl.1 (Nat.le_of_ble_eq_true rfl) ⟨Nat.le_refl _, Nat.le_refl _⟩ dX2_product_203 ?_
  clear hB
  try clear locs
  try clear H
  intro r22 u22 H locs hp hB
  obtain rfl : r22 = ((N i).1) * ((N j).2.2.2.1) := hp
  replace hB : zB D A s ([(g, .inr (2, [.int (bI ((((((((((((((((((((((false || tOv ((N i).1) ((N j).1)) || thO ((N i).2.1) ((N j).2.1)) || pOv (((N i).1) * ((N j).1)) (thV ((N i).2.1) ((N j).2.1))) || tOv ((N i).2.2.1) ((N j).2.2.1)) || thO ((N i).2.2.2.1) ((N j).2.2.2.1)) || pOv (((N i).2.2.1) * ((N j).2.2.1)) (thV ((N i).2.2.2.1) ((N j).2.2.2.1))) || mOv ((((N i).1) * ((N j).1)) + (thV ((N i).2.1) ((N j).2.1))) ((((N i).2.2.1) * ((N j).2.2.1)) + (thV ((N i).2.2.2.1) ((N j).2.2.2.1)))) || tOv ((N i).1) ((N j).2.1)) || tOv ((N i).2.1) ((N j).1)) || pOv (((N i).1) * ((N j).2.1)) (((N i).2.1) * ((N j).1))) || tOv ((N i).2.2.1) ((N j).2.2.2.1)) || tOv ((N i).2.2.2.1) ((N j).2.2.1)) || pOv (((N i).2.2.1) * ((N j).2.2.2.1)) (((N i).2.2.2.1) * ((N j).2.2.1))) || mOv ((((N i).1) * ((N j).2.1)) + (((N i).2.1) * ((N j).1))) ((((N i).2.2.1) * ((N j).2.2.2.1)) + (((N i).2.2.2.1) * ((N j).2.2.1)))) || tOv ((N i).1) ((N j).2.2.1)) || thO ((N i).2.1) ((N j).2.2.2.1)) || pOv (((N i).1) * ((N j).2.2.1)) (thV ((N i).2.1) ((N j).2.2.2.1))) || tOv ((N i).2.2.1) ((N j).1)) || pOv ((((N i).1) * ((N j).2.2.1)) + (thV ((N i).2.1) ((N j).2.2.2.1))) (((N i).2.2.1) * ((N j).1))) || thO ((N i).2.2.2.1) ((N j).2.1)) || pOv (((((N i).1) * ((N j).2.2.1)) + (thV ((N i).2.1) ((N j).2.2.2.1))) + (((N i).2.2.1) * ((N j).1))) (thV ((N i).2.2.2.1) ((N j).2.1))) || tOv ((N i).1) ((N j).2.2.2.1))), .ref (na tp), .ref (na fp), .ref (na ip)]))] ++ nP na N) H locs := hB
  refine lv_aload_n hx hb dX2_product_206 rfl (lv_at hl 3 rfl) ?_
  refine lv_aload_n hx hb dX2_product_207 rfl (lv_at hl 4 rfl) ?_
  refine zgetN zf_X2_42 hF hB i (by omega) rfl dX2_product_208 ?_
  refine lv_aload_n hx hb dX2_product_211 rfl (lv_at hl 5 rfl) ?_
  refine zgetN zf_X2_45 hF hB j (by omega) rfl dX2_product_212 ?_
  refine zVl zm_X2_35 hF hB (c_X2_times l D ka kb g na ((((((((((((((((((((((false || tOv ((N i).1) ((N j).1)) || thO ((N i).2.1) ((N j).2.1)) || pOv (((N i).1) * ((N j).1)) (thV ((N i).2.1) ((N j).2.1))) || tOv ((N i).2.2.1) ((N j).2.2.1)) || thO ((N i).2.2.2.1) ((N j).2.2.2.1)) || pOv (((N i).2.2.1) * ((N j).2.2.1)) (thV ((N i).2.2.2.1) ((N j).2.2.2.1))) || mOv ((((N i).1) * ((N j).1)) + (thV ((N i).2.1) ((N j).2.1))) ((((N i).2.2.1) * ((N j).2.2.1)) + (thV ((N i).2.2.2.1) ((N j).2.2.2.1)))) || tOv ((N i).1) ((N j).2.1)) || tOv ((N i).2.1) ((N j).1)) || pOv (((N i).1) * ((N j).2.1)) (((N i).2.1) * ((N j).1))) || tOv ((N i).2.2.1) ((N j).2.2.2.1)) || tOv ((N i).2.2.2.1) ((N j).2.2.1)) || pOv (((N i).2.2.1) * ((N j).2.2.2.1)) (((N i).2.2.2.1) * ((N j).2.2.1))) || mOv ((((N i).1) * ((N j).2.1)) + (((N i).2.1) * ((N j).1))) ((((N i).2.2.1) * ((N j).2.2.2.1)) + (((N i).2.2.2.1) * ((N j).2.2.1)))) || tOv ((N i).1) ((N j).2.2.1)) || thO ((N i).2.1) ((N j).2.2.2.1)) || pOv (((N i).1) * ((N j).2.2.1)) (thV ((N i).2.1) ((N j).2.2.2.1))) || tOv ((N i).2.2.1) ((N j).1)) || pOv ((((N i).1) * ((N j).2.2.1)) + (thV ((N i).2.1) ((N j).2.2.2.1))) (((N i).2.2.1) * ((N j).1))) || thO ((N i).2.2.2.1) ((N j).2.1)) || pOv (((((N i).1) * ((N j).2.2.1)) + (thV ((N i).2.1) ((N j).2.2.2.1))) + (((N i).2.2.1) * ((N j).1))) (thV ((N i).2.2.2.1) ((N j).2.1))) || tOv ((N i).1) ((N j).2.2.2.1)) tp fp ip ((N i).2.1) ((N j).2.2.1) ) [0] rfl (by decide) [g] (fun _ => rfl) rfl 0 2 rfl rfl rfl ⟨Nat.le_of_ble_eq_true rfl, Nat.le_of_ble_eq_true rfl⟩ rfl hl.1 (Nat.le_of_ble_eq_true rfl) ⟨Nat.le_refl _, Nat.le_refl _⟩ dX2_product_215 ?_
  clear hB
  try clear locs
  try clear H
  intro r23 u23 H locs hp hB
  obtain rfl : r23 = ((N i).2.1) * ((N j).2.2.1) := hp
  replace hB : zB D A s ([(g, .inr (2, [.int (bI (((((((((((((((((((((((false || tOv ((N i).1) ((N j).1)) || thO ((N i).2.1) ((N j).2.1)) || pOv (((N i).1) * ((N j).1)) (thV ((N i).2.1) ((N j).2.1))) || tOv ((N i).2.2.1) ((N j).2.2.1)) || thO ((N i).2.2.2.1) ((N j).2.2.2.1)) || pOv (((N i).2.2.1) * ((N j).2.2.1)) (thV ((N i).2.2.2.1) ((N j).2.2.2.1))) || mOv ((((N i).1) * ((N j).1)) + (thV ((N i).2.1) ((N j).2.1))) ((((N i).2.2.1) * ((N j).2.2.1)) + (thV ((N i).2.2.2.1) ((N j).2.2.2.1)))) || tOv ((N i).1) ((N j).2.1)) || tOv ((N i).2.1) ((N j).1)) || pOv (((N i).1) * ((N j).2.1)) (((N i).2.1) * ((N j).1))) || tOv ((N i).2.2.1) ((N j).2.2.2.1)) || tOv ((N i).2.2.2.1) ((N j).2.2.1)) || pOv (((N i).2.2.1) * ((N j).2.2.2.1)) (((N i).2.2.2.1) * ((N j).2.2.1))) || mOv ((((N i).1) * ((N j).2.1)) + (((N i).2.1) * ((N j).1))) ((((N i).2.2.1) * ((N j).2.2.2.1)) + (((N i).2.2.2.1) * ((N j).2.2.1)))) || tOv ((N i).1) ((N j).2.2.1)) || thO ((N i).2.1) ((N j).2.2.2.1)) || pOv (((N i).1) * ((N j).2.2.1)) (thV ((N i).2.1) ((N j).2.2.2.1))) || tOv ((N i).2.2.1) ((N j).1)) || pOv ((((N i).1) * ((N j).2.2.1)) + (thV ((N i).2.1) ((N j).2.2.2.1))) (((N i).2.2.1) * ((N j).1))) || thO ((N i).2.2.2.1) ((N j).2.1)) || pOv (((((N i).1) * ((N j).2.2.1)) + (thV ((N i).2.1) ((N j).2.2.2.1))) + (((N i).2.2.1) * ((N j).1))) (thV ((N i).2.2.2.1) ((N j).2.1))) || tOv ((N i).1) ((N j).2.2.2.1)) || tOv ((N i).2.1) ((N j).2.2.1))), .ref (na tp), .ref (na fp), .ref (na ip)]))] ++ nP na N) H locs := hB
  refine zVl zm_X2_39 hF hB (c_X2_plus l D ka kb g na (((((((((((((((((((((((false || tOv ((N i).1) ((N j).1)) || thO ((N i).2.1) ((N j).2.1)) || pOv (((N i).1) * ((N j).1)) (thV ((N i).2.1) ((N j).2.1))) || tOv ((N i).2.2.1) ((N j).2.2.1)) || thO ((N i).2.2.2.1) ((N j).2.2.2.1)) || pOv (((N i).2.2.1) * ((N j).2.2.1)) (thV ((N i).2.2.2.1) ((N j).2.2.2.1))) || mOv ((((N i).1) * ((N j).1)) + (thV ((N i).2.1) ((N j).2.1))) ((((N i).2.2.1) * ((N j).2.2.1)) + (thV ((N i).2.2.2.1) ((N j).2.2.2.1)))) || tOv ((N i).1) ((N j).2.1)) || tOv ((N i).2.1) ((N j).1)) || pOv (((N i).1) * ((N j).2.1)) (((N i).2.1) * ((N j).1))) || tOv ((N i).2.2.1) ((N j).2.2.2.1)) || tOv ((N i).2.2.2.1) ((N j).2.2.1)) || pOv (((N i).2.2.1) * ((N j).2.2.2.1)) (((N i).2.2.2.1) * ((N j).2.2.1))) || mOv ((((N i).1) * ((N j).2.1)) + (((N i).2.1) * ((N j).1))) ((((N i).2.2.1) * ((N j).2.2.2.1)) + (((N i).2.2.2.1) * ((N j).2.2.1)))) || tOv ((N i).1) ((N j).2.2.1)) || thO ((N i).2.1) ((N j).2.2.2.1)) || pOv (((N i).1) * ((N j).2.2.1)) (thV ((N i).2.1) ((N j).2.2.2.1))) || tOv ((N i).2.2.1) ((N j).1)) || pOv ((((N i).1) * ((N j).2.2.1)) + (thV ((N i).2.1) ((N j).2.2.2.1))) (((N i).2.2.1) * ((N j).1))) || thO ((N i).2.2.2.1) ((N j).2.1)) || pOv (((((N i).1) * ((N j).2.2.1)) + (thV ((N i).2.1) ((N j).2.2.2.1))) + (((N i).2.2.1) * ((N j).1))) (thV ((N i).2.2.2.1) ((N j).2.1))) || tOv ((N i).1) ((N j).2.2.2.1)) || tOv ((N i).2.1) ((N j).2.2.1)) tp fp ip (((N i).1) * ((N j).2.2.2.1)) (((N i).2.1) * ((N j).2.2.1)) ) [0] rfl (by decide) [g] (fun _ => rfl) rfl 0 2 rfl rfl rfl ⟨Nat.le_of_ble_eq_true rfl, Nat.le_of_ble_eq_true rfl⟩ rfl hl.1 (Nat.le_of_ble_eq_true rfl) ⟨Nat.le_refl _, Nat.le_refl _⟩ dX2_product_218 ?_
  clear hB
  try clear locs
  try clear H
  intro r24 u24 H locs hp hB
  obtain rfl : r24 = (((N i).1) * ((N j).2.2.2.1)) + (((N i).2.1) * ((N j).2.2.1)) := hp
  replace hB : zB D A s ([(g, .inr (2, [.int (bI ((((((((((((((((((((((((false || tOv ((N i).1) ((N j).1)) || thO ((N i).2.1) ((N j).2.1)) || pOv (((N i).1) * ((N j).1)) (thV ((N i).2.1) ((N j).2.1))) || tOv ((N i).2.2.1) ((N j).2.2.1)) || thO ((N i).2.2.2.1) ((N j).2.2.2.1)) || pOv (((N i).2.2.1) * ((N j).2.2.1)) (thV ((N i).2.2.2.1) ((N j).2.2.2.1))) || mOv ((((N i).1) * ((N j).1)) + (thV ((N i).2.1) ((N j).2.1))) ((((N i).2.2.1) * ((N j).2.2.1)) + (thV ((N i).2.2.2.1) ((N j).2.2.2.1)))) || tOv ((N i).1) ((N j).2.1)) || tOv ((N i).2.1) ((N j).1)) || pOv (((N i).1) * ((N j).2.1)) (((N i).2.1) * ((N j).1))) || tOv ((N i).2.2.1) ((N j).2.2.2.1)) || tOv ((N i).2.2.2.1) ((N j).2.2.1)) || pOv (((N i).2.2.1) * ((N j).2.2.2.1)) (((N i).2.2.2.1) * ((N j).2.2.1))) || mOv ((((N i).1) * ((N j).2.1)) + (((N i).2.1) * ((N j).1))) ((((N i).2.2.1) * ((N j).2.2.2.1)) + (((N i).2.2.2.1) * ((N j).2.2.1)))) || tOv ((N i).1) ((N j).2.2.1)) || thO ((N i).2.1) ((N j).2.2.2.1)) || pOv (((N i).1) * ((N j).2.2.1)) (thV ((N i).2.1) ((N j).2.2.2.1))) || tOv ((N i).2.2.1) ((N j).1)) || pOv ((((N i).1) * ((N j).2.2.1)) + (thV ((N i).2.1) ((N j).2.2.2.1))) (((N i).2.2.1) * ((N j).1))) || thO ((N i).2.2.2.1) ((N j).2.1)) || pOv (((((N i).1) * ((N j).2.2.1)) + (thV ((N i).2.1) ((N j).2.2.2.1))) + (((N i).2.2.1) * ((N j).1))) (thV ((N i).2.2.2.1) ((N j).2.1))) || tOv ((N i).1) ((N j).2.2.2.1)) || tOv ((N i).2.1) ((N j).2.2.1)) || pOv (((N i).1) * ((N j).2.2.2.1)) (((N i).2.1) * ((N j).2.2.1)))), .ref (na tp), .ref (na fp), .ref (na ip)]))] ++ nP na N) H locs := hB
  refine lv_aload_n hx hb dX2_product_221 rfl (lv_at hl 3 rfl) ?_
  refine lv_aload_n hx hb dX2_product_222 rfl (lv_at hl 4 rfl) ?_
  refine zgetN zf_X2_45 hF hB i (by omega) rfl dX2_product_223 ?_
  refine lv_aload_n hx hb dX2_product_226 rfl (lv_at hl 5 rfl) ?_
  refine zgetN zf_X2_42 hF hB j (by omega) rfl dX2_product_227 ?_
  refine zVl zm_X2_35 hF hB (c_X2_times l D ka kb g na ((((((((((((((((((((((((false || tOv ((N i).1) ((N j).1)) || thO ((N i).2.1) ((N j).2.1)) || pOv (((N i).1) * ((N j).1)) (thV ((N i).2.1) ((N j).2.1))) || tOv ((N i).2.2.1) ((N j).2.2.1)) || thO ((N i).2.2.2.1) ((N j).2.2.2.1)) || pOv (((N i).2.2.1) * ((N j).2.2.1)) (thV ((N i).2.2.2.1) ((N j).2.2.2.1))) || mOv ((((N i).1) * ((N j).1)) + (thV ((N i).2.1) ((N j).2.1))) ((((N i).2.2.1) * ((N j).2.2.1)) + (thV ((N i).2.2.2.1) ((N j).2.2.2.1)))) || tOv ((N i).1) ((N j).2.1)) || tOv ((N i).2.1) ((N j).1)) || pOv (((N i).1) * ((N j).2.1)) (((N i).2.1) * ((N j).1))) || tOv ((N i).2.2.1) ((N j).2.2.2.1)) || tOv ((N i).2.2.2.1) ((N j).2.2.1)) || pOv (((N i).2.2.1) * ((N j).2.2.2.1)) (((N i).2.2.2.1) * ((N j).2.2.1))) || mOv ((((N i).1) * ((N j).2.1)) + (((N i).2.1) * ((N j).1))) ((((N i).2.2.1) * ((N j).2.2.2.1)) + (((N i).2.2.2.1) * ((N j).2.2.1)))) || tOv ((N i).1) ((N j).2.2.1)) || thO ((N i).2.1) ((N j).2.2.2.1)) || pOv (((N i).1) * ((N j).2.2.1)) (thV ((N i).2.1) ((N j).2.2.2.1))) || tOv ((N i).2.2.1) ((N j).1)) || pOv ((((N i).1) * ((N j).2.2.1)) + (thV ((N i).2.1) ((N j).2.2.2.1))) (((N i).2.2.1) * ((N j).1))) || thO ((N i).2.2.2.1) ((N j).2.1)) || pOv (((((N i).1) * ((N j).2.2.1)) + (thV ((N i).2.1) ((N j).2.2.2.1))) + (((N i).2.2.1) * ((N j).1))) (thV ((N i).2.2.2.1) ((N j).2.1))) || tOv ((N i).1) ((N j).2.2.2.1)) || tOv ((N i).2.1) ((N j).2.2.1)) || pOv (((N i).1) * ((N j).2.2.2.1)) (((N i).2.1) * ((N j).2.2.1))) tp fp ip ((N i).2.2.1) ((N j).2.1) ) [0] rfl (by decide) [g] (fun _ => rfl) rfl 0 2 rfl rfl rfl ⟨Nat.le_of_ble_eq_true rfl, Nat.le_of_ble_eq_true rfl⟩ rfl hl.1 (Nat.le_of_ble_eq_true rfl) ⟨Nat.le_refl _, Nat.le_refl _⟩ dX2_product_230 ?_
  clear hB
  try clear locs
  try clear H
  intro r25 u25 H locs hp hB
  obtain rfl : r25 = ((N i).2.2.1) * ((N j).2.1) := hp
  replace hB : zB D A s ([(g, .inr (2, [.int (bI (((((((((((((((((((((((((false || tOv ((N i).1) ((N j).1)) || thO ((N i).2.1) ((N j).2.1)) || pOv (((N i).1) * ((N j).1)) (thV ((N i).2.1) ((N j).2.1))) || tOv ((N i).2.2.1) ((N j).2.2.1)) || thO ((N i).2.2.2.1) ((N j).2.2.2.1)) || pOv (((N i).2.2.1) * ((N j).2.2.1)) (thV ((N i).2.2.2.1) ((N j).2.2.2.1))) || mOv ((((N i).1) * ((N j).1)) + (thV ((N i).2.1) ((N j).2.1))) ((((N i).2.2.1) * ((N j).2.2.1)) + (thV ((N i).2.2.2.1) ((N j).2.2.2.1)))) || tOv ((N i).1) ((N j).2.1)) || tOv ((N i).2.1) ((N j).1)) || pOv (((N i).1) * ((N j).2.1)) (((N i).2.1) * ((N j).1))) || tOv ((N i).2.2.1) ((N j).2.2.2.1)) || tOv ((N i).2.2.2.1) ((N j).2.2.1)) || pOv (((N i).2.2.1) * ((N j).2.2.2.1)) (((N i).2.2.2.1) * ((N j).2.2.1))) || mOv ((((N i).1) * ((N j).2.1)) + (((N i).2.1) * ((N j).1))) ((((N i).2.2.1) * ((N j).2.2.2.1)) + (((N i).2.2.2.1) * ((N j).2.2.1)))) || tOv ((N i).1) ((N j).2.2.1)) || thO ((N i).2.1) ((N j).2.2.2.1)) || pOv (((N i).1) * ((N j).2.2.1)) (thV ((N i).2.1) ((N j).2.2.2.1))) || tOv ((N i).2.2.1) ((N j).1)) || pOv ((((N i).1) * ((N j).2.2.1)) + (thV ((N i).2.1) ((N j).2.2.2.1))) (((N i).2.2.1) * ((N j).1))) || thO ((N i).2.2.2.1) ((N j).2.1)) || pOv (((((N i).1) * ((N j).2.2.1)) + (thV ((N i).2.1) ((N j).2.2.2.1))) + (((N i).2.2.1) * ((N j).1))) (thV ((N i).2.2.2.1) ((N j).2.1))) || tOv ((N i).1) ((N j).2.2.2.1)) || tOv ((N i).2.1) ((N j).2.2.1)) || pOv (((N i).1) * ((N j).2.2.2.1)) (((N i).2.1) * ((N j).2.2.1))) || tOv ((N i).2.2.1) ((N j).2.1))), .ref (na tp), .ref (na fp), .ref (na ip)]))] ++ nP na N) H locs := hB
  refine zVl zm_X2_39 hF hB (c_X2_plus l D ka kb g na (((((((((((((((((((((((((false || tOv ((N i).1) ((N j).1)) || thO ((N i).2.1) ((N j).2.1)) || pOv (((N i).1) * ((N j).1)) (thV ((N i).2.1) ((N j).2.1))) || tOv ((N i).2.2.1) ((N j).2.2.1)) || thO ((N i).2.2.2.1) ((N j).2.2.2.1)) || pOv (((N i).2.2.1) * ((N j).2.2.1)) (thV ((N i).2.2.2.1) ((N j).2.2.2.1))) || mOv ((((N i).1) * ((N j).1)) + (thV ((N i).2.1) ((N j).2.1))) ((((N i).2.2.1) * ((N j).2.2.1)) + (thV ((N i).2.2.2.1) ((N j).2.2.2.1)))) || tOv ((N i).1) ((N j).2.1)) || tOv ((N i).2.1) ((N j).1)) || pOv (((N i).1) * ((N j).2.1)) (((N i).2.1) * ((N j).1))) || tOv ((N i).2.2.1) ((N j).2.2.2.1)) || tOv ((N i).2.2.2.1) ((N j).2.2.1)) || pOv (((N i).2.2.1) * ((N j).2.2.2.1)) (((N i).2.2.2.1) * ((N j).2.2.1))) || mOv ((((N i).1) * ((N j).2.1)) + (((N i).2.1) * ((N j).1))) ((((N i).2.2.1) * ((N j).2.2.2.1)) + (((N i).2.2.2.1) * ((N j).2.2.1)))) || tOv ((N i).1) ((N j).2.2.1)) || thO ((N i).2.1) ((N j).2.2.2.1)) || pOv (((N i).1) * ((N j).2.2.1)) (thV ((N i).2.1) ((N j).2.2.2.1))) || tOv ((N i).2.2.1) ((N j).1)) || pOv ((((N i).1) * ((N j).2.2.1)) + (thV ((N i).2.1) ((N j).2.2.2.1))) (((N i).2.2.1) * ((N j).1))) || thO ((N i).2.2.2.1) ((N j).2.1)) || pOv (((((N i).1) * ((N j).2.2.1)) + (thV ((N i).2.1) ((N j).2.2.2.1))) + (((N i).2.2.1) * ((N j).1))) (thV ((N i).2.2.2.1) ((N j).2.1))) || tOv ((N i).1) ((N j).2.2.2.1)) || tOv ((N i).2.1) ((N j).2.2.1)) || pOv (((N i).1) * ((N j).2.2.2.1)) (((N i).2.1) * ((N j).2.2.1))) || tOv ((N i).2.2.1) ((N j).2.1)) tp fp ip ((((N i).1) * ((N j).2.2.2.1)) + (((N i).2.1) * ((N j).2.2.1))) (((N i).2.2.1) * ((N j).2.1)) ) [0] rfl (by decide) [g] (fun _ => rfl) rfl 0 2 rfl rfl rfl ⟨Nat.le_of_ble_eq_true rfl, Nat.le_of_ble_eq_true rfl⟩ rfl hl.1 (Nat.le_of_ble_eq_true rfl) ⟨Nat.le_refl _, Nat.le_refl _⟩ dX2_product_233 ?_
  clear hB
  try clear locs
  try clear H
  intro r26 u26 H locs hp hB
  obtain rfl : r26 = ((((N i).1) * ((N j).2.2.2.1)) + (((N i).2.1) * ((N j).2.2.1))) + (((N i).2.2.1) * ((N j).2.1)) := hp
  replace hB : zB D A s ([(g, .inr (2, [.int (bI ((((((((((((((((((((((((((false || tOv ((N i).1) ((N j).1)) || thO ((N i).2.1) ((N j).2.1)) || pOv (((N i).1) * ((N j).1)) (thV ((N i).2.1) ((N j).2.1))) || tOv ((N i).2.2.1) ((N j).2.2.1)) || thO ((N i).2.2.2.1) ((N j).2.2.2.1)) || pOv (((N i).2.2.1) * ((N j).2.2.1)) (thV ((N i).2.2.2.1) ((N j).2.2.2.1))) || mOv ((((N i).1) * ((N j).1)) + (thV ((N i).2.1) ((N j).2.1))) ((((N i).2.2.1) * ((N j).2.2.1)) + (thV ((N i).2.2.2.1) ((N j).2.2.2.1)))) || tOv ((N i).1) ((N j).2.1)) || tOv ((N i).2.1) ((N j).1)) || pOv (((N i).1) * ((N j).2.1)) (((N i).2.1) * ((N j).1))) || tOv ((N i).2.2.1) ((N j).2.2.2.1)) || tOv ((N i).2.2.2.1) ((N j).2.2.1)) || pOv (((N i).2.2.1) * ((N j).2.2.2.1)) (((N i).2.2.2.1) * ((N j).2.2.1))) || mOv ((((N i).1) * ((N j).2.1)) + (((N i).2.1) * ((N j).1))) ((((N i).2.2.1) * ((N j).2.2.2.1)) + (((N i).2.2.2.1) * ((N j).2.2.1)))) || tOv ((N i).1) ((N j).2.2.1)) || thO ((N i).2.1) ((N j).2.2.2.1)) || pOv (((N i).1) * ((N j).2.2.1)) (thV ((N i).2.1) ((N j).2.2.2.1))) || tOv ((N i).2.2.1) ((N j).1)) || pOv ((((N i).1) * ((N j).2.2.1)) + (thV ((N i).2.1) ((N j).2.2.2.1))) (((N i).2.2.1) * ((N j).1))) || thO ((N i).2.2.2.1) ((N j).2.1)) || pOv (((((N i).1) * ((N j).2.2.1)) + (thV ((N i).2.1) ((N j).2.2.2.1))) + (((N i).2.2.1) * ((N j).1))) (thV ((N i).2.2.2.1) ((N j).2.1))) || tOv ((N i).1) ((N j).2.2.2.1)) || tOv ((N i).2.1) ((N j).2.2.1)) || pOv (((N i).1) * ((N j).2.2.2.1)) (((N i).2.1) * ((N j).2.2.1))) || tOv ((N i).2.2.1) ((N j).2.1)) || pOv ((((N i).1) * ((N j).2.2.2.1)) + (((N i).2.1) * ((N j).2.2.1))) (((N i).2.2.1) * ((N j).2.1)))), .ref (na tp), .ref (na fp), .ref (na ip)]))] ++ nP na N) H locs := hB
  refine lv_aload_n hx hb dX2_product_236 rfl (lv_at hl 3 rfl) ?_
  refine lv_aload_n hx hb dX2_product_237 rfl (lv_at hl 4 rfl) ?_
  refine zgetN zf_X2_48 hF hB i (by omega) rfl dX2_product_238 ?_
  refine lv_aload_n hx hb dX2_product_241 rfl (lv_at hl 5 rfl) ?_
  refine zgetN zf_X2_28 hF hB j (by omega) rfl dX2_product_242 ?_
  refine zVl zm_X2_35 hF hB (c_X2_times l D ka kb g na ((((((((((((((((((((((((((false || tOv ((N i).1) ((N j).1)) || thO ((N i).2.1) ((N j).2.1)) || pOv (((N i).1) * ((N j).1)) (thV ((N i).2.1) ((N j).2.1))) || tOv ((N i).2.2.1) ((N j).2.2.1)) || thO ((N i).2.2.2.1) ((N j).2.2.2.1)) || pOv (((N i).2.2.1) * ((N j).2.2.1)) (thV ((N i).2.2.2.1) ((N j).2.2.2.1))) || mOv ((((N i).1) * ((N j).1)) + (thV ((N i).2.1) ((N j).2.1))) ((((N i).2.2.1) * ((N j).2.2.1)) + (thV ((N i).2.2.2.1) ((N j).2.2.2.1)))) || tOv ((N i).1) ((N j).2.1)) || tOv ((N i).2.1) ((N j).1)) || pOv (((N i).1) * ((N j).2.1)) (((N i).2.1) * ((N j).1))) || tOv ((N i).2.2.1) ((N j).2.2.2.1)) || tOv ((N i).2.2.2.1) ((N j).2.2.1)) || pOv (((N i).2.2.1) * ((N j).2.2.2.1)) (((N i).2.2.2.1) * ((N j).2.2.1))) || mOv ((((N i).1) * ((N j).2.1)) + (((N i).2.1) * ((N j).1))) ((((N i).2.2.1) * ((N j).2.2.2.1)) + (((N i).2.2.2.1) * ((N j).2.2.1)))) || tOv ((N i).1) ((N j).2.2.1)) || thO ((N i).2.1) ((N j).2.2.2.1)) || pOv (((N i).1) * ((N j).2.2.1)) (thV ((N i).2.1) ((N j).2.2.2.1))) || tOv ((N i).2.2.1) ((N j).1)) || pOv ((((N i).1) * ((N j).2.2.1)) + (thV ((N i).2.1) ((N j).2.2.2.1))) (((N i).2.2.1) * ((N j).1))) || thO ((N i).2.2.2.1) ((N j).2.1)) || pOv (((((N i).1) * ((N j).2.2.1)) + (thV ((N i).2.1) ((N j).2.2.2.1))) + (((N i).2.2.1) * ((N j).1))) (thV ((N i).2.2.2.1) ((N j).2.1))) || tOv ((N i).1) ((N j).2.2.2.1)) || tOv ((N i).2.1) ((N j).2.2.1)) || pOv (((N i).1) * ((N j).2.2.2.1)) (((N i).2.1) * ((N j).2.2.1))) || tOv ((N i).2.2.1) ((N j).2.1)) || pOv ((((N i).1) * ((N j).2.2.2.1)) + (((N i).2.1) * ((N j).2.2.1))) (((N i).2.2.1) * ((N j).2.1))) tp fp ip ((N i).2.2.2.1) ((N j).1) ) [0] rfl (by decide) [g] (fun _ => rfl) rfl 0 2 rfl rfl rfl ⟨Nat.le_of_ble_eq_true rfl, Nat.le_of_ble_eq_true rfl⟩ rfl hl.1 (Nat.le_of_ble_eq_true rfl) ⟨Nat.le_refl _, Nat.le_refl _⟩ dX2_product_245 ?_
  clear hB
  try clear locs
  try clear H
  intro r27 u27 H locs hp hB
  obtain rfl : r27 = ((N i).2.2.2.1) * ((N j).1) := hp
  replace hB : zB D A s ([(g, .inr (2, [.int (bI (((((((((((((((((((((((((((false || tOv ((N i).1) ((N j).1)) || thO ((N i).2.1) ((N j).2.1)) || pOv (((N i).1) * ((N j).1)) (thV ((N i).2.1) ((N j).2.1))) || tOv ((N i).2.2.1) ((N j).2.2.1)) || thO ((N i).2.2.2.1) ((N j).2.2.2.1)) || pOv (((N i).2.2.1) * ((N j).2.2.1)) (thV ((N i).2.2.2.1) ((N j).2.2.2.1))) || mOv ((((N i).1) * ((N j).1)) + (thV ((N i).2.1) ((N j).2.1))) ((((N i).2.2.1) * ((N j).2.2.1)) + (thV ((N i).2.2.2.1) ((N j).2.2.2.1)))) || tOv ((N i).1) ((N j).2.1)) || tOv ((N i).2.1) ((N j).1)) || pOv (((N i).1) * ((N j).2.1)) (((N i).2.1) * ((N j).1))) || tOv ((N i).2.2.1) ((N j).2.2.2.1)) || tOv ((N i).2.2.2.1) ((N j).2.2.1)) || pOv (((N i).2.2.1) * ((N j).2.2.2.1)) (((N i).2.2.2.1) * ((N j).2.2.1))) || mOv ((((N i).1) * ((N j).2.1)) + (((N i).2.1) * ((N j).1))) ((((N i).2.2.1) * ((N j).2.2.2.1)) + (((N i).2.2.2.1) * ((N j).2.2.1)))) || tOv ((N i).1) ((N j).2.2.1)) || thO ((N i).2.1) ((N j).2.2.2.1)) || pOv (((N i).1) * ((N j).2.2.1)) (thV ((N i).2.1) ((N j).2.2.2.1))) || tOv ((N i).2.2.1) ((N j).1)) || pOv ((((N i).1) * ((N j).2.2.1)) + (thV ((N i).2.1) ((N j).2.2.2.1))) (((N i).2.2.1) * ((N j).1))) || thO ((N i).2.2.2.1) ((N j).2.1)) || pOv (((((N i).1) * ((N j).2.2.1)) + (thV ((N i).2.1) ((N j).2.2.2.1))) + (((N i).2.2.1) * ((N j).1))) (thV ((N i).2.2.2.1) ((N j).2.1))) || tOv ((N i).1) ((N j).2.2.2.1)) || tOv ((N i).2.1) ((N j).2.2.1)) || pOv (((N i).1) * ((N j).2.2.2.1)) (((N i).2.1) * ((N j).2.2.1))) || tOv ((N i).2.2.1) ((N j).2.1)) || pOv ((((N i).1) * ((N j).2.2.2.1)) + (((N i).2.1) * ((N j).2.2.1))) (((N i).2.2.1) * ((N j).2.1))) || tOv ((N i).2.2.2.1) ((N j).1))), .ref (na tp), .ref (na fp), .ref (na ip)]))] ++ nP na N) H locs := hB
  refine zVl zm_X2_39 hF hB (c_X2_plus l D ka kb g na (((((((((((((((((((((((((((false || tOv ((N i).1) ((N j).1)) || thO ((N i).2.1) ((N j).2.1)) || pOv (((N i).1) * ((N j).1)) (thV ((N i).2.1) ((N j).2.1))) || tOv ((N i).2.2.1) ((N j).2.2.1)) || thO ((N i).2.2.2.1) ((N j).2.2.2.1)) || pOv (((N i).2.2.1) * ((N j).2.2.1)) (thV ((N i).2.2.2.1) ((N j).2.2.2.1))) || mOv ((((N i).1) * ((N j).1)) + (thV ((N i).2.1) ((N j).2.1))) ((((N i).2.2.1) * ((N j).2.2.1)) + (thV ((N i).2.2.2.1) ((N j).2.2.2.1)))) || tOv ((N i).1) ((N j).2.1)) || tOv ((N i).2.1) ((N j).1)) || pOv (((N i).1) * ((N j).2.1)) (((N i).2.1) * ((N j).1))) || tOv ((N i).2.2.1) ((N j).2.2.2.1)) || tOv ((N i).2.2.2.1) ((N j).2.2.1)) || pOv (((N i).2.2.1) * ((N j).2.2.2.1)) (((N i).2.2.2.1) * ((N j).2.2.1))) || mOv ((((N i).1) * ((N j).2.1)) + (((N i).2.1) * ((N j).1))) ((((N i).2.2.1) * ((N j).2.2.2.1)) + (((N i).2.2.2.1) * ((N j).2.2.1)))) || tOv ((N i).1) ((N j).2.2.1)) || thO ((N i).2.1) ((N j).2.2.2.1)) || pOv (((N i).1) * ((N j).2.2.1)) (thV ((N i).2.1) ((N j).2.2.2.1))) || tOv ((N i).2.2.1) ((N j).1)) || pOv ((((N i).1) * ((N j).2.2.1)) + (thV ((N i).2.1) ((N j).2.2.2.1))) (((N i).2.2.1) * ((N j).1))) || thO ((N i).2.2.2.1) ((N j).2.1)) || pOv (((((N i).1) * ((N j).2.2.1)) + (thV ((N i).2.1) ((N j).2.2.2.1))) + (((N i).2.2.1) * ((N j).1))) (thV ((N i).2.2.2.1) ((N j).2.1))) || tOv ((N i).1) ((N j).2.2.2.1)) || tOv ((N i).2.1) ((N j).2.2.1)) || pOv (((N i).1) * ((N j).2.2.2.1)) (((N i).2.1) * ((N j).2.2.1))) || tOv ((N i).2.2.1) ((N j).2.1)) || pOv ((((N i).1) * ((N j).2.2.2.1)) + (((N i).2.1) * ((N j).2.2.1))) (((N i).2.2.1) * ((N j).2.1))) || tOv ((N i).2.2.2.1) ((N j).1)) tp fp ip (((((N i).1) * ((N j).2.2.2.1)) + (((N i).2.1) * ((N j).2.2.1))) + (((N i).2.2.1) * ((N j).2.1))) (((N i).2.2.2.1) * ((N j).1)) ) [0] rfl (by decide) [g] (fun _ => rfl) rfl 0 2 rfl rfl rfl ⟨Nat.le_of_ble_eq_true rfl, Nat.le_of_ble_eq_true rfl⟩ rfl hl.1 (Nat.le_of_ble_eq_true rfl) ⟨Nat.le_refl _, Nat.le_refl _⟩ dX2_product_248 ?_
  clear hB
  try clear locs
  try clear H
  intro r28 u28 H locs hp hB
  obtain rfl : r28 = (((((N i).1) * ((N j).2.2.2.1)) + (((N i).2.1) * ((N j).2.2.1))) + (((N i).2.2.1) * ((N j).2.1))) + (((N i).2.2.2.1) * ((N j).1)) := hp
  replace hB : zB D A s ([(g, .inr (2, [.int (bI ((((((((((((((((((((((((((((false || tOv ((N i).1) ((N j).1)) || thO ((N i).2.1) ((N j).2.1)) || pOv (((N i).1) * ((N j).1)) (thV ((N i).2.1) ((N j).2.1))) || tOv ((N i).2.2.1) ((N j).2.2.1)) || thO ((N i).2.2.2.1) ((N j).2.2.2.1)) || pOv (((N i).2.2.1) * ((N j).2.2.1)) (thV ((N i).2.2.2.1) ((N j).2.2.2.1))) || mOv ((((N i).1) * ((N j).1)) + (thV ((N i).2.1) ((N j).2.1))) ((((N i).2.2.1) * ((N j).2.2.1)) + (thV ((N i).2.2.2.1) ((N j).2.2.2.1)))) || tOv ((N i).1) ((N j).2.1)) || tOv ((N i).2.1) ((N j).1)) || pOv (((N i).1) * ((N j).2.1)) (((N i).2.1) * ((N j).1))) || tOv ((N i).2.2.1) ((N j).2.2.2.1)) || tOv ((N i).2.2.2.1) ((N j).2.2.1)) || pOv (((N i).2.2.1) * ((N j).2.2.2.1)) (((N i).2.2.2.1) * ((N j).2.2.1))) || mOv ((((N i).1) * ((N j).2.1)) + (((N i).2.1) * ((N j).1))) ((((N i).2.2.1) * ((N j).2.2.2.1)) + (((N i).2.2.2.1) * ((N j).2.2.1)))) || tOv ((N i).1) ((N j).2.2.1)) || thO ((N i).2.1) ((N j).2.2.2.1)) || pOv (((N i).1) * ((N j).2.2.1)) (thV ((N i).2.1) ((N j).2.2.2.1))) || tOv ((N i).2.2.1) ((N j).1)) || pOv ((((N i).1) * ((N j).2.2.1)) + (thV ((N i).2.1) ((N j).2.2.2.1))) (((N i).2.2.1) * ((N j).1))) || thO ((N i).2.2.2.1) ((N j).2.1)) || pOv (((((N i).1) * ((N j).2.2.1)) + (thV ((N i).2.1) ((N j).2.2.2.1))) + (((N i).2.2.1) * ((N j).1))) (thV ((N i).2.2.2.1) ((N j).2.1))) || tOv ((N i).1) ((N j).2.2.2.1)) || tOv ((N i).2.1) ((N j).2.2.1)) || pOv (((N i).1) * ((N j).2.2.2.1)) (((N i).2.1) * ((N j).2.2.1))) || tOv ((N i).2.2.1) ((N j).2.1)) || pOv ((((N i).1) * ((N j).2.2.2.1)) + (((N i).2.1) * ((N j).2.2.1))) (((N i).2.2.1) * ((N j).2.1))) || tOv ((N i).2.2.2.1) ((N j).1)) || pOv (((((N i).1) * ((N j).2.2.2.1)) + (((N i).2.1) * ((N j).2.2.1))) + (((N i).2.2.1) * ((N j).2.1))) (((N i).2.2.2.1) * ((N j).1)))), .ref (na tp), .ref (na fp), .ref (na ip)]))] ++ nP na N) H locs := hB
  refine lv_lstore (lv' := [(10, .long ((((((N i).1) * ((N j).2.2.2.1)) + (((N i).2.1) * ((N j).2.2.1))) + (((N i).2.2.1) * ((N j).2.1))) + (((N i).2.2.2.1) * ((N j).1)))), (8, .long ((((((N i).1) * ((N j).2.2.1)) + (thV ((N i).2.1) ((N j).2.2.2.1))) + (((N i).2.2.1) * ((N j).1))) + (thV ((N i).2.2.2.1) ((N j).2.1)))), (6, .long (((((N i).1) * ((N j).2.1)) + (((N i).2.1) * ((N j).1))) - ((((N i).2.2.1) * ((N j).2.2.2.1)) + (((N i).2.2.2.1) * ((N j).2.2.1))))), (4, .long (((((N i).1) * ((N j).1)) + (thV ((N i).2.1) ((N j).2.1))) - ((((N i).2.2.1) * ((N j).2.2.1)) + (thV ((N i).2.2.2.1) ((N j).2.2.2.1))))), (0, .ref g), (1, .ref (na i)), (2, .ref (na j)), (3, .ref (na t))]) hx hb dX2_product_251 hl (by decide) rfl ?_
  clear hl
  clear ls
  intro ls hl
  refine lv_aload_n hx hb dX2_product_253 rfl (lv_at hl 4 rfl) ?_
  refine lv_aload_n hx hb dX2_product_254 rfl (lv_at hl 7 rfl) ?_
  refine lv_lload hx hb dX2_product_255 (lv_at hl 3 rfl) ?_
  refine lv_lload hx hb dX2_product_257 (lv_at hl 2 rfl) ?_
  refine lv_lload hx hb dX2_product_259 (lv_at hl 1 rfl) ?_
  refine lv_lload hx hb dX2_product_261 (lv_at hl 0 rfl) ?_
  refine lv_aload_n hx hb dX2_product_263 rfl (lv_at hl 4 rfl) ?_
  refine lv_aload_n hx hb dX2_product_264 rfl (lv_at hl 5 rfl) ?_
  refine zgetN zf_X2_32 hF hB i (by omega) rfl dX2_product_265 ?_
  refine lv_aload_n hx hb dX2_product_268 rfl (lv_at hl 6 rfl) ?_
  refine zgetN zf_X2_32 hF hB j (by omega) rfl dX2_product_269 ?_
  refine zVl16 zm_X2_35 hF hB (c_X2_times l D ka kb g na ((((((((((((((((((((((((((((false || tOv ((N i).1) ((N j).1)) || thO ((N i).2.1) ((N j).2.1)) || pOv (((N i).1) * ((N j).1)) (thV ((N i).2.1) ((N j).2.1))) || tOv ((N i).2.2.1) ((N j).2.2.1)) || thO ((N i).2.2.2.1) ((N j).2.2.2.1)) || pOv (((N i).2.2.1) * ((N j).2.2.1)) (thV ((N i).2.2.2.1) ((N j).2.2.2.1))) || mOv ((((N i).1) * ((N j).1)) + (thV ((N i).2.1) ((N j).2.1))) ((((N i).2.2.1) * ((N j).2.2.1)) + (thV ((N i).2.2.2.1) ((N j).2.2.2.1)))) || tOv ((N i).1) ((N j).2.1)) || tOv ((N i).2.1) ((N j).1)) || pOv (((N i).1) * ((N j).2.1)) (((N i).2.1) * ((N j).1))) || tOv ((N i).2.2.1) ((N j).2.2.2.1)) || tOv ((N i).2.2.2.1) ((N j).2.2.1)) || pOv (((N i).2.2.1) * ((N j).2.2.2.1)) (((N i).2.2.2.1) * ((N j).2.2.1))) || mOv ((((N i).1) * ((N j).2.1)) + (((N i).2.1) * ((N j).1))) ((((N i).2.2.1) * ((N j).2.2.2.1)) + (((N i).2.2.2.1) * ((N j).2.2.1)))) || tOv ((N i).1) ((N j).2.2.1)) || thO ((N i).2.1) ((N j).2.2.2.1)) || pOv (((N i).1) * ((N j).2.2.1)) (thV ((N i).2.1) ((N j).2.2.2.1))) || tOv ((N i).2.2.1) ((N j).1)) || pOv ((((N i).1) * ((N j).2.2.1)) + (thV ((N i).2.1) ((N j).2.2.2.1))) (((N i).2.2.1) * ((N j).1))) || thO ((N i).2.2.2.1) ((N j).2.1)) || pOv (((((N i).1) * ((N j).2.2.1)) + (thV ((N i).2.1) ((N j).2.2.2.1))) + (((N i).2.2.1) * ((N j).1))) (thV ((N i).2.2.2.1) ((N j).2.1))) || tOv ((N i).1) ((N j).2.2.2.1)) || tOv ((N i).2.1) ((N j).2.2.1)) || pOv (((N i).1) * ((N j).2.2.2.1)) (((N i).2.1) * ((N j).2.2.1))) || tOv ((N i).2.2.1) ((N j).2.1)) || pOv ((((N i).1) * ((N j).2.2.2.1)) + (((N i).2.1) * ((N j).2.2.1))) (((N i).2.2.1) * ((N j).2.1))) || tOv ((N i).2.2.2.1) ((N j).1)) || pOv (((((N i).1) * ((N j).2.2.2.1)) + (((N i).2.1) * ((N j).2.2.1))) + (((N i).2.2.1) * ((N j).2.1))) (((N i).2.2.2.1) * ((N j).1))) tp fp ip ((N i).2.2.2.2) ((N j).2.2.2.2) ) [0] rfl (by decide) [g] (fun _ => rfl) rfl 0 2 rfl rfl rfl ⟨Nat.le_of_ble_eq_true rfl, Nat.le_of_ble_eq_true rfl⟩ rfl hl.1 (Nat.le_of_ble_eq_true rfl) ⟨Nat.le_refl _, Nat.le_refl _⟩ dX2_product_272 ?_
  clear hB
  try clear locs
  try clear H
  intro r29 u29 H locs hp hB
  obtain rfl : r29 = ((N i).2.2.2.2) * ((N j).2.2.2.2) := hp
  replace hB : zB D A s ([(g, .inr (2, [.int (bI (((((((((((((((((((((((((((((false || tOv ((N i).1) ((N j).1)) || thO ((N i).2.1) ((N j).2.1)) || pOv (((N i).1) * ((N j).1)) (thV ((N i).2.1) ((N j).2.1))) || tOv ((N i).2.2.1) ((N j).2.2.1)) || thO ((N i).2.2.2.1) ((N j).2.2.2.1)) || pOv (((N i).2.2.1) * ((N j).2.2.1)) (thV ((N i).2.2.2.1) ((N j).2.2.2.1))) || mOv ((((N i).1) * ((N j).1)) + (thV ((N i).2.1) ((N j).2.1))) ((((N i).2.2.1) * ((N j).2.2.1)) + (thV ((N i).2.2.2.1) ((N j).2.2.2.1)))) || tOv ((N i).1) ((N j).2.1)) || tOv ((N i).2.1) ((N j).1)) || pOv (((N i).1) * ((N j).2.1)) (((N i).2.1) * ((N j).1))) || tOv ((N i).2.2.1) ((N j).2.2.2.1)) || tOv ((N i).2.2.2.1) ((N j).2.2.1)) || pOv (((N i).2.2.1) * ((N j).2.2.2.1)) (((N i).2.2.2.1) * ((N j).2.2.1))) || mOv ((((N i).1) * ((N j).2.1)) + (((N i).2.1) * ((N j).1))) ((((N i).2.2.1) * ((N j).2.2.2.1)) + (((N i).2.2.2.1) * ((N j).2.2.1)))) || tOv ((N i).1) ((N j).2.2.1)) || thO ((N i).2.1) ((N j).2.2.2.1)) || pOv (((N i).1) * ((N j).2.2.1)) (thV ((N i).2.1) ((N j).2.2.2.1))) || tOv ((N i).2.2.1) ((N j).1)) || pOv ((((N i).1) * ((N j).2.2.1)) + (thV ((N i).2.1) ((N j).2.2.2.1))) (((N i).2.2.1) * ((N j).1))) || thO ((N i).2.2.2.1) ((N j).2.1)) || pOv (((((N i).1) * ((N j).2.2.1)) + (thV ((N i).2.1) ((N j).2.2.2.1))) + (((N i).2.2.1) * ((N j).1))) (thV ((N i).2.2.2.1) ((N j).2.1))) || tOv ((N i).1) ((N j).2.2.2.1)) || tOv ((N i).2.1) ((N j).2.2.1)) || pOv (((N i).1) * ((N j).2.2.2.1)) (((N i).2.1) * ((N j).2.2.1))) || tOv ((N i).2.2.1) ((N j).2.1)) || pOv ((((N i).1) * ((N j).2.2.2.1)) + (((N i).2.1) * ((N j).2.2.1))) (((N i).2.2.1) * ((N j).2.1))) || tOv ((N i).2.2.2.1) ((N j).1)) || pOv (((((N i).1) * ((N j).2.2.2.1)) + (((N i).2.1) * ((N j).2.2.1))) + (((N i).2.2.1) * ((N j).2.1))) (((N i).2.2.2.1) * ((N j).1))) || tOv ((N i).2.2.2.2) ((N j).2.2.2.2))), .ref (na tp), .ref (na fp), .ref (na ip)]))] ++ nP na N) H locs := hB
  have hE : prodO (N i) (N j) = (((((((((((((((((((((((((((((false || tOv ((N i).1) ((N j).1)) || thO ((N i).2.1) ((N j).2.1)) || pOv (((N i).1) * ((N j).1)) (thV ((N i).2.1) ((N j).2.1))) || tOv ((N i).2.2.1) ((N j).2.2.1)) || thO ((N i).2.2.2.1) ((N j).2.2.2.1)) || pOv (((N i).2.2.1) * ((N j).2.2.1)) (thV ((N i).2.2.2.1) ((N j).2.2.2.1))) || mOv ((((N i).1) * ((N j).1)) + (thV ((N i).2.1) ((N j).2.1))) ((((N i).2.2.1) * ((N j).2.2.1)) + (thV ((N i).2.2.2.1) ((N j).2.2.2.1)))) || tOv ((N i).1) ((N j).2.1)) || tOv ((N i).2.1) ((N j).1)) || pOv (((N i).1) * ((N j).2.1)) (((N i).2.1) * ((N j).1))) || tOv ((N i).2.2.1) ((N j).2.2.2.1)) || tOv ((N i).2.2.2.1) ((N j).2.2.1)) || pOv (((N i).2.2.1) * ((N j).2.2.2.1)) (((N i).2.2.2.1) * ((N j).2.2.1))) || mOv ((((N i).1) * ((N j).2.1)) + (((N i).2.1) * ((N j).1))) ((((N i).2.2.1) * ((N j).2.2.2.1)) + (((N i).2.2.2.1) * ((N j).2.2.1)))) || tOv ((N i).1) ((N j).2.2.1)) || thO ((N i).2.1) ((N j).2.2.2.1)) || pOv (((N i).1) * ((N j).2.2.1)) (thV ((N i).2.1) ((N j).2.2.2.1))) || tOv ((N i).2.2.1) ((N j).1)) || pOv ((((N i).1) * ((N j).2.2.1)) + (thV ((N i).2.1) ((N j).2.2.2.1))) (((N i).2.2.1) * ((N j).1))) || thO ((N i).2.2.2.1) ((N j).2.1)) || pOv (((((N i).1) * ((N j).2.2.1)) + (thV ((N i).2.1) ((N j).2.2.2.1))) + (((N i).2.2.1) * ((N j).1))) (thV ((N i).2.2.2.1) ((N j).2.1))) || tOv ((N i).1) ((N j).2.2.2.1)) || tOv ((N i).2.1) ((N j).2.2.1)) || pOv (((N i).1) * ((N j).2.2.2.1)) (((N i).2.1) * ((N j).2.2.1))) || tOv ((N i).2.2.1) ((N j).2.1)) || pOv ((((N i).1) * ((N j).2.2.2.1)) + (((N i).2.1) * ((N j).2.2.1))) (((N i).2.2.1) * ((N j).2.1))) || tOv ((N i).2.2.2.1) ((N j).1)) || pOv (((((N i).1) * ((N j).2.2.2.1)) + (((N i).2.1) * ((N j).2.2.1))) + (((N i).2.2.1) * ((N j).2.1))) (((N i).2.2.2.1) * ((N j).1))) || tOv ((N i).2.2.2.2) ((N j).2.2.2.2)) := by simp [prodO, prAo, prBo, prCo, prEo, Bool.or_assoc]
  refine zVi zm_X2_51 hF hB (c_X2_deliver l D ka kb g na (((((((((((((((((((((((((((((false || tOv ((N i).1) ((N j).1)) || thO ((N i).2.1) ((N j).2.1)) || pOv (((N i).1) * ((N j).1)) (thV ((N i).2.1) ((N j).2.1))) || tOv ((N i).2.2.1) ((N j).2.2.1)) || thO ((N i).2.2.2.1) ((N j).2.2.2.1)) || pOv (((N i).2.2.1) * ((N j).2.2.1)) (thV ((N i).2.2.2.1) ((N j).2.2.2.1))) || mOv ((((N i).1) * ((N j).1)) + (thV ((N i).2.1) ((N j).2.1))) ((((N i).2.2.1) * ((N j).2.2.1)) + (thV ((N i).2.2.2.1) ((N j).2.2.2.1)))) || tOv ((N i).1) ((N j).2.1)) || tOv ((N i).2.1) ((N j).1)) || pOv (((N i).1) * ((N j).2.1)) (((N i).2.1) * ((N j).1))) || tOv ((N i).2.2.1) ((N j).2.2.2.1)) || tOv ((N i).2.2.2.1) ((N j).2.2.1)) || pOv (((N i).2.2.1) * ((N j).2.2.2.1)) (((N i).2.2.2.1) * ((N j).2.2.1))) || mOv ((((N i).1) * ((N j).2.1)) + (((N i).2.1) * ((N j).1))) ((((N i).2.2.1) * ((N j).2.2.2.1)) + (((N i).2.2.2.1) * ((N j).2.2.1)))) || tOv ((N i).1) ((N j).2.2.1)) || thO ((N i).2.1) ((N j).2.2.2.1)) || pOv (((N i).1) * ((N j).2.2.1)) (thV ((N i).2.1) ((N j).2.2.2.1))) || tOv ((N i).2.2.1) ((N j).1)) || pOv ((((N i).1) * ((N j).2.2.1)) + (thV ((N i).2.1) ((N j).2.2.2.1))) (((N i).2.2.1) * ((N j).1))) || thO ((N i).2.2.2.1) ((N j).2.1)) || pOv (((((N i).1) * ((N j).2.2.1)) + (thV ((N i).2.1) ((N j).2.2.2.1))) + (((N i).2.2.1) * ((N j).1))) (thV ((N i).2.2.2.1) ((N j).2.1))) || tOv ((N i).1) ((N j).2.2.2.1)) || tOv ((N i).2.1) ((N j).2.2.1)) || pOv (((N i).1) * ((N j).2.2.2.1)) (((N i).2.1) * ((N j).2.2.1))) || tOv ((N i).2.2.1) ((N j).2.1)) || pOv ((((N i).1) * ((N j).2.2.2.1)) + (((N i).2.1) * ((N j).2.2.1))) (((N i).2.2.1) * ((N j).2.1))) || tOv ((N i).2.2.2.1) ((N j).1)) || pOv (((((N i).1) * ((N j).2.2.2.1)) + (((N i).2.1) * ((N j).2.2.1))) + (((N i).2.2.1) * ((N j).2.1))) (((N i).2.2.2.1) * ((N j).1))) || tOv ((N i).2.2.2.2) ((N j).2.2.2.2)) tp fp ip N t (((((N i).1) * ((N j).1)) + (thV ((N i).2.1) ((N j).2.1))) - ((((N i).2.2.1) * ((N j).2.2.1)) + (thV ((N i).2.2.2.1) ((N j).2.2.2.1)))) (((((N i).1) * ((N j).2.1)) + (((N i).2.1) * ((N j).1))) - ((((N i).2.2.1) * ((N j).2.2.2.1)) + (((N i).2.2.2.1) * ((N j).2.2.1)))) ((((((N i).1) * ((N j).2.2.1)) + (thV ((N i).2.1) ((N j).2.2.2.1))) + (((N i).2.2.1) * ((N j).1))) + (thV ((N i).2.2.2.1) ((N j).2.1))) ((((((N i).1) * ((N j).2.2.2.1)) + (((N i).2.1) * ((N j).2.2.1))) + (((N i).2.2.1) * ((N j).2.1))) + (((N i).2.2.2.1) * ((N j).1))) (((N i).2.2.2.2) * ((N j).2.2.2.2)) (ht) (fun e8 => by
    rw [← hE] at e8
    have e7 := prodO_d e8
    rw [i64_mul e7]; exact Int.mul_pos hdi hdj)) ([0] ++ npr 1) (zsel_pool rfl rfl) (va_nd_pool rfl rfl) ([g] ++ nA na) (fun _ => zad_pool rfl) (zad_pool rfl) 0 2 rfl rfl rfl ⟨Nat.le_of_ble_eq_true rfl, Nat.le_of_ble_eq_true rfl⟩ rfl hl.1 (Nat.le_of_ble_eq_true rfl) ⟨Nat.le_refl _, Nat.le_refl _⟩ dX2_product_275 ?_
  clear hB
  try clear locs
  try clear H
  intro r30 u30 H locs hp hB
  obtain rfl : r30 = bI (!(((((((((((((((((((((((((((((false || tOv ((N i).1) ((N j).1)) || thO ((N i).2.1) ((N j).2.1)) || pOv (((N i).1) * ((N j).1)) (thV ((N i).2.1) ((N j).2.1))) || tOv ((N i).2.2.1) ((N j).2.2.1)) || thO ((N i).2.2.2.1) ((N j).2.2.2.1)) || pOv (((N i).2.2.1) * ((N j).2.2.1)) (thV ((N i).2.2.2.1) ((N j).2.2.2.1))) || mOv ((((N i).1) * ((N j).1)) + (thV ((N i).2.1) ((N j).2.1))) ((((N i).2.2.1) * ((N j).2.2.1)) + (thV ((N i).2.2.2.1) ((N j).2.2.2.1)))) || tOv ((N i).1) ((N j).2.1)) || tOv ((N i).2.1) ((N j).1)) || pOv (((N i).1) * ((N j).2.1)) (((N i).2.1) * ((N j).1))) || tOv ((N i).2.2.1) ((N j).2.2.2.1)) || tOv ((N i).2.2.2.1) ((N j).2.2.1)) || pOv (((N i).2.2.1) * ((N j).2.2.2.1)) (((N i).2.2.2.1) * ((N j).2.2.1))) || mOv ((((N i).1) * ((N j).2.1)) + (((N i).2.1) * ((N j).1))) ((((N i).2.2.1) * ((N j).2.2.2.1)) + (((N i).2.2.2.1) * ((N j).2.2.1)))) || tOv ((N i).1) ((N j).2.2.1)) || thO ((N i).2.1) ((N j).2.2.2.1)) || pOv (((N i).1) * ((N j).2.2.1)) (thV ((N i).2.1) ((N j).2.2.2.1))) || tOv ((N i).2.2.1) ((N j).1)) || pOv ((((N i).1) * ((N j).2.2.1)) + (thV ((N i).2.1) ((N j).2.2.2.1))) (((N i).2.2.1) * ((N j).1))) || thO ((N i).2.2.2.1) ((N j).2.1)) || pOv (((((N i).1) * ((N j).2.2.1)) + (thV ((N i).2.1) ((N j).2.2.2.1))) + (((N i).2.2.1) * ((N j).1))) (thV ((N i).2.2.2.1) ((N j).2.1))) || tOv ((N i).1) ((N j).2.2.2.1)) || tOv ((N i).2.1) ((N j).2.2.1)) || pOv (((N i).1) * ((N j).2.2.2.1)) (((N i).2.1) * ((N j).2.2.1))) || tOv ((N i).2.2.1) ((N j).2.1)) || pOv ((((N i).1) * ((N j).2.2.2.1)) + (((N i).2.1) * ((N j).2.2.1))) (((N i).2.2.1) * ((N j).2.1))) || tOv ((N i).2.2.2.1) ((N j).1)) || pOv (((((N i).1) * ((N j).2.2.2.1)) + (((N i).2.1) * ((N j).2.2.1))) + (((N i).2.2.1) * ((N j).2.1))) (((N i).2.2.2.1) * ((N j).1))) || tOv ((N i).2.2.2.2) ((N j).2.2.2.2))) := hp
  replace hB : zB D A s ([(g, .inr (2, [.int (bI (((((((((((((((((((((((((((((false || tOv ((N i).1) ((N j).1)) || thO ((N i).2.1) ((N j).2.1)) || pOv (((N i).1) * ((N j).1)) (thV ((N i).2.1) ((N j).2.1))) || tOv ((N i).2.2.1) ((N j).2.2.1)) || thO ((N i).2.2.2.1) ((N j).2.2.2.1)) || pOv (((N i).2.2.1) * ((N j).2.2.1)) (thV ((N i).2.2.2.1) ((N j).2.2.2.1))) || mOv ((((N i).1) * ((N j).1)) + (thV ((N i).2.1) ((N j).2.1))) ((((N i).2.2.1) * ((N j).2.2.1)) + (thV ((N i).2.2.2.1) ((N j).2.2.2.1)))) || tOv ((N i).1) ((N j).2.1)) || tOv ((N i).2.1) ((N j).1)) || pOv (((N i).1) * ((N j).2.1)) (((N i).2.1) * ((N j).1))) || tOv ((N i).2.2.1) ((N j).2.2.2.1)) || tOv ((N i).2.2.2.1) ((N j).2.2.1)) || pOv (((N i).2.2.1) * ((N j).2.2.2.1)) (((N i).2.2.2.1) * ((N j).2.2.1))) || mOv ((((N i).1) * ((N j).2.1)) + (((N i).2.1) * ((N j).1))) ((((N i).2.2.1) * ((N j).2.2.2.1)) + (((N i).2.2.2.1) * ((N j).2.2.1)))) || tOv ((N i).1) ((N j).2.2.1)) || thO ((N i).2.1) ((N j).2.2.2.1)) || pOv (((N i).1) * ((N j).2.2.1)) (thV ((N i).2.1) ((N j).2.2.2.1))) || tOv ((N i).2.2.1) ((N j).1)) || pOv ((((N i).1) * ((N j).2.2.1)) + (thV ((N i).2.1) ((N j).2.2.2.1))) (((N i).2.2.1) * ((N j).1))) || thO ((N i).2.2.2.1) ((N j).2.1)) || pOv (((((N i).1) * ((N j).2.2.1)) + (thV ((N i).2.1) ((N j).2.2.2.1))) + (((N i).2.2.1) * ((N j).1))) (thV ((N i).2.2.2.1) ((N j).2.1))) || tOv ((N i).1) ((N j).2.2.2.1)) || tOv ((N i).2.1) ((N j).2.2.1)) || pOv (((N i).1) * ((N j).2.2.2.1)) (((N i).2.1) * ((N j).2.2.1))) || tOv ((N i).2.2.1) ((N j).2.1)) || pOv ((((N i).1) * ((N j).2.2.2.1)) + (((N i).2.1) * ((N j).2.2.1))) (((N i).2.2.1) * ((N j).2.1))) || tOv ((N i).2.2.2.1) ((N j).1)) || pOv (((((N i).1) * ((N j).2.2.2.1)) + (((N i).2.1) * ((N j).2.2.1))) + (((N i).2.2.1) * ((N j).2.1))) (((N i).2.2.2.1) * ((N j).1))) || tOv ((N i).2.2.2.2) ((N j).2.2.2.2))), .ref (na tp), .ref (na fp), .ref (na ip)]))] ++ nP na (if (((((((((((((((((((((((((((((false || tOv ((N i).1) ((N j).1)) || thO ((N i).2.1) ((N j).2.1)) || pOv (((N i).1) * ((N j).1)) (thV ((N i).2.1) ((N j).2.1))) || tOv ((N i).2.2.1) ((N j).2.2.1)) || thO ((N i).2.2.2.1) ((N j).2.2.2.1)) || pOv (((N i).2.2.1) * ((N j).2.2.1)) (thV ((N i).2.2.2.1) ((N j).2.2.2.1))) || mOv ((((N i).1) * ((N j).1)) + (thV ((N i).2.1) ((N j).2.1))) ((((N i).2.2.1) * ((N j).2.2.1)) + (thV ((N i).2.2.2.1) ((N j).2.2.2.1)))) || tOv ((N i).1) ((N j).2.1)) || tOv ((N i).2.1) ((N j).1)) || pOv (((N i).1) * ((N j).2.1)) (((N i).2.1) * ((N j).1))) || tOv ((N i).2.2.1) ((N j).2.2.2.1)) || tOv ((N i).2.2.2.1) ((N j).2.2.1)) || pOv (((N i).2.2.1) * ((N j).2.2.2.1)) (((N i).2.2.2.1) * ((N j).2.2.1))) || mOv ((((N i).1) * ((N j).2.1)) + (((N i).2.1) * ((N j).1))) ((((N i).2.2.1) * ((N j).2.2.2.1)) + (((N i).2.2.2.1) * ((N j).2.2.1)))) || tOv ((N i).1) ((N j).2.2.1)) || thO ((N i).2.1) ((N j).2.2.2.1)) || pOv (((N i).1) * ((N j).2.2.1)) (thV ((N i).2.1) ((N j).2.2.2.1))) || tOv ((N i).2.2.1) ((N j).1)) || pOv ((((N i).1) * ((N j).2.2.1)) + (thV ((N i).2.1) ((N j).2.2.2.1))) (((N i).2.2.1) * ((N j).1))) || thO ((N i).2.2.2.1) ((N j).2.1)) || pOv (((((N i).1) * ((N j).2.2.1)) + (thV ((N i).2.1) ((N j).2.2.2.1))) + (((N i).2.2.1) * ((N j).1))) (thV ((N i).2.2.2.1) ((N j).2.1))) || tOv ((N i).1) ((N j).2.2.2.1)) || tOv ((N i).2.1) ((N j).2.2.1)) || pOv (((N i).1) * ((N j).2.2.2.1)) (((N i).2.1) * ((N j).2.2.1))) || tOv ((N i).2.2.1) ((N j).2.1)) || pOv ((((N i).1) * ((N j).2.2.2.1)) + (((N i).2.1) * ((N j).2.2.1))) (((N i).2.2.1) * ((N j).2.1))) || tOv ((N i).2.2.2.1) ((N j).1)) || pOv (((((N i).1) * ((N j).2.2.2.1)) + (((N i).2.1) * ((N j).2.2.1))) + (((N i).2.2.1) * ((N j).2.1))) (((N i).2.2.2.1) * ((N j).1))) || tOv ((N i).2.2.2.2) ((N j).2.2.2.2)) = true then N else upN N t (lowN (((((N i).1) * ((N j).1)) + (thV ((N i).2.1) ((N j).2.1))) - ((((N i).2.2.1) * ((N j).2.2.1)) + (thV ((N i).2.2.2.1) ((N j).2.2.2.1)))) (((((N i).1) * ((N j).2.1)) + (((N i).2.1) * ((N j).1))) - ((((N i).2.2.1) * ((N j).2.2.2.1)) + (((N i).2.2.2.1) * ((N j).2.2.1)))) ((((((N i).1) * ((N j).2.2.1)) + (thV ((N i).2.1) ((N j).2.2.2.1))) + (((N i).2.2.1) * ((N j).1))) + (thV ((N i).2.2.2.1) ((N j).2.1))) ((((((N i).1) * ((N j).2.2.2.1)) + (((N i).2.1) * ((N j).2.2.1))) + (((N i).2.2.1) * ((N j).2.1))) + (((N i).2.2.2.1) * ((N j).1))) (((N i).2.2.2.2) * ((N j).2.2.2.2))))) H locs := zB_pool hB rfl rfl rfl rfl
  exact zreti hF hB () (by rw [hE]) (by rw [hE] <;> rfl) (zbI_n _) dX2_product_278 hQ

