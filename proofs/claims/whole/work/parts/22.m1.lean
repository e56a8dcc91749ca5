set_option maxHeartbeats 4000000 in
set_option maxRecDepth 100000 in
theorem c_X8_in (l : Launch) (D : va_G) (ka : Nat → ClassId) (kb : Nat → Nat) (v : Int64) (low : Int64) (high : Int64)  : zI l D ka kb yX8_in cX8_in 6 .boolean 0 0 [.long v, .long low, .long high] ([]) (fun (r : Int32) (_ : Unit) => r = bI (zin v low high)) (fun (_ : Unit) => []) := by
  refine zI.mk RX8 (by decide +kernel) rfl (Nat.le_of_ble_eq_true rfl) ?_
  intro p e s m below meth c A ls args Q hQ hx hb hF hB hl
  replace hl : lv_has ls 6 [(0, .long v), (2, .long low), (4, .long high)] := hl
  refine lv_lload_n hx hb dX8_in_0 rfl (lv_at hl 0 rfl) ?_
  refine lv_lload_n hx hb dX8_in_1 rfl (lv_at hl 1 rfl) ?_
  refine W.lcmp hx hb dX8_in_2 ?_
  refine lv_if_lt (tgt := 17) hx hb dX8_in_3 (by decide) (fun h3 => ?_) (fun h3 => ?_)
  · skip
    replace h3 := (lg_cmp_lt _ _).mp h3
    refine lv_iconst (v := 0) hx hb dX8_in_17 (by decide) ?_
    refine ztopi (y := bI (zin v low high)) (bI_0 (dB_f.mpr (fun e9 => Int64.not_lt.mpr e9.1 h3))) ?_
    exact zreti hF hB () (rfl) (rfl) (zbI_n _) dX8_in_18 hQ
  · skip
    replace h3 := (fun e9 => h3 ((lg_cmp_lt _ _).mpr e9))
    refine lv_lload_n hx hb dX8_in_6 rfl (lv_at hl 0 rfl) ?_
    refine lv_lload hx hb dX8_in_7 (lv_at hl 2 rfl) ?_
    refine W.lcmp hx hb dX8_in_9 ?_
    refine lv_if_gt (tgt := 17) hx hb dX8_in_10 (by decide) (fun h10 => ?_) (fun h10 => ?_)
    · skip
      replace h10 := (lg_cmp_gt _ _).mp h10
      refine lv_iconst (v := 0) hx hb dX8_in_17 (by decide) ?_
      refine ztopi (y := bI (zin v low high)) (bI_0 (dB_f.mpr (fun e9 => Int64.not_lt.mpr e9.2 h10))) ?_
      exact zreti hF hB () (rfl) (rfl) (zbI_n _) dX8_in_18 hQ
    · skip
      replace h10 := (fun e9 => h10 ((lg_cmp_gt _ _).mpr e9))
      refine lv_iconst (v := 1) hx hb dX8_in_13 (by decide) ?_
      refine ztopi (y := bI (zin v low high)) (bI_1 (dB_t.mpr ⟨Int64.not_lt.mp h3, Int64.not_lt.mp h10⟩)) ?_
      refine lv_goto (tgt := 18) hx hb dX8_in_14 (by decide) ?_
      exact zreti hF hB () (rfl) (rfl) (zbI_n _) dX8_in_18 hQ

set_option maxHeartbeats 4000000 in
set_option maxRecDepth 100000 in
theorem c_X8_isTwo (l : Launch) (D : va_G) (ka : Nat → ClassId) (kb : Nat → Nat) (v : Int32)  : zI l D ka kb yX8_isTwo cX8_isTwo 1 .boolean 1 25 [.int v] ([]) (fun (r : Int32) (_ : Unit) => r = bI (inI v 2)) (fun (_ : Unit) => []) := by
  refine zI.mk RX8 (by decide +kernel) rfl (Nat.le_of_ble_eq_true rfl) ?_
  intro p e s m below meth c A ls args Q hQ hx hb hF hB hl
  replace hl : lv_has ls 1 [(0, .int v)] := hl
  refine lv_iload_n hx hb dX8_isTwo_0 rfl (lv_at hl 0 rfl) ?_
  refine lv_i2l (v := v.toInt64) hx hb dX8_isTwo_1 rfl ?_
  refine lv_lconst (v := 0) hx hb dX8_isTwo_2 (by decide) ?_
  refine lv_lconst (v := 1) hx hb dX8_isTwo_3 (by decide) ?_
  refine zSi zm_X8_72 hF hB (c_X8_in l D ka kb v.toInt64 (0 : Int64) (1 : Int64) ) [] rfl (by decide) [] (fun _ => rfl) rfl rfl ⟨Nat.le_of_ble_eq_true rfl, Nat.le_of_ble_eq_true rfl⟩ rfl hl.1 (Nat.le_of_ble_eq_true rfl) ⟨Nat.le_refl _, Nat.le_refl _⟩ dX8_isTwo_4 ?_
  clear hB
  try clear locs
  try clear H
  intro r1 u1 H locs hp hB
  obtain rfl : r1 = bI (zin v.toInt64 (0 : Int64) (1 : Int64)) := hp
  replace hB : zB D A s ([]) H locs := hB
  exact zreti hF hB () (congrArg bI (zin_inI v 2 (by decide) (by decide))) (rfl) (zbI_n _) dX8_isTwo_7 hQ

set_option maxHeartbeats 4000000 in
set_option maxRecDepth 100000 in
theorem c_X8_isAngle (l : Launch) (D : va_G) (ka : Nat → ClassId) (kb : Nat → Nat) (v : Int32)  : zI l D ka kb yX8_isAngle cX8_isAngle 1 .boolean 1 25 [.int v] ([]) (fun (r : Int32) (_ : Unit) => r = bI (inI v 12)) (fun (_ : Unit) => []) := by
  refine zI.mk RX8 (by decide +kernel) rfl (Nat.le_of_ble_eq_true rfl) ?_
  intro p e s m below meth c A ls args Q hQ hx hb hF hB hl
  replace hl : lv_has ls 1 [(0, .int v)] := hl
  refine lv_iload_n hx hb dX8_isAngle_0 rfl (lv_at hl 0 rfl) ?_
  refine lv_i2l (v := v.toInt64) hx hb dX8_isAngle_1 rfl ?_
  refine lv_lconst (v := 0) hx hb dX8_isAngle_2 (by decide) ?_
  refine zldc2 (v := (11 : Int64)) ww_18_11 hF dX8_isAngle_3 ?_
  refine zSi zm_X8_72 hF hB (c_X8_in l D ka kb v.toInt64 (0 : Int64) (11 : Int64) ) [] rfl (by decide) [] (fun _ => rfl) rfl rfl ⟨Nat.le_of_ble_eq_true rfl, Nat.le_of_ble_eq_true rfl⟩ rfl hl.1 (Nat.le_of_ble_eq_true rfl) ⟨Nat.le_refl _, Nat.le_refl _⟩ dX8_isAngle_6 ?_
  clear hB
  try clear locs
  try clear H
  intro r1 u1 H locs hp hB
  obtain rfl : r1 = bI (zin v.toInt64 (0 : Int64) (11 : Int64)) := hp
  replace hB : zB D A s ([]) H locs := hB
  exact zreti hF hB () (congrArg bI (zin_inI v 12 (by decide) (by decide))) (rfl) (zbI_n _) dX8_isAngle_9 hQ

set_option maxHeartbeats 4000000 in
set_option maxRecDepth 100000 in
theorem c_X8_isSheet (l : Launch) (D : va_G) (ka : Nat → ClassId) (kb : Nat → Nat) (v : Int32)  : zI l D ka kb yX8_isSheet cX8_isSheet 1 .boolean 1 25 [.int v] ([]) (fun (r : Int32) (_ : Unit) => r = bI (inI v 4)) (fun (_ : Unit) => []) := by
  refine zI.mk RX8 (by decide +kernel) rfl (Nat.le_of_ble_eq_true rfl) ?_
  intro p e s m below meth c A ls args Q hQ hx hb hF hB hl
  replace hl : lv_has ls 1 [(0, .int v)] := hl
  refine lv_iload_n hx hb dX8_isSheet_0 rfl (lv_at hl 0 rfl) ?_
  refine lv_i2l (v := v.toInt64) hx hb dX8_isSheet_1 rfl ?_
  refine lv_lconst (v := 0) hx hb dX8_isSheet_2 (by decide) ?_
  refine zldc2 (v := (3 : Int64)) ww_9_19 hF dX8_isSheet_3 ?_
  refine zSi zm_X8_72 hF hB (c_X8_in l D ka kb v.toInt64 (0 : Int64) (3 : Int64) ) [] rfl (by decide) [] (fun _ => rfl) rfl rfl ⟨Nat.le_of_ble_eq_true rfl, Nat.le_of_ble_eq_true rfl⟩ rfl hl.1 (Nat.le_of_ble_eq_true rfl) ⟨Nat.le_refl _, Nat.le_refl _⟩ dX8_isSheet_6 ?_
  clear hB
  try clear locs
  try clear H
  intro r1 u1 H locs hp hB
  obtain rfl : r1 = bI (zin v.toInt64 (0 : Int64) (3 : Int64)) := hp
  replace hB : zB D A s ([]) H locs := hB
  exact zreti hF hB () (congrArg bI (zin_inI v 4 (by decide) (by decide))) (rfl) (zbI_n _) dX8_isSheet_9 hQ

set_option maxHeartbeats 4000000 in
set_option maxRecDepth 100000 in
theorem c_X8_isRegister (l : Launch) (D : va_G) (ka : Nat → ClassId) (kb : Nat → Nat) (v : Int32)  : zI l D ka kb yX8_isRegister cX8_isRegister 1 .boolean 1 25 [.int v] ([]) (fun (r : Int32) (_ : Unit) => r = bI (inI v 6)) (fun (_ : Unit) => []) := by
  refine zI.mk RX8 (by decide +kernel) rfl (Nat.le_of_ble_eq_true rfl) ?_
  intro p e s m below meth c A ls args Q hQ hx hb hF hB hl
  replace hl : lv_has ls 1 [(0, .int v)] := hl
  refine lv_iload_n hx hb dX8_isRegister_0 rfl (lv_at hl 0 rfl) ?_
  refine lv_i2l (v := v.toInt64) hx hb dX8_isRegister_1 rfl ?_
  refine lv_lconst (v := 0) hx hb dX8_isRegister_2 (by decide) ?_
  refine zldc2 (v := (5 : Int64)) ww_8_1 hF dX8_isRegister_3 ?_
  refine zSi zm_X8_72 hF hB (c_X8_in l D ka kb v.toInt64 (0 : Int64) (5 : Int64) ) [] rfl (by decide) [] (fun _ => rfl) rfl rfl ⟨Nat.le_of_ble_eq_true rfl, Nat.le_of_ble_eq_true rfl⟩ rfl hl.1 (Nat.le_of_ble_eq_true rfl) ⟨Nat.le_refl _, Nat.le_refl _⟩ dX8_isRegister_6 ?_
  clear hB
  try clear locs
  try clear H
  intro r1 u1 H locs hp hB
  obtain rfl : r1 = bI (zin v.toInt64 (0 : Int64) (5 : Int64)) := hp
  replace hB : zB D A s ([]) H locs := hB
  exact zreti hF hB () (congrArg bI (zin_inI v 6 (by decide) (by decide))) (rfl) (zbI_n _) dX8_isRegister_9 hQ

set_option maxHeartbeats 4000000 in
set_option maxRecDepth 100000 in
theorem c_X8_no (l : Launch) (D : va_G) (ka : Nat → ClassId) (kb : Nat → Nat) (v : Int32)  : zL l D ka kb yX8_no cX8_no 1 0 0 [.int v] ([]) (fun (r : Int64) (_ : Unit) => r = lMin - v.toInt64) (fun (_ : Unit) => []) := by
  refine zL.mk RX8 (by decide +kernel) rfl (Nat.le_of_ble_eq_true rfl) ?_
  intro p e s m below meth c A ls args Q hQ hx hb hF hB hl
  replace hl : lv_has ls 1 [(0, .int v)] := hl
  refine zldc2 (v := (-9223372036854775808 : Int64)) ww_13_16 hF dX8_no_0 ?_
  refine lv_iload_n hx hb dX8_no_3 rfl (lv_at hl 0 rfl) ?_
  refine lv_i2l (v := v.toInt64) hx hb dX8_no_4 rfl ?_
  refine lv_lsub hx hb dX8_no_5 ?_
  exact zretl hF hB () (rfl) (rfl) dX8_no_6 hQ

set_option maxHeartbeats 4000000 in
set_option maxRecDepth 100000 in
theorem c_X8_finds (l : Launch) (D : va_G) (ka : Nat → ClassId) (kb : Nat → Nat) (q : Nat) (ad : Nat → Nat) (o : Bool) (z : mZ) (v : Int32)  : zI l D ka kb yX8_finds cX8_finds 2 .int 0 0 [.ref q, .int v] ([(q, .inr (8, mO ad o z))]) (fun (r : Int32) (_ : Unit) => r = (-10 : Int32) - v) (fun (_ : Unit) => [(q, .inr (8, mX ad (bI o) v z.2.1 z.2.2.1 z.2.2.2.1 z.2.2.2.2.1 z.2.2.2.2.2.1 z.2.2.2.2.2.2.1 z.2.2.2.2.2.2.2))]) := by
  refine zI.mk RX8 (by decide +kernel) rfl (Nat.le_of_ble_eq_true rfl) ?_
  intro p e s m below meth c A ls args Q hQ hx hb hF hB hl
  replace hl : lv_has ls 2 [(0, .ref q), (1, .int v)] := hl
  refine lv_aload_n hx hb dX8_finds_0 rfl (lv_at hl 0 rfl) ?_
  refine lv_iload_n hx hb dX8_finds_1 rfl (lv_at hl 1 rfl) ?_
  refine zput_f zp_X8_80 hF hB 0 rfl (rfl) (rfl) (Nat.le_of_ble_eq_true rfl) dX8_finds_2 ?_
  clear hB
  try clear locs
  try clear H
  intro H locs hB
  replace hB : zB D A s ([(q, .inr (8, mX ad (bI o) v z.2.1 z.2.2.1 z.2.2.2.1 z.2.2.2.2.1 z.2.2.2.2.2.1 z.2.2.2.2.2.2.1 z.2.2.2.2.2.2.2))]) H locs := hB
  refine lv_bipush (v := -10) hx hb dX8_finds_5 (by decide) ?_
  refine lv_iload_n hx hb dX8_finds_7 rfl (lv_at hl 1 rfl) ?_
  refine lv_isub hx hb dX8_finds_8 ?_
  exact zreti hF hB () (rfl) (rfl) (rfl) dX8_finds_9 hQ

set_option maxHeartbeats 4000000 in
set_option maxRecDepth 100000 in
theorem c_X8_times (l : Launch) (D : va_G) (ka : Nat → ClassId) (kb : Nat → Nat) (q : Nat) (ad : Nat → Nat) (o : Bool) (z : mZ) (x : Int64) (y : Int64)  : zL l D ka kb yX8_times cX8_times 8 0 0 [.ref q, .long x, .long y] ([(q, .inr (8, mO ad o z))]) (fun (r : Int64) (_ : Unit) => r = x * y) (fun (_ : Unit) => [(q, .inr (8, mO ad (o || tOv x y) z))]) := by
  refine zL.mk RX8 (by decide +kernel) rfl (Nat.le_of_ble_eq_true rfl) ?_
  intro p e s m below meth c A ls args Q hQ hx hb hF hB hl
  replace hl : lv_has ls 8 [(0, .ref q), (1, .long x), (3, .long y)] := hl
  refine lv_lload_n hx hb dX8_times_0 rfl (lv_at hl 1 rfl) ?_
  refine lv_lload_n hx hb dX8_times_1 rfl (lv_at hl 2 rfl) ?_
  refine lv_lmul hx hb dX8_times_2 ?_
  refine lv_lstore (lv' := [(5, .long (x * y)), (0, .ref q), (1, .long x), (3, .long y)]) hx hb dX8_times_3 hl (by decide) rfl ?_
  clear hl
  clear ls
  intro ls hl
  refine lv_lload_n hx hb dX8_times_5 rfl (lv_at hl 2 rfl) ?_
  refine lv_lconst (v := 0) hx hb dX8_times_6 (by decide) ?_
  refine W.lcmp hx hb dX8_times_7 ?_
  refine lv_if_eq (tgt := 86) hx hb dX8_times_8 (by decide) (fun h8 => ?_) (fun h8 => ?_)
  · skip
    replace h8 := (lg_cmp_eq _ _).mp h8
    refine lv_lload hx hb dX8_times_86 (lv_at hl 0 rfl) ?_
    exact zretl hF hB () (rfl) (by rw [show (o || tOv x y) = o from by rw [tOv_0x h8]; exact Bool.or_false o]) dX8_times_88 hQ
  · skip
    replace h8 := (fun e9 => h8 ((lg_cmp_eq _ _).mpr e9))
    refine lv_lload_n hx hb dX8_times_11 rfl (lv_at hl 3 rfl) ?_
    refine lv_lconst (v := 0) hx hb dX8_times_12 (by decide) ?_
    refine W.lcmp hx hb dX8_times_13 ?_
    refine lv_if_eq (tgt := 86) hx hb dX8_times_14 (by decide) (fun h14 => ?_) (fun h14 => ?_)
    · skip
      replace h14 := (lg_cmp_eq _ _).mp h14
      refine lv_lload hx hb dX8_times_86 (lv_at hl 0 rfl) ?_
      exact zretl hF hB () (rfl) (by rw [show (o || tOv x y) = o from by rw [tOv_0y h14]; exact Bool.or_false o]) dX8_times_88 hQ
    · skip
      replace h14 := (fun e9 => h14 ((lg_cmp_eq _ _).mpr e9))
      refine lv_lload_n hx hb dX8_times_17 rfl (lv_at hl 2 rfl) ?_
      refine zldc2 (v := (-1 : Int64)) ww_13_15 hF dX8_times_18 ?_
      refine W.lcmp hx hb dX8_times_21 ?_
      refine lv_if_ne (tgt := 33) hx hb dX8_times_22 (by decide) (fun h22 => ?_) (fun h22 => ?_)
      · skip
        replace h22 := (fun e9 => h22 ((lg_cmp_eq _ _).mpr e9))
        refine lv_lload_n hx hb dX8_times_33 rfl (lv_at hl 3 rfl) ?_
        refine zldc2 (v := (-1 : Int64)) ww_13_15 hF dX8_times_34 ?_
        refine W.lcmp hx hb dX8_times_37 ?_
        refine lv_if_ne (tgt := 53) hx hb dX8_times_38 (by decide) (fun h38 => ?_) (fun h38 => ?_)
        · skip
          replace h38 := (fun e9 => h38 ((lg_cmp_eq _ _).mpr e9))
          refine lv_iconst (v := 0) hx hb dX8_times_53 (by decide) ?_
          refine lv_istore (lv' := [(7, .int (0 : Int32)), (5, .long (x * y)), (0, .ref q), (1, .long x), (3, .long y)]) hx hb dX8_times_54 hl (by decide) rfl ?_
          clear hl
          clear ls
          intro ls hl
          refine lv_aload_n hx hb dX8_times_56 rfl (lv_at hl 2 rfl) ?_
          refine lv_aload_n hx hb dX8_times_57 rfl (lv_at hl 2 rfl) ?_
          refine zget zf_X8_105 hF hB 0 rfl rfl dX8_times_58 ?_
          refine lv_if_ne (tgt := 78) hx hb dX8_times_61 (by decide) (fun h61 => ?_) (fun h61 => ?_)
          · skip
            refine lv_iconst (v := 1) hx hb dX8_times_78 (by decide) ?_
            refine ztopi (y := bI (o || tOv x y)) (bI_1 (by rw [bI_ne0 h61]; rfl)) ?_
            refine lv_goto (tgt := 83) hx hb dX8_times_79 (by decide) ?_
            refine zput_f zp_X8_105 hF hB 0 rfl (zbI_n _) (zbI_f _) (Nat.le_of_ble_eq_true rfl) dX8_times_83 ?_
            clear hB
            try clear locs
            try clear H
            intro H locs hB
            replace hB : zB D A s ([(q, .inr (8, mO ad (o || tOv x y) z))]) H locs := hB
            refine lv_lload hx hb dX8_times_86 (lv_at hl 1 rfl) ?_
            exact zretl hF hB () (rfl) (rfl) dX8_times_88 hQ
          · skip
            refine lv_iload hx hb dX8_times_64 (lv_at hl 0 rfl) ?_
            refine lv_if_ne (tgt := 78) hx hb dX8_times_66 (by decide) (fun h66 => ?_) (fun h66 => ?_)
            · skip
              exact absurd (by decide) h66
            · skip
              refine lv_lload hx hb dX8_times_69 (lv_at hl 1 rfl) ?_
              refine lv_lload_n hx hb dX8_times_71 rfl (lv_at hl 4 rfl) ?_
              refine lv_ldiv hx hb dX8_times_72 h14 ?_
              refine lv_lload_n hx hb dX8_times_73 rfl (lv_at hl 3 rfl) ?_
              refine W.lcmp hx hb dX8_times_74 ?_
              refine lv_if_eq (tgt := 82) hx hb dX8_times_75 (by decide) (fun h75 => ?_) (fun h75 => ?_)
              · skip
                replace h75 := (lg_cmp_eq _ _).mp h75
                refine lv_iconst (v := 0) hx hb dX8_times_82 (by decide) ?_
                refine ztopi (y := bI (o || tOv x y)) (bI_0 (by rw [bI_eq0 h61, (tOv_iff h14 (fun e9 => h38 e9.1)).mp h75]; rfl)) ?_
                refine zput_f zp_X8_105 hF hB 0 rfl (zbI_n _) (zbI_f _) (Nat.le_of_ble_eq_true rfl) dX8_times_83 ?_
                clear hB
                try clear locs
                try clear H
                intro H locs hB
                replace hB : zB D A s ([(q, .inr (8, mO ad (o || tOv x y) z))]) H locs := hB
                refine lv_lload hx hb dX8_times_86 (lv_at hl 1 rfl) ?_
                exact zretl hF hB () (rfl) (rfl) dX8_times_88 hQ
              · skip
                replace h75 := (fun e9 => h75 ((lg_cmp_eq _ _).mpr e9))
                refine lv_iconst (v := 1) hx hb dX8_times_78 (by decide) ?_
                refine ztopi (y := bI (o || tOv x y)) (bI_1 (by cases e9 : tOv x y with
                | true => exact Bool.or_true _
                | false => exact absurd ((tOv_iff h14 (fun e9 => h38 e9.1)).mpr e9) h75)) ?_
                refine lv_goto (tgt := 83) hx hb dX8_times_79 (by decide) ?_
                refine zput_f zp_X8_105 hF hB 0 rfl (zbI_n _) (zbI_f _) (Nat.le_of_ble_eq_true rfl) dX8_times_83 ?_
                clear hB
                try clear locs
                try clear H
                intro H locs hB
                replace hB : zB D A s ([(q, .inr (8, mO ad (o || tOv x y) z))]) H locs := hB
                refine lv_lload hx hb dX8_times_86 (lv_at hl 1 rfl) ?_
                exact zretl hF hB () (rfl) (rfl) dX8_times_88 hQ
        · skip
          replace h38 := (lg_cmp_eq _ _).mp h38
          refine lv_lload_n hx hb dX8_times_41 rfl (lv_at hl 2 rfl) ?_
          refine zldc2 (v := (-9223372036854775808 : Int64)) ww_13_16 hF dX8_times_42 ?_
          refine W.lcmp hx hb dX8_times_45 ?_
          refine lv_if_ne (tgt := 53) hx hb dX8_times_46 (by decide) (fun h46 => ?_) (fun h46 => ?_)
          · skip
            replace h46 := (fun e9 => h46 ((lg_cmp_eq _ _).mpr e9))
            refine lv_iconst (v := 0) hx hb dX8_times_53 (by decide) ?_
            refine lv_istore (lv' := [(7, .int (0 : Int32)), (5, .long (x * y)), (0, .ref q), (1, .long x), (3, .long y)]) hx hb dX8_times_54 hl (by decide) rfl ?_
            clear hl
            clear ls
            intro ls hl
            refine lv_aload_n hx hb dX8_times_56 rfl (lv_at hl 2 rfl) ?_
            refine lv_aload_n hx hb dX8_times_57 rfl (lv_at hl 2 rfl) ?_
            refine zget zf_X8_105 hF hB 0 rfl rfl dX8_times_58 ?_
            refine lv_if_ne (tgt := 78) hx hb dX8_times_61 (by decide) (fun h61 => ?_) (fun h61 => ?_)
            · skip
              refine lv_iconst (v := 1) hx hb dX8_times_78 (by decide) ?_
              refine ztopi (y := bI (o || tOv x y)) (bI_1 (by rw [bI_ne0 h61]; rfl)) ?_
              refine lv_goto (tgt := 83) hx hb dX8_times_79 (by decide) ?_
              refine zput_f zp_X8_105 hF hB 0 rfl (zbI_n _) (zbI_f _) (Nat.le_of_ble_eq_true rfl) dX8_times_83 ?_
              clear hB
              try clear locs
              try clear H
              intro H locs hB
              replace hB : zB D A s ([(q, .inr (8, mO ad (o || tOv x y) z))]) H locs := hB
              refine lv_lload hx hb dX8_times_86 (lv_at hl 1 rfl) ?_
              exact zretl hF hB () (rfl) (rfl) dX8_times_88 hQ
            · skip
              refine lv_iload hx hb dX8_times_64 (lv_at hl 0 rfl) ?_
              refine lv_if_ne (tgt := 78) hx hb dX8_times_66 (by decide) (fun h66 => ?_) (fun h66 => ?_)
              · skip
                exact absurd (by decide) h66
              · skip
                refine lv_lload hx hb dX8_times_69 (lv_at hl 1 rfl) ?_
                refine lv_lload_n hx hb dX8_times_71 rfl (lv_at hl 4 rfl) ?_
                refine lv_ldiv hx hb dX8_times_72 h14 ?_
                refine lv_lload_n hx hb dX8_times_73 rfl (lv_at hl 3 rfl) ?_
                refine W.lcmp hx hb dX8_times_74 ?_
                refine lv_if_eq (tgt := 82) hx hb dX8_times_75 (by decide) (fun h75 => ?_) (fun h75 => ?_)
                · skip
                  replace h75 := (lg_cmp_eq _ _).mp h75
                  refine lv_iconst (v := 0) hx hb dX8_times_82 (by decide) ?_
                  refine ztopi (y := bI (o || tOv x y)) (bI_0 (by rw [bI_eq0 h61, (tOv_iff h14 (fun e9 => h46 e9.2)).mp h75]; rfl)) ?_
                  refine zput_f zp_X8_105 hF hB 0 rfl (zbI_n _) (zbI_f _) (Nat.le_of_ble_eq_true rfl) dX8_times_83 ?_
                  clear hB
                  try clear locs
                  try clear H
                  intro H locs hB
                  replace hB : zB D A s ([(q, .inr (8, mO ad (o || tOv x y) z))]) H locs := hB
                  refine lv_lload hx hb dX8_times_86 (lv_at hl 1 rfl) ?_
                  exact zretl hF hB () (rfl) (rfl) dX8_times_88 hQ
                · skip
                  replace h75 := (fun e9 => h75 ((lg_cmp_eq _ _).mpr e9))
                  refine lv_iconst (v := 1) hx hb dX8_times_78 (by decide) ?_
                  refine ztopi (y := bI (o || tOv x y)) (bI_1 (by cases e9 : tOv x y with
                  | true => exact Bool.or_true _
                  | false => exact absurd ((tOv_iff h14 (fun e9 => h46 e9.2)).mpr e9) h75)) ?_
                  refine lv_goto (tgt := 83) hx hb dX8_times_79 (by decide) ?_
                  refine zput_f zp_X8_105 hF hB 0 rfl (zbI_n _) (zbI_f _) (Nat.le_of_ble_eq_true rfl) dX8_times_83 ?_
                  clear hB
                  try clear locs
                  try clear H
                  intro H locs hB
                  replace hB : zB D A s ([(q, .inr (8, mO ad (o || tOv x y) z))]) H locs := hB
                  refine lv_lload hx hb dX8_times_86 (lv_at hl 1 rfl) ?_
                  exact zretl hF hB () (rfl) (rfl) dX8_times_88 hQ
          · skip
            replace h46 := (lg_cmp_eq _ _).mp h46
            refine lv_iconst (v := 1) hx hb dX8_times_49 (by decide) ?_
            refine lv_goto (tgt := 54) hx hb dX8_times_50 (by decide) ?_
            refine lv_istore (lv' := [(7, .int (1 : Int32)), (5, .long (x * y)), (0, .ref q), (1, .long x), (3, .long y)]) hx hb dX8_times_54 hl (by decide) rfl ?_
            clear hl
            clear ls
            intro ls hl
            refine lv_aload_n hx hb dX8_times_56 rfl (lv_at hl 2 rfl) ?_
            refine lv_aload_n hx hb dX8_times_57 rfl (lv_at hl 2 rfl) ?_
            refine zget zf_X8_105 hF hB 0 rfl rfl dX8_times_58 ?_
            refine lv_if_ne (tgt := 78) hx hb dX8_times_61 (by decide) (fun h61 => ?_) (fun h61 => ?_)
            · skip
              refine lv_iconst (v := 1) hx hb dX8_times_78 (by decide) ?_
              refine ztopi (y := bI (o || tOv x y)) (bI_1 (by rw [bI_ne0 h61]; rfl)) ?_
              refine lv_goto (tgt := 83) hx hb dX8_times_79 (by decide) ?_
              refine zput_f zp_X8_105 hF hB 0 rfl (zbI_n _) (zbI_f _) (Nat.le_of_ble_eq_true rfl) dX8_times_83 ?_
              clear hB
              try clear locs
              try clear H
              intro H locs hB
              replace hB : zB D A s ([(q, .inr (8, mO ad (o || tOv x y) z))]) H locs := hB
              refine lv_lload hx hb dX8_times_86 (lv_at hl 1 rfl) ?_
              exact zretl hF hB () (rfl) (rfl) dX8_times_88 hQ
            · skip
              refine lv_iload hx hb dX8_times_64 (lv_at hl 0 rfl) ?_
              refine lv_if_ne (tgt := 78) hx hb dX8_times_66 (by decide) (fun h66 => ?_) (fun h66 => ?_)
              · skip
                refine lv_iconst (v := 1) hx hb dX8_times_78 (by decide) ?_
                refine ztopi (y := bI (o || tOv x y)) (bI_1 (by rw [tOv_m1 h38 h46]; exact Bool.or_true _)) ?_
                refine lv_goto (tgt := 83) hx hb dX8_times_79 (by decide) ?_
                refine zput_f zp_X8_105 hF hB 0 rfl (zbI_n _) (zbI_f _) (Nat.le_of_ble_eq_true rfl) dX8_times_83 ?_
                clear hB
                try clear locs
                try clear H
                intro H locs hB
                replace hB : zB D A s ([(q, .inr (8, mO ad (o || tOv x y) z))]) H locs := hB
                refine lv_lload hx hb dX8_times_86 (lv_at hl 1 rfl) ?_
                exact zretl hF hB () (rfl) (rfl) dX8_times_88 hQ
              · skip
                exact absurd h66 (by decide)
      · skip
        replace h22 := (lg_cmp_eq _ _).mp h22
        refine lv_lload_n hx hb dX8_times_25 rfl (lv_at hl 3 rfl) ?_
        refine zldc2 (v := (-9223372036854775808 : Int64)) ww_13_16 hF dX8_times_26 ?_
        refine W.lcmp hx hb dX8_times_29 ?_
        refine lv_if_eq (tgt := 49) hx hb dX8_times_30 (by decide) (fun h30 => ?_) (fun h30 => ?_)
        · skip
          replace h30 := (lg_cmp_eq _ _).mp h30
          refine lv_iconst (v := 1) hx hb dX8_times_49 (by decide) ?_
          refine lv_goto (tgt := 54) hx hb dX8_times_50 (by decide) ?_
          refine lv_istore (lv' := [(7, .int (1 : Int32)), (5, .long (x * y)), (0, .ref q), (1, .long x), (3, .long y)]) hx hb dX8_times_54 hl (by decide) rfl ?_
          clear hl
          clear ls
          intro ls hl
          refine lv_aload_n hx hb dX8_times_56 rfl (lv_at hl 2 rfl) ?_
          refine lv_aload_n hx hb dX8_times_57 rfl (lv_at hl 2 rfl) ?_
          refine zget zf_X8_105 hF hB 0 rfl rfl dX8_times_58 ?_
          refine lv_if_ne (tgt := 78) hx hb dX8_times_61 (by decide) (fun h61 => ?_) (fun h61 => ?_)
          · skip
            refine lv_iconst (v := 1) hx hb dX8_times_78 (by decide) ?_
            refine ztopi (y := bI (o || tOv x y)) (bI_1 (by rw [bI_ne0 h61]; rfl)) ?_
            refine lv_goto (tgt := 83) hx hb dX8_times_79 (by decide) ?_
            refine zput_f zp_X8_105 hF hB 0 rfl (zbI_n _) (zbI_f _) (Nat.le_of_ble_eq_true rfl) dX8_times_83 ?_
            clear hB
            try clear locs
            try clear H
            intro H locs hB
            replace hB : zB D A s ([(q, .inr (8, mO ad (o || tOv x y) z))]) H locs := hB
            refine lv_lload hx hb dX8_times_86 (lv_at hl 1 rfl) ?_
            exact zretl hF hB () (rfl) (rfl) dX8_times_88 hQ
          · skip
            refine lv_iload hx hb dX8_times_64 (lv_at hl 0 rfl) ?_
            refine lv_if_ne (tgt := 78) hx hb dX8_times_66 (by decide) (fun h66 => ?_) (fun h66 => ?_)
            · skip
              refine lv_iconst (v := 1) hx hb dX8_times_78 (by decide) ?_
              refine ztopi (y := bI (o || tOv x y)) (bI_1 (by rw [tOv_m2 h22 h30]; exact Bool.or_true _)) ?_
              refine lv_goto (tgt := 83) hx hb dX8_times_79 (by decide) ?_
              refine zput_f zp_X8_105 hF hB 0 rfl (zbI_n _) (zbI_f _) (Nat.le_of_ble_eq_true rfl) dX8_times_83 ?_
              clear hB
              try clear locs
              try clear H
              intro H locs hB
              replace hB : zB D A s ([(q, .inr (8, mO ad (o || tOv x y) z))]) H locs := hB
              refine lv_lload hx hb dX8_times_86 (lv_at hl 1 rfl) ?_
              exact zretl hF hB () (rfl) (rfl) dX8_times_88 hQ
            · skip
              exact absurd h66 (by decide)
        · skip
          replace h30 := (fun e9 => h30 ((lg_cmp_eq _ _).mpr e9))
          refine lv_lload_n hx hb dX8_times_33 rfl (lv_at hl 3 rfl) ?_
          refine zldc2 (v := (-1 : Int64)) ww_13_15 hF dX8_times_34 ?_
          refine W.lcmp hx hb dX8_times_37 ?_
          refine lv_if_ne (tgt := 53) hx hb dX8_times_38 (by decide) (fun h38 => ?_) (fun h38 => ?_)
          · skip
            replace h38 := (fun e9 => h38 ((lg_cmp_eq _ _).mpr e9))
            refine lv_iconst (v := 0) hx hb dX8_times_53 (by decide) ?_
            refine lv_istore (lv' := [(7, .int (0 : Int32)), (5, .long (x * y)), (0, .ref q), (1, .long x), (3, .long y)]) hx hb dX8_times_54 hl (by decide) rfl ?_
            clear hl
            clear ls
            intro ls hl
            refine lv_aload_n hx hb dX8_times_56 rfl (lv_at hl 2 rfl) ?_
            refine lv_aload_n hx hb dX8_times_57 rfl (lv_at hl 2 rfl) ?_
            refine zget zf_X8_105 hF hB 0 rfl rfl dX8_times_58 ?_
            refine lv_if_ne (tgt := 78) hx hb dX8_times_61 (by decide) (fun h61 => ?_) (fun h61 => ?_)
            · skip
              refine lv_iconst (v := 1) hx hb dX8_times_78 (by decide) ?_
              refine ztopi (y := bI (o || tOv x y)) (bI_1 (by rw [bI_ne0 h61]; rfl)) ?_
              refine lv_goto (tgt := 83) hx hb dX8_times_79 (by decide) ?_
              refine zput_f zp_X8_105 hF hB 0 rfl (zbI_n _) (zbI_f _) (Nat.le_of_ble_eq_true rfl) dX8_times_83 ?_
              clear hB
              try clear locs
              try clear H
              intro H locs hB
              replace hB : zB D A s ([(q, .inr (8, mO ad (o || tOv x y) z))]) H locs := hB
              refine lv_lload hx hb dX8_times_86 (lv_at hl 1 rfl) ?_
              exact zretl hF hB () (rfl) (rfl) dX8_times_88 hQ
            · skip
              refine lv_iload hx hb dX8_times_64 (lv_at hl 0 rfl) ?_
              refine lv_if_ne (tgt := 78) hx hb dX8_times_66 (by decide) (fun h66 => ?_) (fun h66 => ?_)
              · skip
                exact absurd (by decide) h66
              · skip
                refine lv_lload hx hb dX8_times_69 (lv_at hl 1 rfl) ?_
                refine lv_lload_n hx hb dX8_times_71 rfl (lv_at hl 4 rfl) ?_
                refine lv_ldiv hx hb dX8_times_72 h14 ?_
                refine lv_lload_n hx hb dX8_times_73 rfl (lv_at hl 3 rfl) ?_
                refine W.lcmp hx hb dX8_times_74 ?_
                refine lv_if_eq (tgt := 82) hx hb dX8_times_75 (by decide) (fun h75 => ?_) (fun h75 => ?_)
                · skip
                  replace h75 := (lg_cmp_eq _ _).mp h75
                  refine lv_iconst (v := 0) hx hb dX8_times_82 (by decide) ?_
                  refine ztopi (y := bI (o || tOv x y)) (bI_0 (by rw [bI_eq0 h61, (tOv_iff h14 (fun e9 => h38 e9.1)).mp h75]; rfl)) ?_
                  refine zput_f zp_X8_105 hF hB 0 rfl (zbI_n _) (zbI_f _) (Nat.le_of_ble_eq_true rfl) dX8_times_83 ?_
                  clear hB
                  try clear locs
                  try clear H
                  intro H locs hB
                  replace hB : zB D A s ([(q, .inr (8, mO ad (o || tOv x y) z))]) H locs := hB
                  refine lv_lload hx hb dX8_times_86 (lv_at hl 1 rfl) ?_
                  exact zretl hF hB () (rfl) (rfl) dX8_times_88 hQ
                · skip
                  replace h75 := (fun e9 => h75 ((lg_cmp_eq _ _).mpr e9))
                  refine lv_iconst (v := 1) hx hb dX8_times_78 (by decide) ?_
                  refine ztopi (y := bI (o || tOv x y)) (bI_1 (by cases e9 : tOv x y with
                  | true => exact Bool.or_true _
                  | false => exact absurd ((tOv_iff h14 (fun e9 => h38 e9.1)).mpr e9) h75)) ?_
                  refine lv_goto (tgt := 83) hx hb dX8_times_79 (by decide) ?_
                  refine zput_f zp_X8_105 hF hB 0 rfl (zbI_n _) (zbI_f _) (Nat.le_of_ble_eq_true rfl) dX8_times_83 ?_
                  clear hB
                  try clear locs
                  try clear H
                  intro H locs hB
                  replace hB : zB D A s ([(q, .inr (8, mO ad (o || tOv x y) z))]) H locs := hB
                  refine lv_lload hx hb dX8_times_86 (lv_at hl 1 rfl) ?_
                  exact zretl hF hB () (rfl) (rfl) dX8_times_88 hQ
          · skip
            replace h38 := (lg_cmp_eq _ _).mp h38
            refine lv_lload_n hx hb dX8_times_41 rfl (lv_at hl 2 rfl) ?_
            refine zldc2 (v := (-9223372036854775808 : Int64)) ww_13_16 hF dX8_times_42 ?_
            refine W.lcmp hx hb dX8_times_45 ?_
            refine lv_if_ne (tgt := 53) hx hb dX8_times_46 (by decide) (fun h46 => ?_) (fun h46 => ?_)
            · skip
              replace h46 := (fun e9 => h46 ((lg_cmp_eq _ _).mpr e9))
              refine lv_iconst (v := 0) hx hb dX8_times_53 (by decide) ?_
              refine lv_istore (lv' := [(7, .int (0 : Int32)), (5, .long (x * y)), (0, .ref q), (1, .long x), (3, .long y)]) hx hb dX8_times_54 hl (by decide) rfl ?_
              clear hl
              clear ls
              intro ls hl
              refine lv_aload_n hx hb dX8_times_56 rfl (lv_at hl 2 rfl) ?_
              refine lv_aload_n hx hb dX8_times_57 rfl (lv_at hl 2 rfl) ?_
              refine zget zf_X8_105 hF hB 0 rfl rfl dX8_times_58 ?_
              refine lv_if_ne (tgt := 78) hx hb dX8_times_61 (by decide) (fun h61 => ?_) (fun h61 => ?_)
              · skip
                refine lv_iconst (v := 1) hx hb dX8_times_78 (by decide) ?_
                refine ztopi (y := bI (o || tOv x y)) (bI_1 (by rw [bI_ne0 h61]; rfl)) ?_
                refine lv_goto (tgt := 83) hx hb dX8_times_79 (by decide) ?_
                refine zput_f zp_X8_105 hF hB 0 rfl (zbI_n _) (zbI_f _) (Nat.le_of_ble_eq_true rfl) dX8_times_83 ?_
                clear hB
                try clear locs
                try clear H
                intro H locs hB
                replace hB : zB D A s ([(q, .inr (8, mO ad (o || tOv x y) z))]) H locs := hB
                refine lv_lload hx hb dX8_times_86 (lv_at hl 1 rfl) ?_
                exact zretl hF hB () (rfl) (rfl) dX8_times_88 hQ
              · skip
                refine lv_iload hx hb dX8_times_64 (lv_at hl 0 rfl) ?_
                refine lv_if_ne (tgt := 78) hx hb dX8_times_66 (by decide) (fun h66 => ?_) (fun h66 => ?_)
                · skip
                  exact absurd (by decide) h66
                · skip
                  refine lv_lload hx hb dX8_times_69 (lv_at hl 1 rfl) ?_
                  refine lv_lload_n hx hb dX8_times_71 rfl (lv_at hl 4 rfl) ?_
                  refine lv_ldiv hx hb dX8_times_72 h14 ?_
                  refine lv_lload_n hx hb dX8_times_73 rfl (lv_at hl 3 rfl) ?_
                  refine W.lcmp hx hb dX8_times_74 ?_
                  refine lv_if_eq (tgt := 82) hx hb dX8_times_75 (by decide) (fun h75 => ?_) (fun h75 => ?_)
                  · skip
                    replace h75 := (lg_cmp_eq _ _).mp h75
                    refine lv_iconst (v := 0) hx hb dX8_times_82 (by decide) ?_
                    refine ztopi (y := bI (o || tOv x y)) (bI_0 (by rw [bI_eq0 h61, (tOv_iff h14 (fun e9 => h46 e9.2)).mp h75]; rfl)) ?_
                    refine zput_f zp_X8_105 hF hB 0 rfl (zbI_n _) (zbI_f _) (Nat.le_of_ble_eq_true rfl) dX8_times_83 ?_
                    clear hB
                    try clear locs
                    try clear H
                    intro H locs hB
                    replace hB : zB D A s ([(q, .inr (8, mO ad (o || tOv x y) z))]) H locs := hB
                    refine lv_lload hx hb dX8_times_86 (lv_at hl 1 rfl) ?_
                    exact zretl hF hB () (rfl) (rfl) dX8_times_88 hQ
                  · skip
                    replace h75 := (fun e9 => h75 ((lg_cmp_eq _ _).mpr e9))
                    refine lv_iconst (v := 1) hx hb dX8_times_78 (by decide) ?_
                    refine ztopi (y := bI (o || tOv x y)) (bI_1 (by cases e9 : tOv x y with
                    | true => exact Bool.or_true _
                    | false => exact absurd ((tOv_iff h14 (fun e9 => h46 e9.2)).mpr e9) h75)) ?_
                    refine lv_goto (tgt := 83) hx hb dX8_times_79 (by decide) ?_
                    refine zput_f zp_X8_105 hF hB 0 rfl (zbI_n _) (zbI_f _) (Nat.le_of_ble_eq_true rfl) dX8_times_83 ?_
                    clear hB
                    try clear locs
                    try clear H
                    intro H locs hB
                    replace hB : zB D A s ([(q, .inr (8, mO ad (o || tOv x y) z))]) H locs := hB
                    refine lv_lload hx hb dX8_times_86 (lv_at hl 1 rfl) ?_
                    exact zretl hF hB () (rfl) (rfl) dX8_times_88 hQ
            · skip
              replace h46 := (lg_cmp_eq _ _).mp h46
              refine lv_iconst (v := 1) hx hb dX8_times_49 (by decide) ?_
              refine lv_goto (tgt := 54) hx hb dX8_times_50 (by decide) ?_
              refine lv_istore (lv' := [(7, .int (1 : Int32)), (5, .long (x * y)), (0, .ref q), (1, .long x), (3, .long y)]) hx hb dX8_times_54 hl (by decide) rfl ?_
              clear hl
              clear ls
              intro ls hl
              refine lv_aload_n hx hb dX8_times_56 rfl (lv_at hl 2 rfl) ?_
              refine lv_aload_n hx hb dX8_times_57 rfl (lv_at hl 2 rfl) ?_
              refine zget zf_X8_105 hF hB 0 rfl rfl dX8_times_58 ?_
              refine lv_if_ne (tgt := 78) hx hb dX8_times_61 (by decide) (fun h61 => ?_) (fun h61 => ?_)
              · skip
                refine lv_iconst (v := 1) hx hb dX8_times_78 (by decide) ?_
                refine ztopi (y := bI (o || tOv x y)) (bI_1 (by rw [bI_ne0 h61]; rfl)) ?_
                refine lv_goto (tgt := 83) hx hb dX8_times_79 (by decide) ?_
                refine zput_f zp_X8_105 hF hB 0 rfl (zbI_n _) (zbI_f _) (Nat.le_of_ble_eq_true rfl) dX8_times_83 ?_
                clear hB
                try clear locs
                try clear H
                intro H locs hB
                replace hB : zB D A s ([(q, .inr (8, mO ad (o || tOv x y) z))]) H locs := hB
                refine lv_lload hx hb dX8_times_86 (lv_at hl 1 rfl) ?_
                exact zretl hF hB () (rfl) (rfl) dX8_times_88 hQ
              · skip
                refine lv_iload hx hb dX8_times_64 (lv_at hl 0 rfl) ?_
                refine lv_if_ne (tgt := 78) hx hb dX8_times_66 (by decide) (fun h66 => ?_) (fun h66 => ?_)
                · skip
                  refine lv_iconst (v := 1) hx hb dX8_times_78 (by decide) ?_
                  refine ztopi (y := bI (o || tOv x y)) (bI_1 (by rw [tOv_m1 h38 h46]; exact Bool.or_true _)) ?_
                  refine lv_goto (tgt := 83) hx hb dX8_times_79 (by decide) ?_
                  refine zput_f zp_X8_105 hF hB 0 rfl (zbI_n _) (zbI_f _) (Nat.le_of_ble_eq_true rfl) dX8_times_83 ?_
                  clear hB
                  try clear locs
                  try clear H
                  intro H locs hB
                  replace hB : zB D A s ([(q, .inr (8, mO ad (o || tOv x y) z))]) H locs := hB
                  refine lv_lload hx hb dX8_times_86 (lv_at hl 1 rfl) ?_
                  exact zretl hF hB () (rfl) (rfl) dX8_times_88 hQ
                · skip
                  exact absurd h66 (by decide)

set_option maxHeartbeats 4000000 in
set_option maxRecDepth 100000 in
theorem c_X8_and (l : Launch) (D : va_G) (ka : Nat → ClassId) (kb : Nat → Nat) (q : Nat) (ad : Nat → Nat) (o : Bool) (z : mZ) (x : Int64) (y : Int64)  : zL l D ka kb yX8_and cX8_and 7 0 0 [.ref q, .long x, .long y] ([(q, .inr (8, mO ad o z))]) (fun (r : Int64) (_ : Unit) => r = x + y) (fun (_ : Unit) => [(q, .inr (8, mO ad (o || pOv x y) z))]) := by
  refine zL.mk RX8 (by decide +kernel) rfl (Nat.le_of_ble_eq_true rfl) ?_
  intro p e s m below meth c A ls args Q hQ hx hb hF hB hl
  replace hl : lv_has ls 7 [(0, .ref q), (1, .long x), (3, .long y)] := hl
  refine lv_lload_n hx hb dX8_and_0 rfl (lv_at hl 1 rfl) ?_
  refine lv_lload_n hx hb dX8_and_1 rfl (lv_at hl 2 rfl) ?_
  refine lv_ladd hx hb dX8_and_2 ?_
  refine lv_lstore (lv' := [(5, .long (x + y)), (0, .ref q), (1, .long x), (3, .long y)]) hx hb dX8_and_3 hl (by decide) rfl ?_
  clear hl
  clear ls
  intro ls hl
  refine lv_aload_n hx hb dX8_and_5 rfl (lv_at hl 1 rfl) ?_
  refine lv_aload_n hx hb dX8_and_6 rfl (lv_at hl 1 rfl) ?_
  refine zget zf_X8_105 hF hB 0 rfl rfl dX8_and_7 ?_
  refine lv_if_ne (tgt := 27) hx hb dX8_and_10 (by decide) (fun h10 => ?_) (fun h10 => ?_)
  · skip
    refine lv_iconst (v := 1) hx hb dX8_and_27 (by decide) ?_
    refine ztopi (y := bI (o || pOv x y)) (bI_1 (by rw [bI_ne0 h10]; rfl)) ?_
    refine lv_goto (tgt := 32) hx hb dX8_and_28 (by decide) ?_
    refine zput_f zp_X8_105 hF hB 0 rfl (zbI_n _) (zbI_f _) (Nat.le_of_ble_eq_true rfl) dX8_and_32 ?_
    clear hB
    try clear locs
    try clear H
    intro H locs hB
    replace hB : zB D A s ([(q, .inr (8, mO ad (o || pOv x y) z))]) H locs := hB
    refine lv_lload hx hb dX8_and_35 (lv_at hl 0 rfl) ?_
    exact zretl hF hB () (rfl) (rfl) dX8_and_37 hQ
  · skip
    refine lv_lload_n hx hb dX8_and_13 rfl (lv_at hl 2 rfl) ?_
    refine lv_lload hx hb dX8_and_14 (lv_at hl 0 rfl) ?_
    refine lv_lxor hx hb dX8_and_16 ?_
    refine lv_lload_n hx hb dX8_and_17 rfl (lv_at hl 3 rfl) ?_
    refine lv_lload hx hb dX8_and_18 (lv_at hl 0 rfl) ?_
    refine lv_lxor hx hb dX8_and_20 ?_
    refine lv_land hx hb dX8_and_21 ?_
    refine lv_lconst (v := 0) hx hb dX8_and_22 (by decide) ?_
    refine W.lcmp hx hb dX8_and_23 ?_
    refine lv_if_ge (tgt := 31) hx hb dX8_and_24 (by decide) (fun h24 => ?_) (fun h24 => ?_)
    · skip
      replace h24 := (lg_cmp_ge _ _).mp h24
      refine lv_iconst (v := 0) hx hb dX8_and_31 (by decide) ?_
      refine ztopi (y := bI (o || pOv x y)) (bI_0 (by rw [bI_eq0 h10, Bool.eq_false_iff.mpr (fun e9 => Int64.not_lt.mpr h24 ((pOv_iff x y).mpr e9))]; rfl)) ?_
      refine zput_f zp_X8_105 hF hB 0 rfl (zbI_n _) (zbI_f _) (Nat.le_of_ble_eq_true rfl) dX8_and_32 ?_
      clear hB
      try clear locs
      try clear H
      intro H locs hB
      replace hB : zB D A s ([(q, .inr (8, mO ad (o || pOv x y) z))]) H locs := hB
      refine lv_lload hx hb dX8_and_35 (lv_at hl 0 rfl) ?_
      exact zretl hF hB () (rfl) (rfl) dX8_and_37 hQ
    · skip
      replace h24 := (fun e9 => h24 ((lg_cmp_ge _ _).mpr e9))
      refine lv_iconst (v := 1) hx hb dX8_and_27 (by decide) ?_
      refine ztopi (y := bI (o || pOv x y)) (bI_1 (by rw [(pOv_iff x y).mp (Int64.not_le.mp h24)]; exact Bool.or_true _)) ?_
      refine lv_goto (tgt := 32) hx hb dX8_and_28 (by decide) ?_
      refine zput_f zp_X8_105 hF hB 0 rfl (zbI_n _) (zbI_f _) (Nat.le_of_ble_eq_true rfl) dX8_and_32 ?_
      clear hB
      try clear locs
      try clear H
      intro H locs hB
      replace hB : zB D A s ([(q, .inr (8, mO ad (o || pOv x y) z))]) H locs := hB
      refine lv_lload hx hb dX8_and_35 (lv_at hl 0 rfl) ?_
      exact zretl hF hB () (rfl) (rfl) dX8_and_37 hQ

set_option maxHeartbeats 4000000 in
set_option maxRecDepth 100000 in
theorem c_X8_less (l : Launch) (D : va_G) (ka : Nat → ClassId) (kb : Nat → Nat) (q : Nat) (ad : Nat → Nat) (o : Bool) (z : mZ) (x : Int64) (y : Int64)  : zL l D ka kb yX8_less cX8_less 7 0 0 [.ref q, .long x, .long y] ([(q, .inr (8, mO ad o z))]) (fun (r : Int64) (_ : Unit) => r = x - y) (fun (_ : Unit) => [(q, .inr (8, mO ad (o || mOv x y) z))]) := by
  refine zL.mk RX8 (by decide +kernel) rfl (Nat.le_of_ble_eq_true rfl) ?_
  intro p e s m below meth c A ls args Q hQ hx hb hF hB hl
  replace hl : lv_has ls 7 [(0, .ref q), (1, .long x), (3, .long y)] := hl
  refine lv_lload_n hx hb dX8_less_0 rfl (lv_at hl 1 rfl) ?_
  refine lv_lload_n hx hb dX8_less_1 rfl (lv_at hl 2 rfl) ?_
  refine lv_lsub hx hb dX8_less_2 ?_
  refine lv_lstore (lv' := [(5, .long (x - y)), (0, .ref q), (1, .long x), (3, .long y)]) hx hb dX8_less_3 hl (by decide) rfl ?_
  clear hl
  clear ls
  intro ls hl
  refine lv_aload_n hx hb dX8_less_5 rfl (lv_at hl 1 rfl) ?_
  refine lv_aload_n hx hb dX8_less_6 rfl (lv_at hl 1 rfl) ?_
  refine zget zf_X8_105 hF hB 0 rfl rfl dX8_less_7 ?_
  refine lv_if_ne (tgt := 26) hx hb dX8_less_10 (by decide) (fun h10 => ?_) (fun h10 => ?_)
  · skip
    refine lv_iconst (v := 1) hx hb dX8_less_26 (by decide) ?_
    refine ztopi (y := bI (o || mOv x y)) (bI_1 (by rw [bI_ne0 h10]; rfl)) ?_
    refine lv_goto (tgt := 31) hx hb dX8_less_27 (by decide) ?_
    refine zput_f zp_X8_105 hF hB 0 rfl (zbI_n _) (zbI_f _) (Nat.le_of_ble_eq_true rfl) dX8_less_31 ?_
    clear hB
    try clear locs
    try clear H
    intro H locs hB
    replace hB : zB D A s ([(q, .inr (8, mO ad (o || mOv x y) z))]) H locs := hB
    refine lv_lload hx hb dX8_less_34 (lv_at hl 0 rfl) ?_
    exact zretl hF hB () (rfl) (rfl) dX8_less_36 hQ
  · skip
    refine lv_lload_n hx hb dX8_less_13 rfl (lv_at hl 2 rfl) ?_
    refine lv_lload_n hx hb dX8_less_14 rfl (lv_at hl 3 rfl) ?_
    refine lv_lxor hx hb dX8_less_15 ?_
    refine lv_lload_n hx hb dX8_less_16 rfl (lv_at hl 2 rfl) ?_
    refine lv_lload hx hb dX8_less_17 (lv_at hl 0 rfl) ?_
    refine lv_lxor hx hb dX8_less_19 ?_
    refine lv_land hx hb dX8_less_20 ?_
    refine lv_lconst (v := 0) hx hb dX8_less_21 (by decide) ?_
    refine W.lcmp hx hb dX8_less_22 ?_
    refine lv_if_ge (tgt := 30) hx hb dX8_less_23 (by decide) (fun h23 => ?_) (fun h23 => ?_)
    · skip
      replace h23 := (lg_cmp_ge _ _).mp h23
      refine lv_iconst (v := 0) hx hb dX8_less_30 (by decide) ?_
      refine ztopi (y := bI (o || mOv x y)) (bI_0 (by rw [bI_eq0 h10, Bool.eq_false_iff.mpr (fun e9 => Int64.not_lt.mpr h23 ((mOv_iff x y).mpr e9))]; rfl)) ?_
      refine zput_f zp_X8_105 hF hB 0 rfl (zbI_n _) (zbI_f _) (Nat.le_of_ble_eq_true rfl) dX8_less_31 ?_
      clear hB
      try clear locs
      try clear H
      intro H locs hB
      replace hB : zB D A s ([(q, .inr (8, mO ad (o || mOv x y) z))]) H locs := hB
      refine lv_lload hx hb dX8_less_34 (lv_at hl 0 rfl) ?_
      exact zretl hF hB () (rfl) (rfl) dX8_less_36 hQ
    · skip
      replace h23 := (fun e9 => h23 ((lg_cmp_ge _ _).mpr e9))
      refine lv_iconst (v := 1) hx hb dX8_less_26 (by decide) ?_
      refine ztopi (y := bI (o || mOv x y)) (bI_1 (by rw [(mOv_iff x y).mp (Int64.not_le.mp h23)]; exact Bool.or_true _)) ?_
      refine lv_goto (tgt := 31) hx hb dX8_less_27 (by decide) ?_
      refine zput_f zp_X8_105 hF hB 0 rfl (zbI_n _) (zbI_f _) (Nat.le_of_ble_eq_true rfl) dX8_less_31 ?_
      clear hB
      try clear locs
      try clear H
      intro H locs hB
      replace hB : zB D A s ([(q, .inr (8, mO ad (o || mOv x y) z))]) H locs := hB
      refine lv_lload hx hb dX8_less_34 (lv_at hl 0 rfl) ?_
      exact zretl hF hB () (rfl) (rfl) dX8_less_36 hQ

set_option maxHeartbeats 4000000 in
set_option maxRecDepth 100000 in
theorem c_X8_turned (l : Launch) (D : va_G) (ka : Nat → ClassId) (kb : Nat → Nat) (q : Nat) (ad : Nat → Nat) (o : Bool) (z : mZ) (x : Int64)  : zL l D ka kb yX8_turned cX8_turned 3 1 26 [.ref q, .long x] ([(q, .inr (8, mO ad o z))]) (fun (r : Int64) (_ : Unit) => r = 0 - x) (fun (_ : Unit) => [(q, .inr (8, mO ad (o || mOv 0 x) z))]) := by
  refine zL.mk RX8 (by decide +kernel) rfl (Nat.le_of_ble_eq_true rfl) ?_
  intro p e s m below meth c A ls args Q hQ hx hb hF hB hl
  replace hl : lv_has ls 3 [(0, .ref q), (1, .long x)] := hl
  refine lv_aload_n hx hb dX8_turned_0 rfl (lv_at hl 0 rfl) ?_
  refine lv_lconst (v := 0) hx hb dX8_turned_1 (by decide) ?_
  refine lv_lload_n hx hb dX8_turned_2 rfl (lv_at hl 1 rfl) ?_
  refine zVl zm_X8_109 hF hB (c_X8_less l D ka kb q ad o z (0 : Int64) x ) [0] rfl (by decide) [q] (fun _ => rfl) rfl 0 8 rfl rfl rfl ⟨Nat.le_of_ble_eq_true rfl, Nat.le_of_ble_eq_true rfl⟩ rfl hl.1 (Nat.le_of_ble_eq_true rfl) ⟨Nat.le_refl _, Nat.le_refl _⟩ dX8_turned_3 ?_
  clear hB
  try clear locs
  try clear H
  intro r1 u1 H locs hp hB
  obtain rfl : r1 = (0 : Int64) - x := hp
  replace hB : zB D A s ([(q, .inr (8, mO ad (o || mOv (0 : Int64) x) z))]) H locs := hB
  exact zretl hF hB () (rfl) (rfl) dX8_turned_6 hQ

set_option maxHeartbeats 4000000 in
set_option maxRecDepth 100000 in
theorem c_X8_below (l : Launch) (D : va_G) (ka : Nat → ClassId) (kb : Nat → Nat) (v : Int64)  : zL l D ka kb yX8_below cX8_below 2 0 0 [.long v] ([]) (fun (r : Int64) (_ : Unit) => r = negI v.toInt.natAbs) (fun (_ : Unit) => []) := by
  refine zL.mk RX8 (by decide +kernel) rfl (Nat.le_of_ble_eq_true rfl) ?_
  intro p e s m below meth c A ls args Q hQ hx hb hF hB hl
  replace hl : lv_has ls 2 [(0, .long v)] := hl
  refine lv_lload_n hx hb dX8_below_0 rfl (lv_at hl 0 rfl) ?_
  refine lv_lconst (v := 0) hx hb dX8_below_1 (by decide) ?_
  refine W.lcmp hx hb dX8_below_2 ?_
  refine lv_if_le (tgt := 12) hx hb dX8_below_3 (by decide) (fun h3 => ?_) (fun h3 => ?_)
  · skip
    replace h3 := (lg_cmp_le _ _).mp h3
    refine lv_lload_n hx hb dX8_below_12 rfl (lv_at hl 0 rfl) ?_
    exact zretl hF hB () (by rw [← below_eq v, if_neg (Int64.not_lt.mpr h3)]) (rfl) dX8_below_13 hQ
  · skip
    replace h3 := (fun e9 => h3 ((lg_cmp_le _ _).mpr e9))
    refine lv_lconst (v := 0) hx hb dX8_below_6 (by decide) ?_
    refine lv_lload_n hx hb dX8_below_7 rfl (lv_at hl 0 rfl) ?_
    refine lv_lsub hx hb dX8_below_8 ?_
    refine lv_goto (tgt := 13) hx hb dX8_below_9 (by decide) ?_
    exact zretl hF hB () (by rw [← below_eq v, if_pos (Int64.not_le.mp h3)]) (rfl) dX8_below_13 hQ

set_option maxHeartbeats 4000000 in
set_option maxRecDepth 100000 in
theorem c_X8_shared (l : Launch) (D : va_G) (ka : Nat → ClassId) (kb : Nat → Nat) (x : Nat) (y : Nat) (hx9 : x ≤ 2 ^ 63) (hy9 : y ≤ 2 ^ 63) : zL l D ka kb yX8_shared cX8_shared 11 0 0 [.long (negI x), .long (negI y)] ([]) (fun (r : Int64) (_ : Unit) => r = negI (Nat.gcd x y)) (fun (_ : Unit) => []) := by
  refine zL.mk RX8 (by decide +kernel) rfl (Nat.le_of_ble_eq_true rfl) ?_
  intro p e s m below meth c A ls args Q hQ hx hb hF hB hl
  replace hl : lv_has ls 11 [(0, .long (negI x)), (2, .long (negI y))] := hl
  refine lv_lload_n hx hb dX8_shared_0 rfl (lv_at hl 0 rfl) ?_
  refine lv_lstore (lv' := [(4, .long (negI x)), (0, .long (negI x)), (2, .long (negI y))]) hx hb dX8_shared_1 hl (by decide) rfl ?_
  clear hl
  clear ls
  intro ls hl
  refine lv_lload_n hx hb dX8_shared_3 rfl (lv_at hl 2 rfl) ?_
  refine lv_lstore (lv' := [(6, .long (negI y)), (4, .long (negI x)), (0, .long (negI x)), (2, .long (negI y))]) hx hb dX8_shared_4 hl (by decide) rfl ?_
  clear hl
  clear ls
  intro ls hl
  refine lv_iconst (v := 0) hx hb dX8_shared_6 (by decide) ?_
  refine lv_istore (lv' := [(8, .int (0 : Int32)), (6, .long (negI y)), (4, .long (negI x)), (0, .long (negI x)), (2, .long (negI y))]) hx hb dX8_shared_7 hl (by decide) rfl ?_
  clear hl
  clear ls
  intro ls hl
  have lp9 : ∀ (fl : Nat) (k : Nat) (u : Nat) (v : Nat), (hk : k ≤ 200) → (hu : u ≤ 2 ^ 63) → (hv : v ≤ 2 ^ 63) → (hi : gInv k u v) → (hg : Nat.gcd u v = Nat.gcd x y) → 200 - k < fl → ∀ (H : Heap) (locs : List Loc), zB D A s ([]) H locs → ∀ ls : Array Slot, lv_has ls 11 [(4, .long (negI u)), (6, .long (negI v)), (8, .int (nI k))] → W p l e (zRm 0 0 0 0) s m args below meth c H locs 0 0 Q (F0 m 9 ls []) := by
    intro fl
    induction fl with
    | zero => intro k u v hk hu hv hi hg hfl; exact absurd hfl (Nat.not_lt_zero _)
    | succ fl ih9 =>
      intro k u v hk hu hv hi hg hfl9 H locs hB ls hl
      refine lv_iload hx hb dX8_shared_9 (lv_at hl 2 rfl) ?_
      refine lv_sipush (v := 200) hx hb dX8_shared_11 (by decide) ?_
      refine lv_icmp_ge (tgt := 45) hx hb dX8_shared_14 (by decide) (fun h14 => ?_) (fun h14 => ?_)
      · skip
        have hv0 : v = 0 := gInv_end hi (by have := (nI_leI (a := 200) (b := k) (by decide) (by omega)).mp h14; omega)
        refine lv_lload hx hb dX8_shared_45 (lv_at hl 0 rfl) ?_
        exact zretl hF hB () (by subst hv0; rw [← hg, Nat.gcd_zero_right]) (rfl) dX8_shared_47 hQ
      · skip
        have hk2 : k < 200 := by have := mt (nI_leI (a := 200) (b := k) (by decide) (by omega)).mpr h14; omega
        refine lv_lload hx hb dX8_shared_17 (lv_at hl 1 rfl) ?_
        refine lv_lconst (v := 0) hx hb dX8_shared_19 (by decide) ?_
        refine W.lcmp hx hb dX8_shared_20 ?_
        refine lv_if_eq (tgt := 45) hx hb dX8_shared_21 (by decide) (fun h21 => ?_) (fun h21 => ?_)
        · skip
          replace h21 := (lg_cmp_eq _ _).mp h21
          have hv0 : v = 0 := (negI_0 hv).mp h21
          refine lv_lload hx hb dX8_shared_45 (lv_at hl 0 rfl) ?_
          exact zretl hF hB () (by subst hv0; rw [← hg, Nat.gcd_zero_right]) (rfl) dX8_shared_47 hQ
        · skip
          replace h21 := (fun e9 => h21 ((lg_cmp_eq _ _).mpr e9))
          have hv0 : 0 < v := Nat.pos_of_ne_zero (fun e9 => h21 ((negI_0 hv).mpr e9))
          refine lv_lload hx hb dX8_shared_24 (lv_at hl 0 rfl) ?_
          refine lv_lload hx hb dX8_shared_26 (lv_at hl 1 rfl) ?_
          refine lv_lrem hx hb dX8_shared_28 (fun e9 => Nat.lt_irrefl 0 (((negI_0 hv).mp e9) ▸ hv0)) ?_
          refine ztopl (y := negI (u % v)) (negI_rem hu hv hv0) ?_
          refine lv_lstore (lv' := [(9, .long (negI (u % v))), (4, .long (negI u)), (6, .long (negI v)), (8, .int (nI k))]) hx hb dX8_shared_29 hl (by decide) rfl ?_
          clear hl
          clear ls
          intro ls hl
          refine lv_lload hx hb dX8_shared_31 (lv_at hl 2 rfl) ?_
          refine lv_lstore (lv' := [(4, .long (negI v)), (9, .long (negI (u % v))), (6, .long (negI v)), (8, .int (nI k))]) hx hb dX8_shared_33 hl (by decide) rfl ?_
          clear hl
          clear ls
          intro ls hl
          refine lv_lload hx hb dX8_shared_35 (lv_at hl 1 rfl) ?_
          refine lv_lstore (lv' := [(6, .long (negI (u % v))), (4, .long (negI v)), (9, .long (negI (u % v))), (8, .int (nI k))]) hx hb dX8_shared_37 hl (by decide) rfl ?_
          clear hl
          clear ls
          intro ls hl
          refine lv_iinc (v := nI (k + 1)) (lv' := [(8, .int (nI (k + 1))), (6, .long (negI (u % v))), (4, .long (negI v)), (9, .long (negI (u % v)))]) hx hb dX8_shared_39 hl (k := 3) rfl (nI_1 _) (by decide) rfl ?_
          clear hl
          clear ls
          intro ls hl
          refine lv_goto (tgt := 9) hx hb dX8_shared_42 (by decide) ?_
          exact ih9 (k + 1) v (u % v) (by omega) (hv) (Nat.le_trans (Nat.mod_le u v) hu) (gInv_step hi hv0) (by rw [← hg, Nat.gcd_comm u v, Nat.gcd_rec v u, Nat.gcd_comm]) (by omega) _ _ (hB) _ (lv_sub hl [2, 1, 0] rfl)
  exact lp9 (200 - 0 + 1) 0 x y (by decide) (hx9) (hy9) (gInv_0 hx9 hy9) (rfl) (by omega) _ _ (hB) _ (lv_sub hl [2, 1, 0] rfl)
