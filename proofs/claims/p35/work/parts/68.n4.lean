set_option maxHeartbeats 4000000 in
set_option maxRecDepth 100000 in
theorem c_X2_sign (l : Launch) (D : va_G) (ka : Nat → ClassId) (kb : Nat → Nat) (g : Nat) (na : Nat → Nat) (o : Bool) (tp : Nat) (fp : Nat) (ip : Nat) (a : Int64) (b : Int64)  : zI l D ka kb yX2_sign cX2_sign 8 .int 2 50 [.ref g, .long a, .long b] ([(g, .inr (2, [.int (bI o), .ref (na tp), .ref (na fp), .ref (na ip)]))]) (fun (r : Int32) (_ : Unit) => r = if (sgN a b && sgSq a b) = true then (-5 : Int32) else signV a b) (fun (_ : Unit) => [(g, .inr (2, [.int (bI (if sgN a b = true then sgSq a b else o)), .ref (na tp), .ref (na fp), .ref (na ip)]))]) := by
  refine zI.mk RX2 (by decide +kernel) rfl (Nat.le_of_ble_eq_true rfl) ?_
  intro p e s m below meth c A ls args Q hQ hx hb hF hB hl
  replace hl : lv_has ls 8 [(0, .ref g), (1, .long a), (3, .long b)] := hl
  refine lv_lload_n hx hb dX2_sign_0 rfl (lv_at hl 1 rfl) ?_
  refine zSi zm_X2_76 hF hB (c_J13_signum l D ka kb a ) [] rfl (by decide) [] (fun _ => rfl) rfl rfl ⟨Nat.le_of_ble_eq_true rfl, Nat.le_of_ble_eq_true rfl⟩ rfl hl.1 (Nat.le_of_ble_eq_true rfl) ⟨Nat.le_refl _, Nat.le_refl _⟩ dX2_sign_1 ?_
  clear hB
  try clear locs
  try clear H
  intro r1 u1 H locs hp hB
  obtain rfl : r1 = sgnL a := hp
  replace hB : zB D A s ([(g, .inr (2, [.int (bI o), .ref (na tp), .ref (na fp), .ref (na ip)]))]) H locs := hB
  refine lv_istore (lv' := [(5, .int (sgnL a)), (0, .ref g), (1, .long a), (3, .long b)]) hx hb dX2_sign_4 hl (by decide) rfl ?_
  clear hl
  clear ls
  intro ls hl
  refine lv_lload_n hx hb dX2_sign_6 rfl (lv_at hl 3 rfl) ?_
  refine zSi zm_X2_76 hF hB (c_J13_signum l D ka kb b ) [] rfl (by decide) [] (fun _ => rfl) rfl rfl ⟨Nat.le_of_ble_eq_true rfl, Nat.le_of_ble_eq_true rfl⟩ rfl hl.1 (Nat.le_of_ble_eq_true rfl) ⟨Nat.le_refl _, Nat.le_refl _⟩ dX2_sign_7 ?_
  clear hB
  try clear locs
  try clear H
  intro r2 u2 H locs hp hB
  obtain rfl : r2 = sgnL b := hp
  replace hB : zB D A s ([(g, .inr (2, [.int (bI o), .ref (na tp), .ref (na fp), .ref (na ip)]))]) H locs := hB
  refine lv_istore (lv' := [(6, .int (sgnL b)), (5, .int (sgnL a)), (0, .ref g), (1, .long a), (3, .long b)]) hx hb dX2_sign_10 hl (by decide) rfl ?_
  clear hl
  clear ls
  intro ls hl
  refine lv_iload hx hb dX2_sign_12 (lv_at hl 1 rfl) ?_
  refine lv_iload hx hb dX2_sign_14 (lv_at hl 0 rfl) ?_
  refine lv_icmp_eq (tgt := 24) hx hb dX2_sign_16 (by decide) (fun h16 => ?_) (fun h16 => ?_)
  · skip
    refine lv_iload hx hb dX2_sign_24 (lv_at hl 1 rfl) ?_
    have hn9 : sgN a b = false := dB_f.mpr (fun e8 => e8.1 h16)
    exact zreti hF hB () (by rw [hn9, Bool.false_and, if_neg (by decide), signV, hn9, if_neg (by decide), if_pos (Or.inl h16)]) (by rw [hn9] <;> rfl) (rfl) dX2_sign_26 hQ
  · skip
    refine lv_iload hx hb dX2_sign_19 (lv_at hl 0 rfl) ?_
    refine lv_if_ne (tgt := 27) hx hb dX2_sign_21 (by decide) (fun h21 => ?_) (fun h21 => ?_)
    · skip
      refine lv_iload hx hb dX2_sign_27 (lv_at hl 1 rfl) ?_
      refine lv_if_ne (tgt := 35) hx hb dX2_sign_29 (by decide) (fun h29 => ?_) (fun h29 => ?_)
      · skip
        have hn9 : sgN a b = true := dB_t.mpr ⟨h16, h21, h29⟩
        refine lv_aload_n hx hb dX2_sign_35 rfl (lv_at hl 2 rfl) ?_
        refine lv_iconst (v := 0) hx hb dX2_sign_36 (by decide) ?_
        refine zput_f zp_X2_24 hF hB 0 rfl (rfl) (rfl) (Nat.le_of_ble_eq_true rfl) dX2_sign_37 ?_
        clear hB
        try clear locs
        try clear H
        intro H locs hB
        replace hB : zB D A s ([(g, .inr (2, [.int (0 : Int32), .ref (na tp), .ref (na fp), .ref (na ip)]))]) H locs := hB
        refine lv_aload_n hx hb dX2_sign_40 rfl (lv_at hl 2 rfl) ?_
        refine lv_lload_n hx hb dX2_sign_41 rfl (lv_at hl 3 rfl) ?_
        refine lv_lload_n hx hb dX2_sign_42 rfl (lv_at hl 3 rfl) ?_
        refine zVl zm_X2_35 hF hB (c_X2_times l D ka kb g na false tp fp ip a a ) [0] rfl (by decide) [g] (fun _ => rfl) rfl 0 2 rfl rfl rfl ⟨Nat.le_of_ble_eq_true rfl, Nat.le_of_ble_eq_true rfl⟩ rfl hl.1 (Nat.le_of_ble_eq_true rfl) ⟨Nat.le_refl _, Nat.le_refl _⟩ dX2_sign_43 ?_
        clear hB
        try clear locs
        try clear H
        intro r3 u3 H locs hp hB
        obtain rfl : r3 = a * a := hp
        replace hB : zB D A s ([(g, .inr (2, [.int (bI (false || tOv a a)), .ref (na tp), .ref (na fp), .ref (na ip)]))]) H locs := hB
        refine lv_aload_n hx hb dX2_sign_46 rfl (lv_at hl 2 rfl) ?_
        refine lv_lload_n hx hb dX2_sign_47 rfl (lv_at hl 4 rfl) ?_
        refine lv_lload_n hx hb dX2_sign_48 rfl (lv_at hl 4 rfl) ?_
        refine zVl zm_X2_58 hF hB (c_X2_thrice l D ka kb g na (false || tOv a a) tp fp ip b b ) [0] rfl (by decide) [g] (fun _ => rfl) rfl 0 2 rfl rfl rfl ⟨Nat.le_of_ble_eq_true rfl, Nat.le_of_ble_eq_true rfl⟩ rfl hl.1 (Nat.le_of_ble_eq_true rfl) ⟨Nat.le_refl _, Nat.le_refl _⟩ dX2_sign_49 ?_
        clear hB
        try clear locs
        try clear H
        intro r4 u4 H locs hp hB
        obtain rfl : r4 = thV b b := hp
        replace hB : zB D A s ([(g, .inr (2, [.int (bI ((false || tOv a a) || thO b b)), .ref (na tp), .ref (na fp), .ref (na ip)]))]) H locs := hB
        refine W.lcmp hx hb dX2_sign_52 ?_
        refine lv_if_le (tgt := 60) hx hb dX2_sign_53 (by decide) (fun h53 => ?_) (fun h53 => ?_)
        · skip
          replace h53 := (lg_cmp_le _ _).mp h53
          refine lv_iconst (v := 0) hx hb dX2_sign_60 (by decide) ?_
          refine lv_istore (lv' := [(7, .int (0 : Int32)), (6, .int (sgnL b)), (5, .int (sgnL a)), (0, .ref g), (1, .long a), (3, .long b)]) hx hb dX2_sign_61 hl (by decide) rfl ?_
          clear hl
          clear ls
          intro ls hl
          refine lv_aload_n hx hb dX2_sign_63 rfl (lv_at hl 3 rfl) ?_
          refine zget zf_X2_24 hF hB 0 rfl rfl dX2_sign_64 ?_
          refine lv_if_eq (tgt := 73) hx hb dX2_sign_67 (by decide) (fun h67 => ?_) (fun h67 => ?_)
          · skip
            refine lv_iload hx hb dX2_sign_73 (lv_at hl 0 rfl) ?_
            refine lv_if_eq (tgt := 83) hx hb dX2_sign_75 (by decide) (fun h75 => ?_) (fun h75 => ?_)
            · skip
              refine lv_iload hx hb dX2_sign_83 (lv_at hl 1 rfl) ?_
              have hq9 : sgSq a b = false := by have e8 := bI_eq0 h67; rw [Bool.false_or] at e8; exact e8
              have hs9 : ((false || tOv a a) || thO b b) = sgSq a b := by rw [Bool.false_or]; rfl
              exact zreti hF hB () (by rw [hn9, hq9, if_neg (by decide), signV, hn9, if_pos rfl, if_neg (Int64.not_lt.mpr h53)]) (by rw [hn9, hs9] <;> rfl) (rfl) dX2_sign_85 hQ
            · skip
              exact absurd (by decide) h75
          · skip
            refine lv_bipush (v := -5) hx hb dX2_sign_70 (by decide) ?_
            have hq9 : sgSq a b = true := by have e8 := bI_ne0 h67; rw [Bool.false_or] at e8; exact e8
            have hs9 : ((false || tOv a a) || thO b b) = sgSq a b := by rw [Bool.false_or]; rfl
            exact zreti hF hB () (by rw [hn9, hq9] <;> rfl) (by rw [hn9, hs9] <;> rfl) (rfl) dX2_sign_72 hQ
        · skip
          replace h53 := (fun e9 => h53 ((lg_cmp_le _ _).mpr e9))
          refine lv_iconst (v := 1) hx hb dX2_sign_56 (by decide) ?_
          refine lv_goto (tgt := 61) hx hb dX2_sign_57 (by decide) ?_
          refine lv_istore (lv' := [(7, .int (1 : Int32)), (6, .int (sgnL b)), (5, .int (sgnL a)), (0, .ref g), (1, .long a), (3, .long b)]) hx hb dX2_sign_61 hl (by decide) rfl ?_
          clear hl
          clear ls
          intro ls hl
          refine lv_aload_n hx hb dX2_sign_63 rfl (lv_at hl 3 rfl) ?_
          refine zget zf_X2_24 hF hB 0 rfl rfl dX2_sign_64 ?_
          refine lv_if_eq (tgt := 73) hx hb dX2_sign_67 (by decide) (fun h67 => ?_) (fun h67 => ?_)
          · skip
            refine lv_iload hx hb dX2_sign_73 (lv_at hl 0 rfl) ?_
            refine lv_if_eq (tgt := 83) hx hb dX2_sign_75 (by decide) (fun h75 => ?_) (fun h75 => ?_)
            · skip
              exact absurd h75 (by decide)
            · skip
              refine lv_iload hx hb dX2_sign_78 (lv_at hl 2 rfl) ?_
              refine lv_goto (tgt := 85) hx hb dX2_sign_80 (by decide) ?_
              have hq9 : sgSq a b = false := by have e8 := bI_eq0 h67; rw [Bool.false_or] at e8; exact e8
              have hs9 : ((false || tOv a a) || thO b b) = sgSq a b := by rw [Bool.false_or]; rfl
              exact zreti hF hB () (by rw [hn9, hq9, if_neg (by decide), signV, hn9, if_pos rfl, if_pos (Int64.not_le.mp h53)]) (by rw [hn9, hs9] <;> rfl) (rfl) dX2_sign_85 hQ
          · skip
            refine lv_bipush (v := -5) hx hb dX2_sign_70 (by decide) ?_
            have hq9 : sgSq a b = true := by have e8 := bI_ne0 h67; rw [Bool.false_or] at e8; exact e8
            have hs9 : ((false || tOv a a) || thO b b) = sgSq a b := by rw [Bool.false_or]; rfl
            exact zreti hF hB () (by rw [hn9, hq9] <;> rfl) (by rw [hn9, hs9] <;> rfl) (rfl) dX2_sign_72 hQ
      · skip
        refine lv_iload hx hb dX2_sign_32 (lv_at hl 0 rfl) ?_
        have hn9 : sgN a b = false := dB_f.mpr (fun e8 => e8.2.2 h29)
        exact zreti hF hB () (by rw [hn9, Bool.false_and, if_neg (by decide), signV, hn9, if_neg (by decide), if_neg (fun e8 => e8.elim h16 h21)]) (by rw [hn9] <;> rfl) (rfl) dX2_sign_34 hQ
    · skip
      refine lv_iload hx hb dX2_sign_24 (lv_at hl 1 rfl) ?_
      have hn9 : sgN a b = false := dB_f.mpr (fun e8 => e8.2.1 h21)
      exact zreti hF hB () (by rw [hn9, Bool.false_and, if_neg (by decide), signV, hn9, if_neg (by decide), if_pos (Or.inr h21)]) (by rw [hn9] <;> rfl) (rfl) dX2_sign_26 hQ

