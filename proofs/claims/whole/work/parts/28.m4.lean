set_option maxHeartbeats 4000000 in
set_option maxRecDepth 100000 in
theorem c_X8_signOf (l : Launch) (D : va_G) (ka : Nat → ClassId) (kb : Nat → Nat) (v : Int64)  : zI l D ka kb yX8_signOf cX8_signOf 2 .int 0 0 [.long v] ([]) (fun (r : Int32) (_ : Unit) => r = sgnL v) (fun (_ : Unit) => []) := by
  refine zI.mk RX8 (by decide +kernel) rfl (Nat.le_of_ble_eq_true rfl) ?_
  intro p e s m below meth c A ls args Q hQ hx hb hF hB hl
  replace hl : lv_has ls 2 [(0, .long v)] := hl
  refine lv_lload_n hx hb dX8_signOf_0 rfl (lv_at hl 0 rfl) ?_
  refine lv_lconst (v := 0) hx hb dX8_signOf_1 (by decide) ?_
  refine W.lcmp hx hb dX8_signOf_2 ?_
  refine lv_if_ge (tgt := 10) hx hb dX8_signOf_3 (by decide) (fun h3 => ?_) (fun h3 => ?_)
  · skip
    replace h3 := (lg_cmp_ge _ _).mp h3
    refine lv_lload_n hx hb dX8_signOf_10 rfl (lv_at hl 0 rfl) ?_
    refine lv_lconst (v := 0) hx hb dX8_signOf_11 (by decide) ?_
    refine W.lcmp hx hb dX8_signOf_12 ?_
    refine lv_if_le (tgt := 20) hx hb dX8_signOf_13 (by decide) (fun h13 => ?_) (fun h13 => ?_)
    · skip
      replace h13 := (lg_cmp_le _ _).mp h13
      refine lv_iconst (v := 0) hx hb dX8_signOf_20 (by decide) ?_
      refine ztopi (y := sgnL v) (by rw [sgnL, if_neg (Int64.not_lt.mpr h3), if_neg (Int64.not_lt.mpr h13)]) ?_
      exact zreti hF hB () (rfl) (rfl) (rfl) dX8_signOf_21 hQ
    · skip
      replace h13 := (fun e9 => h13 ((lg_cmp_le _ _).mpr e9))
      refine lv_iconst (v := 1) hx hb dX8_signOf_16 (by decide) ?_
      refine ztopi (y := sgnL v) (by rw [sgnL, if_neg (Int64.not_lt.mpr h3), if_pos (Int64.not_le.mp h13)]) ?_
      refine lv_goto (tgt := 21) hx hb dX8_signOf_17 (by decide) ?_
      exact zreti hF hB () (rfl) (rfl) (rfl) dX8_signOf_21 hQ
  · skip
    replace h3 := (fun e9 => h3 ((lg_cmp_ge _ _).mpr e9))
    refine lv_iconst (v := -1) hx hb dX8_signOf_6 (by decide) ?_
    refine ztopi (y := sgnL v) (by rw [sgnL, if_pos (Int64.not_le.mp h3)]) ?_
    refine lv_goto (tgt := 21) hx hb dX8_signOf_7 (by decide) ?_
    exact zreti hF hB () (rfl) (rfl) (rfl) dX8_signOf_21 hQ

set_option maxHeartbeats 4000000 in
set_option maxRecDepth 100000 in
theorem c_X8_sign (l : Launch) (D : va_G) (ka : Nat → ClassId) (kb : Nat → Nat) (q : Nat) (ad : Nat → Nat) (o : Bool) (z : mZ) (a : Int64) (b : Int64)  : zI l D ka kb yX8_sign cX8_sign 7 .int 2 51 [.ref q, .long a, .long b] ([(q, .inr (8, mO ad o z))]) (fun (r : Int32) (_ : Unit) => r = signV a b) (fun (_ : Unit) => [(q, .inr (8, mO ad (o || (sgN a b && sgSq a b)) z))]) := by
  refine zI.mk RX8 (by decide +kernel) rfl (Nat.le_of_ble_eq_true rfl) ?_
  intro p e s m below meth c A ls args Q hQ hx hb hF hB hl
  replace hl : lv_has ls 7 [(0, .ref q), (1, .long a), (3, .long b)] := hl
  refine lv_lload_n hx hb dX8_sign_0 rfl (lv_at hl 1 rfl) ?_
  refine zSi zm_X8_180 hF hB (c_X8_signOf l D ka kb a ) [] rfl (by decide) [] (fun _ => rfl) rfl rfl ⟨Nat.le_of_ble_eq_true rfl, Nat.le_of_ble_eq_true rfl⟩ rfl hl.1 (Nat.le_of_ble_eq_true rfl) ⟨Nat.le_refl _, Nat.le_refl _⟩ dX8_sign_1 ?_
  clear hB
  try clear locs
  try clear H
  intro r1 u1 H locs hp hB
  obtain rfl : r1 = sgnL a := hp
  replace hB : zB D A s ([(q, .inr (8, mO ad o z))]) H locs := hB
  refine lv_istore (lv' := [(5, .int (sgnL a)), (0, .ref q), (1, .long a), (3, .long b)]) hx hb dX8_sign_4 hl (by decide) rfl ?_
  clear hl
  clear ls
  intro ls hl
  refine lv_lload_n hx hb dX8_sign_6 rfl (lv_at hl 3 rfl) ?_
  refine zSi zm_X8_180 hF hB (c_X8_signOf l D ka kb b ) [] rfl (by decide) [] (fun _ => rfl) rfl rfl ⟨Nat.le_of_ble_eq_true rfl, Nat.le_of_ble_eq_true rfl⟩ rfl hl.1 (Nat.le_of_ble_eq_true rfl) ⟨Nat.le_refl _, Nat.le_refl _⟩ dX8_sign_7 ?_
  clear hB
  try clear locs
  try clear H
  intro r2 u2 H locs hp hB
  obtain rfl : r2 = sgnL b := hp
  replace hB : zB D A s ([(q, .inr (8, mO ad o z))]) H locs := hB
  refine lv_istore (lv' := [(6, .int (sgnL b)), (5, .int (sgnL a)), (0, .ref q), (1, .long a), (3, .long b)]) hx hb dX8_sign_10 hl (by decide) rfl ?_
  clear hl
  clear ls
  intro ls hl
  refine lv_iload hx hb dX8_sign_12 (lv_at hl 1 rfl) ?_
  refine lv_iload hx hb dX8_sign_14 (lv_at hl 0 rfl) ?_
  refine lv_icmp_eq (tgt := 24) hx hb dX8_sign_16 (by decide) (fun h16 => ?_) (fun h16 => ?_)
  · skip
    refine lv_iload hx hb dX8_sign_24 (lv_at hl 1 rfl) ?_
    have hN : sgN a b = false := dB_f.mpr (fun e8 => e8.1 h16)
    exact zreti hF hB () (by rw [signV, if_neg (by rw [hN]; decide), if_pos (Or.inl h16)]) (by rw [hN, Bool.false_and, Bool.or_false]) (rfl) dX8_sign_26 hQ
  · skip
    refine lv_iload hx hb dX8_sign_19 (lv_at hl 0 rfl) ?_
    refine lv_if_ne (tgt := 27) hx hb dX8_sign_21 (by decide) (fun h21 => ?_) (fun h21 => ?_)
    · skip
      refine lv_iload hx hb dX8_sign_27 (lv_at hl 1 rfl) ?_
      refine lv_if_ne (tgt := 35) hx hb dX8_sign_29 (by decide) (fun h29 => ?_) (fun h29 => ?_)
      · skip
        refine lv_aload_n hx hb dX8_sign_35 rfl (lv_at hl 2 rfl) ?_
        refine lv_lload_n hx hb dX8_sign_36 rfl (lv_at hl 3 rfl) ?_
        refine lv_lload_n hx hb dX8_sign_37 rfl (lv_at hl 3 rfl) ?_
        refine zVl zm_X8_124 hF hB (c_X8_times l D ka kb q ad o z a a ) [0] rfl (by decide) [q] (fun _ => rfl) rfl 0 8 rfl rfl rfl ⟨Nat.le_of_ble_eq_true rfl, Nat.le_of_ble_eq_true rfl⟩ rfl hl.1 (Nat.le_of_ble_eq_true rfl) ⟨Nat.le_refl _, Nat.le_refl _⟩ dX8_sign_38 ?_
        clear hB
        try clear locs
        try clear H
        intro r3 u3 H locs hp hB
        obtain rfl : r3 = a * a := hp
        replace hB : zB D A s ([(q, .inr (8, mO ad (o || tOv a a) z))]) H locs := hB
        refine lv_aload_n hx hb dX8_sign_41 rfl (lv_at hl 2 rfl) ?_
        refine lv_lload_n hx hb dX8_sign_42 rfl (lv_at hl 4 rfl) ?_
        refine lv_lload_n hx hb dX8_sign_43 rfl (lv_at hl 4 rfl) ?_
        refine zVl zm_X8_138 hF hB (c_X8_three l D ka kb q ad (o || tOv a a) z b b ) [0] rfl (by decide) [q] (fun _ => rfl) rfl 0 8 rfl rfl rfl ⟨Nat.le_of_ble_eq_true rfl, Nat.le_of_ble_eq_true rfl⟩ rfl hl.1 (Nat.le_of_ble_eq_true rfl) ⟨Nat.le_refl _, Nat.le_refl _⟩ dX8_sign_44 ?_
        clear hB
        try clear locs
        try clear H
        intro r4 u4 H locs hp hB
        obtain rfl : r4 = thV b b := hp
        replace hB : zB D A s ([(q, .inr (8, mO ad ((o || tOv a a) || thO b b) z))]) H locs := hB
        refine W.lcmp hx hb dX8_sign_47 ?_
        refine lv_if_le (tgt := 56) hx hb dX8_sign_48 (by decide) (fun h48 => ?_) (fun h48 => ?_)
        · skip
          replace h48 := (lg_cmp_le _ _).mp h48
          refine lv_iload hx hb dX8_sign_56 (lv_at hl 0 rfl) ?_
          have hN : sgN a b = true := dB_t.mpr ⟨h16, h21, h29⟩
          exact zreti hF hB () (by rw [signV, if_pos hN, if_neg (Int64.not_lt.mpr h48)]) (by rw [hN, Bool.true_and]; unfold sgSq; rw [← Bool.or_assoc] <;> rfl) (rfl) dX8_sign_58 hQ
        · skip
          replace h48 := (fun e9 => h48 ((lg_cmp_le _ _).mpr e9))
          refine lv_iload hx hb dX8_sign_51 (lv_at hl 1 rfl) ?_
          refine lv_goto (tgt := 58) hx hb dX8_sign_53 (by decide) ?_
          have hN : sgN a b = true := dB_t.mpr ⟨h16, h21, h29⟩
          exact zreti hF hB () (by rw [signV, if_pos hN, if_pos (Int64.not_le.mp h48)]) (by rw [hN, Bool.true_and]; unfold sgSq; rw [← Bool.or_assoc] <;> rfl) (rfl) dX8_sign_58 hQ
      · skip
        refine lv_iload hx hb dX8_sign_32 (lv_at hl 0 rfl) ?_
        have hN : sgN a b = false := dB_f.mpr (fun e8 => e8.2.2 h29)
        exact zreti hF hB () (by rw [signV, if_neg (by rw [hN]; decide), if_neg (fun e8 => e8.elim (fun e7 => h16 e7) (fun e7 => h21 e7))]) (by rw [hN, Bool.false_and, Bool.or_false]) (rfl) dX8_sign_34 hQ
    · skip
      refine lv_iload hx hb dX8_sign_24 (lv_at hl 1 rfl) ?_
      have hN : sgN a b = false := dB_f.mpr (fun e8 => e8.2.1 h21)
      exact zreti hF hB () (by rw [signV, if_neg (by rw [hN]; decide), if_pos (Or.inr h21)]) (by rw [hN, Bool.false_and, Bool.or_false]) (rfl) dX8_sign_26 hQ

set_option maxHeartbeats 4000000 in
set_option maxRecDepth 100000 in
theorem c_X8_compare (l : Launch) (D : va_G) (ka : Nat → ClassId) (kb : Nat → Nat) (q : Nat) (ad : Nat → Nat) (o : Bool) (z : mZ) (nu : Nat → Int64) (rr : Int32) (ss : Int32) (hdp : ∀ k9, k9 < 12 → 0 < (nu (5 * k9 + 4)).toInt) : zI l D ka kb yX8_compare cX8_compare 4 .int 3 97 [.ref q, .int rr, .int ss] ([(q, .inr (8, mO ad o z)), ((ad 3), .inl (ka 1, 200, .inr (.inl nu)))]) (fun (r : Int32) (u : Bool × (Nat → Int64)) => r = cmpV rr ss (getN nu) ∧ keepN [38] nu u.2) (fun (u : Bool × (Nat → Int64)) => [(q, .inr (8, mO ad u.1 z)), ((ad 3), .inl (ka 1, 200, .inr (.inl u.2)))]) := by
  refine zI.mk RX8 (by decide +kernel) rfl (Nat.le_of_ble_eq_true rfl) ?_
  intro p e s m below meth c A ls args Q hQ hx hb hF hB hl
  replace hl : lv_has ls 4 [(0, .ref q), (1, .int rr), (2, .int ss)] := hl
  refine lv_iload_n hx hb dX8_compare_0 rfl (lv_at hl 1 rfl) ?_
  refine zSi zm_X8_162 hF hB (c_X8_isRegister l D ka kb rr ) [] rfl (by decide) [] (fun _ => rfl) rfl rfl ⟨Nat.le_of_ble_eq_true rfl, Nat.le_of_ble_eq_true rfl⟩ rfl hl.1 (Nat.le_of_ble_eq_true rfl) ⟨Nat.le_refl _, Nat.le_refl _⟩ dX8_compare_1 ?_
  clear hB
  try clear locs
  try clear H
  intro r1 u1 H locs hp hB
  obtain rfl : r1 = bI (inI rr 6) := hp
  replace hB : zB D A s ([(q, .inr (8, mO ad o z)), ((ad 3), .inl (ka 1, 200, .inr (.inl nu)))]) H locs := hB
  refine lv_if_eq (tgt := 14) hx hb dX8_compare_4 (by decide) (fun h4 => ?_) (fun h4 => ?_)
  · skip
    refine zldc (v := (-2147483648 : Int32)) ww_16_22 hF dX8_compare_14 ?_
    have hok : ¬ (inI rr 6 = true ∧ inI ss 6 = true) := fun e8 => by rw [bI_eq0 h4] at e8; exact absurd e8.1 (by decide)
    exact zreti hF hB (o, nu) (⟨by unfold cmpV; rw [if_pos hok], keepN.rf⟩) (rfl) (rfl) dX8_compare_16 hQ
  · skip
    have hi1 : inI rr 6 = true := bI_ne0 h4
    obtain ⟨i, hi2, hi3⟩ := inI_of hi1 (by decide)
    subst hi3
    refine lv_iload_n hx hb dX8_compare_7 rfl (lv_at hl 2 rfl) ?_
    refine zSi zm_X8_162 hF hB (c_X8_isRegister l D ka kb ss ) [] rfl (by decide) [] (fun _ => rfl) rfl rfl ⟨Nat.le_of_ble_eq_true rfl, Nat.le_of_ble_eq_true rfl⟩ rfl hl.1 (Nat.le_of_ble_eq_true rfl) ⟨Nat.le_refl _, Nat.le_refl _⟩ dX8_compare_8 ?_
    clear hB
    try clear locs
    try clear H
    intro r2 u2 H locs hp hB
    obtain rfl : r2 = bI (inI ss 6) := hp
    replace hB : zB D A s ([(q, .inr (8, mO ad o z)), ((ad 3), .inl (ka 1, 200, .inr (.inl nu)))]) H locs := hB
    refine lv_if_ne (tgt := 17) hx hb dX8_compare_11 (by decide) (fun h11 => ?_) (fun h11 => ?_)
    · skip
      have hj1 : inI ss 6 = true := bI_ne0 h11
      obtain ⟨j, hj2, hj3⟩ := inI_of hj1 (by decide)
      subst hj3
      refine lv_aload_n hx hb dX8_compare_17 rfl (lv_at hl 0 rfl) ?_
      refine lv_iconst (v := 0) hx hb dX8_compare_18 (by decide) ?_
      refine zput_f zp_X8_105 hF hB 0 rfl (rfl) (rfl) (Nat.le_of_ble_eq_true rfl) dX8_compare_19 ?_
      clear hB
      try clear locs
      try clear H
      intro H locs hB
      replace hB : zB D A s ([(q, .inr (8, mX ad (0 : Int32) z.1 z.2.1 z.2.2.1 z.2.2.2.1 z.2.2.2.2.1 z.2.2.2.2.2.1 z.2.2.2.2.2.2.1 z.2.2.2.2.2.2.2)), ((ad 3), .inl (ka 1, 200, .inr (.inl nu)))]) H locs := hB
      refine lv_aload_n hx hb dX8_compare_22 rfl (lv_at hl 0 rfl) ?_
      refine lv_bipush (v := 38) hx hb dX8_compare_23 (by decide) ?_
      refine lv_iload_n hx hb dX8_compare_25 rfl (lv_at hl 1 rfl) ?_
      refine lv_iload_n hx hb dX8_compare_26 rfl (lv_at hl 2 rfl) ?_
      refine lv_iconst (v := 1) hx hb dX8_compare_27 (by decide) ?_
      refine zVv zm_X8_170 hF hB (c_X8_sum l D ka kb q ad false z nu 38 i j true (by decide) (by omega) (by omega) (hdp i (by omega)) (hdp j (by omega))) [0, 1] rfl (by decide) [q, (ad 3)] (fun _ => rfl) rfl 0 8 rfl rfl rfl ⟨Nat.le_of_ble_eq_true rfl, Nat.le_of_ble_eq_true rfl⟩ rfl hl.1 (Nat.le_of_ble_eq_true rfl) ⟨Nat.le_refl _, Nat.le_refl _⟩ dX8_compare_28 ?_
      clear hB
      try clear locs
      try clear H
      intro u3 H locs hp hB
      replace hB : zB D A s ([(q, .inr (8, mO ad (false || sumO true (getN nu i) (getN nu j)) z)), ((ad 3), .inl (ka 1, 200, .inr (.inl (if (false || sumO true (getN nu i) (getN nu j)) = true then nu else setN nu 38 (sumV true (getN nu i) (getN nu j))))))]) H locs := hB
      have hz : (false || sumO true (getN nu i) (getN nu j)) = sumO true (getN nu i) (getN nu j) := Bool.false_or _
      rw [hz] at hB
      replace hB : zB D A s ([(q, .inr (8, mO ad (sumO true (getN nu i) (getN nu j)) z)), ((ad 3), .inl (ka 1, 200, .inr (.inl (if (sumO true (getN nu i) (getN nu j)) = true then nu else setN nu 38 (sumV true (getN nu i) (getN nu j))))))]) H locs := hB
      refine lv_aload_n hx hb dX8_compare_31 rfl (lv_at hl 0 rfl) ?_
      refine zget zf_X8_105 hF hB 0 rfl rfl dX8_compare_32 ?_
      refine lv_if_eq (tgt := 41) hx hb dX8_compare_35 (by decide) (fun h35 => ?_) (fun h35 => ?_)
      · skip
        have hs0 : sumO true (getN nu i) (getN nu j) = false := bI_eq0 h35
        rw [hs0, if_neg Bool.false_ne_true] at hB
        replace hB : zB D A s ([(q, .inr (8, mO ad false z)), ((ad 3), .inl (ka 1, 200, .inr (.inl (setN nu 38 (sumV true (getN nu i) (getN nu j))))))]) H locs := hB
        generalize hn1 : (setN nu 38 (sumV true (getN nu i) (getN nu j))) = n1 at hB
        have K1 : keepN [38] nu n1 := by rw [← hn1]; exact keepN.rf.set (by simp) _
        have G1 : getN n1 38 = (sumV true (getN nu i) (getN nu j)) := by rw [← hn1, getN_same]
        refine lv_aload_n hx hb dX8_compare_41 rfl (lv_at hl 0 rfl) ?_
        refine lv_bipush (v := 38) hx hb dX8_compare_42 (by decide) ?_
        refine lv_iconst (v := 2) hx hb dX8_compare_44 (by decide) ?_
        refine zVl zm_X8_120 hF hB (c_X8_at l D ka kb q ad false z n1 38 2 (by first | assumption | omega | decide) (by first | assumption | omega | decide)) [0, 1] rfl (by decide) [q, (ad 3)] (fun _ => rfl) rfl 0 8 rfl rfl rfl ⟨Nat.le_of_ble_eq_true rfl, Nat.le_of_ble_eq_true rfl⟩ rfl hl.1 (Nat.le_of_ble_eq_true rfl) ⟨Nat.le_refl _, Nat.le_refl _⟩ dX8_compare_45 ?_
        clear hB
        try clear locs
        try clear H
        intro r4 u4 H locs hp hB
        obtain rfl : r4 = n1 (5 * 38 + 2) := hp
        replace hB : zB D A s ([(q, .inr (8, mO ad false z)), ((ad 3), .inl (ka 1, 200, .inr (.inl n1)))]) H locs := hB
        refine ztopl (y := (sumV true (getN nu i) (getN nu j)).2.2.1) (congrArg (fun v : N5 => v.2.2.1) G1) ?_
        refine lv_lconst (v := 0) hx hb dX8_compare_48 (by decide) ?_
        refine W.lcmp hx hb dX8_compare_49 ?_
        refine lv_if_ne (tgt := 65) hx hb dX8_compare_50 (by decide) (fun h50 => ?_) (fun h50 => ?_)
        · skip
          replace h50 := (fun e9 => h50 ((lg_cmp_eq _ _).mpr e9))
          refine lv_bipush (v := -3) hx hb dX8_compare_65 (by decide) ?_
          have hok : ¬ ¬ (inI (nI i) 6 = true ∧ inI (nI j) 6 = true) := not_not_intro ⟨hi1, hj1⟩
          have ri : (nI i).toInt.toNat = i := by rw [nI_toInt (by omega)]; rfl
          have rj : (nI j).toInt.toNat = j := by rw [nI_toInt (by omega)]; rfl
          exact zreti hF hB (false, n1) (⟨by unfold cmpV; rw [if_neg hok, ri, rj, if_neg (by rw [hs0]; decide), if_pos (fun e8 => h50 e8.1)], K1⟩) (rfl) (rfl) dX8_compare_67 hQ
        · skip
          replace h50 := (lg_cmp_eq _ _).mp h50
          refine lv_aload_n hx hb dX8_compare_53 rfl (lv_at hl 0 rfl) ?_
          refine lv_bipush (v := 38) hx hb dX8_compare_54 (by decide) ?_
          refine lv_iconst (v := 3) hx hb dX8_compare_56 (by decide) ?_
          refine zVl zm_X8_120 hF hB (c_X8_at l D ka kb q ad false z n1 38 3 (by first | assumption | omega | decide) (by first | assumption | omega | decide)) [0, 1] rfl (by decide) [q, (ad 3)] (fun _ => rfl) rfl 0 8 rfl rfl rfl ⟨Nat.le_of_ble_eq_true rfl, Nat.le_of_ble_eq_true rfl⟩ rfl hl.1 (Nat.le_of_ble_eq_true rfl) ⟨Nat.le_refl _, Nat.le_refl _⟩ dX8_compare_57 ?_
          clear hB
          try clear locs
          try clear H
          intro r5 u5 H locs hp hB
          obtain rfl : r5 = n1 (5 * 38 + 3) := hp
          replace hB : zB D A s ([(q, .inr (8, mO ad false z)), ((ad 3), .inl (ka 1, 200, .inr (.inl n1)))]) H locs := hB
          refine ztopl (y := (sumV true (getN nu i) (getN nu j)).2.2.2.1) (congrArg (fun v : N5 => v.2.2.2.1) G1) ?_
          refine lv_lconst (v := 0) hx hb dX8_compare_60 (by decide) ?_
          refine W.lcmp hx hb dX8_compare_61 ?_
          refine lv_if_eq (tgt := 68) hx hb dX8_compare_62 (by decide) (fun h62 => ?_) (fun h62 => ?_)
          · skip
            replace h62 := (lg_cmp_eq _ _).mp h62
            refine lv_aload_n hx hb dX8_compare_68 rfl (lv_at hl 0 rfl) ?_
            refine lv_aload_n hx hb dX8_compare_69 rfl (lv_at hl 0 rfl) ?_
            refine lv_bipush (v := 38) hx hb dX8_compare_70 (by decide) ?_
            refine lv_iconst (v := 0) hx hb dX8_compare_72 (by decide) ?_
            refine zVl zm_X8_120 hF hB (c_X8_at l D ka kb q ad false z n1 38 0 (by first | assumption | omega | decide) (by first | assumption | omega | decide)) [0, 1] rfl (by decide) [q, (ad 3)] (fun _ => rfl) rfl 0 8 rfl rfl rfl ⟨Nat.le_of_ble_eq_true rfl, Nat.le_of_ble_eq_true rfl⟩ rfl hl.1 (Nat.le_of_ble_eq_true rfl) ⟨Nat.le_refl _, Nat.le_refl _⟩ dX8_compare_73 ?_
            clear hB
            try clear locs
            try clear H
            intro r6 u6 H locs hp hB
            obtain rfl : r6 = n1 (5 * 38 + 0) := hp
            replace hB : zB D A s ([(q, .inr (8, mO ad false z)), ((ad 3), .inl (ka 1, 200, .inr (.inl n1)))]) H locs := hB
            refine ztopl (y := (sumV true (getN nu i) (getN nu j)).1) (congrArg (fun v : N5 => v.1) G1) ?_
            refine lv_aload_n hx hb dX8_compare_76 rfl (lv_at hl 0 rfl) ?_
            refine lv_bipush (v := 38) hx hb dX8_compare_77 (by decide) ?_
            refine lv_iconst (v := 1) hx hb dX8_compare_79 (by decide) ?_
            refine zVl zm_X8_120 hF hB (c_X8_at l D ka kb q ad false z n1 38 1 (by first | assumption | omega | decide) (by first | assumption | omega | decide)) [0, 1] rfl (by decide) [q, (ad 3)] (fun _ => rfl) rfl 0 8 rfl rfl rfl ⟨Nat.le_of_ble_eq_true rfl, Nat.le_of_ble_eq_true rfl⟩ rfl hl.1 (Nat.le_of_ble_eq_true rfl) ⟨Nat.le_refl _, Nat.le_refl _⟩ dX8_compare_80 ?_
            clear hB
            try clear locs
            try clear H
            intro r7 u7 H locs hp hB
            obtain rfl : r7 = n1 (5 * 38 + 1) := hp
            replace hB : zB D A s ([(q, .inr (8, mO ad false z)), ((ad 3), .inl (ka 1, 200, .inr (.inl n1)))]) H locs := hB
            refine ztopl (y := (sumV true (getN nu i) (getN nu j)).2.1) (congrArg (fun v : N5 => v.2.1) G1) ?_
            refine zVi zm_X8_185 hF hB (c_X8_sign l D ka kb q ad false z ((sumV true (getN nu i) (getN nu j)).1) ((sumV true (getN nu i) (getN nu j)).2.1) ) [0] rfl (by decide) [q] (fun _ => rfl) rfl 0 8 rfl rfl rfl ⟨Nat.le_of_ble_eq_true rfl, Nat.le_of_ble_eq_true rfl⟩ rfl hl.1 (Nat.le_of_ble_eq_true rfl) ⟨Nat.le_refl _, Nat.le_refl _⟩ dX8_compare_83 ?_
            clear hB
            try clear locs
            try clear H
            intro r8 u8 H locs hp hB
            obtain rfl : r8 = signV ((sumV true (getN nu i) (getN nu j)).1) ((sumV true (getN nu i) (getN nu j)).2.1) := hp
            replace hB : zB D A s ([(q, .inr (8, mO ad (false || (sgN ((sumV true (getN nu i) (getN nu j)).1) ((sumV true (getN nu i) (getN nu j)).2.1) && sgSq ((sumV true (getN nu i) (getN nu j)).1) ((sumV true (getN nu i) (getN nu j)).2.1))) z)), ((ad 3), .inl (ka 1, 200, .inr (.inl n1)))]) H locs := hB
            have hz2 : (false || (sgN ((sumV true (getN nu i) (getN nu j)).1) ((sumV true (getN nu i) (getN nu j)).2.1) && sgSq ((sumV true (getN nu i) (getN nu j)).1) ((sumV true (getN nu i) (getN nu j)).2.1))) = (sgN (sumV true (getN nu i) (getN nu j)).1 (sumV true (getN nu i) (getN nu j)).2.1 && sgSq (sumV true (getN nu i) (getN nu j)).1 (sumV true (getN nu i) (getN nu j)).2.1) := Bool.false_or _
            rw [hz2] at hB
            replace hB : zB D A s ([(q, .inr (8, mO ad (sgN (sumV true (getN nu i) (getN nu j)).1 (sumV true (getN nu i) (getN nu j)).2.1 && sgSq (sumV true (getN nu i) (getN nu j)).1 (sumV true (getN nu i) (getN nu j)).2.1) z)), ((ad 3), .inl (ka 1, 200, .inr (.inl n1)))]) H locs := hB
            refine lv_istore_n (lv' := [(3, .int (signV ((sumV true (getN nu i) (getN nu j)).1) ((sumV true (getN nu i) (getN nu j)).2.1))), (0, .ref q), (1, .int (nI i)), (2, .int (nI j))]) hx hb dX8_compare_86 rfl hl (by decide) rfl ?_
            clear hl
            clear ls
            intro ls hl
            refine lv_aload_n hx hb dX8_compare_87 rfl (lv_at hl 1 rfl) ?_
            refine zget zf_X8_105 hF hB 0 rfl rfl dX8_compare_88 ?_
            refine lv_if_eq (tgt := 99) hx hb dX8_compare_91 (by decide) (fun h91 => ?_) (fun h91 => ?_)
            · skip
              refine lv_iload_n hx hb dX8_compare_99 rfl (lv_at hl 0 rfl) ?_
              have hok : ¬ ¬ (inI (nI i) 6 = true ∧ inI (nI j) 6 = true) := not_not_intro ⟨hi1, hj1⟩
              have ri : (nI i).toInt.toNat = i := by rw [nI_toInt (by omega)]; rfl
              have rj : (nI j).toInt.toNat = j := by rw [nI_toInt (by omega)]; rfl
              exact zreti hF hB (_, n1) (⟨by unfold cmpV; rw [if_neg hok, ri, rj, if_neg (by rw [hs0]; decide), if_neg (not_not_intro ⟨h50, h62⟩), if_neg (by rw [bI_eq0 h91]; decide)], K1⟩) (rfl) (rfl) dX8_compare_100 hQ
            · skip
              refine lv_bipush (v := -5) hx hb dX8_compare_94 (by decide) ?_
              refine lv_goto (tgt := 100) hx hb dX8_compare_96 (by decide) ?_
              have hok : ¬ ¬ (inI (nI i) 6 = true ∧ inI (nI j) 6 = true) := not_not_intro ⟨hi1, hj1⟩
              have ri : (nI i).toInt.toNat = i := by rw [nI_toInt (by omega)]; rfl
              have rj : (nI j).toInt.toNat = j := by rw [nI_toInt (by omega)]; rfl
              exact zreti hF hB (_, n1) (⟨by unfold cmpV; rw [if_neg hok, ri, rj, if_neg (by rw [hs0]; decide), if_neg (not_not_intro ⟨h50, h62⟩), if_pos (bI_ne0 h91)], K1⟩) (rfl) (rfl) dX8_compare_100 hQ
          · skip
            replace h62 := (fun e9 => h62 ((lg_cmp_eq _ _).mpr e9))
            refine lv_bipush (v := -3) hx hb dX8_compare_65 (by decide) ?_
            have hok : ¬ ¬ (inI (nI i) 6 = true ∧ inI (nI j) 6 = true) := not_not_intro ⟨hi1, hj1⟩
            have ri : (nI i).toInt.toNat = i := by rw [nI_toInt (by omega)]; rfl
            have rj : (nI j).toInt.toNat = j := by rw [nI_toInt (by omega)]; rfl
            exact zreti hF hB (false, n1) (⟨by unfold cmpV; rw [if_neg hok, ri, rj, if_neg (by rw [hs0]; decide), if_pos (fun e8 => h62 e8.2)], K1⟩) (rfl) (rfl) dX8_compare_67 hQ
      · skip
        have hs0 : sumO true (getN nu i) (getN nu j) = true := bI_ne0 h35
        rw [hs0, if_pos rfl] at hB
        replace hB : zB D A s ([(q, .inr (8, mO ad true z)), ((ad 3), .inl (ka 1, 200, .inr (.inl nu)))]) H locs := hB
        refine lv_bipush (v := -5) hx hb dX8_compare_38 (by decide) ?_
        have hok : ¬ ¬ (inI (nI i) 6 = true ∧ inI (nI j) 6 = true) := not_not_intro ⟨hi1, hj1⟩
        have ri : (nI i).toInt.toNat = i := by rw [nI_toInt (by omega)]; rfl
        have rj : (nI j).toInt.toNat = j := by rw [nI_toInt (by omega)]; rfl
        exact zreti hF hB (true, nu) (⟨by unfold cmpV; rw [if_neg hok, ri, rj, if_pos hs0], keepN.rf⟩) (rfl) (rfl) dX8_compare_40 hQ
    · skip
      refine zldc (v := (-2147483648 : Int32)) ww_16_22 hF dX8_compare_14 ?_
      have hok : ¬ (inI (nI i) 6 = true ∧ inI ss 6 = true) := fun e8 => by rw [bI_eq0 h11] at e8; exact absurd e8.2 (by decide)
      exact zreti hF hB (o, nu) (⟨by unfold cmpV; rw [if_pos hok], keepN.rf⟩) (rfl) (rfl) dX8_compare_16 hQ

set_option maxHeartbeats 4000000 in
set_option maxRecDepth 100000 in
theorem c_X8_reckon (l : Launch) (D : va_G) (ka : Nat → ClassId) (kb : Nat → Nat) (q : Nat) (ad : Nat → Nat) (o : Bool) (z : mZ) (nu : Nat → Int64) (w : Int32) (rr : Int32) (ss : Int32) (tt : Int32) (hdp : ∀ k9, k9 < 12 → 0 < (nu (5 * k9 + 4)).toInt) : zI l D ka kb yX8_reckon cX8_reckon 5 .int 5 167 [.ref q, .int w, .int rr, .int ss, .int tt] ([(q, .inr (8, mO ad o z)), ((ad 3), .inl (ka 1, 200, .inr (.inl nu)))]) (fun (r : Int32) (u : Bool × (Nat → Int64)) => r = (rkV w rr ss tt (getN nu)).1 ∧ ∀ k9, k9 < 30 → getN u.2 k9 = upG (getN nu) (rkV w rr ss tt (getN nu)).2 k9) (fun (u : Bool × (Nat → Int64)) => [(q, .inr (8, mO ad u.1 z)), ((ad 3), .inl (ka 1, 200, .inr (.inl u.2)))]) := by
  refine zI.mk RX8 (by decide +kernel) rfl (Nat.le_of_ble_eq_true rfl) ?_
  intro p e s m below meth c A ls args Q hQ hx hb hF hB hl
  replace hl : lv_has ls 5 [(0, .ref q), (1, .int w), (2, .int rr), (3, .int ss), (4, .int tt)] := hl
  refine lv_iload_n hx hb dX8_reckon_0 rfl (lv_at hl 1 rfl) ?_
  refine lv_i2l (v := w.toInt64) hx hb dX8_reckon_1 rfl ?_
  refine lv_lconst (v := 0) hx hb dX8_reckon_2 (by decide) ?_
  refine zldc2 (v := (3 : Int64)) ww_9_19 hF dX8_reckon_3 ?_
  refine zSi zm_X8_72 hF hB (c_X8_in l D ka kb w.toInt64 (0 : Int64) (3 : Int64) ) [] rfl (by decide) [] (fun _ => rfl) rfl rfl ⟨Nat.le_of_ble_eq_true rfl, Nat.le_of_ble_eq_true rfl⟩ rfl hl.1 (Nat.le_of_ble_eq_true rfl) ⟨Nat.le_refl _, Nat.le_refl _⟩ dX8_reckon_6 ?_
  clear hB
  try clear locs
  try clear H
  intro r1 u1 H locs hp hB
  obtain rfl : r1 = bI (zin w.toInt64 (0 : Int64) (3 : Int64)) := hp
  replace hB : zB D A s ([(q, .inr (8, mO ad o z)), ((ad 3), .inl (ka 1, 200, .inr (.inl nu)))]) H locs := hB
  refine lv_if_eq (tgt := 34) hx hb dX8_reckon_9 (by decide) (fun h9 => ?_) (fun h9 => ?_)
  · skip
    have hw9 : inI w 4 = false := (zin_inI w 4 (by decide) (by decide)).symm.trans (bI_eq0 h9)
    refine lv_bipush (v := -2) hx hb dX8_reckon_34 (by decide) ?_
    have hok : ¬ (inI w 4 = true ∧ inI rr 6 = true ∧ inI ss 6 = true ∧ inI tt 6 = true) := fun e8 => by have e7 := e8.1; rw [hw9] at e7; exact absurd e7 (by decide)
    exact zreti hF hB (o, nu) (⟨by unfold rkV; rw [if_pos hok], fun k9 hk9 => by unfold rkV; rw [if_pos hok]; rfl⟩) (rfl) (rfl) dX8_reckon_36 hQ
  · skip
    have hw9 : inI w 4 = true := (zin_inI w 4 (by decide) (by decide)).symm.trans (bI_ne0 h9)
    refine lv_iload_n hx hb dX8_reckon_12 rfl (lv_at hl 2 rfl) ?_
    refine zSi zm_X8_162 hF hB (c_X8_isRegister l D ka kb rr ) [] rfl (by decide) [] (fun _ => rfl) rfl rfl ⟨Nat.le_of_ble_eq_true rfl, Nat.le_of_ble_eq_true rfl⟩ rfl hl.1 (Nat.le_of_ble_eq_true rfl) ⟨Nat.le_refl _, Nat.le_refl _⟩ dX8_reckon_13 ?_
    clear hB
    try clear locs
    try clear H
    intro r2 u2 H locs hp hB
    obtain rfl : r2 = bI (inI rr 6) := hp
    replace hB : zB D A s ([(q, .inr (8, mO ad o z)), ((ad 3), .inl (ka 1, 200, .inr (.inl nu)))]) H locs := hB
    refine lv_if_eq (tgt := 34) hx hb dX8_reckon_16 (by decide) (fun h16 => ?_) (fun h16 => ?_)
    · skip
      refine lv_bipush (v := -2) hx hb dX8_reckon_34 (by decide) ?_
      have hok : ¬ (inI w 4 = true ∧ inI rr 6 = true ∧ inI ss 6 = true ∧ inI tt 6 = true) := fun e8 => by have e7 := e8.2.1; rw [bI_eq0 h16] at e7; exact absurd e7 (by decide)
      exact zreti hF hB (o, nu) (⟨by unfold rkV; rw [if_pos hok], fun k9 hk9 => by unfold rkV; rw [if_pos hok]; rfl⟩) (rfl) (rfl) dX8_reckon_36 hQ
    · skip
      have hi1 : inI rr 6 = true := bI_ne0 h16
      obtain ⟨i, hi2, hi3⟩ := inI_of hi1 (by decide)
      subst hi3
      refine lv_iload_n hx hb dX8_reckon_19 rfl (lv_at hl 3 rfl) ?_
      refine zSi zm_X8_162 hF hB (c_X8_isRegister l D ka kb ss ) [] rfl (by decide) [] (fun _ => rfl) rfl rfl ⟨Nat.le_of_ble_eq_true rfl, Nat.le_of_ble_eq_true rfl⟩ rfl hl.1 (Nat.le_of_ble_eq_true rfl) ⟨Nat.le_refl _, Nat.le_refl _⟩ dX8_reckon_20 ?_
      clear hB
      try clear locs
      try clear H
      intro r3 u3 H locs hp hB
      obtain rfl : r3 = bI (inI ss 6) := hp
      replace hB : zB D A s ([(q, .inr (8, mO ad o z)), ((ad 3), .inl (ka 1, 200, .inr (.inl nu)))]) H locs := hB
      refine lv_if_eq (tgt := 34) hx hb dX8_reckon_23 (by decide) (fun h23 => ?_) (fun h23 => ?_)
      · skip
        refine lv_bipush (v := -2) hx hb dX8_reckon_34 (by decide) ?_
        have hok : ¬ (inI w 4 = true ∧ inI (nI i) 6 = true ∧ inI ss 6 = true ∧ inI tt 6 = true) := fun e8 => by have e7 := e8.2.2.1; rw [bI_eq0 h23] at e7; exact absurd e7 (by decide)
        exact zreti hF hB (o, nu) (⟨by unfold rkV; rw [if_pos hok], fun k9 hk9 => by unfold rkV; rw [if_pos hok]; rfl⟩) (rfl) (rfl) dX8_reckon_36 hQ
      · skip
        have hj1 : inI ss 6 = true := bI_ne0 h23
        obtain ⟨j, hj2, hj3⟩ := inI_of hj1 (by decide)
        subst hj3
        refine lv_iload hx hb dX8_reckon_26 (lv_at hl 4 rfl) ?_
        refine zSi zm_X8_162 hF hB (c_X8_isRegister l D ka kb tt ) [] rfl (by decide) [] (fun _ => rfl) rfl rfl ⟨Nat.le_of_ble_eq_true rfl, Nat.le_of_ble_eq_true rfl⟩ rfl hl.1 (Nat.le_of_ble_eq_true rfl) ⟨Nat.le_refl _, Nat.le_refl _⟩ dX8_reckon_28 ?_
        clear hB
        try clear locs
        try clear H
        intro r4 u4 H locs hp hB
        obtain rfl : r4 = bI (inI tt 6) := hp
        replace hB : zB D A s ([(q, .inr (8, mO ad o z)), ((ad 3), .inl (ka 1, 200, .inr (.inl nu)))]) H locs := hB
        refine lv_if_ne (tgt := 37) hx hb dX8_reckon_31 (by decide) (fun h31 => ?_) (fun h31 => ?_)
        · skip
          have hk1 : inI tt 6 = true := bI_ne0 h31
          obtain ⟨k, hk2, hk3⟩ := inI_of hk1 (by decide)
          subst hk3
          have hok : ¬ ¬ (inI w 4 = true ∧ inI (nI i) 6 = true ∧ inI (nI j) 6 = true ∧ inI (nI k) 6 = true) := not_not_intro ⟨hw9, hi1, hj1, hk1⟩
          have ri : (nI i).toInt.toNat = i := by rw [nI_toInt (by omega)]; rfl
          have rj : (nI j).toInt.toNat = j := by rw [nI_toInt (by omega)]; rfl
          have rk : (nI k).toInt.toNat = k := by rw [nI_toInt (by omega)]; rfl
          refine lv_iload_n hx hb dX8_reckon_37 rfl (lv_at hl 1 rfl) ?_
          refine lv_iconst (v := 3) hx hb dX8_reckon_38 (by decide) ?_
          refine lv_icmp_ne (tgt := 53) hx hb dX8_reckon_39 (by decide) (fun h39 => ?_) (fun h39 => ?_)
          · skip
            refine lv_aload_n hx hb dX8_reckon_53 rfl (lv_at hl 0 rfl) ?_
            refine lv_iconst (v := 0) hx hb dX8_reckon_54 (by decide) ?_
            refine zput_f zp_X8_105 hF hB 0 rfl (rfl) (rfl) (Nat.le_of_ble_eq_true rfl) dX8_reckon_55 ?_
            clear hB
            try clear locs
            try clear H
            intro H locs hB
            replace hB : zB D A s ([(q, .inr (8, mX ad (0 : Int32) z.1 z.2.1 z.2.2.1 z.2.2.2.1 z.2.2.2.2.1 z.2.2.2.2.2.1 z.2.2.2.2.2.2.1 z.2.2.2.2.2.2.2)), ((ad 3), .inl (ka 1, 200, .inr (.inl nu)))]) H locs := hB
            refine lv_iload_n hx hb dX8_reckon_58 rfl (lv_at hl 1 rfl) ?_
            refine lv_iconst (v := 2) hx hb dX8_reckon_59 (by decide) ?_
            refine lv_icmp_ge (tgt := 84) hx hb dX8_reckon_60 (by decide) (fun h60 => ?_) (fun h60 => ?_)
            · skip
              refine lv_iload_n hx hb dX8_reckon_84 rfl (lv_at hl 1 rfl) ?_
              refine lv_iconst (v := 2) hx hb dX8_reckon_85 (by decide) ?_
              refine lv_icmp_ne (tgt := 100) hx hb dX8_reckon_86 (by decide) (fun h86 => ?_) (fun h86 => ?_)
              · skip
                refine lv_aload_n hx hb dX8_reckon_100 rfl (lv_at hl 0 rfl) ?_
                refine lv_bipush (v := 38) hx hb dX8_reckon_101 (by decide) ?_
                refine lv_iload_n hx hb dX8_reckon_103 rfl (lv_at hl 2 rfl) ?_
                refine lv_iload_n hx hb dX8_reckon_104 rfl (lv_at hl 3 rfl) ?_
                refine zVv zm_X8_174 hF hB (c_X8_quotient l D ka kb q ad z nu 38 i j (by decide) (by omega) (by omega) (by simp; omega) (by simp; omega) (by
                    have hw3 : w = 3 := by
                      obtain ⟨x9, hx9, rfl⟩ := inI_of hw9 (by decide)
                      rcases (show x9 = 0 ∨ x9 = 1 ∨ x9 = 2 ∨ x9 = 3 by omega) with rfl | rfl | rfl | rfl
                      · exact absurd h60 (by decide)
                      · exact absurd h60 (by decide)
                      · exact absurd (by decide) h86
                      · rfl
                    exact absurd hw3 h39) (hdp i (by omega))) [0, 1] rfl (by decide) [q, (ad 3)] (fun _ => rfl) rfl 0 8 rfl rfl rfl ⟨Nat.le_of_ble_eq_true rfl, Nat.le_of_ble_eq_true rfl⟩ rfl hl.1 (Nat.le_of_ble_eq_true rfl) ⟨Nat.le_refl _, Nat.le_refl _⟩ dX8_reckon_105 ?_
                clear hB
                try clear locs
                try clear H
                intro u5 H locs hp hB
                obtain ⟨nu25, rfl⟩ : ∃ z, z = u5 := ⟨_, rfl⟩
                have hp5 : keepN [30, 31, 32, 33, 34, 35, 36, 37, 38] nu nu25 ∧ (quoO (getN nu i) (getN nu j) = false → getN nu25 38 = quoV (getN nu i) (getN nu j)) := hp
                have HPP := hp5
                replace hB : zB D A s ([(q, .inr (8, mO ad (quoO (getN nu i) (getN nu j)) z)), ((ad 3), .inl (ka 1, 200, .inr (.inl nu25)))]) H locs := hB
                have hE : (quoO (getN nu i) (getN nu j)) = opO w (getN nu i) (getN nu j) := by unfold opO; rw [if_neg (Int32.not_lt.mpr h60), if_neg h86]
                have hV : quoV (getN nu i) (getN nu j) = opV w (getN nu i) (getN nu j) := by unfold opV; rw [if_neg (Int32.not_lt.mpr h60), if_neg h86]
                rw [hE] at hB
                replace hB : zB D A s ([(q, .inr (8, mO ad (opO w (getN nu i) (getN nu j)) z)), ((ad 3), .inl (ka 1, 200, .inr (.inl nu25)))]) H locs := hB
                obtain ⟨K9, R9⟩ := hp5
                rw [hE, hV] at R9
                refine lv_aload_n hx hb dX8_reckon_108 rfl (lv_at hl 0 rfl) ?_
                refine zget zf_X8_105 hF hB 0 rfl rfl dX8_reckon_109 ?_
                refine lv_if_eq (tgt := 118) hx hb dX8_reckon_112 (by decide) (fun h112 => ?_) (fun h112 => ?_)
                · skip
                  have hov : opO w (getN nu i) (getN nu j) = false := bI_eq0 h112
                  rw [hov] at hB
                  replace hB : zB D A s ([(q, .inr (8, mO ad false z)), ((ad 3), .inl (ka 1, 200, .inr (.inl nu25)))]) H locs := hB
                  have R9 := R9 hov
                  refine lv_aload_n hx hb dX8_reckon_118 rfl (lv_at hl 0 rfl) ?_
                  refine lv_iload hx hb dX8_reckon_119 (lv_at hl 4 rfl) ?_
                  refine lv_bipush (v := 38) hx hb dX8_reckon_121 (by decide) ?_
                  refine zVv zm_X8_177 hF hB (c_X8_moves l D ka kb q ad false z nu25 k 38 (by omega) (by decide) (by omega)) [0, 1] rfl (by decide) [q, (ad 3)] (fun _ => rfl) rfl 0 8 rfl rfl rfl ⟨Nat.le_of_ble_eq_true rfl, Nat.le_of_ble_eq_true rfl⟩ rfl hl.1 (Nat.le_of_ble_eq_true rfl) ⟨Nat.le_refl _, Nat.le_refl _⟩ dX8_reckon_123 ?_
                  clear hB
                  try clear locs
                  try clear H
                  intro u6 H locs hp hB
                  replace hB : zB D A s ([(q, .inr (8, mO ad false z)), ((ad 3), .inl (ka 1, 200, .inr (.inl (setN nu25 k (getN nu25 38)))))]) H locs := hB
                  refine lv_iconst (v := 1) hx hb dX8_reckon_126 (by decide) ?_
                  exact zreti hF hB (false, _) (⟨by unfold rkV; rw [if_neg hok, ri, rj, rk, if_neg (fun e8 => h39 e8.1), if_neg (by rw [hov]; decide)], fun k9 hk9 => by
                      unfold rkV; rw [if_neg hok, ri, rj, rk, if_neg (fun e8 => h39 e8.1), if_neg (by rw [hov]; decide)]
                      show getN (setN nu25 k (getN nu25 38)) k9 = if k9 = k then opV w (getN nu i) (getN nu j) else getN nu k9
                      by_cases e8 : k9 = k
                      · rw [if_pos e8, e8, getN_same, R9]
                      · rw [if_neg e8, getN_ne _ _ _ _ e8]; exact K9.get (by simp; omega)⟩) (rfl) (rfl) dX8_reckon_127 hQ
                · skip
                  have hov : opO w (getN nu i) (getN nu j) = true := bI_ne0 h112
                  rw [hov] at hB
                  replace hB : zB D A s ([(q, .inr (8, mO ad true z)), ((ad 3), .inl (ka 1, 200, .inr (.inl nu25)))]) H locs := hB
                  refine lv_bipush (v := -5) hx hb dX8_reckon_115 (by decide) ?_
                  exact zreti hF hB (true, nu25) (⟨by unfold rkV; rw [if_neg hok, ri, rj, rk, if_neg (fun e8 => h39 e8.1), if_pos hov], fun k9 hk9 => by unfold rkV; rw [if_neg hok, ri, rj, rk, if_neg (fun e8 => h39 e8.1), if_pos hov]; exact K9.get (by simp; omega)⟩) (rfl) (rfl) dX8_reckon_117 hQ
              · skip
                refine lv_aload_n hx hb dX8_reckon_89 rfl (lv_at hl 0 rfl) ?_
                refine lv_bipush (v := 38) hx hb dX8_reckon_90 (by decide) ?_
                refine lv_iload_n hx hb dX8_reckon_92 rfl (lv_at hl 2 rfl) ?_
                refine lv_iload_n hx hb dX8_reckon_93 rfl (lv_at hl 3 rfl) ?_
                refine zVv zm_X8_148 hF hB (c_X8_product l D ka kb q ad false z nu 38 i j (by decide) (by omega) (by omega) (hdp i (by omega)) (hdp j (by omega))) [0, 1] rfl (by decide) [q, (ad 3)] (fun _ => rfl) rfl 0 8 rfl rfl rfl ⟨Nat.le_of_ble_eq_true rfl, Nat.le_of_ble_eq_true rfl⟩ rfl hl.1 (Nat.le_of_ble_eq_true rfl) ⟨Nat.le_refl _, Nat.le_refl _⟩ dX8_reckon_94 ?_
                clear hB
                try clear locs
                try clear H
                intro u7 H locs hp hB
                replace hB : zB D A s ([(q, .inr (8, mO ad (false || prodO (getN nu i) (getN nu j)) z)), ((ad 3), .inl (ka 1, 200, .inr (.inl (if (false || prodO (getN nu i) (getN nu j)) = true then nu else setN nu 38 (prodV (getN nu i) (getN nu j))))))]) H locs := hB
                have hE : (false || prodO (getN nu i) (getN nu j)) = opO w (getN nu i) (getN nu j) := by unfold opO; rw [if_neg (Int32.not_lt.mpr h60), if_pos h86]; exact Bool.false_or _
                have hV : prodV (getN nu i) (getN nu j) = opV w (getN nu i) (getN nu j) := by unfold opV; rw [if_neg (Int32.not_lt.mpr h60), if_pos h86]
                rw [hE, hV] at hB
                replace hB : zB D A s ([(q, .inr (8, mO ad (opO w (getN nu i) (getN nu j)) z)), ((ad 3), .inl (ka 1, 200, .inr (.inl (if (opO w (getN nu i) (getN nu j)) = true then nu else setN nu 38 (opV w (getN nu i) (getN nu j))))))]) H locs := hB
                refine lv_goto (tgt := 108) hx hb dX8_reckon_97 (by decide) ?_
                refine lv_aload_n hx hb dX8_reckon_108 rfl (lv_at hl 0 rfl) ?_
                refine zget zf_X8_105 hF hB 0 rfl rfl dX8_reckon_109 ?_
                refine lv_if_eq (tgt := 118) hx hb dX8_reckon_112 (by decide) (fun h112 => ?_) (fun h112 => ?_)
                · skip
                  have hov : opO w (getN nu i) (getN nu j) = false := bI_eq0 h112
                  rw [hov, if_neg Bool.false_ne_true] at hB
                  replace hB : zB D A s ([(q, .inr (8, mO ad false z)), ((ad 3), .inl (ka 1, 200, .inr (.inl (setN nu 38 (opV w (getN nu i) (getN nu j))))))]) H locs := hB
                  generalize hn1 : (setN nu 38 (opV w (getN nu i) (getN nu j))) = n1 at hB
                  have K9 : keepN [30, 31, 32, 33, 34, 35, 36, 37, 38] nu n1 := by rw [← hn1]; exact keepN.rf.set (by simp) _
                  have R9 : getN n1 38 = opV w (getN nu i) (getN nu j) := by rw [← hn1, getN_same]
                  refine lv_aload_n hx hb dX8_reckon_118 rfl (lv_at hl 0 rfl) ?_
                  refine lv_iload hx hb dX8_reckon_119 (lv_at hl 4 rfl) ?_
                  refine lv_bipush (v := 38) hx hb dX8_reckon_121 (by decide) ?_
                  refine zVv zm_X8_177 hF hB (c_X8_moves l D ka kb q ad false z n1 k 38 (by omega) (by decide) (by omega)) [0, 1] rfl (by decide) [q, (ad 3)] (fun _ => rfl) rfl 0 8 rfl rfl rfl ⟨Nat.le_of_ble_eq_true rfl, Nat.le_of_ble_eq_true rfl⟩ rfl hl.1 (Nat.le_of_ble_eq_true rfl) ⟨Nat.le_refl _, Nat.le_refl _⟩ dX8_reckon_123 ?_
                  clear hB
                  try clear locs
                  try clear H
                  intro u8 H locs hp hB
                  replace hB : zB D A s ([(q, .inr (8, mO ad false z)), ((ad 3), .inl (ka 1, 200, .inr (.inl (setN n1 k (getN n1 38)))))]) H locs := hB
                  refine lv_iconst (v := 1) hx hb dX8_reckon_126 (by decide) ?_
                  exact zreti hF hB (false, _) (⟨by unfold rkV; rw [if_neg hok, ri, rj, rk, if_neg (fun e8 => h39 e8.1), if_neg (by rw [hov]; decide)], fun k9 hk9 => by
                      unfold rkV; rw [if_neg hok, ri, rj, rk, if_neg (fun e8 => h39 e8.1), if_neg (by rw [hov]; decide)]
                      show getN (setN n1 k (getN n1 38)) k9 = if k9 = k then opV w (getN nu i) (getN nu j) else getN nu k9
                      by_cases e8 : k9 = k
                      · rw [if_pos e8, e8, getN_same, R9]
                      · rw [if_neg e8, getN_ne _ _ _ _ e8]; exact K9.get (by simp; omega)⟩) (rfl) (rfl) dX8_reckon_127 hQ
                · skip
                  have hov : opO w (getN nu i) (getN nu j) = true := bI_ne0 h112
                  rw [hov, if_pos rfl] at hB
                  replace hB : zB D A s ([(q, .inr (8, mO ad true z)), ((ad 3), .inl (ka 1, 200, .inr (.inl nu)))]) H locs := hB
                  have K9 : keepN [30, 31, 32, 33, 34, 35, 36, 37, 38] nu nu := keepN.rf
                  refine lv_bipush (v := -5) hx hb dX8_reckon_115 (by decide) ?_
                  exact zreti hF hB (true, nu) (⟨by unfold rkV; rw [if_neg hok, ri, rj, rk, if_neg (fun e8 => h39 e8.1), if_pos hov], fun k9 hk9 => by unfold rkV; rw [if_neg hok, ri, rj, rk, if_neg (fun e8 => h39 e8.1), if_pos hov]; exact K9.get (by simp; omega)⟩) (rfl) (rfl) dX8_reckon_117 hQ
            · skip
              refine lv_aload_n hx hb dX8_reckon_63 rfl (lv_at hl 0 rfl) ?_
              refine lv_bipush (v := 38) hx hb dX8_reckon_64 (by decide) ?_
              refine lv_iload_n hx hb dX8_reckon_66 rfl (lv_at hl 2 rfl) ?_
              refine lv_iload_n hx hb dX8_reckon_67 rfl (lv_at hl 3 rfl) ?_
              refine lv_iload_n hx hb dX8_reckon_68 rfl (lv_at hl 1 rfl) ?_
              refine lv_iconst (v := 1) hx hb dX8_reckon_69 (by decide) ?_
              refine lv_icmp_ne (tgt := 77) hx hb dX8_reckon_70 (by decide) (fun h70 => ?_) (fun h70 => ?_)
              · skip
                refine lv_iconst (v := 0) hx hb dX8_reckon_77 (by decide) ?_
                refine zVv zm_X8_170 hF hB (c_X8_sum l D ka kb q ad false z nu 38 i j false (by decide) (by omega) (by omega) (hdp i (by omega)) (hdp j (by omega))) [0, 1] rfl (by decide) [q, (ad 3)] (fun _ => rfl) rfl 0 8 rfl rfl rfl ⟨Nat.le_of_ble_eq_true rfl, Nat.le_of_ble_eq_true rfl⟩ rfl hl.1 (Nat.le_of_ble_eq_true rfl) ⟨Nat.le_refl _, Nat.le_refl _⟩ dX8_reckon_78 ?_
                clear hB
                try clear locs
                try clear H
                intro u9 H locs hp hB
                replace hB : zB D A s ([(q, .inr (8, mO ad (false || sumO false (getN nu i) (getN nu j)) z)), ((ad 3), .inl (ka 1, 200, .inr (.inl (if (false || sumO false (getN nu i) (getN nu j)) = true then nu else setN nu 38 (sumV false (getN nu i) (getN nu j))))))]) H locs := hB
                have hm9 : dB (w = 1) = false := dB_f.mpr h70
                have hE : (false || sumO false (getN nu i) (getN nu j)) = opO w (getN nu i) (getN nu j) := by unfold opO; rw [if_pos (Int32.not_le.mp h60), hm9]; exact Bool.false_or _
                have hV : sumV false (getN nu i) (getN nu j) = opV w (getN nu i) (getN nu j) := by unfold opV; rw [if_pos (Int32.not_le.mp h60), hm9]
                rw [hE, hV] at hB
                replace hB : zB D A s ([(q, .inr (8, mO ad (opO w (getN nu i) (getN nu j)) z)), ((ad 3), .inl (ka 1, 200, .inr (.inl (if (opO w (getN nu i) (getN nu j)) = true then nu else setN nu 38 (opV w (getN nu i) (getN nu j))))))]) H locs := hB
                refine lv_goto (tgt := 108) hx hb dX8_reckon_81 (by decide) ?_
                refine lv_aload_n hx hb dX8_reckon_108 rfl (lv_at hl 0 rfl) ?_
                refine zget zf_X8_105 hF hB 0 rfl rfl dX8_reckon_109 ?_
                refine lv_if_eq (tgt := 118) hx hb dX8_reckon_112 (by decide) (fun h112 => ?_) (fun h112 => ?_)
                · skip
                  have hov : opO w (getN nu i) (getN nu j) = false := bI_eq0 h112
                  rw [hov, if_neg Bool.false_ne_true] at hB
                  replace hB : zB D A s ([(q, .inr (8, mO ad false z)), ((ad 3), .inl (ka 1, 200, .inr (.inl (setN nu 38 (opV w (getN nu i) (getN nu j))))))]) H locs := hB
                  generalize hn1 : (setN nu 38 (opV w (getN nu i) (getN nu j))) = n1 at hB
                  have K9 : keepN [30, 31, 32, 33, 34, 35, 36, 37, 38] nu n1 := by rw [← hn1]; exact keepN.rf.set (by simp) _
                  have R9 : getN n1 38 = opV w (getN nu i) (getN nu j) := by rw [← hn1, getN_same]
                  refine lv_aload_n hx hb dX8_reckon_118 rfl (lv_at hl 0 rfl) ?_
                  refine lv_iload hx hb dX8_reckon_119 (lv_at hl 4 rfl) ?_
                  refine lv_bipush (v := 38) hx hb dX8_reckon_121 (by decide) ?_
                  refine zVv zm_X8_177 hF hB (c_X8_moves l D ka kb q ad false z n1 k 38 (by omega) (by decide) (by omega)) [0, 1] rfl (by decide) [q, (ad 3)] (fun _ => rfl) rfl 0 8 rfl rfl rfl ⟨Nat.le_of_ble_eq_true rfl, Nat.le_of_ble_eq_true rfl⟩ rfl hl.1 (Nat.le_of_ble_eq_true rfl) ⟨Nat.le_refl _, Nat.le_refl _⟩ dX8_reckon_123 ?_
                  clear hB
                  try clear locs
                  try clear H
                  intro u10 H locs hp hB
                  replace hB : zB D A s ([(q, .inr (8, mO ad false z)), ((ad 3), .inl (ka 1, 200, .inr (.inl (setN n1 k (getN n1 38)))))]) H locs := hB
                  refine lv_iconst (v := 1) hx hb dX8_reckon_126 (by decide) ?_
                  exact zreti hF hB (false, _) (⟨by unfold rkV; rw [if_neg hok, ri, rj, rk, if_neg (fun e8 => h39 e8.1), if_neg (by rw [hov]; decide)], fun k9 hk9 => by
                      unfold rkV; rw [if_neg hok, ri, rj, rk, if_neg (fun e8 => h39 e8.1), if_neg (by rw [hov]; decide)]
                      show getN (setN n1 k (getN n1 38)) k9 = if k9 = k then opV w (getN nu i) (getN nu j) else getN nu k9
                      by_cases e8 : k9 = k
                      · rw [if_pos e8, e8, getN_same, R9]
                      · rw [if_neg e8, getN_ne _ _ _ _ e8]; exact K9.get (by simp; omega)⟩) (rfl) (rfl) dX8_reckon_127 hQ
                · skip
                  have hov : opO w (getN nu i) (getN nu j) = true := bI_ne0 h112
                  rw [hov, if_pos rfl] at hB
                  replace hB : zB D A s ([(q, .inr (8, mO ad true z)), ((ad 3), .inl (ka 1, 200, .inr (.inl nu)))]) H locs := hB
                  have K9 : keepN [30, 31, 32, 33, 34, 35, 36, 37, 38] nu nu := keepN.rf
                  refine lv_bipush (v := -5) hx hb dX8_reckon_115 (by decide) ?_
                  exact zreti hF hB (true, nu) (⟨by unfold rkV; rw [if_neg hok, ri, rj, rk, if_neg (fun e8 => h39 e8.1), if_pos hov], fun k9 hk9 => by unfold rkV; rw [if_neg hok, ri, rj, rk, if_neg (fun e8 => h39 e8.1), if_pos hov]; exact K9.get (by simp; omega)⟩) (rfl) (rfl) dX8_reckon_117 hQ
              · skip
                refine lv_iconst (v := 1) hx hb dX8_reckon_73 (by decide) ?_
                refine lv_goto (tgt := 78) hx hb dX8_reckon_74 (by decide) ?_
                refine zVv zm_X8_170 hF hB (c_X8_sum l D ka kb q ad false z nu 38 i j true (by decide) (by omega) (by omega) (hdp i (by omega)) (hdp j (by omega))) [0, 1] rfl (by decide) [q, (ad 3)] (fun _ => rfl) rfl 0 8 rfl rfl rfl ⟨Nat.le_of_ble_eq_true rfl, Nat.le_of_ble_eq_true rfl⟩ rfl hl.1 (Nat.le_of_ble_eq_true rfl) ⟨Nat.le_refl _, Nat.le_refl _⟩ dX8_reckon_78 ?_
                clear hB
                try clear locs
                try clear H
                intro u11 H locs hp hB
                replace hB : zB D A s ([(q, .inr (8, mO ad (false || sumO true (getN nu i) (getN nu j)) z)), ((ad 3), .inl (ka 1, 200, .inr (.inl (if (false || sumO true (getN nu i) (getN nu j)) = true then nu else setN nu 38 (sumV true (getN nu i) (getN nu j))))))]) H locs := hB
                have hm9 : dB (w = 1) = true := dB_t.mpr h70
                have hE : (false || sumO true (getN nu i) (getN nu j)) = opO w (getN nu i) (getN nu j) := by unfold opO; rw [if_pos (Int32.not_le.mp h60), hm9]; exact Bool.false_or _
                have hV : sumV true (getN nu i) (getN nu j) = opV w (getN nu i) (getN nu j) := by unfold opV; rw [if_pos (Int32.not_le.mp h60), hm9]
                rw [hE, hV] at hB
                replace hB : zB D A s ([(q, .inr (8, mO ad (opO w (getN nu i) (getN nu j)) z)), ((ad 3), .inl (ka 1, 200, .inr (.inl (if (opO w (getN nu i) (getN nu j)) = true then nu else setN nu 38 (opV w (getN nu i) (getN nu j))))))]) H locs := hB
                refine lv_goto (tgt := 108) hx hb dX8_reckon_81 (by decide) ?_
                refine lv_aload_n hx hb dX8_reckon_108 rfl (lv_at hl 0 rfl) ?_
                refine zget zf_X8_105 hF hB 0 rfl rfl dX8_reckon_109 ?_
                refine lv_if_eq (tgt := 118) hx hb dX8_reckon_112 (by decide) (fun h112 => ?_) (fun h112 => ?_)
                · skip
                  have hov : opO w (getN nu i) (getN nu j) = false := bI_eq0 h112
                  rw [hov, if_neg Bool.false_ne_true] at hB
                  replace hB : zB D A s ([(q, .inr (8, mO ad false z)), ((ad 3), .inl (ka 1, 200, .inr (.inl (setN nu 38 (opV w (getN nu i) (getN nu j))))))]) H locs := hB
                  generalize hn1 : (setN nu 38 (opV w (getN nu i) (getN nu j))) = n1 at hB
                  have K9 : keepN [30, 31, 32, 33, 34, 35, 36, 37, 38] nu n1 := by rw [← hn1]; exact keepN.rf.set (by simp) _
                  have R9 : getN n1 38 = opV w (getN nu i) (getN nu j) := by rw [← hn1, getN_same]
                  refine lv_aload_n hx hb dX8_reckon_118 rfl (lv_at hl 0 rfl) ?_
                  refine lv_iload hx hb dX8_reckon_119 (lv_at hl 4 rfl) ?_
                  refine lv_bipush (v := 38) hx hb dX8_reckon_121 (by decide) ?_
                  refine zVv zm_X8_177 hF hB (c_X8_moves l D ka kb q ad false z n1 k 38 (by omega) (by decide) (by omega)) [0, 1] rfl (by decide) [q, (ad 3)] (fun _ => rfl) rfl 0 8 rfl rfl rfl ⟨Nat.le_of_ble_eq_true rfl, Nat.le_of_ble_eq_true rfl⟩ rfl hl.1 (Nat.le_of_ble_eq_true rfl) ⟨Nat.le_refl _, Nat.le_refl _⟩ dX8_reckon_123 ?_
                  clear hB
                  try clear locs
                  try clear H
                  intro u12 H locs hp hB
                  replace hB : zB D A s ([(q, .inr (8, mO ad false z)), ((ad 3), .inl (ka 1, 200, .inr (.inl (setN n1 k (getN n1 38)))))]) H locs := hB
                  refine lv_iconst (v := 1) hx hb dX8_reckon_126 (by decide) ?_
                  exact zreti hF hB (false, _) (⟨by unfold rkV; rw [if_neg hok, ri, rj, rk, if_neg (fun e8 => h39 e8.1), if_neg (by rw [hov]; decide)], fun k9 hk9 => by
                      unfold rkV; rw [if_neg hok, ri, rj, rk, if_neg (fun e8 => h39 e8.1), if_neg (by rw [hov]; decide)]
                      show getN (setN n1 k (getN n1 38)) k9 = if k9 = k then opV w (getN nu i) (getN nu j) else getN nu k9
                      by_cases e8 : k9 = k
                      · rw [if_pos e8, e8, getN_same, R9]
                      · rw [if_neg e8, getN_ne _ _ _ _ e8]; exact K9.get (by simp; omega)⟩) (rfl) (rfl) dX8_reckon_127 hQ
                · skip
                  have hov : opO w (getN nu i) (getN nu j) = true := bI_ne0 h112
                  rw [hov, if_pos rfl] at hB
                  replace hB : zB D A s ([(q, .inr (8, mO ad true z)), ((ad 3), .inl (ka 1, 200, .inr (.inl nu)))]) H locs := hB
                  have K9 : keepN [30, 31, 32, 33, 34, 35, 36, 37, 38] nu nu := keepN.rf
                  refine lv_bipush (v := -5) hx hb dX8_reckon_115 (by decide) ?_
                  exact zreti hF hB (true, nu) (⟨by unfold rkV; rw [if_neg hok, ri, rj, rk, if_neg (fun e8 => h39 e8.1), if_pos hov], fun k9 hk9 => by unfold rkV; rw [if_neg hok, ri, rj, rk, if_neg (fun e8 => h39 e8.1), if_pos hov]; exact K9.get (by simp; omega)⟩) (rfl) (rfl) dX8_reckon_117 hQ
          · skip
            refine lv_aload_n hx hb dX8_reckon_42 rfl (lv_at hl 0 rfl) ?_
            refine lv_iload_n hx hb dX8_reckon_43 rfl (lv_at hl 3 rfl) ?_
            refine zVi zm_X8_167 hF hB (c_X8_isNought l D ka kb q ad o z nu j (by first | assumption | omega | decide)) [0, 1] rfl (by decide) [q, (ad 3)] (fun _ => rfl) rfl 0 8 rfl rfl rfl ⟨Nat.le_of_ble_eq_true rfl, Nat.le_of_ble_eq_true rfl⟩ rfl hl.1 (Nat.le_of_ble_eq_true rfl) ⟨Nat.le_refl _, Nat.le_refl _⟩ dX8_reckon_44 ?_
            clear hB
            try clear locs
            try clear H
            intro r13 u13 H locs hp hB
            obtain rfl : r13 = bI (zeroN (getN nu j)) := hp
            replace hB : zB D A s ([(q, .inr (8, mO ad o z)), ((ad 3), .inl (ka 1, 200, .inr (.inl nu)))]) H locs := hB
            refine lv_if_eq (tgt := 53) hx hb dX8_reckon_47 (by decide) (fun h47 => ?_) (fun h47 => ?_)
            · skip
              refine lv_aload_n hx hb dX8_reckon_53 rfl (lv_at hl 0 rfl) ?_
              refine lv_iconst (v := 0) hx hb dX8_reckon_54 (by decide) ?_
              refine zput_f zp_X8_105 hF hB 0 rfl (rfl) (rfl) (Nat.le_of_ble_eq_true rfl) dX8_reckon_55 ?_
              clear hB
              try clear locs
              try clear H
              intro H locs hB
              replace hB : zB D A s ([(q, .inr (8, mX ad (0 : Int32) z.1 z.2.1 z.2.2.1 z.2.2.2.1 z.2.2.2.2.1 z.2.2.2.2.2.1 z.2.2.2.2.2.2.1 z.2.2.2.2.2.2.2)), ((ad 3), .inl (ka 1, 200, .inr (.inl nu)))]) H locs := hB
              refine lv_iload_n hx hb dX8_reckon_58 rfl (lv_at hl 1 rfl) ?_
              refine lv_iconst (v := 2) hx hb dX8_reckon_59 (by decide) ?_
              refine lv_icmp_ge (tgt := 84) hx hb dX8_reckon_60 (by decide) (fun h60 => ?_) (fun h60 => ?_)
              · skip
                refine lv_iload_n hx hb dX8_reckon_84 rfl (lv_at hl 1 rfl) ?_
                refine lv_iconst (v := 2) hx hb dX8_reckon_85 (by decide) ?_
                refine lv_icmp_ne (tgt := 100) hx hb dX8_reckon_86 (by decide) (fun h86 => ?_) (fun h86 => ?_)
                · skip
                  refine lv_aload_n hx hb dX8_reckon_100 rfl (lv_at hl 0 rfl) ?_
                  refine lv_bipush (v := 38) hx hb dX8_reckon_101 (by decide) ?_
                  refine lv_iload_n hx hb dX8_reckon_103 rfl (lv_at hl 2 rfl) ?_
                  refine lv_iload_n hx hb dX8_reckon_104 rfl (lv_at hl 3 rfl) ?_
                  refine zVv zm_X8_174 hF hB (c_X8_quotient l D ka kb q ad z nu 38 i j (by decide) (by omega) (by omega) (by simp; omega) (by simp; omega) (by
                      have hw3 : w = 3 := by
                        obtain ⟨x9, hx9, rfl⟩ := inI_of hw9 (by decide)
                        rcases (show x9 = 0 ∨ x9 = 1 ∨ x9 = 2 ∨ x9 = 3 by omega) with rfl | rfl | rfl | rfl
                        · exact absurd h60 (by decide)
                        · exact absurd h60 (by decide)
                        · exact absurd (by decide) h86
                        · rfl
                      exact bI_eq0 h47) (hdp i (by omega))) [0, 1] rfl (by decide) [q, (ad 3)] (fun _ => rfl) rfl 0 8 rfl rfl rfl ⟨Nat.le_of_ble_eq_true rfl, Nat.le_of_ble_eq_true rfl⟩ rfl hl.1 (Nat.le_of_ble_eq_true rfl) ⟨Nat.le_refl _, Nat.le_refl _⟩ dX8_reckon_105 ?_
                  clear hB
                  try clear locs
                  try clear H
                  intro u14 H locs hp hB
                  obtain ⟨nu214, rfl⟩ : ∃ z, z = u14 := ⟨_, rfl⟩
                  have hp14 : keepN [30, 31, 32, 33, 34, 35, 36, 37, 38] nu nu214 ∧ (quoO (getN nu i) (getN nu j) = false → getN nu214 38 = quoV (getN nu i) (getN nu j)) := hp
                  have HPP := hp14
                  replace hB : zB D A s ([(q, .inr (8, mO ad (quoO (getN nu i) (getN nu j)) z)), ((ad 3), .inl (ka 1, 200, .inr (.inl nu214)))]) H locs := hB
                  have hE : (quoO (getN nu i) (getN nu j)) = opO w (getN nu i) (getN nu j) := by unfold opO; rw [if_neg (Int32.not_lt.mpr h60), if_neg h86]
                  have hV : quoV (getN nu i) (getN nu j) = opV w (getN nu i) (getN nu j) := by unfold opV; rw [if_neg (Int32.not_lt.mpr h60), if_neg h86]
                  rw [hE] at hB
                  replace hB : zB D A s ([(q, .inr (8, mO ad (opO w (getN nu i) (getN nu j)) z)), ((ad 3), .inl (ka 1, 200, .inr (.inl nu214)))]) H locs := hB
                  obtain ⟨K9, R9⟩ := hp14
                  rw [hE, hV] at R9
                  refine lv_aload_n hx hb dX8_reckon_108 rfl (lv_at hl 0 rfl) ?_
                  refine zget zf_X8_105 hF hB 0 rfl rfl dX8_reckon_109 ?_
                  refine lv_if_eq (tgt := 118) hx hb dX8_reckon_112 (by decide) (fun h112 => ?_) (fun h112 => ?_)
                  · skip
                    have hov : opO w (getN nu i) (getN nu j) = false := bI_eq0 h112
                    rw [hov] at hB
                    replace hB : zB D A s ([(q, .inr (8, mO ad false z)), ((ad 3), .inl (ka 1, 200, .inr (.inl nu214)))]) H locs := hB
                    have R9 := R9 hov
                    refine lv_aload_n hx hb dX8_reckon_118 rfl (lv_at hl 0 rfl) ?_
                    refine lv_iload hx hb dX8_reckon_119 (lv_at hl 4 rfl) ?_
                    refine lv_bipush (v := 38) hx hb dX8_reckon_121 (by decide) ?_
                    refine zVv zm_X8_177 hF hB (c_X8_moves l D ka kb q ad false z nu214 k 38 (by omega) (by decide) (by omega)) [0, 1] rfl (by decide) [q, (ad 3)] (fun _ => rfl) rfl 0 8 rfl rfl rfl ⟨Nat.le_of_ble_eq_true rfl, Nat.le_of_ble_eq_true rfl⟩ rfl hl.1 (Nat.le_of_ble_eq_true rfl) ⟨Nat.le_refl _, Nat.le_refl _⟩ dX8_reckon_123 ?_
                    clear hB
                    try clear locs
                    try clear H
                    intro u15 H locs hp hB
                    replace hB : zB D A s ([(q, .inr (8, mO ad false z)), ((ad 3), .inl (ka 1, 200, .inr (.inl (setN nu214 k (getN nu214 38)))))]) H locs := hB
                    refine lv_iconst (v := 1) hx hb dX8_reckon_126 (by decide) ?_
                    exact zreti hF hB (false, _) (⟨by unfold rkV; rw [if_neg hok, ri, rj, rk, if_neg (fun e8 => by rw [bI_eq0 h47] at e8; exact absurd e8.2 (by decide)), if_neg (by rw [hov]; decide)], fun k9 hk9 => by
                        unfold rkV; rw [if_neg hok, ri, rj, rk, if_neg (fun e8 => by rw [bI_eq0 h47] at e8; exact absurd e8.2 (by decide)), if_neg (by rw [hov]; decide)]
                        show getN (setN nu214 k (getN nu214 38)) k9 = if k9 = k then opV w (getN nu i) (getN nu j) else getN nu k9
                        by_cases e8 : k9 = k
                        · rw [if_pos e8, e8, getN_same, R9]
                        · rw [if_neg e8, getN_ne _ _ _ _ e8]; exact K9.get (by simp; omega)⟩) (rfl) (rfl) dX8_reckon_127 hQ
                  · skip
                    have hov : opO w (getN nu i) (getN nu j) = true := bI_ne0 h112
                    rw [hov] at hB
                    replace hB : zB D A s ([(q, .inr (8, mO ad true z)), ((ad 3), .inl (ka 1, 200, .inr (.inl nu214)))]) H locs := hB
                    refine lv_bipush (v := -5) hx hb dX8_reckon_115 (by decide) ?_
                    exact zreti hF hB (true, nu214) (⟨by unfold rkV; rw [if_neg hok, ri, rj, rk, if_neg (fun e8 => by rw [bI_eq0 h47] at e8; exact absurd e8.2 (by decide)), if_pos hov], fun k9 hk9 => by unfold rkV; rw [if_neg hok, ri, rj, rk, if_neg (fun e8 => by rw [bI_eq0 h47] at e8; exact absurd e8.2 (by decide)), if_pos hov]; exact K9.get (by simp; omega)⟩) (rfl) (rfl) dX8_reckon_117 hQ
                · skip
                  refine lv_aload_n hx hb dX8_reckon_89 rfl (lv_at hl 0 rfl) ?_
                  refine lv_bipush (v := 38) hx hb dX8_reckon_90 (by decide) ?_
                  refine lv_iload_n hx hb dX8_reckon_92 rfl (lv_at hl 2 rfl) ?_
                  refine lv_iload_n hx hb dX8_reckon_93 rfl (lv_at hl 3 rfl) ?_
                  refine zVv zm_X8_148 hF hB (c_X8_product l D ka kb q ad false z nu 38 i j (by decide) (by omega) (by omega) (hdp i (by omega)) (hdp j (by omega))) [0, 1] rfl (by decide) [q, (ad 3)] (fun _ => rfl) rfl 0 8 rfl rfl rfl ⟨Nat.le_of_ble_eq_true rfl, Nat.le_of_ble_eq_true rfl⟩ rfl hl.1 (Nat.le_of_ble_eq_true rfl) ⟨Nat.le_refl _, Nat.le_refl _⟩ dX8_reckon_94 ?_
                  clear hB
                  try clear locs
                  try clear H
                  intro u16 H locs hp hB
                  replace hB : zB D A s ([(q, .inr (8, mO ad (false || prodO (getN nu i) (getN nu j)) z)), ((ad 3), .inl (ka 1, 200, .inr (.inl (if (false || prodO (getN nu i) (getN nu j)) = true then nu else setN nu 38 (prodV (getN nu i) (getN nu j))))))]) H locs := hB
                  have hE : (false || prodO (getN nu i) (getN nu j)) = opO w (getN nu i) (getN nu j) := by unfold opO; rw [if_neg (Int32.not_lt.mpr h60), if_pos h86]; exact Bool.false_or _
                  have hV : prodV (getN nu i) (getN nu j) = opV w (getN nu i) (getN nu j) := by unfold opV; rw [if_neg (Int32.not_lt.mpr h60), if_pos h86]
                  rw [hE, hV] at hB
                  replace hB : zB D A s ([(q, .inr (8, mO ad (opO w (getN nu i) (getN nu j)) z)), ((ad 3), .inl (ka 1, 200, .inr (.inl (if (opO w (getN nu i) (getN nu j)) = true then nu else setN nu 38 (opV w (getN nu i) (getN nu j))))))]) H locs := hB
                  refine lv_goto (tgt := 108) hx hb dX8_reckon_97 (by decide) ?_
                  refine lv_aload_n hx hb dX8_reckon_108 rfl (lv_at hl 0 rfl) ?_
                  refine zget zf_X8_105 hF hB 0 rfl rfl dX8_reckon_109 ?_
                  refine lv_if_eq (tgt := 118) hx hb dX8_reckon_112 (by decide) (fun h112 => ?_) (fun h112 => ?_)
                  · skip
                    have hov : opO w (getN nu i) (getN nu j) = false := bI_eq0 h112
                    rw [hov, if_neg Bool.false_ne_true] at hB
                    replace hB : zB D A s ([(q, .inr (8, mO ad false z)), ((ad 3), .inl (ka 1, 200, .inr (.inl (setN nu 38 (opV w (getN nu i) (getN nu j))))))]) H locs := hB
                    generalize hn1 : (setN nu 38 (opV w (getN nu i) (getN nu j))) = n1 at hB
                    have K9 : keepN [30, 31, 32, 33, 34, 35, 36, 37, 38] nu n1 := by rw [← hn1]; exact keepN.rf.set (by simp) _
                    have R9 : getN n1 38 = opV w (getN nu i) (getN nu j) := by rw [← hn1, getN_same]
                    refine lv_aload_n hx hb dX8_reckon_118 rfl (lv_at hl 0 rfl) ?_
                    refine lv_iload hx hb dX8_reckon_119 (lv_at hl 4 rfl) ?_
                    refine lv_bipush (v := 38) hx hb dX8_reckon_121 (by decide) ?_
                    refine zVv zm_X8_177 hF hB (c_X8_moves l D ka kb q ad false z n1 k 38 (by omega) (by decide) (by omega)) [0, 1] rfl (by decide) [q, (ad 3)] (fun _ => rfl) rfl 0 8 rfl rfl rfl ⟨Nat.le_of_ble_eq_true rfl, Nat.le_of_ble_eq_true rfl⟩ rfl hl.1 (Nat.le_of_ble_eq_true rfl) ⟨Nat.le_refl _, Nat.le_refl _⟩ dX8_reckon_123 ?_
                    clear hB
                    try clear locs
                    try clear H
                    intro u17 H locs hp hB
                    replace hB : zB D A s ([(q, .inr (8, mO ad false z)), ((ad 3), .inl (ka 1, 200, .inr (.inl (setN n1 k (getN n1 38)))))]) H locs := hB
                    refine lv_iconst (v := 1) hx hb dX8_reckon_126 (by decide) ?_
                    exact zreti hF hB (false, _) (⟨by unfold rkV; rw [if_neg hok, ri, rj, rk, if_neg (fun e8 => by rw [bI_eq0 h47] at e8; exact absurd e8.2 (by decide)), if_neg (by rw [hov]; decide)], fun k9 hk9 => by
                        unfold rkV; rw [if_neg hok, ri, rj, rk, if_neg (fun e8 => by rw [bI_eq0 h47] at e8; exact absurd e8.2 (by decide)), if_neg (by rw [hov]; decide)]
                        show getN (setN n1 k (getN n1 38)) k9 = if k9 = k then opV w (getN nu i) (getN nu j) else getN nu k9
                        by_cases e8 : k9 = k
                        · rw [if_pos e8, e8, getN_same, R9]
                        · rw [if_neg e8, getN_ne _ _ _ _ e8]; exact K9.get (by simp; omega)⟩) (rfl) (rfl) dX8_reckon_127 hQ
                  · skip
                    have hov : opO w (getN nu i) (getN nu j) = true := bI_ne0 h112
                    rw [hov, if_pos rfl] at hB
                    replace hB : zB D A s ([(q, .inr (8, mO ad true z)), ((ad 3), .inl (ka 1, 200, .inr (.inl nu)))]) H locs := hB
                    have K9 : keepN [30, 31, 32, 33, 34, 35, 36, 37, 38] nu nu := keepN.rf
                    refine lv_bipush (v := -5) hx hb dX8_reckon_115 (by decide) ?_
                    exact zreti hF hB (true, nu) (⟨by unfold rkV; rw [if_neg hok, ri, rj, rk, if_neg (fun e8 => by rw [bI_eq0 h47] at e8; exact absurd e8.2 (by decide)), if_pos hov], fun k9 hk9 => by unfold rkV; rw [if_neg hok, ri, rj, rk, if_neg (fun e8 => by rw [bI_eq0 h47] at e8; exact absurd e8.2 (by decide)), if_pos hov]; exact K9.get (by simp; omega)⟩) (rfl) (rfl) dX8_reckon_117 hQ
              · skip
                refine lv_aload_n hx hb dX8_reckon_63 rfl (lv_at hl 0 rfl) ?_
                refine lv_bipush (v := 38) hx hb dX8_reckon_64 (by decide) ?_
                refine lv_iload_n hx hb dX8_reckon_66 rfl (lv_at hl 2 rfl) ?_
                refine lv_iload_n hx hb dX8_reckon_67 rfl (lv_at hl 3 rfl) ?_
                refine lv_iload_n hx hb dX8_reckon_68 rfl (lv_at hl 1 rfl) ?_
                refine lv_iconst (v := 1) hx hb dX8_reckon_69 (by decide) ?_
                refine lv_icmp_ne (tgt := 77) hx hb dX8_reckon_70 (by decide) (fun h70 => ?_) (fun h70 => ?_)
                · skip
                  refine lv_iconst (v := 0) hx hb dX8_reckon_77 (by decide) ?_
                  refine zVv zm_X8_170 hF hB (c_X8_sum l D ka kb q ad false z nu 38 i j false (by decide) (by omega) (by omega) (hdp i (by omega)) (hdp j (by omega))) [0, 1] rfl (by decide) [q, (ad 3)] (fun _ => rfl) rfl 0 8 rfl rfl rfl ⟨Nat.le_of_ble_eq_true rfl, Nat.le_of_ble_eq_true rfl⟩ rfl hl.1 (Nat.le_of_ble_eq_true rfl) ⟨Nat.le_refl _, Nat.le_refl _⟩ dX8_reckon_78 ?_
                  clear hB
                  try clear locs
                  try clear H
                  intro u18 H locs hp hB
                  replace hB : zB D A s ([(q, .inr (8, mO ad (false || sumO false (getN nu i) (getN nu j)) z)), ((ad 3), .inl (ka 1, 200, .inr (.inl (if (false || sumO false (getN nu i) (getN nu j)) = true then nu else setN nu 38 (sumV false (getN nu i) (getN nu j))))))]) H locs := hB
                  have hm9 : dB (w = 1) = false := dB_f.mpr h70
                  have hE : (false || sumO false (getN nu i) (getN nu j)) = opO w (getN nu i) (getN nu j) := by unfold opO; rw [if_pos (Int32.not_le.mp h60), hm9]; exact Bool.false_or _
                  have hV : sumV false (getN nu i) (getN nu j) = opV w (getN nu i) (getN nu j) := by unfold opV; rw [if_pos (Int32.not_le.mp h60), hm9]
                  rw [hE, hV] at hB
                  replace hB : zB D A s ([(q, .inr (8, mO ad (opO w (getN nu i) (getN nu j)) z)), ((ad 3), .inl (ka 1, 200, .inr (.inl (if (opO w (getN nu i) (getN nu j)) = true then nu else setN nu 38 (opV w (getN nu i) (getN nu j))))))]) H locs := hB
                  refine lv_goto (tgt := 108) hx hb dX8_reckon_81 (by decide) ?_
                  refine lv_aload_n hx hb dX8_reckon_108 rfl (lv_at hl 0 rfl) ?_
                  refine zget zf_X8_105 hF hB 0 rfl rfl dX8_reckon_109 ?_
                  refine lv_if_eq (tgt := 118) hx hb dX8_reckon_112 (by decide) (fun h112 => ?_) (fun h112 => ?_)
                  · skip
                    have hov : opO w (getN nu i) (getN nu j) = false := bI_eq0 h112
                    rw [hov, if_neg Bool.false_ne_true] at hB
                    replace hB : zB D A s ([(q, .inr (8, mO ad false z)), ((ad 3), .inl (ka 1, 200, .inr (.inl (setN nu 38 (opV w (getN nu i) (getN nu j))))))]) H locs := hB
                    generalize hn1 : (setN nu 38 (opV w (getN nu i) (getN nu j))) = n1 at hB
                    have K9 : keepN [30, 31, 32, 33, 34, 35, 36, 37, 38] nu n1 := by rw [← hn1]; exact keepN.rf.set (by simp) _
                    have R9 : getN n1 38 = opV w (getN nu i) (getN nu j) := by rw [← hn1, getN_same]
                    refine lv_aload_n hx hb dX8_reckon_118 rfl (lv_at hl 0 rfl) ?_
                    refine lv_iload hx hb dX8_reckon_119 (lv_at hl 4 rfl) ?_
                    refine lv_bipush (v := 38) hx hb dX8_reckon_121 (by decide) ?_
                    refine zVv zm_X8_177 hF hB (c_X8_moves l D ka kb q ad false z n1 k 38 (by omega) (by decide) (by omega)) [0, 1] rfl (by decide) [q, (ad 3)] (fun _ => rfl) rfl 0 8 rfl rfl rfl ⟨Nat.le_of_ble_eq_true rfl, Nat.le_of_ble_eq_true rfl⟩ rfl hl.1 (Nat.le_of_ble_eq_true rfl) ⟨Nat.le_refl _, Nat.le_refl _⟩ dX8_reckon_123 ?_
                    clear hB
                    try clear locs
                    try clear H
                    intro u19 H locs hp hB
                    replace hB : zB D A s ([(q, .inr (8, mO ad false z)), ((ad 3), .inl (ka 1, 200, .inr (.inl (setN n1 k (getN n1 38)))))]) H locs := hB
                    refine lv_iconst (v := 1) hx hb dX8_reckon_126 (by decide) ?_
                    exact zreti hF hB (false, _) (⟨by unfold rkV; rw [if_neg hok, ri, rj, rk, if_neg (fun e8 => by rw [bI_eq0 h47] at e8; exact absurd e8.2 (by decide)), if_neg (by rw [hov]; decide)], fun k9 hk9 => by
                        unfold rkV; rw [if_neg hok, ri, rj, rk, if_neg (fun e8 => by rw [bI_eq0 h47] at e8; exact absurd e8.2 (by decide)), if_neg (by rw [hov]; decide)]
                        show getN (setN n1 k (getN n1 38)) k9 = if k9 = k then opV w (getN nu i) (getN nu j) else getN nu k9
                        by_cases e8 : k9 = k
                        · rw [if_pos e8, e8, getN_same, R9]
                        · rw [if_neg e8, getN_ne _ _ _ _ e8]; exact K9.get (by simp; omega)⟩) (rfl) (rfl) dX8_reckon_127 hQ
                  · skip
                    have hov : opO w (getN nu i) (getN nu j) = true := bI_ne0 h112
                    rw [hov, if_pos rfl] at hB
                    replace hB : zB D A s ([(q, .inr (8, mO ad true z)), ((ad 3), .inl (ka 1, 200, .inr (.inl nu)))]) H locs := hB
                    have K9 : keepN [30, 31, 32, 33, 34, 35, 36, 37, 38] nu nu := keepN.rf
                    refine lv_bipush (v := -5) hx hb dX8_reckon_115 (by decide) ?_
                    exact zreti hF hB (true, nu) (⟨by unfold rkV; rw [if_neg hok, ri, rj, rk, if_neg (fun e8 => by rw [bI_eq0 h47] at e8; exact absurd e8.2 (by decide)), if_pos hov], fun k9 hk9 => by unfold rkV; rw [if_neg hok, ri, rj, rk, if_neg (fun e8 => by rw [bI_eq0 h47] at e8; exact absurd e8.2 (by decide)), if_pos hov]; exact K9.get (by simp; omega)⟩) (rfl) (rfl) dX8_reckon_117 hQ
                · skip
                  refine lv_iconst (v := 1) hx hb dX8_reckon_73 (by decide) ?_
                  refine lv_goto (tgt := 78) hx hb dX8_reckon_74 (by decide) ?_
                  refine zVv zm_X8_170 hF hB (c_X8_sum l D ka kb q ad false z nu 38 i j true (by decide) (by omega) (by omega) (hdp i (by omega)) (hdp j (by omega))) [0, 1] rfl (by decide) [q, (ad 3)] (fun _ => rfl) rfl 0 8 rfl rfl rfl ⟨Nat.le_of_ble_eq_true rfl, Nat.le_of_ble_eq_true rfl⟩ rfl hl.1 (Nat.le_of_ble_eq_true rfl) ⟨Nat.le_refl _, Nat.le_refl _⟩ dX8_reckon_78 ?_
                  clear hB
                  try clear locs
                  try clear H
                  intro u20 H locs hp hB
                  replace hB : zB D A s ([(q, .inr (8, mO ad (false || sumO true (getN nu i) (getN nu j)) z)), ((ad 3), .inl (ka 1, 200, .inr (.inl (if (false || sumO true (getN nu i) (getN nu j)) = true then nu else setN nu 38 (sumV true (getN nu i) (getN nu j))))))]) H locs := hB
                  have hm9 : dB (w = 1) = true := dB_t.mpr h70
                  have hE : (false || sumO true (getN nu i) (getN nu j)) = opO w (getN nu i) (getN nu j) := by unfold opO; rw [if_pos (Int32.not_le.mp h60), hm9]; exact Bool.false_or _
                  have hV : sumV true (getN nu i) (getN nu j) = opV w (getN nu i) (getN nu j) := by unfold opV; rw [if_pos (Int32.not_le.mp h60), hm9]
                  rw [hE, hV] at hB
                  replace hB : zB D A s ([(q, .inr (8, mO ad (opO w (getN nu i) (getN nu j)) z)), ((ad 3), .inl (ka 1, 200, .inr (.inl (if (opO w (getN nu i) (getN nu j)) = true then nu else setN nu 38 (opV w (getN nu i) (getN nu j))))))]) H locs := hB
                  refine lv_goto (tgt := 108) hx hb dX8_reckon_81 (by decide) ?_
                  refine lv_aload_n hx hb dX8_reckon_108 rfl (lv_at hl 0 rfl) ?_
                  refine zget zf_X8_105 hF hB 0 rfl rfl dX8_reckon_109 ?_
                  refine lv_if_eq (tgt := 118) hx hb dX8_reckon_112 (by decide) (fun h112 => ?_) (fun h112 => ?_)
                  · skip
                    have hov : opO w (getN nu i) (getN nu j) = false := bI_eq0 h112
                    rw [hov, if_neg Bool.false_ne_true] at hB
                    replace hB : zB D A s ([(q, .inr (8, mO ad false z)), ((ad 3), .inl (ka 1, 200, .inr (.inl (setN nu 38 (opV w (getN nu i) (getN nu j))))))]) H locs := hB
                    generalize hn1 : (setN nu 38 (opV w (getN nu i) (getN nu j))) = n1 at hB
                    have K9 : keepN [30, 31, 32, 33, 34, 35, 36, 37, 38] nu n1 := by rw [← hn1]; exact keepN.rf.set (by simp) _
                    have R9 : getN n1 38 = opV w (getN nu i) (getN nu j) := by rw [← hn1, getN_same]
                    refine lv_aload_n hx hb dX8_reckon_118 rfl (lv_at hl 0 rfl) ?_
                    refine lv_iload hx hb dX8_reckon_119 (lv_at hl 4 rfl) ?_
                    refine lv_bipush (v := 38) hx hb dX8_reckon_121 (by decide) ?_
                    refine zVv zm_X8_177 hF hB (c_X8_moves l D ka kb q ad false z n1 k 38 (by omega) (by decide) (by omega)) [0, 1] rfl (by decide) [q, (ad 3)] (fun _ => rfl) rfl 0 8 rfl rfl rfl ⟨Nat.le_of_ble_eq_true rfl, Nat.le_of_ble_eq_true rfl⟩ rfl hl.1 (Nat.le_of_ble_eq_true rfl) ⟨Nat.le_refl _, Nat.le_refl _⟩ dX8_reckon_123 ?_
                    clear hB
                    try clear locs
                    try clear H
                    intro u21 H locs hp hB
                    replace hB : zB D A s ([(q, .inr (8, mO ad false z)), ((ad 3), .inl (ka 1, 200, .inr (.inl (setN n1 k (getN n1 38)))))]) H locs := hB
                    refine lv_iconst (v := 1) hx hb dX8_reckon_126 (by decide) ?_
                    exact zreti hF hB (false, _) (⟨by unfold rkV; rw [if_neg hok, ri, rj, rk, if_neg (fun e8 => by rw [bI_eq0 h47] at e8; exact absurd e8.2 (by decide)), if_neg (by rw [hov]; decide)], fun k9 hk9 => by
                        unfold rkV; rw [if_neg hok, ri, rj, rk, if_neg (fun e8 => by rw [bI_eq0 h47] at e8; exact absurd e8.2 (by decide)), if_neg (by rw [hov]; decide)]
                        show getN (setN n1 k (getN n1 38)) k9 = if k9 = k then opV w (getN nu i) (getN nu j) else getN nu k9
                        by_cases e8 : k9 = k
                        · rw [if_pos e8, e8, getN_same, R9]
                        · rw [if_neg e8, getN_ne _ _ _ _ e8]; exact K9.get (by simp; omega)⟩) (rfl) (rfl) dX8_reckon_127 hQ
                  · skip
                    have hov : opO w (getN nu i) (getN nu j) = true := bI_ne0 h112
                    rw [hov, if_pos rfl] at hB
                    replace hB : zB D A s ([(q, .inr (8, mO ad true z)), ((ad 3), .inl (ka 1, 200, .inr (.inl nu)))]) H locs := hB
                    have K9 : keepN [30, 31, 32, 33, 34, 35, 36, 37, 38] nu nu := keepN.rf
                    refine lv_bipush (v := -5) hx hb dX8_reckon_115 (by decide) ?_
                    exact zreti hF hB (true, nu) (⟨by unfold rkV; rw [if_neg hok, ri, rj, rk, if_neg (fun e8 => by rw [bI_eq0 h47] at e8; exact absurd e8.2 (by decide)), if_pos hov], fun k9 hk9 => by unfold rkV; rw [if_neg hok, ri, rj, rk, if_neg (fun e8 => by rw [bI_eq0 h47] at e8; exact absurd e8.2 (by decide)), if_pos hov]; exact K9.get (by simp; omega)⟩) (rfl) (rfl) dX8_reckon_117 hQ
            · skip
              refine lv_bipush (v := -6) hx hb dX8_reckon_50 (by decide) ?_
              exact zreti hF hB (o, nu) (⟨by unfold rkV; rw [if_neg hok, ri, rj, rk, if_pos ⟨h39, bI_ne0 h47⟩], fun k9 hk9 => by unfold rkV; rw [if_neg hok, ri, rj, rk, if_pos ⟨h39, bI_ne0 h47⟩]; rfl⟩) (rfl) (rfl) dX8_reckon_52 hQ
        · skip
          refine lv_bipush (v := -2) hx hb dX8_reckon_34 (by decide) ?_
          have hok : ¬ (inI w 4 = true ∧ inI (nI i) 6 = true ∧ inI (nI j) 6 = true ∧ inI tt 6 = true) := fun e8 => by have e7 := e8.2.2.2; rw [bI_eq0 h31] at e7; exact absurd e7 (by decide)
          exact zreti hF hB (o, nu) (⟨by unfold rkV; rw [if_pos hok], fun k9 hk9 => by unfold rkV; rw [if_pos hok]; rfl⟩) (rfl) (rfl) dX8_reckon_36 hQ
