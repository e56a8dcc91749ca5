set_option maxHeartbeats 4000000 in
set_option maxRecDepth 100000 in
theorem c_X8_lacks (l : Launch) (D : va_G) (ka : Nat → ClassId) (kb : Nat → Nat) (q : Nat) (ad : Nat → Nat) (o : Bool) (z : mZ) (sz : Nat → Int32) (a : Nat) (ii : Int32) (ha : a < 4) (hsz : okSz sz) : zI l D ka kb yX8_lacks cX8_lacks 3 .int 1 25 [.ref q, .int (nI a), .int ii] ([(q, .inr (8, mO ad o z)), ((ad 0), .inl (ka 0, 4, .inl sz))]) (fun (r : Int32) (_ : Unit) => r = if lkF (sz a) ii 1 = 0 then 0 else -10 - lkF (sz a) ii 1) (fun (_ : Unit) => [(q, .inr (8, mX ad (bI o) (laF (lkF (sz a) ii 1) z.1) z.2.1 z.2.2.1 z.2.2.2.1 z.2.2.2.2.1 z.2.2.2.2.2.1 z.2.2.2.2.2.2.1 z.2.2.2.2.2.2.2)), ((ad 0), .inl (ka 0, 4, .inl sz))]) := by
  refine zI.mk RX8 (by decide +kernel) rfl (Nat.le_of_ble_eq_true rfl) ?_
  intro p e s m below meth c A ls args Q hQ hx hb hF hB hl
  replace hl : lv_has ls 3 [(0, .ref q), (1, .int (nI a)), (2, .int ii)] := hl
  refine lv_aload_n hx hb dX8_lacks_0 rfl (lv_at hl 0 rfl) ?_
  refine zget zf_X8_7 hF hB 0 rfl rfl dX8_lacks_1 ?_
  refine lv_iload_n hx hb dX8_lacks_4 rfl (lv_at hl 1 rfl) ?_
  refine ziald hF hB 1 rfl a (rfl) (by omega) (by decide) (v := (sz a)) (rfl) dX8_lacks_5 ?_
  refine lv_iconst (v := -1) hx hb dX8_lacks_6 (by decide) ?_
  refine lv_icmp_ne (tgt := 18) hx hb dX8_lacks_7 (by decide) (fun h7 => ?_) (fun h7 => ?_)
  · skip
    have hs9 : 0 ≤ (sz a).toInt ∧ (sz a).toInt ≤ 40 := (hsz a ha).resolve_left h7
    refine lv_iload_n hx hb dX8_lacks_18 rfl (lv_at hl 2 rfl) ?_
    refine lv_i2l (v := ii.toInt64) hx hb dX8_lacks_19 rfl ?_
    refine lv_lconst (v := 0) hx hb dX8_lacks_20 (by decide) ?_
    refine lv_aload_n hx hb dX8_lacks_21 rfl (lv_at hl 0 rfl) ?_
    refine zget zf_X8_7 hF hB 0 rfl rfl dX8_lacks_22 ?_
    refine lv_iload_n hx hb dX8_lacks_25 rfl (lv_at hl 1 rfl) ?_
    refine ziald hF hB 1 rfl a (rfl) (by omega) (by decide) (v := (sz a)) (rfl) dX8_lacks_26 ?_
    refine lv_iconst (v := 1) hx hb dX8_lacks_27 (by decide) ?_
    refine lv_isub hx hb dX8_lacks_28 ?_
    refine ztopi (y := sz a - 1) (rfl) ?_
    refine lv_i2l (v := (sz a - 1).toInt64) hx hb dX8_lacks_29 rfl ?_
    refine zSi zm_X8_72 hF hB (c_X8_in l D ka kb ii.toInt64 (0 : Int64) ((sz a - 1).toInt64) ) [] rfl (by decide) [] (fun _ => rfl) rfl rfl ⟨Nat.le_of_ble_eq_true rfl, Nat.le_of_ble_eq_true rfl⟩ rfl hl.1 (Nat.le_of_ble_eq_true rfl) ⟨Nat.le_refl _, Nat.le_refl _⟩ dX8_lacks_30 ?_
    clear hB
    try clear locs
    try clear H
    intro r1 u1 H locs hp hB
    obtain rfl : r1 = bI (zin ii.toInt64 (0 : Int64) ((sz a - 1).toInt64)) := hp
    replace hB : zB D A s ([(q, .inr (8, mO ad o z)), ((ad 0), .inl (ka 0, 4, .inl sz))]) H locs := hB
    refine lv_if_eq (tgt := 40) hx hb dX8_lacks_33 (by decide) (fun h33 => ?_) (fun h33 => ?_)
    · skip
      have hf : lkF (sz a) ii 1 = 2 := by
        rw [lkF, if_neg h7, if_neg]
        intro e8
        have e9 := dB_t.mp e8
        have e7 := dB_f.mp (bI_eq0 h33)
        apply e7
        rw [Int64.le_iff_toInt_le, Int64.le_iff_toInt_le, i32_w, i32_w, i32_sub (by have e6 : (1 : Int32).toInt = 1 := rfl; omega), show (0 : Int64).toInt = 0 from rfl, show (1 : Int32).toInt = 1 from rfl]
        omega
      refine lv_aload_n hx hb dX8_lacks_40 rfl (lv_at hl 0 rfl) ?_
      refine lv_iconst (v := 2) hx hb dX8_lacks_41 (by decide) ?_
      refine zVi zm_X8_89 hF hB (c_X8_finds l D ka kb q ad o z (2 : Int32) ) [0] rfl (by decide) [q] (fun _ => rfl) rfl 0 8 rfl rfl rfl ⟨Nat.le_of_ble_eq_true rfl, Nat.le_of_ble_eq_true rfl⟩ rfl hl.1 (Nat.le_of_ble_eq_true rfl) ⟨Nat.le_refl _, Nat.le_refl _⟩ dX8_lacks_42 ?_
      clear hB
      try clear locs
      try clear H
      intro r2 u2 H locs hp hB
      obtain rfl : r2 = (-10 : Int32) - (2 : Int32) := hp
      replace hB : zB D A s ([(q, .inr (8, mX ad (bI o) (2 : Int32) z.2.1 z.2.2.1 z.2.2.2.1 z.2.2.2.2.1 z.2.2.2.2.2.1 z.2.2.2.2.2.2.1 z.2.2.2.2.2.2.2)), ((ad 0), .inl (ka 0, 4, .inl sz))]) H locs := hB
      exact zreti hF hB () (by rw [hf] <;> rfl) (by rw [hf] <;> rfl) (rfl) dX8_lacks_45 hQ
    · skip
      have hf : lkF (sz a) ii 1 = 0 := by
        rw [lkF, if_neg h7, if_pos]
        have e7 := dB_t.mp (bI_ne0 h33)
        rw [Int64.le_iff_toInt_le, Int64.le_iff_toInt_le, i32_w, i32_w, i32_sub (by have e6 : (1 : Int32).toInt = 1 := rfl; omega), show (0 : Int64).toInt = 0 from rfl, show (1 : Int32).toInt = 1 from rfl] at e7
        exact dB_t.mpr (by omega)
      refine lv_iconst (v := 0) hx hb dX8_lacks_36 (by decide) ?_
      refine lv_goto (tgt := 45) hx hb dX8_lacks_37 (by decide) ?_
      exact zreti hF hB () (by rw [hf] <;> rfl) (by rw [hf] <;> rfl) (rfl) dX8_lacks_45 hQ
  · skip
    have hf : lkF (sz a) ii 1 = 1 := by rw [lkF, if_pos h7]
    refine lv_aload_n hx hb dX8_lacks_10 rfl (lv_at hl 0 rfl) ?_
    refine lv_iconst (v := 1) hx hb dX8_lacks_11 (by decide) ?_
    refine zVi zm_X8_89 hF hB (c_X8_finds l D ka kb q ad o z (1 : Int32) ) [0] rfl (by decide) [q] (fun _ => rfl) rfl 0 8 rfl rfl rfl ⟨Nat.le_of_ble_eq_true rfl, Nat.le_of_ble_eq_true rfl⟩ rfl hl.1 (Nat.le_of_ble_eq_true rfl) ⟨Nat.le_refl _, Nat.le_refl _⟩ dX8_lacks_12 ?_
    clear hB
    try clear locs
    try clear H
    intro r3 u3 H locs hp hB
    obtain rfl : r3 = (-10 : Int32) - (1 : Int32) := hp
    replace hB : zB D A s ([(q, .inr (8, mX ad (bI o) (1 : Int32) z.2.1 z.2.2.1 z.2.2.2.1 z.2.2.2.2.1 z.2.2.2.2.2.1 z.2.2.2.2.2.2.1 z.2.2.2.2.2.2.2)), ((ad 0), .inl (ka 0, 4, .inl sz))]) H locs := hB
    refine lv_goto (tgt := 45) hx hb dX8_lacks_15 (by decide) ?_
    exact zreti hF hB () (by rw [hf] <;> rfl) (by rw [hf] <;> rfl) (rfl) dX8_lacks_45 hQ

set_option maxHeartbeats 4000000 in
set_option maxRecDepth 100000 in
theorem c_X8_read (l : Launch) (D : va_G) (ka : Nat → ClassId) (kb : Nat → Nat) (q : Nat) (ad : Nat → Nat) (o : Bool) (z : mZ) (nu : Nat → Int64) (sz : Nat → Int32) (it : Nat → Int64) (rr : Int32) (ss : Int32) (ii : Int32) (hsz : okSz sz) : zI l D ka kb yX8_read cX8_read 5 .int 2 63 [.ref q, .int rr, .int ss, .int ii] ([(q, .inr (8, mO ad o z)), ((ad 3), .inl (ka 1, 200, .inr (.inl nu))), ((ad 0), .inl (ka 0, 4, .inl sz)), ((ad 1), .inl (ka 1, 160, .inr (.inl it)))]) (fun (r : Int32) (nu2 : Nat → Int64) => r = rdA rr ss ii sz ∧ ∀ k9, k9 < 30 → getN nu2 k9 = upG (getN nu) (rdU rr ss ii sz (itM it)) k9) (fun (nu2 : Nat → Int64) => [(q, .inr (8, mX ad (bI o) (laF (rdF rr ss ii sz) z.1) z.2.1 z.2.2.1 z.2.2.2.1 z.2.2.2.2.1 z.2.2.2.2.2.1 z.2.2.2.2.2.2.1 z.2.2.2.2.2.2.2)), ((ad 3), .inl (ka 1, 200, .inr (.inl nu2))), ((ad 0), .inl (ka 0, 4, .inl sz)), ((ad 1), .inl (ka 1, 160, .inr (.inl it)))]) := by
  refine zI.mk RX8 (by decide +kernel) rfl (Nat.le_of_ble_eq_true rfl) ?_
  intro p e s m below meth c A ls args Q hQ hx hb hF hB hl
  replace hl : lv_has ls 5 [(0, .ref q), (1, .int rr), (2, .int ss), (3, .int ii)] := hl
  refine lv_iload_n hx hb dX8_read_0 rfl (lv_at hl 1 rfl) ?_
  refine zSi zm_X8_162 hF hB (c_X8_isRegister l D ka kb rr ) [] rfl (by decide) [] (fun _ => rfl) rfl rfl ⟨Nat.le_of_ble_eq_true rfl, Nat.le_of_ble_eq_true rfl⟩ rfl hl.1 (Nat.le_of_ble_eq_true rfl) ⟨Nat.le_refl _, Nat.le_refl _⟩ dX8_read_1 ?_
  clear hB
  try clear locs
  try clear H
  intro r1 u1 H locs hp hB
  obtain rfl : r1 = bI (inI rr 6) := hp
  replace hB : zB D A s ([(q, .inr (8, mO ad o z)), ((ad 3), .inl (ka 1, 200, .inr (.inl nu))), ((ad 0), .inl (ka 0, 4, .inl sz)), ((ad 1), .inl (ka 1, 160, .inr (.inl it)))]) H locs := hB
  refine lv_if_eq (tgt := 14) hx hb dX8_read_4 (by decide) (fun h4 => ?_) (fun h4 => ?_)
  · skip
    refine lv_bipush (v := -2) hx hb dX8_read_14 (by decide) ?_
    have hok : ¬ (inI rr 6 = true ∧ inI ss 4 = true) := fun e8 => by rw [bI_eq0 h4] at e8; exact absurd e8.1 (by decide)
    exact zreti hF hB nu (⟨by rw [rdA, if_pos hok], fun k9 hk9 => by rw [rdU, if_pos hok]; rfl⟩) (by rw [rdF, if_pos hok] <;> rfl) (rfl) dX8_read_16 hQ
  · skip
    have hi1 : inI rr 6 = true := bI_ne0 h4
    obtain ⟨i, hi2, hi3⟩ := inI_of hi1 (by decide)
    subst hi3
    refine lv_iload_n hx hb dX8_read_7 rfl (lv_at hl 2 rfl) ?_
    refine zSi zm_X8_85 hF hB (c_X8_isSheet l D ka kb ss ) [] rfl (by decide) [] (fun _ => rfl) rfl rfl ⟨Nat.le_of_ble_eq_true rfl, Nat.le_of_ble_eq_true rfl⟩ rfl hl.1 (Nat.le_of_ble_eq_true rfl) ⟨Nat.le_refl _, Nat.le_refl _⟩ dX8_read_8 ?_
    clear hB
    try clear locs
    try clear H
    intro r2 u2 H locs hp hB
    obtain rfl : r2 = bI (inI ss 4) := hp
    replace hB : zB D A s ([(q, .inr (8, mO ad o z)), ((ad 3), .inl (ka 1, 200, .inr (.inl nu))), ((ad 0), .inl (ka 0, 4, .inl sz)), ((ad 1), .inl (ka 1, 160, .inr (.inl it)))]) H locs := hB
    refine lv_if_ne (tgt := 17) hx hb dX8_read_11 (by decide) (fun h11 => ?_) (fun h11 => ?_)
    · skip
      have ha1 : inI ss 4 = true := bI_ne0 h11
      obtain ⟨a, ha2, ha3⟩ := inI_of ha1 (by decide)
      subst ha3
      have hok : ¬ ¬ (inI (nI i) 6 = true ∧ inI (nI a) 4 = true) := not_not_intro ⟨hi1, ha1⟩
      have ri : (nI i).toInt.toNat = i := by rw [nI_toInt (by omega)]; rfl
      have ra : (nI a).toInt.toNat = a := by rw [nI_toInt (by omega)]; rfl
      refine lv_aload_n hx hb dX8_read_17 rfl (lv_at hl 0 rfl) ?_
      refine zget zf_X8_7 hF hB 0 rfl rfl dX8_read_18 ?_
      refine lv_iload_n hx hb dX8_read_21 rfl (lv_at hl 2 rfl) ?_
      refine ziald hF hB 2 rfl a (rfl) (by omega) (by decide) (v := (sz a)) (rfl) dX8_read_22 ?_
      refine lv_iconst (v := -1) hx hb dX8_read_23 (by decide) ?_
      refine lv_icmp_ne (tgt := 33) hx hb dX8_read_24 (by decide) (fun h24 => ?_) (fun h24 => ?_)
      · skip
        refine lv_iload_n hx hb dX8_read_33 rfl (lv_at hl 3 rfl) ?_
        refine lv_if_lt (tgt := 54) hx hb dX8_read_34 (by decide) (fun h34 => ?_) (fun h34 => ?_)
        · skip
          have hf : lkF (sz a) ii 4 = 2 := lkF_is2 h24 (fun e8 => by have e9 := (i32_lt_i _ _).mp h34; have e6 : (0 : Int32).toInt = 0 := rfl; omega)
          refine lv_aload_n hx hb dX8_read_54 rfl (lv_at hl 0 rfl) ?_
          refine lv_iconst (v := 2) hx hb dX8_read_55 (by decide) ?_
          refine zVi zm_X8_89 hF hB (c_X8_finds l D ka kb q ad o z (2 : Int32) ) [0] rfl (by decide) [q] (fun _ => rfl) rfl 0 8 rfl rfl rfl ⟨Nat.le_of_ble_eq_true rfl, Nat.le_of_ble_eq_true rfl⟩ rfl hl.1 (Nat.le_of_ble_eq_true rfl) ⟨Nat.le_refl _, Nat.le_refl _⟩ dX8_read_56 ?_
          clear hB
          try clear locs
          try clear H
          intro r3 u3 H locs hp hB
          obtain rfl : r3 = (-10 : Int32) - (2 : Int32) := hp
          replace hB : zB D A s ([(q, .inr (8, mX ad (bI o) (2 : Int32) z.2.1 z.2.2.1 z.2.2.2.1 z.2.2.2.2.1 z.2.2.2.2.2.1 z.2.2.2.2.2.2.1 z.2.2.2.2.2.2.2)), ((ad 3), .inl (ka 1, 200, .inr (.inl nu))), ((ad 0), .inl (ka 0, 4, .inl sz)), ((ad 1), .inl (ka 1, 160, .inr (.inl it)))]) H locs := hB
          exact zreti hF hB nu (⟨by rw [rdA, if_neg hok, ra, hf] <;> rfl, fun k9 hk9 => by rw [rdU, if_neg hok, ra, hf, if_neg (by decide)]; rfl⟩) (by rw [rdF, if_neg hok, ra, hf] <;> rfl) (rfl) dX8_read_59 hQ
        · skip
          refine lv_iload_n hx hb dX8_read_37 rfl (lv_at hl 3 rfl) ?_
          refine lv_i2l (v := ii.toInt64) hx hb dX8_read_38 rfl ?_
          refine zldc2 (v := (4 : Int64)) ww_9_15 hF dX8_read_39 ?_
          refine lv_ladd hx hb dX8_read_42 ?_
          refine lv_aload_n hx hb dX8_read_43 rfl (lv_at hl 0 rfl) ?_
          refine zget zf_X8_7 hF hB 0 rfl rfl dX8_read_44 ?_
          refine lv_iload_n hx hb dX8_read_47 rfl (lv_at hl 2 rfl) ?_
          refine ziald hF hB 2 rfl a (rfl) (by omega) (by decide) (v := (sz a)) (rfl) dX8_read_48 ?_
          refine lv_i2l (v := (sz a).toInt64) hx hb dX8_read_49 rfl ?_
          refine W.lcmp hx hb dX8_read_50 ?_
          refine lv_if_le (tgt := 60) hx hb dX8_read_51 (by decide) (fun h51 => ?_) (fun h51 => ?_)
          · skip
            replace h51 := (lg_cmp_le _ _).mp h51
            have hf : lkF (sz a) ii 4 = 0 := lkF_is0 h24 (by
              have e7 := (i64_le_i _ _).mp h51
              have e8 := mt (i32_lt_i _ _).mpr h34
              rw [show (4 : Int64) = (4 : Int32).toInt64 from rfl, i64_w_add, i32_w] at e7
              exact ⟨by have e9 : (0 : Int32).toInt = 0 := rfl; omega, e7⟩)
            have hs9 := (hsz a (by omega)).resolve_left h24
            have hii := lkF_0 hf
            obtain ⟨x, hxl, hxe, hxi, hxn⟩ := i32_nat (x := ii) (n := 40) hii.2.1 (by omega)
            refine lv_bipush (v := 40) hx hb dX8_read_60 (by decide) ?_
            refine lv_iload_n hx hb dX8_read_62 rfl (lv_at hl 2 rfl) ?_
            refine lv_imul hx hb dX8_read_63 ?_
            refine ztopi (y := nI (40 * a)) (pk_mul 40 a) ?_
            refine lv_iload_n hx hb dX8_read_64 rfl (lv_at hl 3 rfl) ?_
            refine ztopi (y := nI x) (hxe) ?_
            refine lv_iadd hx hb dX8_read_65 ?_
            refine ztopi (y := nI ((40 * a) + x)) (nI_add (40 * a) x) ?_
            refine lv_istore (lv' := [(4, .int (nI ((40 * a) + x))), (0, .ref q), (1, .int (nI i)), (2, .int (nI a)), (3, .int ii)]) hx hb dX8_read_66 hl (by decide) rfl ?_
            clear hl
            clear ls
            intro ls hl
            refine lv_aload_n hx hb dX8_read_68 rfl (lv_at hl 1 rfl) ?_
            refine lv_iload_n hx hb dX8_read_69 rfl (lv_at hl 2 rfl) ?_
            refine lv_aload_n hx hb dX8_read_70 rfl (lv_at hl 1 rfl) ?_
            refine zget zf_X8_13 hF hB 0 rfl rfl dX8_read_71 ?_
            refine lv_iload hx hb dX8_read_74 (lv_at hl 0 rfl) ?_
            refine zlald hF hB 3 rfl ((40 * a) + x) (rfl) (by omega) (by decide) (v := (it ((40 * a) + x))) (rfl) dX8_read_76 ?_
            refine lv_aload_n hx hb dX8_read_77 rfl (lv_at hl 1 rfl) ?_
            refine zget zf_X8_13 hF hB 0 rfl rfl dX8_read_78 ?_
            refine lv_iload hx hb dX8_read_81 (lv_at hl 0 rfl) ?_
            refine lv_iconst (v := 1) hx hb dX8_read_83 (by decide) ?_
            refine lv_iadd hx hb dX8_read_84 ?_
            refine ztopi (y := nI (((40 * a) + x) + 1)) (nI_add ((40 * a) + x) 1) ?_
            refine zlald hF hB 3 rfl (((40 * a) + x) + 1) (rfl) (by omega) (by decide) (v := (it (((40 * a) + x) + 1))) (rfl) dX8_read_85 ?_
            refine lv_aload_n hx hb dX8_read_86 rfl (lv_at hl 1 rfl) ?_
            refine zget zf_X8_13 hF hB 0 rfl rfl dX8_read_87 ?_
            refine lv_iload hx hb dX8_read_90 (lv_at hl 0 rfl) ?_
            refine lv_iconst (v := 2) hx hb dX8_read_92 (by decide) ?_
            refine lv_iadd hx hb dX8_read_93 ?_
            refine ztopi (y := nI (((40 * a) + x) + 2)) (nI_add ((40 * a) + x) 2) ?_
            refine zlald hF hB 3 rfl (((40 * a) + x) + 2) (rfl) (by omega) (by decide) (v := (it (((40 * a) + x) + 2))) (rfl) dX8_read_94 ?_
            refine lv_aload_n hx hb dX8_read_95 rfl (lv_at hl 1 rfl) ?_
            refine zget zf_X8_13 hF hB 0 rfl rfl dX8_read_96 ?_
            refine lv_iload hx hb dX8_read_99 (lv_at hl 0 rfl) ?_
            refine lv_iconst (v := 3) hx hb dX8_read_101 (by decide) ?_
            refine lv_iadd hx hb dX8_read_102 ?_
            refine ztopi (y := nI (((40 * a) + x) + 3)) (nI_add ((40 * a) + x) 3) ?_
            refine zlald hF hB 3 rfl (((40 * a) + x) + 3) (rfl) (by omega) (by decide) (v := (it (((40 * a) + x) + 3))) (rfl) dX8_read_103 ?_
            refine lv_lconst (v := 1) hx hb dX8_read_104 (by decide) ?_
            refine zVv zm_X8_134 hF hB (c_X8_lays l D ka kb q ad o z nu i (it ((40 * a) + x)) (it (((40 * a) + x) + 1)) (it (((40 * a) + x) + 2)) (it (((40 * a) + x) + 3)) (1 : Int64) (by omega) (by decide)) [0, 1] rfl (by decide) [q, (ad 3)] (fun _ => rfl) rfl 0 8 rfl rfl rfl ⟨Nat.le_of_ble_eq_true rfl, Nat.le_of_ble_eq_true rfl⟩ rfl hl.1 (Nat.le_of_ble_eq_true rfl) ⟨Nat.le_refl _, Nat.le_refl _⟩ dX8_read_105 ?_
            clear hB
            try clear locs
            try clear H
            intro u4 H locs hp hB
            replace hB : zB D A s ([(q, .inr (8, mO ad o z)), ((ad 3), .inl (ka 1, 200, .inr (.inl (setN nu i (lowN (it ((40 * a) + x)) (it (((40 * a) + x) + 1)) (it (((40 * a) + x) + 2)) (it (((40 * a) + x) + 3)) (1 : Int64)))))), ((ad 0), .inl (ka 0, 4, .inl sz)), ((ad 1), .inl (ka 1, 160, .inr (.inl it)))]) H locs := hB
            refine lv_iconst (v := 1) hx hb dX8_read_108 (by decide) ?_
            exact zreti hF hB _ (⟨by rw [rdA, if_neg hok, ra, hf] <;> rfl, fun k9 hk9 => by
                rw [rdU, if_neg hok, ra, hf, if_pos rfl, ri, hxn]
                show getN (setN nu i (lowN _ _ _ _ 1)) k9 = if k9 = i then _ else getN nu k9
                by_cases e8 : k9 = i
                · rw [if_pos e8, e8, getN_same, lowN_1]; rfl
                · rw [if_neg e8, getN_ne _ _ _ _ e8]⟩) (by rw [rdF, if_neg hok, ra, hf] <;> rfl) (rfl) dX8_read_109 hQ
          · skip
            replace h51 := (fun e9 => h51 ((lg_cmp_le _ _).mpr e9))
            have hf : lkF (sz a) ii 4 = 2 := lkF_is2 h24 (by
              have e7 := mt (i64_le_i _ _).mpr h51
              rw [show (4 : Int64) = (4 : Int32).toInt64 from rfl, i64_w_add, i32_w] at e7
              exact fun e8 => e7 e8.2)
            refine lv_aload_n hx hb dX8_read_54 rfl (lv_at hl 0 rfl) ?_
            refine lv_iconst (v := 2) hx hb dX8_read_55 (by decide) ?_
            refine zVi zm_X8_89 hF hB (c_X8_finds l D ka kb q ad o z (2 : Int32) ) [0] rfl (by decide) [q] (fun _ => rfl) rfl 0 8 rfl rfl rfl ⟨Nat.le_of_ble_eq_true rfl, Nat.le_of_ble_eq_true rfl⟩ rfl hl.1 (Nat.le_of_ble_eq_true rfl) ⟨Nat.le_refl _, Nat.le_refl _⟩ dX8_read_56 ?_
            clear hB
            try clear locs
            try clear H
            intro r5 u5 H locs hp hB
            obtain rfl : r5 = (-10 : Int32) - (2 : Int32) := hp
            replace hB : zB D A s ([(q, .inr (8, mX ad (bI o) (2 : Int32) z.2.1 z.2.2.1 z.2.2.2.1 z.2.2.2.2.1 z.2.2.2.2.2.1 z.2.2.2.2.2.2.1 z.2.2.2.2.2.2.2)), ((ad 3), .inl (ka 1, 200, .inr (.inl nu))), ((ad 0), .inl (ka 0, 4, .inl sz)), ((ad 1), .inl (ka 1, 160, .inr (.inl it)))]) H locs := hB
            exact zreti hF hB nu (⟨by rw [rdA, if_neg hok, ra, hf] <;> rfl, fun k9 hk9 => by rw [rdU, if_neg hok, ra, hf, if_neg (by decide)]; rfl⟩) (by rw [rdF, if_neg hok, ra, hf] <;> rfl) (rfl) dX8_read_59 hQ
      · skip
        have hf : lkF (sz a) ii 4 = 1 := lkF_is1 h24
        refine lv_aload_n hx hb dX8_read_27 rfl (lv_at hl 0 rfl) ?_
        refine lv_iconst (v := 1) hx hb dX8_read_28 (by decide) ?_
        refine zVi zm_X8_89 hF hB (c_X8_finds l D ka kb q ad o z (1 : Int32) ) [0] rfl (by decide) [q] (fun _ => rfl) rfl 0 8 rfl rfl rfl ⟨Nat.le_of_ble_eq_true rfl, Nat.le_of_ble_eq_true rfl⟩ rfl hl.1 (Nat.le_of_ble_eq_true rfl) ⟨Nat.le_refl _, Nat.le_refl _⟩ dX8_read_29 ?_
        clear hB
        try clear locs
        try clear H
        intro r6 u6 H locs hp hB
        obtain rfl : r6 = (-10 : Int32) - (1 : Int32) := hp
        replace hB : zB D A s ([(q, .inr (8, mX ad (bI o) (1 : Int32) z.2.1 z.2.2.1 z.2.2.2.1 z.2.2.2.2.1 z.2.2.2.2.2.1 z.2.2.2.2.2.2.1 z.2.2.2.2.2.2.2)), ((ad 3), .inl (ka 1, 200, .inr (.inl nu))), ((ad 0), .inl (ka 0, 4, .inl sz)), ((ad 1), .inl (ka 1, 160, .inr (.inl it)))]) H locs := hB
        exact zreti hF hB nu (⟨by rw [rdA, if_neg hok, ra, hf] <;> rfl, fun k9 hk9 => by rw [rdU, if_neg hok, ra, hf, if_neg (by decide)]; rfl⟩) (by rw [rdF, if_neg hok, ra, hf] <;> rfl) (rfl) dX8_read_32 hQ
    · skip
      refine lv_bipush (v := -2) hx hb dX8_read_14 (by decide) ?_
      have hok : ¬ (inI (nI i) 6 = true ∧ inI ss 4 = true) := fun e8 => by rw [bI_eq0 h11] at e8; exact absurd e8.2 (by decide)
      exact zreti hF hB nu (⟨by rw [rdA, if_pos hok], fun k9 hk9 => by rw [rdU, if_pos hok]; rfl⟩) (by rw [rdF, if_pos hok] <;> rfl) (rfl) dX8_read_16 hQ

set_option maxHeartbeats 4000000 in
set_option maxRecDepth 100000 in
theorem c_X8_part (l : Launch) (D : va_G) (ka : Nat → ClassId) (kb : Nat → Nat) (q : Nat) (ad : Nat → Nat) (o : Bool) (z : mZ) (nu : Nat → Int64) (rr : Int32) (pp : Int32)  : zL l D ka kb yX8_part cX8_part 3 2 45 [.ref q, .int rr, .int pp] ([(q, .inr (8, mO ad o z)), ((ad 3), .inl (ka 1, 200, .inr (.inl nu)))]) (fun (r : Int64) (_ : Unit) => r = if inI rr 6 = true ∧ inI pp 5 = true then nu (5 * rr.toInt.toNat + pp.toInt.toNat) else lMin - (-2 : Int32).toInt64) (fun (_ : Unit) => [(q, .inr (8, mO ad o z)), ((ad 3), .inl (ka 1, 200, .inr (.inl nu)))]) := by
  refine zL.mk RX8 (by decide +kernel) rfl (Nat.le_of_ble_eq_true rfl) ?_
  intro p e s m below meth c A ls args Q hQ hx hb hF hB hl
  replace hl : lv_has ls 3 [(0, .ref q), (1, .int rr), (2, .int pp)] := hl
  refine lv_iload_n hx hb dX8_part_0 rfl (lv_at hl 1 rfl) ?_
  refine zSi zm_X8_162 hF hB (c_X8_isRegister l D ka kb rr ) [] rfl (by decide) [] (fun _ => rfl) rfl rfl ⟨Nat.le_of_ble_eq_true rfl, Nat.le_of_ble_eq_true rfl⟩ rfl hl.1 (Nat.le_of_ble_eq_true rfl) ⟨Nat.le_refl _, Nat.le_refl _⟩ dX8_part_1 ?_
  clear hB
  try clear locs
  try clear H
  intro r1 u1 H locs hp hB
  obtain rfl : r1 = bI (inI rr 6) := hp
  replace hB : zB D A s ([(q, .inr (8, mO ad o z)), ((ad 3), .inl (ka 1, 200, .inr (.inl nu)))]) H locs := hB
  refine lv_if_eq (tgt := 28) hx hb dX8_part_4 (by decide) (fun h4 => ?_) (fun h4 => ?_)
  · skip
    have hok : ¬ (inI rr 6 = true ∧ inI pp 5 = true) := fun e8 => by rw [bI_eq0 h4] at e8; exact absurd e8.1 (by decide)
    refine lv_bipush (v := -2) hx hb dX8_part_28 (by decide) ?_
    refine zSl zm_X8_99 hF hB (c_X8_no l D ka kb (-2 : Int32) ) [] rfl (by decide) [] (fun _ => rfl) rfl rfl ⟨Nat.le_of_ble_eq_true rfl, Nat.le_of_ble_eq_true rfl⟩ rfl hl.1 (Nat.le_of_ble_eq_true rfl) ⟨Nat.le_refl _, Nat.le_refl _⟩ dX8_part_30 ?_
    clear hB
    try clear locs
    try clear H
    intro r2 u2 H locs hp hB
    obtain rfl : r2 = lMin - (-2 : Int32).toInt64 := hp
    replace hB : zB D A s ([(q, .inr (8, mO ad o z)), ((ad 3), .inl (ka 1, 200, .inr (.inl nu)))]) H locs := hB
    exact zretl hF hB () (by rw [if_neg hok]) (rfl) dX8_part_33 hQ
  · skip
    have hi1 : inI rr 6 = true := bI_ne0 h4
    obtain ⟨i, hi2, hi3⟩ := inI_of hi1 (by decide)
    subst hi3
    refine lv_iload_n hx hb dX8_part_7 rfl (lv_at hl 2 rfl) ?_
    refine lv_i2l (v := pp.toInt64) hx hb dX8_part_8 rfl ?_
    refine lv_lconst (v := 0) hx hb dX8_part_9 (by decide) ?_
    refine zldc2 (v := (4 : Int64)) ww_9_15 hF dX8_part_10 ?_
    refine zSi zm_X8_72 hF hB (c_X8_in l D ka kb pp.toInt64 (0 : Int64) (4 : Int64) ) [] rfl (by decide) [] (fun _ => rfl) rfl rfl ⟨Nat.le_of_ble_eq_true rfl, Nat.le_of_ble_eq_true rfl⟩ rfl hl.1 (Nat.le_of_ble_eq_true rfl) ⟨Nat.le_refl _, Nat.le_refl _⟩ dX8_part_13 ?_
    clear hB
    try clear locs
    try clear H
    intro r3 u3 H locs hp hB
    obtain rfl : r3 = bI (zin pp.toInt64 (0 : Int64) (4 : Int64)) := hp
    replace hB : zB D A s ([(q, .inr (8, mO ad o z)), ((ad 3), .inl (ka 1, 200, .inr (.inl nu)))]) H locs := hB
    refine lv_if_eq (tgt := 28) hx hb dX8_part_16 (by decide) (fun h16 => ?_) (fun h16 => ?_)
    · skip
      have hok : ¬ (inI (nI i) 6 = true ∧ inI pp 5 = true) := fun e8 => by have e7 := e8.2; rw [← zin_inI pp 5 (by decide) (by decide)] at e7; exact absurd ((bI_eq0 h16).symm.trans e7) (by decide)
      refine lv_bipush (v := -2) hx hb dX8_part_28 (by decide) ?_
      refine zSl zm_X8_99 hF hB (c_X8_no l D ka kb (-2 : Int32) ) [] rfl (by decide) [] (fun _ => rfl) rfl rfl ⟨Nat.le_of_ble_eq_true rfl, Nat.le_of_ble_eq_true rfl⟩ rfl hl.1 (Nat.le_of_ble_eq_true rfl) ⟨Nat.le_refl _, Nat.le_refl _⟩ dX8_part_30 ?_
      clear hB
      try clear locs
      try clear H
      intro r4 u4 H locs hp hB
      obtain rfl : r4 = lMin - (-2 : Int32).toInt64 := hp
      replace hB : zB D A s ([(q, .inr (8, mO ad o z)), ((ad 3), .inl (ka 1, 200, .inr (.inl nu)))]) H locs := hB
      exact zretl hF hB () (by rw [if_neg hok]) (rfl) dX8_part_33 hQ
    · skip
      have hj1 : inI pp 5 = true := (zin_inI pp 5 (by decide) (by decide)).symm.trans (bI_ne0 h16)
      obtain ⟨j, hj2, hj3⟩ := inI_of hj1 (by decide)
      have hok : inI (nI i) 6 = true ∧ inI pp 5 = true := ⟨hi1, hj1⟩
      subst hj3
      refine lv_aload_n hx hb dX8_part_19 rfl (lv_at hl 0 rfl) ?_
      refine lv_iload_n hx hb dX8_part_20 rfl (lv_at hl 1 rfl) ?_
      refine lv_iload_n hx hb dX8_part_21 rfl (lv_at hl 2 rfl) ?_
      refine zVl zm_X8_120 hF hB (c_X8_at l D ka kb q ad o z nu i j (by first | assumption | omega | decide) (by first | assumption | omega | decide)) [0, 1] rfl (by decide) [q, (ad 3)] (fun _ => rfl) rfl 0 8 rfl rfl rfl ⟨Nat.le_of_ble_eq_true rfl, Nat.le_of_ble_eq_true rfl⟩ rfl hl.1 (Nat.le_of_ble_eq_true rfl) ⟨Nat.le_refl _, Nat.le_refl _⟩ dX8_part_22 ?_
      clear hB
      try clear locs
      try clear H
      intro r5 u5 H locs hp hB
      obtain rfl : r5 = nu (5 * i + j) := hp
      replace hB : zB D A s ([(q, .inr (8, mO ad o z)), ((ad 3), .inl (ka 1, 200, .inr (.inl nu)))]) H locs := hB
      refine lv_goto (tgt := 33) hx hb dX8_part_25 (by decide) ?_
      exact zretl hF hB () (by rw [if_pos hok, nI_toInt (by omega), nI_toInt (by omega)] <;> rfl) (rfl) dX8_part_33 hQ
