set_option maxHeartbeats 4000000 in
set_option maxRecDepth 100000 in
theorem c_X8_copy (l : Launch) (D : va_G) (ka : Nat → ClassId) (kb : Nat → Nat) (q : Nat) (ad : Nat → Nat) (o : Bool) (z : mZ) (sz : Nat → Int32) (it : Nat → Int64) (as9 : Nat → Int64) (ss : Int32) (ii : Int32) (tt : Int32) (jj : Int32) (nn : Int32) (hsz : okSz sz) : zI l D ka kb yX8_copy cX8_copy 7 .int 2 45 [.ref q, .int ss, .int ii, .int tt, .int jj, .int nn] ([(q, .inr (8, mO ad o z)), ((ad 0), .inl (ka 0, 4, .inl sz)), ((ad 1), .inl (ka 1, 160, .inr (.inl it))), ((ad 2), .inl (ka 1, 40, .inr (.inl as9)))]) (fun (r : Int32) (u : (Nat → Int64) × (Nat → Int64)) => r = cpA ss ii tt jj nn sz ∧ eqI (itM u.2) (cpI ss ii tt jj nn sz (itM it))) (fun (u : (Nat → Int64) × (Nat → Int64)) => [(q, .inr (8, mX ad (bI o) (laF (cpF ss ii tt jj nn sz) z.1) z.2.1 z.2.2.1 z.2.2.2.1 z.2.2.2.2.1 z.2.2.2.2.2.1 z.2.2.2.2.2.2.1 z.2.2.2.2.2.2.2)), ((ad 0), .inl (ka 0, 4, .inl sz)), ((ad 1), .inl (ka 1, 160, .inr (.inl u.2))), ((ad 2), .inl (ka 1, 40, .inr (.inl u.1)))]) := by
  refine zI.mk RX8 (by decide +kernel) rfl (Nat.le_of_ble_eq_true rfl) ?_
  intro p e s m below meth c A ls args Q hQ hx hb hF hB hl
  replace hl : lv_has ls 7 [(0, .ref q), (1, .int ss), (2, .int ii), (3, .int tt), (4, .int jj), (5, .int nn)] := hl
  refine lv_iload_n hx hb dX8_copy_0 rfl (lv_at hl 1 rfl) ?_
  refine zSi zm_X8_85 hF hB (c_X8_isSheet l D ka kb ss ) [] rfl (by decide) [] (fun _ => rfl) rfl rfl ⟨Nat.le_of_ble_eq_true rfl, Nat.le_of_ble_eq_true rfl⟩ rfl hl.1 (Nat.le_of_ble_eq_true rfl) ⟨Nat.le_refl _, Nat.le_refl _⟩ dX8_copy_1 ?_
  clear hB
  try clear locs
  try clear H
  intro r1 u1 H locs hp hB
  obtain rfl : r1 = bI (inI ss 4) := hp
  replace hB : zB D A s ([(q, .inr (8, mO ad o z)), ((ad 0), .inl (ka 0, 4, .inl sz)), ((ad 1), .inl (ka 1, 160, .inr (.inl it))), ((ad 2), .inl (ka 1, 40, .inr (.inl as9)))]) H locs := hB
  refine lv_if_eq (tgt := 14) hx hb dX8_copy_4 (by decide) (fun h4 => ?_) (fun h4 => ?_)
  · skip
    refine lv_bipush (v := -2) hx hb dX8_copy_14 (by decide) ?_
    have hok : ¬ (inI ss 4 = true ∧ inI tt 4 = true) := fun e8 => by rw [bI_eq0 h4] at e8; exact absurd e8.1 (by decide)
    exact zreti hF hB (as9, it) (⟨by rw [cpA, if_pos hok], fun a9 j9 h9 h8 => (if_neg (fun e9 => hok ⟨e9.1.1, e9.1.2.1⟩)).symm⟩) (by rw [cpF, if_pos hok] <;> rfl) (rfl) dX8_copy_16 hQ
  · skip
    have ha1 : inI ss 4 = true := bI_ne0 h4
    obtain ⟨a, ha2, ha3⟩ := inI_of ha1 (by decide)
    subst ha3
    have ra : (nI a).toInt.toNat = a := by rw [nI_toInt (by omega)]; rfl
    refine lv_iload_n hx hb dX8_copy_7 rfl (lv_at hl 3 rfl) ?_
    refine zSi zm_X8_85 hF hB (c_X8_isSheet l D ka kb tt ) [] rfl (by decide) [] (fun _ => rfl) rfl rfl ⟨Nat.le_of_ble_eq_true rfl, Nat.le_of_ble_eq_true rfl⟩ rfl hl.1 (Nat.le_of_ble_eq_true rfl) ⟨Nat.le_refl _, Nat.le_refl _⟩ dX8_copy_8 ?_
    clear hB
    try clear locs
    try clear H
    intro r2 u2 H locs hp hB
    obtain rfl : r2 = bI (inI tt 4) := hp
    replace hB : zB D A s ([(q, .inr (8, mO ad o z)), ((ad 0), .inl (ka 0, 4, .inl sz)), ((ad 1), .inl (ka 1, 160, .inr (.inl it))), ((ad 2), .inl (ka 1, 40, .inr (.inl as9)))]) H locs := hB
    refine lv_if_ne (tgt := 17) hx hb dX8_copy_11 (by decide) (fun h11 => ?_) (fun h11 => ?_)
    · skip
      have hb1 : inI tt 4 = true := bI_ne0 h11
      obtain ⟨b, hb2, hb3⟩ := inI_of hb1 (by decide)
      subst hb3
      have rb : (nI b).toInt.toNat = b := by rw [nI_toInt (by omega)]; rfl
      have hok : ¬ ¬ (inI (nI a) 4 = true ∧ inI (nI b) 4 = true) := not_not_intro ⟨ha1, hb1⟩
      refine lv_aload_n hx hb dX8_copy_17 rfl (lv_at hl 0 rfl) ?_
      refine zget zf_X8_7 hF hB 0 rfl rfl dX8_copy_18 ?_
      refine lv_iload_n hx hb dX8_copy_21 rfl (lv_at hl 1 rfl) ?_
      refine ziald hF hB 1 rfl a (rfl) (by omega) (by decide) (v := (sz a)) (rfl) dX8_copy_22 ?_
      refine lv_iconst (v := -1) hx hb dX8_copy_23 (by decide) ?_
      refine lv_icmp_eq (tgt := 37) hx hb dX8_copy_24 (by decide) (fun h24 => ?_) (fun h24 => ?_)
      · skip
        have hf : cpF (nI a) ii (nI b) jj nn sz = 1 := by rw [cpF, if_neg hok, ra, rb, if_pos (Or.inl h24)]
        refine lv_aload_n hx hb dX8_copy_37 rfl (lv_at hl 0 rfl) ?_
        refine lv_iconst (v := 1) hx hb dX8_copy_38 (by decide) ?_
        refine zVi zm_X8_89 hF hB (c_X8_finds l D ka kb q ad o z (1 : Int32) ) [0] rfl (by decide) [q] (fun _ => rfl) rfl 0 8 rfl rfl rfl ⟨Nat.le_of_ble_eq_true rfl, Nat.le_of_ble_eq_true rfl⟩ rfl hl.1 (Nat.le_of_ble_eq_true rfl) ⟨Nat.le_refl _, Nat.le_refl _⟩ dX8_copy_39 ?_
        clear hB
        try clear locs
        try clear H
        intro r3 u3 H locs hp hB
        obtain rfl : r3 = (-10 : Int32) - (1 : Int32) := hp
        replace hB : zB D A s ([(q, .inr (8, mX ad (bI o) (1 : Int32) z.2.1 z.2.2.1 z.2.2.2.1 z.2.2.2.2.1 z.2.2.2.2.2.1 z.2.2.2.2.2.2.1 z.2.2.2.2.2.2.2)), ((ad 0), .inl (ka 0, 4, .inl sz)), ((ad 1), .inl (ka 1, 160, .inr (.inl it))), ((ad 2), .inl (ka 1, 40, .inr (.inl as9)))]) H locs := hB
        exact zreti hF hB (as9, it) (⟨by rw [cpA, if_neg hok, hf] <;> rfl, fun a9 j9 h9 h8 => (if_neg (fun e9 => by have := e9.1.2.2; rw [hf] at this; exact absurd this (by decide))).symm⟩) (by rw [hf] <;> rfl) (rfl) dX8_copy_42 hQ
      · skip
        refine lv_aload_n hx hb dX8_copy_27 rfl (lv_at hl 0 rfl) ?_
        refine zget zf_X8_7 hF hB 0 rfl rfl dX8_copy_28 ?_
        refine lv_iload_n hx hb dX8_copy_31 rfl (lv_at hl 3 rfl) ?_
        refine ziald hF hB 1 rfl b (rfl) (by omega) (by decide) (v := (sz b)) (rfl) dX8_copy_32 ?_
        refine lv_iconst (v := -1) hx hb dX8_copy_33 (by decide) ?_
        refine lv_icmp_ne (tgt := 43) hx hb dX8_copy_34 (by decide) (fun h34 => ?_) (fun h34 => ?_)
        · skip
          have hs1 : ¬ (sz a = -1 ∨ sz b = -1) := fun e8 => e8.elim h24 h34
          refine lv_iload_n hx hb dX8_copy_43 rfl (lv_at hl 2 rfl) ?_
          refine lv_if_lt (tgt := 92) hx hb dX8_copy_44 (by decide) (fun h44 => ?_) (fun h44 => ?_)
          · skip
            have hf : cpF (nI a) ii (nI b) jj nn sz = 2 := by rw [cpF, if_neg hok, ra, rb, if_neg hs1, if_neg (fun e8 => by have e9 := dB_t.mp e8; have e7 := (i32_lt_i _ _).mp h44; have e6 : (0 : Int32).toInt = 0 := rfl; omega)]
            refine lv_aload_n hx hb dX8_copy_92 rfl (lv_at hl 0 rfl) ?_
            refine lv_iconst (v := 2) hx hb dX8_copy_93 (by decide) ?_
            refine zVi zm_X8_89 hF hB (c_X8_finds l D ka kb q ad o z (2 : Int32) ) [0] rfl (by decide) [q] (fun _ => rfl) rfl 0 8 rfl rfl rfl ⟨Nat.le_of_ble_eq_true rfl, Nat.le_of_ble_eq_true rfl⟩ rfl hl.1 (Nat.le_of_ble_eq_true rfl) ⟨Nat.le_refl _, Nat.le_refl _⟩ dX8_copy_94 ?_
            clear hB
            try clear locs
            try clear H
            intro r4 u4 H locs hp hB
            obtain rfl : r4 = (-10 : Int32) - (2 : Int32) := hp
            replace hB : zB D A s ([(q, .inr (8, mX ad (bI o) (2 : Int32) z.2.1 z.2.2.1 z.2.2.2.1 z.2.2.2.2.1 z.2.2.2.2.2.1 z.2.2.2.2.2.2.1 z.2.2.2.2.2.2.2)), ((ad 0), .inl (ka 0, 4, .inl sz)), ((ad 1), .inl (ka 1, 160, .inr (.inl it))), ((ad 2), .inl (ka 1, 40, .inr (.inl as9)))]) H locs := hB
            exact zreti hF hB (as9, it) (⟨by rw [cpA, if_neg hok, hf] <;> rfl, fun a9 j9 h9 h8 => (if_neg (fun e9 => by have := e9.1.2.2; rw [hf] at this; exact absurd this (by decide))).symm⟩) (by rw [hf] <;> rfl) (rfl) dX8_copy_97 hQ
          · skip
            refine lv_iload hx hb dX8_copy_47 (lv_at hl 4 rfl) ?_
            refine lv_if_lt (tgt := 92) hx hb dX8_copy_49 (by decide) (fun h49 => ?_) (fun h49 => ?_)
            · skip
              have hf : cpF (nI a) ii (nI b) jj nn sz = 2 := by rw [cpF, if_neg hok, ra, rb, if_neg hs1, if_neg (fun e8 => by have e9 := dB_t.mp e8; have e7 := (i32_lt_i _ _).mp h49; have e6 : (0 : Int32).toInt = 0 := rfl; omega)]
              refine lv_aload_n hx hb dX8_copy_92 rfl (lv_at hl 0 rfl) ?_
              refine lv_iconst (v := 2) hx hb dX8_copy_93 (by decide) ?_
              refine zVi zm_X8_89 hF hB (c_X8_finds l D ka kb q ad o z (2 : Int32) ) [0] rfl (by decide) [q] (fun _ => rfl) rfl 0 8 rfl rfl rfl ⟨Nat.le_of_ble_eq_true rfl, Nat.le_of_ble_eq_true rfl⟩ rfl hl.1 (Nat.le_of_ble_eq_true rfl) ⟨Nat.le_refl _, Nat.le_refl _⟩ dX8_copy_94 ?_
              clear hB
              try clear locs
              try clear H
              intro r5 u5 H locs hp hB
              obtain rfl : r5 = (-10 : Int32) - (2 : Int32) := hp
              replace hB : zB D A s ([(q, .inr (8, mX ad (bI o) (2 : Int32) z.2.1 z.2.2.1 z.2.2.2.1 z.2.2.2.2.1 z.2.2.2.2.2.1 z.2.2.2.2.2.2.1 z.2.2.2.2.2.2.2)), ((ad 0), .inl (ka 0, 4, .inl sz)), ((ad 1), .inl (ka 1, 160, .inr (.inl it))), ((ad 2), .inl (ka 1, 40, .inr (.inl as9)))]) H locs := hB
              exact zreti hF hB (as9, it) (⟨by rw [cpA, if_neg hok, hf] <;> rfl, fun a9 j9 h9 h8 => (if_neg (fun e9 => by have := e9.1.2.2; rw [hf] at this; exact absurd this (by decide))).symm⟩) (by rw [hf] <;> rfl) (rfl) dX8_copy_97 hQ
            · skip
              refine lv_iload hx hb dX8_copy_52 (lv_at hl 5 rfl) ?_
              refine lv_if_lt (tgt := 92) hx hb dX8_copy_54 (by decide) (fun h54 => ?_) (fun h54 => ?_)
              · skip
                have hf : cpF (nI a) ii (nI b) jj nn sz = 2 := by rw [cpF, if_neg hok, ra, rb, if_neg hs1, if_neg (fun e8 => by have e9 := dB_t.mp e8; have e7 := (i32_lt_i _ _).mp h54; have e6 : (0 : Int32).toInt = 0 := rfl; omega)]
                refine lv_aload_n hx hb dX8_copy_92 rfl (lv_at hl 0 rfl) ?_
                refine lv_iconst (v := 2) hx hb dX8_copy_93 (by decide) ?_
                refine zVi zm_X8_89 hF hB (c_X8_finds l D ka kb q ad o z (2 : Int32) ) [0] rfl (by decide) [q] (fun _ => rfl) rfl 0 8 rfl rfl rfl ⟨Nat.le_of_ble_eq_true rfl, Nat.le_of_ble_eq_true rfl⟩ rfl hl.1 (Nat.le_of_ble_eq_true rfl) ⟨Nat.le_refl _, Nat.le_refl _⟩ dX8_copy_94 ?_
                clear hB
                try clear locs
                try clear H
                intro r6 u6 H locs hp hB
                obtain rfl : r6 = (-10 : Int32) - (2 : Int32) := hp
                replace hB : zB D A s ([(q, .inr (8, mX ad (bI o) (2 : Int32) z.2.1 z.2.2.1 z.2.2.2.1 z.2.2.2.2.1 z.2.2.2.2.2.1 z.2.2.2.2.2.2.1 z.2.2.2.2.2.2.2)), ((ad 0), .inl (ka 0, 4, .inl sz)), ((ad 1), .inl (ka 1, 160, .inr (.inl it))), ((ad 2), .inl (ka 1, 40, .inr (.inl as9)))]) H locs := hB
                exact zreti hF hB (as9, it) (⟨by rw [cpA, if_neg hok, hf] <;> rfl, fun a9 j9 h9 h8 => (if_neg (fun e9 => by have := e9.1.2.2; rw [hf] at this; exact absurd this (by decide))).symm⟩) (by rw [hf] <;> rfl) (rfl) dX8_copy_97 hQ
              · skip
                refine lv_iload_n hx hb dX8_copy_57 rfl (lv_at hl 2 rfl) ?_
                refine lv_i2l (v := ii.toInt64) hx hb dX8_copy_58 rfl ?_
                refine lv_iload hx hb dX8_copy_59 (lv_at hl 5 rfl) ?_
                refine lv_i2l (v := nn.toInt64) hx hb dX8_copy_61 rfl ?_
                refine lv_ladd hx hb dX8_copy_62 ?_
                refine lv_aload_n hx hb dX8_copy_63 rfl (lv_at hl 0 rfl) ?_
                refine zget zf_X8_7 hF hB 0 rfl rfl dX8_copy_64 ?_
                refine lv_iload_n hx hb dX8_copy_67 rfl (lv_at hl 1 rfl) ?_
                refine ziald hF hB 1 rfl a (rfl) (by omega) (by decide) (v := (sz a)) (rfl) dX8_copy_68 ?_
                refine lv_i2l (v := (sz a).toInt64) hx hb dX8_copy_69 rfl ?_
                refine W.lcmp hx hb dX8_copy_70 ?_
                refine lv_if_gt (tgt := 92) hx hb dX8_copy_71 (by decide) (fun h71 => ?_) (fun h71 => ?_)
                · skip
                  replace h71 := (lg_cmp_gt _ _).mp h71
                  have hf : cpF (nI a) ii (nI b) jj nn sz = 2 := by rw [cpF, if_neg hok, ra, rb, if_neg hs1, if_neg (fun e8 => by have e9 := dB_t.mp e8; have e7 := (Int64.lt_iff_toInt_lt).mp h71; rw [i64_w_add, i32_w] at e7; omega)]
                  refine lv_aload_n hx hb dX8_copy_92 rfl (lv_at hl 0 rfl) ?_
                  refine lv_iconst (v := 2) hx hb dX8_copy_93 (by decide) ?_
                  refine zVi zm_X8_89 hF hB (c_X8_finds l D ka kb q ad o z (2 : Int32) ) [0] rfl (by decide) [q] (fun _ => rfl) rfl 0 8 rfl rfl rfl ⟨Nat.le_of_ble_eq_true rfl, Nat.le_of_ble_eq_true rfl⟩ rfl hl.1 (Nat.le_of_ble_eq_true rfl) ⟨Nat.le_refl _, Nat.le_refl _⟩ dX8_copy_94 ?_
                  clear hB
                  try clear locs
                  try clear H
                  intro r7 u7 H locs hp hB
                  obtain rfl : r7 = (-10 : Int32) - (2 : Int32) := hp
                  replace hB : zB D A s ([(q, .inr (8, mX ad (bI o) (2 : Int32) z.2.1 z.2.2.1 z.2.2.2.1 z.2.2.2.2.1 z.2.2.2.2.2.1 z.2.2.2.2.2.2.1 z.2.2.2.2.2.2.2)), ((ad 0), .inl (ka 0, 4, .inl sz)), ((ad 1), .inl (ka 1, 160, .inr (.inl it))), ((ad 2), .inl (ka 1, 40, .inr (.inl as9)))]) H locs := hB
                  exact zreti hF hB (as9, it) (⟨by rw [cpA, if_neg hok, hf] <;> rfl, fun a9 j9 h9 h8 => (if_neg (fun e9 => by have := e9.1.2.2; rw [hf] at this; exact absurd this (by decide))).symm⟩) (by rw [hf] <;> rfl) (rfl) dX8_copy_97 hQ
                · skip
                  replace h71 := (fun e9 => h71 ((lg_cmp_gt _ _).mpr e9))
                  refine lv_iload hx hb dX8_copy_74 (lv_at hl 4 rfl) ?_
                  refine lv_i2l (v := jj.toInt64) hx hb dX8_copy_76 rfl ?_
                  refine lv_iload hx hb dX8_copy_77 (lv_at hl 5 rfl) ?_
                  refine lv_i2l (v := nn.toInt64) hx hb dX8_copy_79 rfl ?_
                  refine lv_ladd hx hb dX8_copy_80 ?_
                  refine lv_aload_n hx hb dX8_copy_81 rfl (lv_at hl 0 rfl) ?_
                  refine zget zf_X8_7 hF hB 0 rfl rfl dX8_copy_82 ?_
                  refine lv_iload_n hx hb dX8_copy_85 rfl (lv_at hl 3 rfl) ?_
                  refine ziald hF hB 1 rfl b (rfl) (by omega) (by decide) (v := (sz b)) (rfl) dX8_copy_86 ?_
                  refine lv_i2l (v := (sz b).toInt64) hx hb dX8_copy_87 rfl ?_
                  refine W.lcmp hx hb dX8_copy_88 ?_
                  refine lv_if_le (tgt := 98) hx hb dX8_copy_89 (by decide) (fun h89 => ?_) (fun h89 => ?_)
                  · skip
                    replace h89 := (lg_cmp_le _ _).mp h89
                    have hf : cpF (nI a) ii (nI b) jj nn sz = 0 := by
                      rw [cpF, if_neg hok, ra, rb, if_neg hs1, if_pos (dB_t.mpr (by
                        have g1 := mt (i32_lt_i _ _).mpr h44
                        have g2 := mt (i32_lt_i _ _).mpr h49
                        have g3 := mt (i32_lt_i _ _).mpr h54
                        have g4 := (i64_le_i _ _).mp (Int64.not_lt.mp h71)
                        have g5 := (i64_le_i _ _).mp h89
                        have e6 : (0 : Int32).toInt = 0 := rfl
                        rw [i64_w_add, i32_w] at g4 g5
                        omega))]
                    have hfx : dB (0 ≤ ii.toInt ∧ 0 ≤ jj.toInt ∧ 0 ≤ nn.toInt ∧ ii.toInt + nn.toInt ≤ (sz a).toInt ∧ jj.toInt + nn.toInt ≤ (sz b).toInt) = true := by
                      rw [cpF, if_neg hok, ra, rb, if_neg hs1] at hf
                      by_cases e5 : dB (0 ≤ ii.toInt ∧ 0 ≤ jj.toInt ∧ 0 ≤ nn.toInt ∧ ii.toInt + nn.toInt ≤ (sz a).toInt ∧ jj.toInt + nn.toInt ≤ (sz b).toInt) = true
                      · exact e5
                      · rw [if_neg e5] at hf; exact absurd hf (by decide)
                    have hfy := dB_t.mp hfx
                    have hza := (hsz a (by omega)).resolve_left (fun e8 => hs1 (Or.inl e8))
                    have hzb := (hsz b (by omega)).resolve_left (fun e8 => hs1 (Or.inr e8))
                    obtain ⟨x, hxl, hxe, hxi, hxn⟩ := i32_nat (x := ii) (n := 41) hfy.1 (by omega)
                    obtain ⟨y, hyl, hye, hyi, hyn⟩ := i32_nat (x := jj) (n := 41) hfy.2.1 (by omega)
                    obtain ⟨m9, hml, hme, hmi, hmn⟩ := i32_nat (x := nn) (n := 41) hfy.2.2.1 (by omega)
                    refine lv_iconst (v := 0) hx hb dX8_copy_98 (by decide) ?_
                    refine lv_istore (lv' := [(6, .int (0 : Int32)), (0, .ref q), (1, .int (nI a)), (2, .int ii), (3, .int (nI b)), (4, .int jj), (5, .int nn)]) hx hb dX8_copy_99 hl (by decide) rfl ?_
                    clear hl
                    clear ls
                    intro ls hl
                    have lp101 : ∀ (fl : Nat) (k : Nat), (hk : k ≤ m9) → 41 - k < fl → ∀ (H : Heap) (locs : List Loc), zB D A s ([(q, .inr (8, mO ad o z)), ((ad 0), .inl (ka 0, 4, .inl sz)), ((ad 1), .inl (ka 1, 160, .inr (.inl it))), ((ad 2), .inl (ka 1, 40, .inr (.inl (pfill as9 it 0 (40 * a + x) k))))]) H locs → ∀ ls : Array Slot, lv_has ls 7 [(6, .int (nI k)), (0, .ref q), (1, .int (nI a)), (2, .int ii), (3, .int (nI b)), (4, .int jj), (5, .int nn)] → W p l e (zRm 2 45 0 0) s m args below meth c H locs 0 0 Q (F0 m 101 ls []) := by
                      intro fl
                      induction fl with
                      | zero => intro k hk hfl; exact absurd hfl (Nat.not_lt_zero _)
                      | succ fl ih101 =>
                        intro k hk hfl101 H locs hB ls hl
                        refine lv_iload hx hb dX8_copy_101 (lv_at hl 0 rfl) ?_
                        refine lv_iload hx hb dX8_copy_103 (lv_at hl 6 rfl) ?_
                        refine ztopi (y := nI m9) (hme) ?_
                        refine lv_icmp_ge (tgt := 135) hx hb dX8_copy_105 (by decide) (fun h105 => ?_) (fun h105 => ?_)
                        · skip
                          have hk9 : m9 ≤ k := (nI_leI (by omega) (by omega)).mp h105
                          refine lv_iconst (v := 0) hx hb dX8_copy_135 (by decide) ?_
                          refine lv_istore (lv' := [(6, .int (0 : Int32)), (0, .ref q), (1, .int (nI a)), (2, .int ii), (3, .int (nI b)), (4, .int jj), (5, .int nn)]) hx hb dX8_copy_136 hl (by decide) rfl ?_
                          clear hl
                          clear ls
                          intro ls hl
                          have lp138 : ∀ (fl : Nat) (k : Nat), (hk2 : k ≤ m9) → 41 - k < fl → ∀ (H : Heap) (locs : List Loc), zB D A s ([(q, .inr (8, mO ad o z)), ((ad 0), .inl (ka 0, 4, .inl sz)), ((ad 1), .inl (ka 1, 160, .inr (.inl (pfill it (pfill as9 it 0 (40 * a + x) m9) (40 * b + y) 0 k)))), ((ad 2), .inl (ka 1, 40, .inr (.inl (pfill as9 it 0 (40 * a + x) m9))))]) H locs → ∀ ls : Array Slot, lv_has ls 7 [(6, .int (nI k)), (0, .ref q), (1, .int (nI a)), (2, .int ii), (3, .int (nI b)), (4, .int jj), (5, .int nn)] → W p l e (zRm 2 45 0 0) s m args below meth c H locs 0 0 Q (F0 m 138 ls []) := by
                            intro fl
                            induction fl with
                            | zero => intro k hk2 hfl; exact absurd hfl (Nat.not_lt_zero _)
                            | succ fl ih138 =>
                              intro k hk2 hfl138 H locs hB ls hl
                              refine lv_iload hx hb dX8_copy_138 (lv_at hl 0 rfl) ?_
                              refine lv_iload hx hb dX8_copy_140 (lv_at hl 6 rfl) ?_
                              refine ztopi (y := nI m9) (hme) ?_
                              refine lv_icmp_ge (tgt := 173) hx hb dX8_copy_142 (by decide) (fun h142 => ?_) (fun h142 => ?_)
                              · skip
                                have hk9 : m9 ≤ k := (nI_leI (by omega) (by omega)).mp h142
                                have hkm : k = m9 := by omega
                                subst hkm
                                refine lv_iconst (v := 1) hx hb dX8_copy_173 (by decide) ?_
                                exact zreti hF hB (_, _) (⟨by rw [cpA, if_neg hok, if_pos hf], fun a9 j9 h9 h8 => by
                                      show pfill it (pfill as9 it 0 (40 * a + x) k) (40 * b + y) 0 k (40 * a9 + j9) = if (inI (nI a) 4 = true ∧ inI (nI b) 4 = true ∧ cpF (nI a) ii (nI b) jj nn sz = 0) ∧ a9 = (nI b).toInt.toNat ∧ jj.toInt.toNat ≤ j9 ∧ j9 < jj.toInt.toNat + nn.toInt.toNat then it (40 * (nI a).toInt.toNat + (ii.toInt.toNat + (j9 - jj.toInt.toNat))) else it (40 * a9 + j9)
                                      rw [ra, rb, hxn, hyn, hmn]
                                      unfold pfill
                                      by_cases e8 : a9 = b ∧ y ≤ j9 ∧ j9 < y + k
                                      · rw [if_pos (by omega), if_pos (by omega), if_pos ⟨⟨ha1, hb1, hf⟩, e8⟩, e8.1, show 40 * a + x + (0 + (40 * b + j9 - (40 * b + y)) - 0) = 40 * a + (x + (j9 - y)) by omega]
                                      · rw [if_neg (by omega), if_neg (fun e7 => e8 e7.2)]⟩) (by rw [hf] <;> rfl) (rfl) dX8_copy_174 hQ
                              · skip
                                have hk9 : k < m9 := Nat.not_le.mp (fun e9 => h142 ((nI_leI (by omega) (by omega)).mpr e9))
                                refine lv_aload_n hx hb dX8_copy_145 rfl (lv_at hl 1 rfl) ?_
                                refine zget zf_X8_13 hF hB 0 rfl rfl dX8_copy_146 ?_
                                refine lv_bipush (v := 40) hx hb dX8_copy_149 (by decide) ?_
                                refine lv_iload_n hx hb dX8_copy_151 rfl (lv_at hl 4 rfl) ?_
                                refine lv_imul hx hb dX8_copy_152 ?_
                                refine ztopi (y := nI (40 * b)) (pk_mul 40 b) ?_
                                refine lv_iload hx hb dX8_copy_153 (lv_at hl 5 rfl) ?_
                                refine ztopi (y := nI y) (hye) ?_
                                refine lv_iadd hx hb dX8_copy_155 ?_
                                refine ztopi (y := nI ((40 * b) + y)) (nI_add (40 * b) y) ?_
                                refine lv_iload hx hb dX8_copy_156 (lv_at hl 0 rfl) ?_
                                refine lv_iadd hx hb dX8_copy_158 ?_
                                refine ztopi (y := nI (((40 * b) + y) + k)) (nI_add ((40 * b) + y) k) ?_
                                refine lv_aload_n hx hb dX8_copy_159 rfl (lv_at hl 1 rfl) ?_
                                refine zget zf_X8_17 hF hB 0 rfl rfl dX8_copy_160 ?_
                                refine lv_iload hx hb dX8_copy_163 (lv_at hl 0 rfl) ?_
                                refine zlald hF hB 3 rfl k (rfl) (by omega) (by decide) (v := ((pfill as9 it 0 (40 * a + x) m9) (0 + k))) (by rw [Nat.zero_add]) dX8_copy_165 ?_
                                refine zlast hF hB 2 rfl (((40 * b) + y) + k) (rfl) (by omega) (by decide) dX8_copy_166 ?_
                                clear hB
                                try clear locs
                                try clear H
                                intro H locs hB
                                replace hB : zB D A s ([(q, .inr (8, mO ad o z)), ((ad 0), .inl (ka 0, 4, .inl sz)), ((ad 1), .inl (ka 1, 160, .inr (.inl (pfill it (pfill as9 it 0 (40 * a + x) m9) (40 * b + y) 0 (k + 1))))), ((ad 2), .inl (ka 1, 40, .inr (.inl (pfill as9 it 0 (40 * a + x) m9))))]) H locs := (by have e9 := hB; rw [pfill_s] at e9; exact e9)
                                refine lv_iinc (v := nI (k + 1)) (lv' := [(6, .int (nI (k + 1))), (0, .ref q), (1, .int (nI a)), (2, .int ii), (3, .int (nI b)), (4, .int jj), (5, .int nn)]) hx hb dX8_copy_167 hl (k := 0) rfl (nI_1 _) (by decide) rfl ?_
                                clear hl
                                clear ls
                                intro ls hl
                                refine lv_goto (tgt := 138) hx hb dX8_copy_170 (by decide) ?_
                                exact ih138 (k + 1) (by omega) (by omega) _ _ (hB) _ (lv_sub hl [0, 1, 2, 3, 4, 5, 6] rfl)
                          exact lp138 (41 - 0 + 1) 0 (Nat.zero_le _) (by omega) _ _ (by have e8 : k = m9 := (by omega); subst e8; rw [pfill_0]; exact hB) _ (lv_sub hl [0, 1, 2, 3, 4, 5, 6] rfl)
                        · skip
                          have hk9 : k < m9 := Nat.not_le.mp (fun e9 => h105 ((nI_leI (by omega) (by omega)).mpr e9))
                          refine lv_aload_n hx hb dX8_copy_108 rfl (lv_at hl 1 rfl) ?_
                          refine zget zf_X8_17 hF hB 0 rfl rfl dX8_copy_109 ?_
                          refine lv_iload hx hb dX8_copy_112 (lv_at hl 0 rfl) ?_
                          refine lv_aload_n hx hb dX8_copy_114 rfl (lv_at hl 1 rfl) ?_
                          refine zget zf_X8_13 hF hB 0 rfl rfl dX8_copy_115 ?_
                          refine lv_bipush (v := 40) hx hb dX8_copy_118 (by decide) ?_
                          refine lv_iload_n hx hb dX8_copy_120 rfl (lv_at hl 2 rfl) ?_
                          refine lv_imul hx hb dX8_copy_121 ?_
                          refine ztopi (y := nI (40 * a)) (pk_mul 40 a) ?_
                          refine lv_iload_n hx hb dX8_copy_122 rfl (lv_at hl 3 rfl) ?_
                          refine ztopi (y := nI x) (hxe) ?_
                          refine lv_iadd hx hb dX8_copy_123 ?_
                          refine ztopi (y := nI ((40 * a) + x)) (nI_add (40 * a) x) ?_
                          refine lv_iload hx hb dX8_copy_124 (lv_at hl 0 rfl) ?_
                          refine lv_iadd hx hb dX8_copy_126 ?_
                          refine ztopi (y := nI (((40 * a) + x) + k)) (nI_add ((40 * a) + x) k) ?_
                          refine zlald hF hB 2 rfl (((40 * a) + x) + k) (rfl) (by omega) (by decide) (v := (it (((40 * a) + x) + k))) (rfl) dX8_copy_127 ?_
                          refine zlast hF hB 3 rfl (0 + k) (by rw [Nat.zero_add]) (by omega) (by decide) dX8_copy_128 ?_
                          clear hB
                          try clear locs
                          try clear H
                          intro H locs hB
                          replace hB : zB D A s ([(q, .inr (8, mO ad o z)), ((ad 0), .inl (ka 0, 4, .inl sz)), ((ad 1), .inl (ka 1, 160, .inr (.inl it))), ((ad 2), .inl (ka 1, 40, .inr (.inl (pfill as9 it 0 (40 * a + x) (k + 1)))))]) H locs := (by have e9 := hB; rw [pfill_s] at e9; exact e9)
                          refine lv_iinc (v := nI (k + 1)) (lv' := [(6, .int (nI (k + 1))), (0, .ref q), (1, .int (nI a)), (2, .int ii), (3, .int (nI b)), (4, .int jj), (5, .int nn)]) hx hb dX8_copy_129 hl (k := 0) rfl (nI_1 _) (by decide) rfl ?_
                          clear hl
                          clear ls
                          intro ls hl
                          refine lv_goto (tgt := 101) hx hb dX8_copy_132 (by decide) ?_
                          exact ih101 (k + 1) (by omega) (by omega) _ _ (hB) _ (lv_sub hl [0, 1, 2, 3, 4, 5, 6] rfl)
                    exact lp101 (41 - 0 + 1) 0 (Nat.zero_le _) (by omega) _ _ (by rw [pfill_0]; exact hB) _ (lv_sub hl [0, 1, 2, 3, 4, 5, 6] rfl)
                  · skip
                    replace h89 := (fun e9 => h89 ((lg_cmp_le _ _).mpr e9))
                    have hf : cpF (nI a) ii (nI b) jj nn sz = 2 := by rw [cpF, if_neg hok, ra, rb, if_neg hs1, if_neg (fun e8 => by have e9 := dB_t.mp e8; have e7 := mt (i64_le_i _ _).mpr h89; rw [i64_w_add, i32_w] at e7; omega)]
                    refine lv_aload_n hx hb dX8_copy_92 rfl (lv_at hl 0 rfl) ?_
                    refine lv_iconst (v := 2) hx hb dX8_copy_93 (by decide) ?_
                    refine zVi zm_X8_89 hF hB (c_X8_finds l D ka kb q ad o z (2 : Int32) ) [0] rfl (by decide) [q] (fun _ => rfl) rfl 0 8 rfl rfl rfl ⟨Nat.le_of_ble_eq_true rfl, Nat.le_of_ble_eq_true rfl⟩ rfl hl.1 (Nat.le_of_ble_eq_true rfl) ⟨Nat.le_refl _, Nat.le_refl _⟩ dX8_copy_94 ?_
                    clear hB
                    try clear locs
                    try clear H
                    intro r8 u8 H locs hp hB
                    obtain rfl : r8 = (-10 : Int32) - (2 : Int32) := hp
                    replace hB : zB D A s ([(q, .inr (8, mX ad (bI o) (2 : Int32) z.2.1 z.2.2.1 z.2.2.2.1 z.2.2.2.2.1 z.2.2.2.2.2.1 z.2.2.2.2.2.2.1 z.2.2.2.2.2.2.2)), ((ad 0), .inl (ka 0, 4, .inl sz)), ((ad 1), .inl (ka 1, 160, .inr (.inl it))), ((ad 2), .inl (ka 1, 40, .inr (.inl as9)))]) H locs := hB
                    exact zreti hF hB (as9, it) (⟨by rw [cpA, if_neg hok, hf] <;> rfl, fun a9 j9 h9 h8 => (if_neg (fun e9 => by have := e9.1.2.2; rw [hf] at this; exact absurd this (by decide))).symm⟩) (by rw [hf] <;> rfl) (rfl) dX8_copy_97 hQ
        · skip
          have hf : cpF (nI a) ii (nI b) jj nn sz = 1 := by rw [cpF, if_neg hok, ra, rb, if_pos (Or.inr h34)]
          refine lv_aload_n hx hb dX8_copy_37 rfl (lv_at hl 0 rfl) ?_
          refine lv_iconst (v := 1) hx hb dX8_copy_38 (by decide) ?_
          refine zVi zm_X8_89 hF hB (c_X8_finds l D ka kb q ad o z (1 : Int32) ) [0] rfl (by decide) [q] (fun _ => rfl) rfl 0 8 rfl rfl rfl ⟨Nat.le_of_ble_eq_true rfl, Nat.le_of_ble_eq_true rfl⟩ rfl hl.1 (Nat.le_of_ble_eq_true rfl) ⟨Nat.le_refl _, Nat.le_refl _⟩ dX8_copy_39 ?_
          clear hB
          try clear locs
          try clear H
          intro r9 u9 H locs hp hB
          obtain rfl : r9 = (-10 : Int32) - (1 : Int32) := hp
          replace hB : zB D A s ([(q, .inr (8, mX ad (bI o) (1 : Int32) z.2.1 z.2.2.1 z.2.2.2.1 z.2.2.2.2.1 z.2.2.2.2.2.1 z.2.2.2.2.2.2.1 z.2.2.2.2.2.2.2)), ((ad 0), .inl (ka 0, 4, .inl sz)), ((ad 1), .inl (ka 1, 160, .inr (.inl it))), ((ad 2), .inl (ka 1, 40, .inr (.inl as9)))]) H locs := hB
          exact zreti hF hB (as9, it) (⟨by rw [cpA, if_neg hok, hf] <;> rfl, fun a9 j9 h9 h8 => (if_neg (fun e9 => by have := e9.1.2.2; rw [hf] at this; exact absurd this (by decide))).symm⟩) (by rw [hf] <;> rfl) (rfl) dX8_copy_42 hQ
    · skip
      refine lv_bipush (v := -2) hx hb dX8_copy_14 (by decide) ?_
      have hok : ¬ (inI (nI a) 4 = true ∧ inI tt 4 = true) := fun e8 => by rw [bI_eq0 h11] at e8; exact absurd e8.2 (by decide)
      exact zreti hF hB (as9, it) (⟨by rw [cpA, if_pos hok], fun a9 j9 h9 h8 => (if_neg (fun e9 => hok ⟨e9.1.1, e9.1.2.1⟩)).symm⟩) (by rw [cpF, if_pos hok] <;> rfl) (rfl) dX8_copy_16 hQ
