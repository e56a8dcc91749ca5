theorem lkF_3 (n i : Int32) (w : Nat) : lkF n i w = 0 ∨ lkF n i w = 1 ∨ lkF n i w = 2 := by
  unfold lkF
  split
  · exact Or.inr (Or.inl rfl)
  · split
    · exact Or.inl rfl
    · exact Or.inr (Or.inr rfl)
theorem fin0 {n i : Int32} {w : Nat} (h : (if lkF n i w = 0 then (0 : Int32) else -10 - lkF n i w) = 0) : lkF n i w = 0 := by
  rcases lkF_3 n i w with e | e | e
  · exact e
  · rw [e] at h; exact absurd h (by decide)
  · rw [e] at h; exact absurd h (by decide)
set_option maxHeartbeats 4000000 in
set_option maxRecDepth 100000 in
theorem c_X8_sheet (l : Launch) (D : va_G) (ka : Nat → ClassId) (kb : Nat → Nat) (q : Nat) (ad : Nat → Nat) (o : Bool) (z : mZ) (sz : Nat → Int32) (it : Nat → Int64) (ss : Int32) (nn : Int32)  : zI l D ka kb yX8_sheet cX8_sheet 4 .int 2 45 [.ref q, .int ss, .int nn] ([(q, .inr (8, mO ad o z)), ((ad 0), .inl (ka 0, 4, .inl sz)), ((ad 1), .inl (ka 1, 160, .inr (.inl it)))]) (fun (r : Int32) (it2 : Nat → Int64) => r = shA ss nn ∧ eqI (itM it2) (shI ss nn (itM it))) (fun (it2 : Nat → Int64) => [(q, .inr (8, mX ad (bI o) (laF (shF ss nn) z.1) z.2.1 z.2.2.1 z.2.2.2.1 z.2.2.2.2.1 z.2.2.2.2.2.1 z.2.2.2.2.2.2.1 z.2.2.2.2.2.2.2)), ((ad 0), .inl (ka 0, 4, .inl (shS ss nn sz))), ((ad 1), .inl (ka 1, 160, .inr (.inl it2)))]) := by
  refine zI.mk RX8 (by decide +kernel) rfl (Nat.le_of_ble_eq_true rfl) ?_
  intro p e s m below meth c A ls args Q hQ hx hb hF hB hl
  replace hl : lv_has ls 4 [(0, .ref q), (1, .int ss), (2, .int nn)] := hl
  refine lv_iload_n hx hb dX8_sheet_0 rfl (lv_at hl 1 rfl) ?_
  refine zSi zm_X8_85 hF hB (c_X8_isSheet l D ka kb ss ) [] rfl (by decide) [] (fun _ => rfl) rfl rfl ⟨Nat.le_of_ble_eq_true rfl, Nat.le_of_ble_eq_true rfl⟩ rfl hl.1 (Nat.le_of_ble_eq_true rfl) ⟨Nat.le_refl _, Nat.le_refl _⟩ dX8_sheet_1 ?_
  clear hB
  try clear locs
  try clear H
  intro r1 u1 H locs hp hB
  obtain rfl : r1 = bI (inI ss 4) := hp
  replace hB : zB D A s ([(q, .inr (8, mO ad o z)), ((ad 0), .inl (ka 0, 4, .inl sz)), ((ad 1), .inl (ka 1, 160, .inr (.inl it)))]) H locs := hB
  refine lv_if_eq (tgt := 13) hx hb dX8_sheet_4 (by decide) (fun h4 => ?_) (fun h4 => ?_)
  · skip
    refine lv_bipush (v := -2) hx hb dX8_sheet_13 (by decide) ?_
    have hok : ¬ (inI ss 4 = true ∧ nn ≤ 40) := fun e8 => by rw [bI_eq0 h4] at e8; exact absurd e8.1 (by decide)
    exact zreti hF hB it (⟨by rw [shA, if_pos hok], fun a9 j9 h9 h8 => (if_neg (fun e9 => hok ⟨e9.1.1, e9.1.2.1⟩)).symm⟩) (by rw [shF, if_pos hok, shS, if_neg (fun e9 => hok ⟨e9.1, e9.2.1⟩)] <;> rfl) (rfl) dX8_sheet_15 hQ
  · skip
    have ha1 : inI ss 4 = true := bI_ne0 h4
    obtain ⟨a, ha2, ha3⟩ := inI_of ha1 (by decide)
    subst ha3
    have ra : (nI a).toInt.toNat = a := by rw [nI_toInt (by omega)]; rfl
    refine lv_iload_n hx hb dX8_sheet_7 rfl (lv_at hl 2 rfl) ?_
    refine lv_bipush (v := 40) hx hb dX8_sheet_8 (by decide) ?_
    refine lv_icmp_le (tgt := 16) hx hb dX8_sheet_10 (by decide) (fun h10 => ?_) (fun h10 => ?_)
    · skip
      have hok : ¬ ¬ (inI (nI a) 4 = true ∧ nn ≤ 40) := not_not_intro ⟨ha1, h10⟩
      refine lv_iload_n hx hb dX8_sheet_16 rfl (lv_at hl 2 rfl) ?_
      refine lv_if_ge (tgt := 26) hx hb dX8_sheet_17 (by decide) (fun h17 => ?_) (fun h17 => ?_)
      · skip
        have hn0 : ¬ nn < 0 := Int32.not_lt.mpr h17
        obtain ⟨m9, hm1, hm2, hm3, hm4⟩ := i32_nat (x := nn) (n := 41) (by have := (i32_le_i _ _).mp h17; have e9 : (0 : Int32).toInt = 0 := rfl; omega) (by have := (i32_le_i _ _).mp h10; have e9 : (40 : Int32).toInt = 40 := rfl; omega)
        refine lv_aload_n hx hb dX8_sheet_26 rfl (lv_at hl 0 rfl) ?_
        refine zget zf_X8_7 hF hB 0 rfl rfl dX8_sheet_27 ?_
        refine lv_iload_n hx hb dX8_sheet_30 rfl (lv_at hl 1 rfl) ?_
        refine lv_iload_n hx hb dX8_sheet_31 rfl (lv_at hl 2 rfl) ?_
        refine ziast hF hB 1 rfl a (rfl) (by omega) (by decide) dX8_sheet_32 ?_
        clear hB
        try clear locs
        try clear H
        intro H locs hB
        replace hB : zB D A s ([(q, .inr (8, mO ad o z)), ((ad 0), .inl (ka 0, 4, .inl (upd sz a nn))), ((ad 1), .inl (ka 1, 160, .inr (.inl it)))]) H locs := hB
        refine lv_iconst (v := 0) hx hb dX8_sheet_33 (by decide) ?_
        refine lv_istore_n (lv' := [(3, .int (0 : Int32)), (0, .ref q), (1, .int (nI a)), (2, .int nn)]) hx hb dX8_sheet_34 rfl hl (by decide) rfl ?_
        clear hl
        clear ls
        intro ls hl
        have lp35 : ∀ (fl : Nat) (k : Nat), (hk : k ≤ m9) → 41 - k < fl → ∀ (H : Heap) (locs : List Loc), zB D A s ([(q, .inr (8, mO ad o z)), ((ad 0), .inl (ka 0, 4, .inl (upd sz a nn))), ((ad 1), .inl (ka 1, 160, .inr (.inl (zfill it (40 * a) k))))]) H locs → ∀ ls : Array Slot, lv_has ls 4 [(3, .int (nI k)), (0, .ref q), (2, .int nn), (1, .int (nI a))] → W p l e (zRm 2 45 0 0) s m args below meth c H locs 0 0 Q (F0 m 35 ls []) := by
          intro fl
          induction fl with
          | zero => intro k hk hfl; exact absurd hfl (Nat.not_lt_zero _)
          | succ fl ih35 =>
            intro k hk hfl35 H locs hB ls hl
            refine lv_iload_n hx hb dX8_sheet_35 rfl (lv_at hl 0 rfl) ?_
            refine lv_iload_n hx hb dX8_sheet_36 rfl (lv_at hl 2 rfl) ?_
            refine ztopi (y := nI m9) (hm2) ?_
            refine lv_icmp_ge (tgt := 58) hx hb dX8_sheet_37 (by decide) (fun h37 => ?_) (fun h37 => ?_)
            · skip
              have hk9 : m9 ≤ k := (nI_leI (by omega) (by omega)).mp h37
              refine lv_iload_n hx hb dX8_sheet_58 rfl (lv_at hl 2 rfl) ?_
              exact zreti hF hB _ (⟨by rw [shA, if_neg hok, if_neg hn0], fun a9 j9 h9 h8 => by
                    have hkm : k = m9 := by omega
                    subst hkm
                    show zfill it (40 * a) k (40 * a9 + j9) = if (inI (nI a) 4 = true ∧ nn ≤ 40 ∧ ¬ nn < 0) ∧ a9 = (nI a).toInt.toNat ∧ j9 < nn.toInt.toNat then 0 else it (40 * a9 + j9)
                    rw [ra, hm4]
                    unfold zfill
                    by_cases e8 : a9 = a ∧ j9 < k
                    · rw [if_pos (by omega), if_pos ⟨⟨ha1, h10, hn0⟩, e8⟩]
                    · rw [if_neg (by omega), if_neg (fun e7 => e8 e7.2)]⟩) (by rw [shF, if_neg hok, if_neg hn0, shS, if_pos ⟨ha1, h10, hn0⟩, ra] <;> rfl) (rfl) dX8_sheet_59 hQ
            · skip
              have hk9 : k < m9 := Nat.not_le.mp (fun e9 => h37 ((nI_leI (by omega) (by omega)).mpr e9))
              refine lv_aload_n hx hb dX8_sheet_40 rfl (lv_at hl 1 rfl) ?_
              refine zget zf_X8_13 hF hB 0 rfl rfl dX8_sheet_41 ?_
              refine lv_bipush (v := 40) hx hb dX8_sheet_44 (by decide) ?_
              refine lv_iload_n hx hb dX8_sheet_46 rfl (lv_at hl 3 rfl) ?_
              refine lv_imul hx hb dX8_sheet_47 ?_
              refine ztopi (y := nI (40 * a)) (pk_mul 40 a) ?_
              refine lv_iload_n hx hb dX8_sheet_48 rfl (lv_at hl 0 rfl) ?_
              refine lv_iadd hx hb dX8_sheet_49 ?_
              refine ztopi (y := nI ((40 * a) + k)) (nI_add (40 * a) k) ?_
              refine lv_lconst (v := 0) hx hb dX8_sheet_50 (by decide) ?_
              refine zlast hF hB 2 rfl ((40 * a) + k) (rfl) (by omega) (by decide) dX8_sheet_51 ?_
              clear hB
              try clear locs
              try clear H
              intro H locs hB
              replace hB : zB D A s ([(q, .inr (8, mO ad o z)), ((ad 0), .inl (ka 0, 4, .inl (upd sz a nn))), ((ad 1), .inl (ka 1, 160, .inr (.inl (zfill it (40 * a) (k + 1)))))]) H locs := (by have e9 := hB; rw [zfill_s] at e9; exact e9)
              refine lv_iinc (v := nI (k + 1)) (lv' := [(3, .int (nI (k + 1))), (0, .ref q), (2, .int nn), (1, .int (nI a))]) hx hb dX8_sheet_52 hl (k := 0) rfl (nI_1 _) (by decide) rfl ?_
              clear hl
              clear ls
              intro ls hl
              refine lv_goto (tgt := 35) hx hb dX8_sheet_55 (by decide) ?_
              exact ih35 (k + 1) (by omega) (by omega) _ _ (hB) _ (lv_sub hl [0, 1, 2, 3] rfl)
        exact lp35 (41 - 0 + 1) 0 (Nat.zero_le _) (by omega) _ _ (by rw [zfill_0]; exact hB) _ (lv_sub hl [0, 1, 3, 2] rfl)
      · skip
        have hn0 : nn < 0 := Int32.not_le.mp h17
        refine lv_aload_n hx hb dX8_sheet_20 rfl (lv_at hl 0 rfl) ?_
        refine lv_iconst (v := 3) hx hb dX8_sheet_21 (by decide) ?_
        refine zVi zm_X8_89 hF hB (c_X8_finds l D ka kb q ad o z (3 : Int32) ) [0] rfl (by decide) [q] (fun _ => rfl) rfl 0 8 rfl rfl rfl ⟨Nat.le_of_ble_eq_true rfl, Nat.le_of_ble_eq_true rfl⟩ rfl hl.1 (Nat.le_of_ble_eq_true rfl) ⟨Nat.le_refl _, Nat.le_refl _⟩ dX8_sheet_22 ?_
        clear hB
        try clear locs
        try clear H
        intro r2 u2 H locs hp hB
        obtain rfl : r2 = (-10 : Int32) - (3 : Int32) := hp
        replace hB : zB D A s ([(q, .inr (8, mX ad (bI o) (3 : Int32) z.2.1 z.2.2.1 z.2.2.2.1 z.2.2.2.2.1 z.2.2.2.2.2.1 z.2.2.2.2.2.2.1 z.2.2.2.2.2.2.2)), ((ad 0), .inl (ka 0, 4, .inl sz)), ((ad 1), .inl (ka 1, 160, .inr (.inl it)))]) H locs := hB
        exact zreti hF hB it (⟨by rw [shA, if_neg hok, if_pos hn0] <;> rfl, fun a9 j9 h9 h8 => (if_neg (fun e9 => e9.1.2.2 hn0)).symm⟩) (by rw [shF, if_neg hok, if_pos hn0, shS, if_neg (fun e9 => e9.2.2 hn0)] <;> rfl) (rfl) dX8_sheet_25 hQ
    · skip
      refine lv_bipush (v := -2) hx hb dX8_sheet_13 (by decide) ?_
      have hok : ¬ (inI (nI a) 4 = true ∧ nn ≤ 40) := fun e8 => h10 e8.2
      exact zreti hF hB it (⟨by rw [shA, if_pos hok], fun a9 j9 h9 h8 => (if_neg (fun e9 => hok ⟨e9.1.1, e9.1.2.1⟩)).symm⟩) (by rw [shF, if_pos hok, shS, if_neg (fun e9 => hok ⟨e9.1, e9.2.1⟩)] <;> rfl) (rfl) dX8_sheet_15 hQ

set_option maxHeartbeats 4000000 in
set_option maxRecDepth 100000 in
theorem c_X8_lose (l : Launch) (D : va_G) (ka : Nat → ClassId) (kb : Nat → Nat) (q : Nat) (ad : Nat → Nat) (o : Bool) (z : mZ) (sz : Nat → Int32) (ss : Int32)  : zI l D ka kb yX8_lose cX8_lose 3 .int 2 45 [.ref q, .int ss] ([(q, .inr (8, mO ad o z)), ((ad 0), .inl (ka 0, 4, .inl sz))]) (fun (r : Int32) (_ : Unit) => r = loA ss sz) (fun (_ : Unit) => [(q, .inr (8, mX ad (bI o) (laF (loF ss sz) z.1) z.2.1 z.2.2.1 z.2.2.2.1 z.2.2.2.2.1 z.2.2.2.2.2.1 z.2.2.2.2.2.2.1 z.2.2.2.2.2.2.2)), ((ad 0), .inl (ka 0, 4, .inl (loS ss sz)))]) := by
  refine zI.mk RX8 (by decide +kernel) rfl (Nat.le_of_ble_eq_true rfl) ?_
  intro p e s m below meth c A ls args Q hQ hx hb hF hB hl
  replace hl : lv_has ls 3 [(0, .ref q), (1, .int ss)] := hl
  refine lv_iload_n hx hb dX8_lose_0 rfl (lv_at hl 1 rfl) ?_
  refine zSi zm_X8_85 hF hB (c_X8_isSheet l D ka kb ss ) [] rfl (by decide) [] (fun _ => rfl) rfl rfl ⟨Nat.le_of_ble_eq_true rfl, Nat.le_of_ble_eq_true rfl⟩ rfl hl.1 (Nat.le_of_ble_eq_true rfl) ⟨Nat.le_refl _, Nat.le_refl _⟩ dX8_lose_1 ?_
  clear hB
  try clear locs
  try clear H
  intro r1 u1 H locs hp hB
  obtain rfl : r1 = bI (inI ss 4) := hp
  replace hB : zB D A s ([(q, .inr (8, mO ad o z)), ((ad 0), .inl (ka 0, 4, .inl sz))]) H locs := hB
  refine lv_if_ne (tgt := 10) hx hb dX8_lose_4 (by decide) (fun h4 => ?_) (fun h4 => ?_)
  · skip
    have ha1 : inI ss 4 = true := bI_ne0 h4
    obtain ⟨a, ha2, ha3⟩ := inI_of ha1 (by decide)
    subst ha3
    have ra : (nI a).toInt.toNat = a := by rw [nI_toInt (by omega)]; rfl
    have hok : ¬ ¬ inI (nI a) 4 = true := not_not_intro ha1
    refine lv_aload_n hx hb dX8_lose_10 rfl (lv_at hl 0 rfl) ?_
    refine zget zf_X8_7 hF hB 0 rfl rfl dX8_lose_11 ?_
    refine lv_iload_n hx hb dX8_lose_14 rfl (lv_at hl 1 rfl) ?_
    refine ziald hF hB 1 rfl a (rfl) (by omega) (by decide) (v := (sz a)) (rfl) dX8_lose_15 ?_
    refine lv_iconst (v := -1) hx hb dX8_lose_16 (by decide) ?_
    refine lv_icmp_ne (tgt := 26) hx hb dX8_lose_17 (by decide) (fun h17 => ?_) (fun h17 => ?_)
    · skip
      refine lv_aload_n hx hb dX8_lose_26 rfl (lv_at hl 0 rfl) ?_
      refine zget zf_X8_7 hF hB 0 rfl rfl dX8_lose_27 ?_
      refine lv_iload_n hx hb dX8_lose_30 rfl (lv_at hl 1 rfl) ?_
      refine ziald hF hB 1 rfl a (rfl) (by omega) (by decide) (v := (sz a)) (rfl) dX8_lose_31 ?_
      refine lv_istore_n (lv' := [(2, .int (sz a)), (0, .ref q), (1, .int (nI a))]) hx hb dX8_lose_32 rfl hl (by decide) rfl ?_
      clear hl
      clear ls
      intro ls hl
      refine lv_aload_n hx hb dX8_lose_33 rfl (lv_at hl 1 rfl) ?_
      refine zget zf_X8_7 hF hB 0 rfl rfl dX8_lose_34 ?_
      refine lv_iload_n hx hb dX8_lose_37 rfl (lv_at hl 2 rfl) ?_
      refine lv_iconst (v := -1) hx hb dX8_lose_38 (by decide) ?_
      refine ziast hF hB 1 rfl a (rfl) (by omega) (by decide) dX8_lose_39 ?_
      clear hB
      try clear locs
      try clear H
      intro H locs hB
      replace hB : zB D A s ([(q, .inr (8, mO ad o z)), ((ad 0), .inl (ka 0, 4, .inl (upd sz a (-1 : Int32))))]) H locs := hB
      refine lv_iload_n hx hb dX8_lose_40 rfl (lv_at hl 0 rfl) ?_
      exact zreti hF hB () (by rw [loA, if_neg hok, ra, if_neg h17]) (by rw [loF, if_neg hok, ra, if_neg h17, loS, ra, if_pos ⟨ha1, h17⟩] <;> rfl) (rfl) dX8_lose_41 hQ
    · skip
      refine lv_aload_n hx hb dX8_lose_20 rfl (lv_at hl 0 rfl) ?_
      refine lv_iconst (v := 1) hx hb dX8_lose_21 (by decide) ?_
      refine zVi zm_X8_89 hF hB (c_X8_finds l D ka kb q ad o z (1 : Int32) ) [0] rfl (by decide) [q] (fun _ => rfl) rfl 0 8 rfl rfl rfl ⟨Nat.le_of_ble_eq_true rfl, Nat.le_of_ble_eq_true rfl⟩ rfl hl.1 (Nat.le_of_ble_eq_true rfl) ⟨Nat.le_refl _, Nat.le_refl _⟩ dX8_lose_22 ?_
      clear hB
      try clear locs
      try clear H
      intro r2 u2 H locs hp hB
      obtain rfl : r2 = (-10 : Int32) - (1 : Int32) := hp
      replace hB : zB D A s ([(q, .inr (8, mX ad (bI o) (1 : Int32) z.2.1 z.2.2.1 z.2.2.2.1 z.2.2.2.2.1 z.2.2.2.2.2.1 z.2.2.2.2.2.2.1 z.2.2.2.2.2.2.2)), ((ad 0), .inl (ka 0, 4, .inl sz))]) H locs := hB
      exact zreti hF hB () (by rw [loA, if_neg hok, ra, if_pos h17] <;> rfl) (by rw [loF, if_neg hok, ra, if_pos h17, loS, ra, if_neg (fun e9 => e9.2 h17)] <;> rfl) (rfl) dX8_lose_25 hQ
  · skip
    refine lv_bipush (v := -2) hx hb dX8_lose_7 (by decide) ?_
    have hok : ¬ inI ss 4 = true := by rw [bI_eq0 h4]; decide
    exact zreti hF hB () (by rw [loA, if_pos hok]) (by rw [loF, if_pos hok, loS, if_neg (fun e9 => hok e9.1)] <;> rfl) (rfl) dX8_lose_9 hQ

set_option maxHeartbeats 4000000 in
set_option maxRecDepth 100000 in
theorem c_X8_lay (l : Launch) (D : va_G) (ka : Nat → ClassId) (kb : Nat → Nat) (q : Nat) (ad : Nat → Nat) (o : Bool) (z : mZ) (sz : Nat → Int32) (it : Nat → Int64) (ss : Int32) (ii : Int32) (vv : Int32) (oo : Int32) (hsz : okSz sz) : zI l D ka kb yX8_lay cX8_lay 6 .int 2 47 [.ref q, .int ss, .int ii, .int vv, .int oo] ([(q, .inr (8, mO ad o z)), ((ad 0), .inl (ka 0, 4, .inl sz)), ((ad 1), .inl (ka 1, 160, .inr (.inl it)))]) (fun (r : Int32) (it2 : Nat → Int64) => r = lyA ss ii oo sz ∧ eqI (itM it2) (lyI ss ii vv oo sz (itM it))) (fun (it2 : Nat → Int64) => [(q, .inr (8, mX ad (bI o) (laF (lyF ss ii oo sz) z.1) z.2.1 z.2.2.1 z.2.2.2.1 z.2.2.2.2.1 z.2.2.2.2.2.1 z.2.2.2.2.2.2.1 z.2.2.2.2.2.2.2)), ((ad 0), .inl (ka 0, 4, .inl sz)), ((ad 1), .inl (ka 1, 160, .inr (.inl it2)))]) := by
  refine zI.mk RX8 (by decide +kernel) rfl (Nat.le_of_ble_eq_true rfl) ?_
  intro p e s m below meth c A ls args Q hQ hx hb hF hB hl
  replace hl : lv_has ls 6 [(0, .ref q), (1, .int ss), (2, .int ii), (3, .int vv), (4, .int oo)] := hl
  refine lv_iload_n hx hb dX8_lay_0 rfl (lv_at hl 1 rfl) ?_
  refine zSi zm_X8_85 hF hB (c_X8_isSheet l D ka kb ss ) [] rfl (by decide) [] (fun _ => rfl) rfl rfl ⟨Nat.le_of_ble_eq_true rfl, Nat.le_of_ble_eq_true rfl⟩ rfl hl.1 (Nat.le_of_ble_eq_true rfl) ⟨Nat.le_refl _, Nat.le_refl _⟩ dX8_lay_1 ?_
  clear hB
  try clear locs
  try clear H
  intro r1 u1 H locs hp hB
  obtain rfl : r1 = bI (inI ss 4) := hp
  replace hB : zB D A s ([(q, .inr (8, mO ad o z)), ((ad 0), .inl (ka 0, 4, .inl sz)), ((ad 1), .inl (ka 1, 160, .inr (.inl it)))]) H locs := hB
  refine lv_if_eq (tgt := 20) hx hb dX8_lay_4 (by decide) (fun h4 => ?_) (fun h4 => ?_)
  · skip
    refine lv_bipush (v := -2) hx hb dX8_lay_20 (by decide) ?_
    have hok : ¬ (inI ss 4 = true ∧ inI oo 63 = true) := fun e8 => by rw [bI_eq0 h4] at e8; exact absurd e8.1 (by decide)
    exact zreti hF hB it (⟨by rw [lyA, if_pos hok], fun a9 j9 h9 h8 => (if_neg (fun e9 => hok ⟨e9.1.1, e9.1.2.1⟩)).symm⟩) (by rw [lyF, if_pos hok] <;> rfl) (rfl) dX8_lay_22 hQ
  · skip
    have ha1 : inI ss 4 = true := bI_ne0 h4
    obtain ⟨a, ha2, ha3⟩ := inI_of ha1 (by decide)
    subst ha3
    have ra : (nI a).toInt.toNat = a := by rw [nI_toInt (by omega)]; rfl
    refine lv_iload hx hb dX8_lay_7 (lv_at hl 4 rfl) ?_
    refine lv_i2l (v := oo.toInt64) hx hb dX8_lay_9 rfl ?_
    refine lv_lconst (v := 0) hx hb dX8_lay_10 (by decide) ?_
    refine zldc2 (v := (62 : Int64)) ww_41_14 hF dX8_lay_11 ?_
    refine zSi zm_X8_72 hF hB (c_X8_in l D ka kb oo.toInt64 (0 : Int64) (62 : Int64) ) [] rfl (by decide) [] (fun _ => rfl) rfl rfl ⟨Nat.le_of_ble_eq_true rfl, Nat.le_of_ble_eq_true rfl⟩ rfl hl.1 (Nat.le_of_ble_eq_true rfl) ⟨Nat.le_refl _, Nat.le_refl _⟩ dX8_lay_14 ?_
    clear hB
    try clear locs
    try clear H
    intro r2 u2 H locs hp hB
    obtain rfl : r2 = bI (zin oo.toInt64 (0 : Int64) (62 : Int64)) := hp
    replace hB : zB D A s ([(q, .inr (8, mO ad o z)), ((ad 0), .inl (ka 0, 4, .inl sz)), ((ad 1), .inl (ka 1, 160, .inr (.inl it)))]) H locs := hB
    refine lv_if_ne (tgt := 23) hx hb dX8_lay_17 (by decide) (fun h17 => ?_) (fun h17 => ?_)
    · skip
      have ho1 : inI oo 63 = true := (zin_inI oo 63 (by decide) (by decide)).symm.trans (bI_ne0 h17)
      have hok : ¬ ¬ (inI (nI a) 4 = true ∧ inI oo 63 = true) := not_not_intro ⟨ha1, ho1⟩
      refine lv_aload_n hx hb dX8_lay_23 rfl (lv_at hl 0 rfl) ?_
      refine lv_iload_n hx hb dX8_lay_24 rfl (lv_at hl 1 rfl) ?_
      refine lv_iload_n hx hb dX8_lay_25 rfl (lv_at hl 2 rfl) ?_
      refine zVi zm_X8_95 hF hB (c_X8_lacks l D ka kb q ad o z sz a ii (by omega) (hsz)) [0, 1] rfl (by decide) [q, (ad 0)] (fun _ => rfl) rfl 0 8 rfl rfl rfl ⟨Nat.le_of_ble_eq_true rfl, Nat.le_of_ble_eq_true rfl⟩ rfl hl.1 (Nat.le_of_ble_eq_true rfl) ⟨Nat.le_refl _, Nat.le_refl _⟩ dX8_lay_26 ?_
      clear hB
      try clear locs
      try clear H
      intro r3 u3 H locs hp hB
      obtain rfl : r3 = if lkF (sz a) ii 1 = 0 then 0 else -10 - lkF (sz a) ii 1 := hp
      replace hB : zB D A s ([(q, .inr (8, mX ad (bI o) (laF (lkF (sz a) ii 1) z.1) z.2.1 z.2.2.1 z.2.2.2.1 z.2.2.2.2.1 z.2.2.2.2.2.1 z.2.2.2.2.2.2.1 z.2.2.2.2.2.2.2)), ((ad 0), .inl (ka 0, 4, .inl sz)), ((ad 1), .inl (ka 1, 160, .inr (.inl it)))]) H locs := hB
      refine lv_istore (lv' := [(5, .int (if lkF (sz a) ii 1 = 0 then 0 else -10 - lkF (sz a) ii 1)), (0, .ref q), (1, .int (nI a)), (2, .int ii), (3, .int vv), (4, .int oo)]) hx hb dX8_lay_29 hl (by decide) rfl ?_
      clear hl
      clear ls
      intro ls hl
      refine lv_iload hx hb dX8_lay_31 (lv_at hl 0 rfl) ?_
      refine lv_if_eq (tgt := 39) hx hb dX8_lay_33 (by decide) (fun h33 => ?_) (fun h33 => ?_)
      · skip
        have hf : lkF (sz a) ii 1 = 0 := fin0 h33
        have hs9 := (hsz a (by omega)).resolve_left (lkF_0 hf).1
        obtain ⟨x, hxl, hxe, hxi, hxn⟩ := i32_nat (x := ii) (n := 40) (lkF_0 hf).2.1 (by have := (lkF_0 hf).2.2; omega)
        refine lv_aload_n hx hb dX8_lay_39 rfl (lv_at hl 1 rfl) ?_
        refine zget zf_X8_13 hF hB 0 rfl rfl dX8_lay_40 ?_
        refine lv_bipush (v := 40) hx hb dX8_lay_43 (by decide) ?_
        refine lv_iload_n hx hb dX8_lay_45 rfl (lv_at hl 2 rfl) ?_
        refine lv_imul hx hb dX8_lay_46 ?_
        refine ztopi (y := nI (40 * a)) (pk_mul 40 a) ?_
        refine lv_iload_n hx hb dX8_lay_47 rfl (lv_at hl 3 rfl) ?_
        refine ztopi (y := nI x) (hxe) ?_
        refine lv_iadd hx hb dX8_lay_48 ?_
        refine ztopi (y := nI ((40 * a) + x)) (nI_add (40 * a) x) ?_
        refine lv_iload_n hx hb dX8_lay_49 rfl (lv_at hl 4 rfl) ?_
        refine lv_i2l (v := vv.toInt64) hx hb dX8_lay_50 rfl ?_
        refine lv_iload hx hb dX8_lay_51 (lv_at hl 5 rfl) ?_
        refine lv_lshl (v := (vv.toInt64 <<< (oo.toInt64 &&& 63))) hx hb dX8_lay_53 rfl ?_
        refine zlast hF hB 2 rfl ((40 * a) + x) (rfl) (by omega) (by decide) dX8_lay_54 ?_
        clear hB
        try clear locs
        try clear H
        intro H locs hB
        replace hB : zB D A s ([(q, .inr (8, mX ad (bI o) (laF (lkF (sz a) ii 1) z.1) z.2.1 z.2.2.1 z.2.2.2.1 z.2.2.2.2.1 z.2.2.2.2.2.1 z.2.2.2.2.2.2.1 z.2.2.2.2.2.2.2)), ((ad 0), .inl (ka 0, 4, .inl sz)), ((ad 1), .inl (ka 1, 160, .inr (.inl (vp_updL it ((40 * a) + x) (vv.toInt64 <<< (oo.toInt64 &&& 63))))))]) H locs := hB
        refine lv_iconst (v := 1) hx hb dX8_lay_55 (by decide) ?_
        exact zreti hF hB _ (⟨by rw [lyA, if_neg hok, ra, if_pos hf], fun a9 j9 h9 h8 => by
              show vp_updL it (40 * a + x) _ (40 * a9 + j9) = if (inI (nI a) 4 = true ∧ inI oo 63 = true ∧ lkF (sz (nI a).toInt.toNat) ii 1 = 0) ∧ a9 = (nI a).toInt.toNat ∧ j9 = ii.toInt.toNat then _ else it (40 * a9 + j9)
              rw [ra, hxn]
              unfold vp_updL
              by_cases e8 : a9 = a ∧ j9 = x
              · rw [if_pos (by omega), if_pos ⟨⟨ha1, ho1, hf⟩, e8⟩]
              · rw [if_neg (by omega), if_neg (fun e7 => e8 e7.2)]⟩) (by rw [lyF, if_neg hok, ra] <;> rfl) (rfl) dX8_lay_56 hQ
      · skip
        have hf : ¬ lkF (sz a) ii 1 = 0 := fun e9 => h33 (by rw [if_pos e9])
        refine lv_iload hx hb dX8_lay_36 (lv_at hl 0 rfl) ?_
        exact zreti hF hB it (⟨by rw [lyA, if_neg hok, ra, if_neg hf, if_neg hf], fun a9 j9 h9 h8 => (if_neg (fun e9 => hf (by have := e9.1.2.2; rw [ra] at this; exact this))).symm⟩) (by rw [lyF, if_neg hok, ra] <;> rfl) (rfl) dX8_lay_38 hQ
    · skip
      refine lv_bipush (v := -2) hx hb dX8_lay_20 (by decide) ?_
      have hok : ¬ (inI (nI a) 4 = true ∧ inI oo 63 = true) := fun e8 => by have e7 := e8.2; rw [← zin_inI oo 63 (by decide) (by decide)] at e7; exact absurd ((bI_eq0 h17).symm.trans e7) (by decide)
      exact zreti hF hB it (⟨by rw [lyA, if_pos hok], fun a9 j9 h9 h8 => (if_neg (fun e9 => hok ⟨e9.1.1, e9.1.2.1⟩)).symm⟩) (by rw [lyF, if_pos hok] <;> rfl) (rfl) dX8_lay_22 hQ

set_option maxHeartbeats 4000000 in
set_option maxRecDepth 100000 in
theorem c_X8_get (l : Launch) (D : va_G) (ka : Nat → ClassId) (kb : Nat → Nat) (q : Nat) (ad : Nat → Nat) (o : Bool) (z : mZ) (sz : Nat → Int32) (it : Nat → Int64) (ss : Int32) (ii : Int32) (hsz : okSz sz) : zL l D ka kb yX8_get cX8_get 4 2 47 [.ref q, .int ss, .int ii] ([(q, .inr (8, mO ad o z)), ((ad 0), .inl (ka 0, 4, .inl sz)), ((ad 1), .inl (ka 1, 160, .inr (.inl it)))]) (fun (r : Int64) (_ : Unit) => r = gtA ss ii sz (itM it)) (fun (_ : Unit) => [(q, .inr (8, mX ad (bI o) (laF (gtF ss ii sz) z.1) z.2.1 z.2.2.1 z.2.2.2.1 z.2.2.2.2.1 z.2.2.2.2.2.1 z.2.2.2.2.2.2.1 z.2.2.2.2.2.2.2)), ((ad 0), .inl (ka 0, 4, .inl sz)), ((ad 1), .inl (ka 1, 160, .inr (.inl it)))]) := by
  refine zL.mk RX8 (by decide +kernel) rfl (Nat.le_of_ble_eq_true rfl) ?_
  intro p e s m below meth c A ls args Q hQ hx hb hF hB hl
  replace hl : lv_has ls 4 [(0, .ref q), (1, .int ss), (2, .int ii)] := hl
  refine lv_iload_n hx hb dX8_get_0 rfl (lv_at hl 1 rfl) ?_
  refine zSi zm_X8_85 hF hB (c_X8_isSheet l D ka kb ss ) [] rfl (by decide) [] (fun _ => rfl) rfl rfl ⟨Nat.le_of_ble_eq_true rfl, Nat.le_of_ble_eq_true rfl⟩ rfl hl.1 (Nat.le_of_ble_eq_true rfl) ⟨Nat.le_refl _, Nat.le_refl _⟩ dX8_get_1 ?_
  clear hB
  try clear locs
  try clear H
  intro r1 u1 H locs hp hB
  obtain rfl : r1 = bI (inI ss 4) := hp
  replace hB : zB D A s ([(q, .inr (8, mO ad o z)), ((ad 0), .inl (ka 0, 4, .inl sz)), ((ad 1), .inl (ka 1, 160, .inr (.inl it)))]) H locs := hB
  refine lv_if_ne (tgt := 13) hx hb dX8_get_4 (by decide) (fun h4 => ?_) (fun h4 => ?_)
  · skip
    have ha1 : inI ss 4 = true := bI_ne0 h4
    obtain ⟨a, ha2, ha3⟩ := inI_of ha1 (by decide)
    subst ha3
    have ra : (nI a).toInt.toNat = a := by rw [nI_toInt (by omega)]; rfl
    have hok : ¬ ¬ inI (nI a) 4 = true := not_not_intro ha1
    refine lv_aload_n hx hb dX8_get_13 rfl (lv_at hl 0 rfl) ?_
    refine lv_iload_n hx hb dX8_get_14 rfl (lv_at hl 1 rfl) ?_
    refine lv_iload_n hx hb dX8_get_15 rfl (lv_at hl 2 rfl) ?_
    refine zVi zm_X8_95 hF hB (c_X8_lacks l D ka kb q ad o z sz a ii (by omega) (hsz)) [0, 1] rfl (by decide) [q, (ad 0)] (fun _ => rfl) rfl 0 8 rfl rfl rfl ⟨Nat.le_of_ble_eq_true rfl, Nat.le_of_ble_eq_true rfl⟩ rfl hl.1 (Nat.le_of_ble_eq_true rfl) ⟨Nat.le_refl _, Nat.le_refl _⟩ dX8_get_16 ?_
    clear hB
    try clear locs
    try clear H
    intro r2 u2 H locs hp hB
    obtain rfl : r2 = if lkF (sz a) ii 1 = 0 then 0 else -10 - lkF (sz a) ii 1 := hp
    replace hB : zB D A s ([(q, .inr (8, mX ad (bI o) (laF (lkF (sz a) ii 1) z.1) z.2.1 z.2.2.1 z.2.2.2.1 z.2.2.2.2.1 z.2.2.2.2.2.1 z.2.2.2.2.2.2.1 z.2.2.2.2.2.2.2)), ((ad 0), .inl (ka 0, 4, .inl sz)), ((ad 1), .inl (ka 1, 160, .inr (.inl it)))]) H locs := hB
    refine lv_istore_n (lv' := [(3, .int (if lkF (sz a) ii 1 = 0 then 0 else -10 - lkF (sz a) ii 1)), (0, .ref q), (1, .int (nI a)), (2, .int ii)]) hx hb dX8_get_19 rfl hl (by decide) rfl ?_
    clear hl
    clear ls
    intro ls hl
    refine lv_iload_n hx hb dX8_get_20 rfl (lv_at hl 0 rfl) ?_
    refine lv_if_eq (tgt := 31) hx hb dX8_get_21 (by decide) (fun h21 => ?_) (fun h21 => ?_)
    · skip
      have hf : lkF (sz a) ii 1 = 0 := fin0 h21
      have hs9 := (hsz a (by omega)).resolve_left (lkF_0 hf).1
      obtain ⟨x, hxl, hxe, hxi, hxn⟩ := i32_nat (x := ii) (n := 40) (lkF_0 hf).2.1 (by have := (lkF_0 hf).2.2; omega)
      refine lv_aload_n hx hb dX8_get_31 rfl (lv_at hl 1 rfl) ?_
      refine zget zf_X8_13 hF hB 0 rfl rfl dX8_get_32 ?_
      refine lv_bipush (v := 40) hx hb dX8_get_35 (by decide) ?_
      refine lv_iload_n hx hb dX8_get_37 rfl (lv_at hl 2 rfl) ?_
      refine lv_imul hx hb dX8_get_38 ?_
      refine ztopi (y := nI (40 * a)) (pk_mul 40 a) ?_
      refine lv_iload_n hx hb dX8_get_39 rfl (lv_at hl 3 rfl) ?_
      refine ztopi (y := nI x) (hxe) ?_
      refine lv_iadd hx hb dX8_get_40 ?_
      refine ztopi (y := nI ((40 * a) + x)) (nI_add (40 * a) x) ?_
      refine zlald hF hB 2 rfl ((40 * a) + x) (rfl) (by omega) (by decide) (v := (it ((40 * a) + x))) (rfl) dX8_get_41 ?_
      exact zretl hF hB () (by rw [gtA, if_neg hok, ra, if_pos hf, hxn] <;> rfl) (by rw [gtF, if_neg hok, ra] <;> rfl) dX8_get_42 hQ
    · skip
      have hf : ¬ lkF (sz a) ii 1 = 0 := fun e9 => h21 (by rw [if_pos e9])
      refine lv_iload_n hx hb dX8_get_24 rfl (lv_at hl 0 rfl) ?_
      refine zSl zm_X8_99 hF hB (c_X8_no l D ka kb (if lkF (sz a) ii 1 = 0 then 0 else -10 - lkF (sz a) ii 1) ) [] rfl (by decide) [] (fun _ => rfl) rfl rfl ⟨Nat.le_of_ble_eq_true rfl, Nat.le_of_ble_eq_true rfl⟩ rfl hl.1 (Nat.le_of_ble_eq_true rfl) ⟨Nat.le_refl _, Nat.le_refl _⟩ dX8_get_25 ?_
      clear hB
      try clear locs
      try clear H
      intro r3 u3 H locs hp hB
      obtain rfl : r3 = lMin - (if lkF (sz a) ii 1 = 0 then 0 else -10 - lkF (sz a) ii 1).toInt64 := hp
      replace hB : zB D A s ([(q, .inr (8, mX ad (bI o) (laF (lkF (sz a) ii 1) z.1) z.2.1 z.2.2.1 z.2.2.2.1 z.2.2.2.2.1 z.2.2.2.2.2.1 z.2.2.2.2.2.2.1 z.2.2.2.2.2.2.2)), ((ad 0), .inl (ka 0, 4, .inl sz)), ((ad 1), .inl (ka 1, 160, .inr (.inl it)))]) H locs := hB
      refine lv_goto (tgt := 42) hx hb dX8_get_28 (by decide) ?_
      exact zretl hF hB () (by rw [gtA, if_neg hok, ra, if_neg hf, if_neg hf]) (by rw [gtF, if_neg hok, ra] <;> rfl) dX8_get_42 hQ
  · skip
    have hok : ¬ inI ss 4 = true := by rw [bI_eq0 h4]; decide
    refine lv_bipush (v := -2) hx hb dX8_get_7 (by decide) ?_
    refine zSl zm_X8_99 hF hB (c_X8_no l D ka kb (-2 : Int32) ) [] rfl (by decide) [] (fun _ => rfl) rfl rfl ⟨Nat.le_of_ble_eq_true rfl, Nat.le_of_ble_eq_true rfl⟩ rfl hl.1 (Nat.le_of_ble_eq_true rfl) ⟨Nat.le_refl _, Nat.le_refl _⟩ dX8_get_9 ?_
    clear hB
    try clear locs
    try clear H
    intro r4 u4 H locs hp hB
    obtain rfl : r4 = lMin - (-2 : Int32).toInt64 := hp
    replace hB : zB D A s ([(q, .inr (8, mO ad o z)), ((ad 0), .inl (ka 0, 4, .inl sz)), ((ad 1), .inl (ka 1, 160, .inr (.inl it)))]) H locs := hB
    exact zretl hF hB () (by rw [gtA, if_pos hok]) (by rw [gtF, if_pos hok] <;> rfl) dX8_get_12 hQ

set_option maxHeartbeats 4000000 in
set_option maxRecDepth 100000 in
theorem c_X8_write (l : Launch) (D : va_G) (ka : Nat → ClassId) (kb : Nat → Nat) (q : Nat) (ad : Nat → Nat) (o : Bool) (z : mZ) (nu : Nat → Int64) (sz : Nat → Int32) (it : Nat → Int64) (ss : Int32) (hsz : okSz sz) : zI l D ka kb yX8_write cX8_write 4 .int 2 45 [.ref q, .int ss] ([(q, .inr (8, mO ad o z)), ((ad 3), .inl (ka 1, 200, .inr (.inl nu))), ((ad 0), .inl (ka 0, 4, .inl sz)), ((ad 1), .inl (ka 1, 160, .inr (.inl it)))]) (fun (r : Int32) (it2 : Nat → Int64) => r = wrA ss sz ∧ eqI (itM it2) (wrI ss sz nu (itM it))) (fun (it2 : Nat → Int64) => [(q, .inr (8, mX ad (bI o) (laF (wrF ss sz) z.1) z.2.1 z.2.2.1 z.2.2.2.1 z.2.2.2.2.1 z.2.2.2.2.2.1 z.2.2.2.2.2.2.1 z.2.2.2.2.2.2.2)), ((ad 3), .inl (ka 1, 200, .inr (.inl nu))), ((ad 0), .inl (ka 0, 4, .inl sz)), ((ad 1), .inl (ka 1, 160, .inr (.inl it2)))]) := by
  refine zI.mk RX8 (by decide +kernel) rfl (Nat.le_of_ble_eq_true rfl) ?_
  intro p e s m below meth c A ls args Q hQ hx hb hF hB hl
  replace hl : lv_has ls 4 [(0, .ref q), (1, .int ss)] := hl
  refine lv_iload_n hx hb dX8_write_0 rfl (lv_at hl 1 rfl) ?_
  refine zSi zm_X8_85 hF hB (c_X8_isSheet l D ka kb ss ) [] rfl (by decide) [] (fun _ => rfl) rfl rfl ⟨Nat.le_of_ble_eq_true rfl, Nat.le_of_ble_eq_true rfl⟩ rfl hl.1 (Nat.le_of_ble_eq_true rfl) ⟨Nat.le_refl _, Nat.le_refl _⟩ dX8_write_1 ?_
  clear hB
  try clear locs
  try clear H
  intro r1 u1 H locs hp hB
  obtain rfl : r1 = bI (inI ss 4) := hp
  replace hB : zB D A s ([(q, .inr (8, mO ad o z)), ((ad 3), .inl (ka 1, 200, .inr (.inl nu))), ((ad 0), .inl (ka 0, 4, .inl sz)), ((ad 1), .inl (ka 1, 160, .inr (.inl it)))]) H locs := hB
  refine lv_if_ne (tgt := 10) hx hb dX8_write_4 (by decide) (fun h4 => ?_) (fun h4 => ?_)
  · skip
    have ha1 : inI ss 4 = true := bI_ne0 h4
    obtain ⟨a, ha2, ha3⟩ := inI_of ha1 (by decide)
    subst ha3
    have ra : (nI a).toInt.toNat = a := by rw [nI_toInt (by omega)]; rfl
    have hok : ¬ ¬ inI (nI a) 4 = true := not_not_intro ha1
    refine lv_aload_n hx hb dX8_write_10 rfl (lv_at hl 0 rfl) ?_
    refine zget zf_X8_7 hF hB 0 rfl rfl dX8_write_11 ?_
    refine lv_iload_n hx hb dX8_write_14 rfl (lv_at hl 1 rfl) ?_
    refine ziald hF hB 2 rfl a (rfl) (by omega) (by decide) (v := (sz a)) (rfl) dX8_write_15 ?_
    refine lv_iconst (v := -1) hx hb dX8_write_16 (by decide) ?_
    refine lv_icmp_ne (tgt := 26) hx hb dX8_write_17 (by decide) (fun h17 => ?_) (fun h17 => ?_)
    · skip
      have hs9 := (hsz a (by omega)).resolve_left h17
      refine lv_aload_n hx hb dX8_write_26 rfl (lv_at hl 0 rfl) ?_
      refine zget zf_X8_7 hF hB 0 rfl rfl dX8_write_27 ?_
      refine lv_iload_n hx hb dX8_write_30 rfl (lv_at hl 1 rfl) ?_
      refine ziald hF hB 2 rfl a (rfl) (by omega) (by decide) (v := (sz a)) (rfl) dX8_write_31 ?_
      refine lv_bipush (v := 30) hx hb dX8_write_32 (by decide) ?_
      refine lv_icmp_ge (tgt := 46) hx hb dX8_write_34 (by decide) (fun h34 => ?_) (fun h34 => ?_)
      · skip
        have hw9 : wrA (nI a) sz = 30 := by rw [wrA, if_neg hok, ra, if_neg h17, if_neg (Int32.not_lt.mpr h34)]
        obtain ⟨m9, hm1, hm2, hm3, hm4⟩ := i32_nat (x := wrA (nI a) sz) (n := 31) (by rw [hw9]; decide) (by rw [hw9]; decide)
        have hmz : (m9 : Int) ≤ (sz a).toInt := by rw [← hm3, hw9]; exact (i32_le_i _ _).mp h34
        refine lv_bipush (v := 30) hx hb dX8_write_46 (by decide) ?_
        refine ztopi (y := nI m9) (hw9.symm.trans hm2) ?_
        refine lv_istore_n (lv' := [(2, .int (nI m9)), (0, .ref q), (1, .int (nI a))]) hx hb dX8_write_48 rfl hl (by decide) rfl ?_
        clear hl
        clear ls
        intro ls hl
        refine lv_iconst (v := 0) hx hb dX8_write_49 (by decide) ?_
        refine lv_istore_n (lv' := [(3, .int (0 : Int32)), (2, .int (nI m9)), (0, .ref q), (1, .int (nI a))]) hx hb dX8_write_50 rfl hl (by decide) rfl ?_
        clear hl
        clear ls
        intro ls hl
        have lp51 : ∀ (fl : Nat) (k : Nat), (hk : k ≤ m9) → 31 - k < fl → ∀ (H : Heap) (locs : List Loc), zB D A s ([(q, .inr (8, mO ad o z)), ((ad 3), .inl (ka 1, 200, .inr (.inl nu))), ((ad 0), .inl (ka 0, 4, .inl sz)), ((ad 1), .inl (ka 1, 160, .inr (.inl (pfill it nu (40 * a) 0 k))))]) H locs → ∀ ls : Array Slot, lv_has ls 4 [(3, .int (nI k)), (2, .int (nI m9)), (0, .ref q), (1, .int (nI a))] → W p l e (zRm 2 45 0 0) s m args below meth c H locs 0 0 Q (F0 m 51 ls []) := by
          intro fl
          induction fl with
          | zero => intro k hk hfl; exact absurd hfl (Nat.not_lt_zero _)
          | succ fl ih51 =>
            intro k hk hfl51 H locs hB ls hl
            refine lv_iload_n hx hb dX8_write_51 rfl (lv_at hl 0 rfl) ?_
            refine lv_iload_n hx hb dX8_write_52 rfl (lv_at hl 1 rfl) ?_
            refine lv_icmp_ge (tgt := 79) hx hb dX8_write_53 (by decide) (fun h53 => ?_) (fun h53 => ?_)
            · skip
              have hk9 : m9 ≤ k := (nI_leI (by omega) (by omega)).mp h53
              refine lv_iload_n hx hb dX8_write_79 rfl (lv_at hl 1 rfl) ?_
              exact zreti hF hB _ (⟨by rw [hm2], fun a9 j9 h9 h8 => by
                    have hkm : k = m9 := by omega
                    subst hkm
                    show pfill it nu (40 * a) 0 k (40 * a9 + j9) = if (inI (nI a) 4 = true ∧ sz (nI a).toInt.toNat ≠ -1) ∧ a9 = (nI a).toInt.toNat ∧ j9 < (wrA (nI a) sz).toInt.toNat then nu j9 else it (40 * a9 + j9)
                    rw [ra, hm4]
                    unfold pfill
                    by_cases e8 : a9 = a ∧ j9 < k
                    · rw [if_pos (by omega), if_pos ⟨⟨ha1, h17⟩, e8⟩, e8.1, show 0 + (40 * a + j9 - 40 * a) = j9 by omega]
                    · rw [if_neg (by omega), if_neg (fun e7 => e8 e7.2)]⟩) (by rw [wrF, if_neg hok, ra, if_neg h17] <;> rfl) (rfl) dX8_write_80 hQ
            · skip
              have hk9 : k < m9 := Nat.not_le.mp (fun e9 => h53 ((nI_leI (by omega) (by omega)).mpr e9))
              refine lv_aload_n hx hb dX8_write_56 rfl (lv_at hl 2 rfl) ?_
              refine zget zf_X8_13 hF hB 0 rfl rfl dX8_write_57 ?_
              refine lv_bipush (v := 40) hx hb dX8_write_60 (by decide) ?_
              refine lv_iload_n hx hb dX8_write_62 rfl (lv_at hl 3 rfl) ?_
              refine lv_imul hx hb dX8_write_63 ?_
              refine ztopi (y := nI (40 * a)) (pk_mul 40 a) ?_
              refine lv_iload_n hx hb dX8_write_64 rfl (lv_at hl 0 rfl) ?_
              refine lv_iadd hx hb dX8_write_65 ?_
              refine ztopi (y := nI ((40 * a) + k)) (nI_add (40 * a) k) ?_
              refine lv_aload_n hx hb dX8_write_66 rfl (lv_at hl 2 rfl) ?_
              refine zget zf_X8_20 hF hB 0 rfl rfl dX8_write_67 ?_
              refine lv_iload_n hx hb dX8_write_70 rfl (lv_at hl 0 rfl) ?_
              refine zlald hF hB 1 rfl k (rfl) (by omega) (by decide) (v := (nu k)) (rfl) dX8_write_71 ?_
              refine ztopl (y := nu (0 + k)) (by rw [Nat.zero_add]) ?_
              refine zlast hF hB 3 rfl ((40 * a) + k) (rfl) (by omega) (by decide) dX8_write_72 ?_
              clear hB
              try clear locs
              try clear H
              intro H locs hB
              replace hB : zB D A s ([(q, .inr (8, mO ad o z)), ((ad 3), .inl (ka 1, 200, .inr (.inl nu))), ((ad 0), .inl (ka 0, 4, .inl sz)), ((ad 1), .inl (ka 1, 160, .inr (.inl (pfill it nu (40 * a) 0 (k + 1)))))]) H locs := (by have e9 := hB; rw [pfill_s] at e9; exact e9)
              refine lv_iinc (v := nI (k + 1)) (lv' := [(3, .int (nI (k + 1))), (2, .int (nI m9)), (0, .ref q), (1, .int (nI a))]) hx hb dX8_write_73 hl (k := 0) rfl (nI_1 _) (by decide) rfl ?_
              clear hl
              clear ls
              intro ls hl
              refine lv_goto (tgt := 51) hx hb dX8_write_76 (by decide) ?_
              exact ih51 (k + 1) (by omega) (by omega) _ _ (hB) _ (lv_sub hl [0, 1, 2, 3] rfl)
        exact lp51 (31 - 0 + 1) 0 (Nat.zero_le _) (by omega) _ _ (by rw [pfill_0]; exact hB) _ (lv_sub hl [0, 1, 2, 3] rfl)
      · skip
        have hw9 : wrA (nI a) sz = sz a := by rw [wrA, if_neg hok, ra, if_neg h17, if_pos (Int32.not_le.mp h34)]
        obtain ⟨m9, hm1, hm2, hm3, hm4⟩ := i32_nat (x := wrA (nI a) sz) (n := 31) (by rw [hw9]; omega) (by rw [hw9]; have := (i32_lt_i _ _).mp (Int32.not_le.mp h34); have e9 : (30 : Int32).toInt = 30 := rfl; omega)
        have hmz : (m9 : Int) ≤ (sz a).toInt := by rw [← hm3, hw9]; exact Int.le_refl _
        refine lv_aload_n hx hb dX8_write_37 rfl (lv_at hl 0 rfl) ?_
        refine zget zf_X8_7 hF hB 0 rfl rfl dX8_write_38 ?_
        refine lv_iload_n hx hb dX8_write_41 rfl (lv_at hl 1 rfl) ?_
        refine ziald hF hB 2 rfl a (rfl) (by omega) (by decide) (v := (nI m9)) (hw9.symm.trans hm2) dX8_write_42 ?_
        refine lv_goto (tgt := 48) hx hb dX8_write_43 (by decide) ?_
        refine lv_istore_n (lv' := [(2, .int (nI m9)), (0, .ref q), (1, .int (nI a))]) hx hb dX8_write_48 rfl hl (by decide) rfl ?_
        clear hl
        clear ls
        intro ls hl
        refine lv_iconst (v := 0) hx hb dX8_write_49 (by decide) ?_
        refine lv_istore_n (lv' := [(3, .int (0 : Int32)), (2, .int (nI m9)), (0, .ref q), (1, .int (nI a))]) hx hb dX8_write_50 rfl hl (by decide) rfl ?_
        clear hl
        clear ls
        intro ls hl
        have lp51 : ∀ (fl : Nat) (k : Nat), (hk : k ≤ m9) → 31 - k < fl → ∀ (H : Heap) (locs : List Loc), zB D A s ([(q, .inr (8, mO ad o z)), ((ad 3), .inl (ka 1, 200, .inr (.inl nu))), ((ad 0), .inl (ka 0, 4, .inl sz)), ((ad 1), .inl (ka 1, 160, .inr (.inl (pfill it nu (40 * a) 0 k))))]) H locs → ∀ ls : Array Slot, lv_has ls 4 [(3, .int (nI k)), (2, .int (nI m9)), (0, .ref q), (1, .int (nI a))] → W p l e (zRm 2 45 0 0) s m args below meth c H locs 0 0 Q (F0 m 51 ls []) := by
          intro fl
          induction fl with
          | zero => intro k hk hfl; exact absurd hfl (Nat.not_lt_zero _)
          | succ fl ih51 =>
            intro k hk hfl51 H locs hB ls hl
            refine lv_iload_n hx hb dX8_write_51 rfl (lv_at hl 0 rfl) ?_
            refine lv_iload_n hx hb dX8_write_52 rfl (lv_at hl 1 rfl) ?_
            refine lv_icmp_ge (tgt := 79) hx hb dX8_write_53 (by decide) (fun h53 => ?_) (fun h53 => ?_)
            · skip
              have hk9 : m9 ≤ k := (nI_leI (by omega) (by omega)).mp h53
              refine lv_iload_n hx hb dX8_write_79 rfl (lv_at hl 1 rfl) ?_
              exact zreti hF hB _ (⟨by rw [hm2], fun a9 j9 h9 h8 => by
                    have hkm : k = m9 := by omega
                    subst hkm
                    show pfill it nu (40 * a) 0 k (40 * a9 + j9) = if (inI (nI a) 4 = true ∧ sz (nI a).toInt.toNat ≠ -1) ∧ a9 = (nI a).toInt.toNat ∧ j9 < (wrA (nI a) sz).toInt.toNat then nu j9 else it (40 * a9 + j9)
                    rw [ra, hm4]
                    unfold pfill
                    by_cases e8 : a9 = a ∧ j9 < k
                    · rw [if_pos (by omega), if_pos ⟨⟨ha1, h17⟩, e8⟩, e8.1, show 0 + (40 * a + j9 - 40 * a) = j9 by omega]
                    · rw [if_neg (by omega), if_neg (fun e7 => e8 e7.2)]⟩) (by rw [wrF, if_neg hok, ra, if_neg h17] <;> rfl) (rfl) dX8_write_80 hQ
            · skip
              have hk9 : k < m9 := Nat.not_le.mp (fun e9 => h53 ((nI_leI (by omega) (by omega)).mpr e9))
              refine lv_aload_n hx hb dX8_write_56 rfl (lv_at hl 2 rfl) ?_
              refine zget zf_X8_13 hF hB 0 rfl rfl dX8_write_57 ?_
              refine lv_bipush (v := 40) hx hb dX8_write_60 (by decide) ?_
              refine lv_iload_n hx hb dX8_write_62 rfl (lv_at hl 3 rfl) ?_
              refine lv_imul hx hb dX8_write_63 ?_
              refine ztopi (y := nI (40 * a)) (pk_mul 40 a) ?_
              refine lv_iload_n hx hb dX8_write_64 rfl (lv_at hl 0 rfl) ?_
              refine lv_iadd hx hb dX8_write_65 ?_
              refine ztopi (y := nI ((40 * a) + k)) (nI_add (40 * a) k) ?_
              refine lv_aload_n hx hb dX8_write_66 rfl (lv_at hl 2 rfl) ?_
              refine zget zf_X8_20 hF hB 0 rfl rfl dX8_write_67 ?_
              refine lv_iload_n hx hb dX8_write_70 rfl (lv_at hl 0 rfl) ?_
              refine zlald hF hB 1 rfl k (rfl) (by omega) (by decide) (v := (nu k)) (rfl) dX8_write_71 ?_
              refine ztopl (y := nu (0 + k)) (by rw [Nat.zero_add]) ?_
              refine zlast hF hB 3 rfl ((40 * a) + k) (rfl) (by omega) (by decide) dX8_write_72 ?_
              clear hB
              try clear locs
              try clear H
              intro H locs hB
              replace hB : zB D A s ([(q, .inr (8, mO ad o z)), ((ad 3), .inl (ka 1, 200, .inr (.inl nu))), ((ad 0), .inl (ka 0, 4, .inl sz)), ((ad 1), .inl (ka 1, 160, .inr (.inl (pfill it nu (40 * a) 0 (k + 1)))))]) H locs := (by have e9 := hB; rw [pfill_s] at e9; exact e9)
              refine lv_iinc (v := nI (k + 1)) (lv' := [(3, .int (nI (k + 1))), (2, .int (nI m9)), (0, .ref q), (1, .int (nI a))]) hx hb dX8_write_73 hl (k := 0) rfl (nI_1 _) (by decide) rfl ?_
              clear hl
              clear ls
              intro ls hl
              refine lv_goto (tgt := 51) hx hb dX8_write_76 (by decide) ?_
              exact ih51 (k + 1) (by omega) (by omega) _ _ (hB) _ (lv_sub hl [0, 1, 2, 3] rfl)
        exact lp51 (31 - 0 + 1) 0 (Nat.zero_le _) (by omega) _ _ (by rw [pfill_0]; exact hB) _ (lv_sub hl [0, 1, 2, 3] rfl)
    · skip
      refine lv_aload_n hx hb dX8_write_20 rfl (lv_at hl 0 rfl) ?_
      refine lv_iconst (v := 1) hx hb dX8_write_21 (by decide) ?_
      refine zVi zm_X8_89 hF hB (c_X8_finds l D ka kb q ad o z (1 : Int32) ) [0] rfl (by decide) [q] (fun _ => rfl) rfl 0 8 rfl rfl rfl ⟨Nat.le_of_ble_eq_true rfl, Nat.le_of_ble_eq_true rfl⟩ rfl hl.1 (Nat.le_of_ble_eq_true rfl) ⟨Nat.le_refl _, Nat.le_refl _⟩ dX8_write_22 ?_
      clear hB
      try clear locs
      try clear H
      intro r2 u2 H locs hp hB
      obtain rfl : r2 = (-10 : Int32) - (1 : Int32) := hp
      replace hB : zB D A s ([(q, .inr (8, mX ad (bI o) (1 : Int32) z.2.1 z.2.2.1 z.2.2.2.1 z.2.2.2.2.1 z.2.2.2.2.2.1 z.2.2.2.2.2.2.1 z.2.2.2.2.2.2.2)), ((ad 3), .inl (ka 1, 200, .inr (.inl nu))), ((ad 0), .inl (ka 0, 4, .inl sz)), ((ad 1), .inl (ka 1, 160, .inr (.inl it)))]) H locs := hB
      exact zreti hF hB it (⟨by rw [wrA, if_neg hok, ra, if_pos h17] <;> rfl, fun a9 j9 h9 h8 => (if_neg (fun e9 => by have := e9.1.2; rw [ra] at this; exact this h17)).symm⟩) (by rw [wrF, if_neg hok, ra, if_pos h17] <;> rfl) (rfl) dX8_write_25 hQ
  · skip
    refine lv_bipush (v := -2) hx hb dX8_write_7 (by decide) ?_
    have hok : ¬ inI ss 4 = true := by rw [bI_eq0 h4]; decide
    exact zreti hF hB it (⟨by rw [wrA, if_pos hok], fun a9 j9 h9 h8 => (if_neg (fun e9 => hok e9.1.1)).symm⟩) (by rw [wrF, if_pos hok] <;> rfl) (rfl) dX8_write_9 hQ
