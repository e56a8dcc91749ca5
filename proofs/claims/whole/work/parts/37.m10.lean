noncomputable def inR (v : Int32) (lo hi : Int) : Bool := dB (lo ≤ v.toInt ∧ v.toInt ≤ hi)
theorem zin_R {v : Int32} {lo hi : Int64} {a b : Int} (h1 : lo.toInt = a) (h2 : hi.toInt = b) : zin v.toInt64 lo hi = inR v a b := by
  unfold zin inR
  apply dB_c
  rw [Int64.le_iff_toInt_le, Int64.le_iff_toInt_le, i32_w, h1, h2]
noncomputable def drK (p a s : Int32) : Bool := dB (inI p 2 = true ∧ inI a 12 = true ∧ inR s 1 9 = true)
noncomputable def drB (p a s : Int32) (le ho : Nat → Int32) : Bool := dB (drK p a s = true ∧ frB (aN p) (aN a) le ho = true)
noncomputable def drA (p a s : Int32) (le ho : Nat → Int32) : Int32 := if drK p a s = false then -2 else if frB (aN p) (aN a) le ho = false then -3 else nI (hcnt (aN p) (upd ho (12 * aN p + aN a) s) 12)
noncomputable def fiK (p a : Int32) : Bool := dB (inI p 2 = true ∧ inI a 12 = true)
noncomputable def fiB (p a : Int32) (ho : Nat → Int32) : Bool := dB (fiK p a = true ∧ ho (12 * aN p + aN a) ≠ 0)
noncomputable def fiA (p a : Int32) (ho : Nat → Int32) : Int32 := if fiK p a = false then -2 else if ho (12 * aN p + aN a) = 0 then -3 else ho (12 * aN p + aN a)
noncomputable def hlA (p a : Int32) (ho : Nat → Int32) : Int32 := if fiK p a = true then ho (12 * aN p + aN a) else -2
noncomputable def lwK (p b : Int32) : Bool := dB (inI p 2 = true ∧ inR b 0 4095 = true)
noncomputable def szK (b : Int32) : Bool := dB (inR b 0 1023 = true ∧ b &&& 1 ≠ 1 ∧ inR (bcnt b 12) 1 3 = true)
noncomputable def plK (p k : Int32) : Bool := dB (inI p 2 = true ∧ inI k 10 = true)
/-- what pull tells of a plane -/
def plV (P : Nat → Int) (k : Nat) : Int64 := if k < 5 then cmp5 (plN P) k else cmp5 (sqN P) (k - 5)
theorem aNn {a n : Nat} (h : a < n) (hn : n < 2 ^ 31) : aN (nI a) = a := by unfold aN; rw [nI_toInt (by omega)]; rfl
set_option maxHeartbeats 4000000 in
set_option maxRecDepth 100000 in
theorem c_X8_drill (l : Launch) (D : va_G) (ka : Nat → ClassId) (kb : Nat → Nat) (q : Nat) (ad : Nat → Nat) (o : Bool) (z : mZ) (le : Nat → Int32) (ho : Nat → Int32) (pq : Int32) (aq : Int32) (sq9 : Int32)  : zI l D ka kb yX8_drill cX8_drill 4 .int 2 45 [.ref q, .int pq, .int aq, .int sq9] ([(q, .inr (8, mO ad o z)), ((ad 8), .inl (ka 0, 2, .inl le)), ((ad 7), .inl (ka 0, 24, .inl ho))]) (fun (r : Int32) (_ : Unit) => r = drA pq aq sq9 le ho) (fun (_ : Unit) => [(q, .inr (8, mX ad (bI o) z.1 z.2.1 z.2.2.1 z.2.2.2.1 (if drB pq aq sq9 le ho = true then (0 : Int32) else z.2.2.2.2.1) z.2.2.2.2.2.1 z.2.2.2.2.2.2.1 z.2.2.2.2.2.2.2)), ((ad 8), .inl (ka 0, 2, .inl le)), ((ad 7), .inl (ka 0, 24, .inl (if drB pq aq sq9 le ho = true then upd ho (12 * aN pq + aN aq) sq9 else ho)))]) := by
  refine zI.mk RX8 (by decide +kernel) rfl (Nat.le_of_ble_eq_true rfl) ?_
  intro p e s m below meth c A ls args Q hQ hx hb hF hB hl
  replace hl : lv_has ls 4 [(0, .ref q), (1, .int pq), (2, .int aq), (3, .int sq9)] := hl
  refine lv_iload_n hx hb dX8_drill_0 rfl (lv_at hl 1 rfl) ?_
  refine zSi zm_X8_226 hF hB (c_X8_isTwo l D ka kb pq ) [] rfl (by decide) [] (fun _ => rfl) rfl rfl ⟨Nat.le_of_ble_eq_true rfl, Nat.le_of_ble_eq_true rfl⟩ rfl hl.1 (Nat.le_of_ble_eq_true rfl) ⟨Nat.le_refl _, Nat.le_refl _⟩ dX8_drill_1 ?_
  clear hB
  try clear locs
  try clear H
  intro r1 u1 H locs hp hB
  obtain rfl : r1 = bI (inI pq 2) := hp
  replace hB : zB D A s ([(q, .inr (8, mO ad o z)), ((ad 8), .inl (ka 0, 2, .inl le)), ((ad 7), .inl (ka 0, 24, .inl ho))]) H locs := hB
  refine lv_if_eq (tgt := 26) hx hb dX8_drill_4 (by decide) (fun h4 => ?_) (fun h4 => ?_)
  · skip
    refine lv_bipush (v := -2) hx hb dX8_drill_26 (by decide) ?_
    have hk9 : drK pq aq sq9 = false := dB_f.mpr (fun e8 => by rw [bI_eq0 h4] at e8; exact absurd e8.1 (by decide))
    have hb9 : drB pq aq sq9 le ho = false := dB_f.mpr (fun e8 => by rw [hk9] at e8; exact absurd e8.1 (by decide))
    exact zreti hF hB () (by rw [drA, if_pos hk9]) (by rw [hb9] <;> rfl) (rfl) dX8_drill_28 hQ
  · skip
    have hp1 : inI pq 2 = true := bI_ne0 h4
    obtain ⟨p, hp2, hp3⟩ := inI_of hp1 (by decide)
    subst hp3
    have rp : aN (nI p) = p := aNn hp2 (by decide)
    refine lv_iload_n hx hb dX8_drill_7 rfl (lv_at hl 2 rfl) ?_
    refine zSi zm_X8_218 hF hB (c_X8_isAngle l D ka kb aq ) [] rfl (by decide) [] (fun _ => rfl) rfl rfl ⟨Nat.le_of_ble_eq_true rfl, Nat.le_of_ble_eq_true rfl⟩ rfl hl.1 (Nat.le_of_ble_eq_true rfl) ⟨Nat.le_refl _, Nat.le_refl _⟩ dX8_drill_8 ?_
    clear hB
    try clear locs
    try clear H
    intro r2 u2 H locs hp hB
    obtain rfl : r2 = bI (inI aq 12) := hp
    replace hB : zB D A s ([(q, .inr (8, mO ad o z)), ((ad 8), .inl (ka 0, 2, .inl le)), ((ad 7), .inl (ka 0, 24, .inl ho))]) H locs := hB
    refine lv_if_eq (tgt := 26) hx hb dX8_drill_11 (by decide) (fun h11 => ?_) (fun h11 => ?_)
    · skip
      refine lv_bipush (v := -2) hx hb dX8_drill_26 (by decide) ?_
      have hk9 : drK (nI p) aq sq9 = false := dB_f.mpr (fun e8 => by rw [bI_eq0 h11] at e8; exact absurd e8.2.1 (by decide))
      have hb9 : drB (nI p) aq sq9 le ho = false := dB_f.mpr (fun e8 => by rw [hk9] at e8; exact absurd e8.1 (by decide))
      exact zreti hF hB () (by rw [drA, if_pos hk9]) (by rw [hb9] <;> rfl) (rfl) dX8_drill_28 hQ
    · skip
      have ha1 : inI aq 12 = true := bI_ne0 h11
      obtain ⟨a, ha2, ha3⟩ := inI_of ha1 (by decide)
      subst ha3
      have ra : aN (nI a) = a := aNn ha2 (by decide)
      refine lv_iload_n hx hb dX8_drill_14 rfl (lv_at hl 3 rfl) ?_
      refine lv_i2l (v := sq9.toInt64) hx hb dX8_drill_15 rfl ?_
      refine lv_lconst (v := 1) hx hb dX8_drill_16 (by decide) ?_
      refine zldc2 (v := (9 : Int64)) ww_20_9 hF dX8_drill_17 ?_
      refine zSi zm_X8_72 hF hB (c_X8_in l D ka kb sq9.toInt64 (1 : Int64) (9 : Int64) ) [] rfl (by decide) [] (fun _ => rfl) rfl rfl ⟨Nat.le_of_ble_eq_true rfl, Nat.le_of_ble_eq_true rfl⟩ rfl hl.1 (Nat.le_of_ble_eq_true rfl) ⟨Nat.le_refl _, Nat.le_refl _⟩ dX8_drill_20 ?_
      clear hB
      try clear locs
      try clear H
      intro r3 u3 H locs hp hB
      obtain rfl : r3 = bI (zin sq9.toInt64 (1 : Int64) (9 : Int64)) := hp
      replace hB : zB D A s ([(q, .inr (8, mO ad o z)), ((ad 8), .inl (ka 0, 2, .inl le)), ((ad 7), .inl (ka 0, 24, .inl ho))]) H locs := hB
      refine lv_if_ne (tgt := 29) hx hb dX8_drill_23 (by decide) (fun h23 => ?_) (fun h23 => ?_)
      · skip
        have hs9 : inR sq9 1 9 = true := (zin_R (a := 1) (b := 9) rfl rfl).symm.trans (bI_ne0 h23)
        have hk9 : drK (nI p) (nI a) sq9 = true := dB_t.mpr ⟨hp1, ha1, hs9⟩
        refine lv_aload_n hx hb dX8_drill_29 rfl (lv_at hl 0 rfl) ?_
        refine lv_iload_n hx hb dX8_drill_30 rfl (lv_at hl 1 rfl) ?_
        refine lv_iload_n hx hb dX8_drill_31 rfl (lv_at hl 2 rfl) ?_
        refine zVi zm_X8_231 hF hB (c_X8_isFree l D ka kb q ad o z le ho p a (by first | assumption | omega | decide) (by first | assumption | omega | decide)) [0, 1, 2] rfl (by decide) [q, (ad 8), (ad 7)] (fun _ => rfl) rfl 0 8 rfl rfl rfl ⟨Nat.le_of_ble_eq_true rfl, Nat.le_of_ble_eq_true rfl⟩ rfl hl.1 (Nat.le_of_ble_eq_true rfl) ⟨Nat.le_refl _, Nat.le_refl _⟩ dX8_drill_32 ?_
        clear hB
        try clear locs
        try clear H
        intro r4 u4 H locs hp hB
        obtain rfl : r4 = bI (frB p a le ho) := hp
        replace hB : zB D A s ([(q, .inr (8, mO ad o z)), ((ad 8), .inl (ka 0, 2, .inl le)), ((ad 7), .inl (ka 0, 24, .inl ho))]) H locs := hB
        refine lv_if_ne (tgt := 41) hx hb dX8_drill_35 (by decide) (fun h35 => ?_) (fun h35 => ?_)
        · skip
          have hf9 : frB p a le ho = true := bI_ne0 h35
          refine lv_aload_n hx hb dX8_drill_41 rfl (lv_at hl 0 rfl) ?_
          refine zget zf_X8_32 hF hB 0 rfl rfl dX8_drill_42 ?_
          refine lv_bipush (v := 12) hx hb dX8_drill_45 (by decide) ?_
          refine lv_iload_n hx hb dX8_drill_47 rfl (lv_at hl 1 rfl) ?_
          refine lv_imul hx hb dX8_drill_48 ?_
          refine ztopi (y := nI (12 * p)) (pk_mul 12 p) ?_
          refine lv_iload_n hx hb dX8_drill_49 rfl (lv_at hl 2 rfl) ?_
          refine lv_iadd hx hb dX8_drill_50 ?_
          refine ztopi (y := nI ((12 * p) + a)) (nI_add (12 * p) a) ?_
          refine lv_iload_n hx hb dX8_drill_51 rfl (lv_at hl 3 rfl) ?_
          refine ziast hF hB 2 rfl ((12 * p) + a) (rfl) (by omega) (by decide) dX8_drill_52 ?_
          clear hB
          try clear locs
          try clear H
          intro H locs hB
          replace hB : zB D A s ([(q, .inr (8, mO ad o z)), ((ad 8), .inl (ka 0, 2, .inl le)), ((ad 7), .inl (ka 0, 24, .inl (upd ho ((12 * p) + a) sq9)))]) H locs := hB
          refine lv_aload_n hx hb dX8_drill_53 rfl (lv_at hl 0 rfl) ?_
          refine zVv zm_X8_223 hF hB (c_X8_forgets l D ka kb q ad o z ) [0] rfl (by decide) [q] (fun _ => rfl) rfl 0 8 rfl rfl rfl ⟨Nat.le_of_ble_eq_true rfl, Nat.le_of_ble_eq_true rfl⟩ rfl hl.1 (Nat.le_of_ble_eq_true rfl) ⟨Nat.le_refl _, Nat.le_refl _⟩ dX8_drill_54 ?_
          clear hB
          try clear locs
          try clear H
          intro u5 H locs hp hB
          replace hB : zB D A s ([(q, .inr (8, mX ad (bI o) z.1 z.2.1 z.2.2.1 z.2.2.2.1 (0 : Int32) z.2.2.2.2.2.1 z.2.2.2.2.2.2.1 z.2.2.2.2.2.2.2)), ((ad 8), .inl (ka 0, 2, .inl le)), ((ad 7), .inl (ka 0, 24, .inl (upd ho ((12 * p) + a) sq9)))]) H locs := hB
          refine lv_aload_n hx hb dX8_drill_57 rfl (lv_at hl 0 rfl) ?_
          refine lv_iload_n hx hb dX8_drill_58 rfl (lv_at hl 1 rfl) ?_
          refine zVi zm_X8_235 hF hB (c_X8_holesIn l D ka kb q ad o (z.1, z.2.1, z.2.2.1, z.2.2.2.1, (0 : Int32), z.2.2.2.2.2.1, z.2.2.2.2.2.2.1, z.2.2.2.2.2.2.2) (upd ho ((12 * p) + a) sq9) p (by first | assumption | omega | decide)) [0, 2] rfl (by decide) [q, (ad 7)] (fun _ => rfl) rfl 0 8 rfl rfl rfl ⟨Nat.le_of_ble_eq_true rfl, Nat.le_of_ble_eq_true rfl⟩ rfl hl.1 (Nat.le_of_ble_eq_true rfl) ⟨Nat.le_refl _, Nat.le_refl _⟩ dX8_drill_59 ?_
          clear hB
          try clear locs
          try clear H
          intro r6 u6 H locs hp hB
          obtain rfl : r6 = nI (hcnt p (upd ho ((12 * p) + a) sq9) 12) := hp
          replace hB : zB D A s ([(q, .inr (8, mX ad (bI o) z.1 z.2.1 z.2.2.1 z.2.2.2.1 (0 : Int32) z.2.2.2.2.2.1 z.2.2.2.2.2.2.1 z.2.2.2.2.2.2.2)), ((ad 8), .inl (ka 0, 2, .inl le)), ((ad 7), .inl (ka 0, 24, .inl (upd ho ((12 * p) + a) sq9)))]) H locs := hB
          exact zreti hF hB () (by rw [drA, if_neg (by rw [hk9]; decide), rp, ra, if_neg (by rw [hf9]; decide)]) (by rw [show drB (nI p) (nI a) sq9 le ho = true from dB_t.mpr ⟨hk9, by rw [rp, ra]; exact hf9⟩, rp, ra] <;> rfl) (rfl) dX8_drill_62 hQ
        · skip
          have hf9 : frB p a le ho = false := bI_eq0 h35
          refine lv_bipush (v := -3) hx hb dX8_drill_38 (by decide) ?_
          exact zreti hF hB () (by rw [drA, if_neg (by rw [hk9]; decide), rp, ra, if_pos hf9]) (by rw [show drB (nI p) (nI a) sq9 le ho = false from dB_f.mpr (fun e8 => by have := e8.2; rw [rp, ra, hf9] at this; exact absurd this (by decide))] <;> rfl) (rfl) dX8_drill_40 hQ
      · skip
        have hs9 : inR sq9 1 9 = false := (zin_R (a := 1) (b := 9) rfl rfl).symm.trans (bI_eq0 h23)
        refine lv_bipush (v := -2) hx hb dX8_drill_26 (by decide) ?_
        have hk9 : drK (nI p) (nI a) sq9 = false := dB_f.mpr (fun e8 => by rw [hs9] at e8; exact absurd e8.2.2 (by decide))
        have hb9 : drB (nI p) (nI a) sq9 le ho = false := dB_f.mpr (fun e8 => by rw [hk9] at e8; exact absurd e8.1 (by decide))
        exact zreti hF hB () (by rw [drA, if_pos hk9]) (by rw [hb9] <;> rfl) (rfl) dX8_drill_28 hQ

set_option maxHeartbeats 4000000 in
set_option maxRecDepth 100000 in
theorem c_X8_fill (l : Launch) (D : va_G) (ka : Nat → ClassId) (kb : Nat → Nat) (q : Nat) (ad : Nat → Nat) (o : Bool) (z : mZ) (ho : Nat → Int32) (pq : Int32) (aq : Int32)  : zI l D ka kb yX8_fill cX8_fill 4 .int 2 45 [.ref q, .int pq, .int aq] ([(q, .inr (8, mO ad o z)), ((ad 7), .inl (ka 0, 24, .inl ho))]) (fun (r : Int32) (_ : Unit) => r = fiA pq aq ho) (fun (_ : Unit) => [(q, .inr (8, mX ad (bI o) z.1 z.2.1 z.2.2.1 z.2.2.2.1 (if fiB pq aq ho = true then (0 : Int32) else z.2.2.2.2.1) z.2.2.2.2.2.1 z.2.2.2.2.2.2.1 z.2.2.2.2.2.2.2)), ((ad 7), .inl (ka 0, 24, .inl (if fiB pq aq ho = true then upd ho (12 * aN pq + aN aq) 0 else ho)))]) := by
  refine zI.mk RX8 (by decide +kernel) rfl (Nat.le_of_ble_eq_true rfl) ?_
  intro p e s m below meth c A ls args Q hQ hx hb hF hB hl
  replace hl : lv_has ls 4 [(0, .ref q), (1, .int pq), (2, .int aq)] := hl
  refine lv_iload_n hx hb dX8_fill_0 rfl (lv_at hl 1 rfl) ?_
  refine zSi zm_X8_226 hF hB (c_X8_isTwo l D ka kb pq ) [] rfl (by decide) [] (fun _ => rfl) rfl rfl ⟨Nat.le_of_ble_eq_true rfl, Nat.le_of_ble_eq_true rfl⟩ rfl hl.1 (Nat.le_of_ble_eq_true rfl) ⟨Nat.le_refl _, Nat.le_refl _⟩ dX8_fill_1 ?_
  clear hB
  try clear locs
  try clear H
  intro r1 u1 H locs hp hB
  obtain rfl : r1 = bI (inI pq 2) := hp
  replace hB : zB D A s ([(q, .inr (8, mO ad o z)), ((ad 7), .inl (ka 0, 24, .inl ho))]) H locs := hB
  refine lv_if_eq (tgt := 14) hx hb dX8_fill_4 (by decide) (fun h4 => ?_) (fun h4 => ?_)
  · skip
    refine lv_bipush (v := -2) hx hb dX8_fill_14 (by decide) ?_
    have hk9 : fiK pq aq = false := dB_f.mpr (fun e8 => by rw [bI_eq0 h4] at e8; exact absurd e8.1 (by decide))
    exact zreti hF hB () (by rw [fiA, if_pos hk9]) (by rw [show fiB pq aq ho = false from dB_f.mpr (fun e8 => by rw [hk9] at e8; exact absurd e8.1 (by decide))] <;> rfl) (rfl) dX8_fill_16 hQ
  · skip
    have hp1 : inI pq 2 = true := bI_ne0 h4
    obtain ⟨p, hp2, hp3⟩ := inI_of hp1 (by decide)
    subst hp3
    have rp : aN (nI p) = p := aNn hp2 (by decide)
    refine lv_iload_n hx hb dX8_fill_7 rfl (lv_at hl 2 rfl) ?_
    refine zSi zm_X8_218 hF hB (c_X8_isAngle l D ka kb aq ) [] rfl (by decide) [] (fun _ => rfl) rfl rfl ⟨Nat.le_of_ble_eq_true rfl, Nat.le_of_ble_eq_true rfl⟩ rfl hl.1 (Nat.le_of_ble_eq_true rfl) ⟨Nat.le_refl _, Nat.le_refl _⟩ dX8_fill_8 ?_
    clear hB
    try clear locs
    try clear H
    intro r2 u2 H locs hp hB
    obtain rfl : r2 = bI (inI aq 12) := hp
    replace hB : zB D A s ([(q, .inr (8, mO ad o z)), ((ad 7), .inl (ka 0, 24, .inl ho))]) H locs := hB
    refine lv_if_ne (tgt := 17) hx hb dX8_fill_11 (by decide) (fun h11 => ?_) (fun h11 => ?_)
    · skip
      have ha1 : inI aq 12 = true := bI_ne0 h11
      obtain ⟨a, ha2, ha3⟩ := inI_of ha1 (by decide)
      subst ha3
      have ra : aN (nI a) = a := aNn ha2 (by decide)
      have hk9 : fiK (nI p) (nI a) = true := dB_t.mpr ⟨hp1, ha1⟩
      refine lv_aload_n hx hb dX8_fill_17 rfl (lv_at hl 0 rfl) ?_
      refine zget zf_X8_32 hF hB 0 rfl rfl dX8_fill_18 ?_
      refine lv_bipush (v := 12) hx hb dX8_fill_21 (by decide) ?_
      refine lv_iload_n hx hb dX8_fill_23 rfl (lv_at hl 1 rfl) ?_
      refine lv_imul hx hb dX8_fill_24 ?_
      refine ztopi (y := nI (12 * p)) (pk_mul 12 p) ?_
      refine lv_iload_n hx hb dX8_fill_25 rfl (lv_at hl 2 rfl) ?_
      refine lv_iadd hx hb dX8_fill_26 ?_
      refine ztopi (y := nI ((12 * p) + a)) (nI_add (12 * p) a) ?_
      refine ziald hF hB 1 rfl ((12 * p) + a) (rfl) (by omega) (by decide) (v := (ho ((12 * p) + a))) (rfl) dX8_fill_27 ?_
      refine lv_istore_n (lv' := [(3, .int (ho ((12 * p) + a))), (0, .ref q), (1, .int (nI p)), (2, .int (nI a))]) hx hb dX8_fill_28 rfl hl (by decide) rfl ?_
      clear hl
      clear ls
      intro ls hl
      refine lv_iload_n hx hb dX8_fill_29 rfl (lv_at hl 0 rfl) ?_
      refine lv_if_ne (tgt := 36) hx hb dX8_fill_30 (by decide) (fun h30 => ?_) (fun h30 => ?_)
      · skip
        refine lv_aload_n hx hb dX8_fill_36 rfl (lv_at hl 1 rfl) ?_
        refine zget zf_X8_32 hF hB 0 rfl rfl dX8_fill_37 ?_
        refine lv_bipush (v := 12) hx hb dX8_fill_40 (by decide) ?_
        refine lv_iload_n hx hb dX8_fill_42 rfl (lv_at hl 2 rfl) ?_
        refine lv_imul hx hb dX8_fill_43 ?_
        refine ztopi (y := nI (12 * p)) (pk_mul 12 p) ?_
        refine lv_iload_n hx hb dX8_fill_44 rfl (lv_at hl 3 rfl) ?_
        refine lv_iadd hx hb dX8_fill_45 ?_
        refine ztopi (y := nI ((12 * p) + a)) (nI_add (12 * p) a) ?_
        refine lv_iconst (v := 0) hx hb dX8_fill_46 (by decide) ?_
        refine ziast hF hB 1 rfl ((12 * p) + a) (rfl) (by omega) (by decide) dX8_fill_47 ?_
        clear hB
        try clear locs
        try clear H
        intro H locs hB
        replace hB : zB D A s ([(q, .inr (8, mO ad o z)), ((ad 7), .inl (ka 0, 24, .inl (upd ho ((12 * p) + a) (0 : Int32))))]) H locs := hB
        refine lv_aload_n hx hb dX8_fill_48 rfl (lv_at hl 1 rfl) ?_
        refine zVv zm_X8_223 hF hB (c_X8_forgets l D ka kb q ad o z ) [0] rfl (by decide) [q] (fun _ => rfl) rfl 0 8 rfl rfl rfl ⟨Nat.le_of_ble_eq_true rfl, Nat.le_of_ble_eq_true rfl⟩ rfl hl.1 (Nat.le_of_ble_eq_true rfl) ⟨Nat.le_refl _, Nat.le_refl _⟩ dX8_fill_49 ?_
        clear hB
        try clear locs
        try clear H
        intro u3 H locs hp hB
        replace hB : zB D A s ([(q, .inr (8, mX ad (bI o) z.1 z.2.1 z.2.2.1 z.2.2.2.1 (0 : Int32) z.2.2.2.2.2.1 z.2.2.2.2.2.2.1 z.2.2.2.2.2.2.2)), ((ad 7), .inl (ka 0, 24, .inl (upd ho ((12 * p) + a) (0 : Int32))))]) H locs := hB
        refine lv_iload_n hx hb dX8_fill_52 rfl (lv_at hl 0 rfl) ?_
        exact zreti hF hB () (by rw [fiA, if_neg (by rw [hk9]; decide), rp, ra, if_neg h30]) (by rw [show fiB (nI p) (nI a) ho = true from dB_t.mpr ⟨hk9, by rw [rp, ra]; exact h30⟩, rp, ra] <;> rfl) (rfl) dX8_fill_53 hQ
      · skip
        refine lv_bipush (v := -3) hx hb dX8_fill_33 (by decide) ?_
        exact zreti hF hB () (by rw [fiA, if_neg (by rw [hk9]; decide), rp, ra, if_pos h30]) (by rw [show fiB (nI p) (nI a) ho = false from dB_f.mpr (fun e8 => by have := e8.2; rw [rp, ra] at this; exact this h30)] <;> rfl) (rfl) dX8_fill_35 hQ
    · skip
      refine lv_bipush (v := -2) hx hb dX8_fill_14 (by decide) ?_
      have hk9 : fiK (nI p) aq = false := dB_f.mpr (fun e8 => by rw [bI_eq0 h11] at e8; exact absurd e8.2 (by decide))
      exact zreti hF hB () (by rw [fiA, if_pos hk9]) (by rw [show fiB (nI p) aq ho = false from dB_f.mpr (fun e8 => by rw [hk9] at e8; exact absurd e8.1 (by decide))] <;> rfl) (rfl) dX8_fill_16 hQ

set_option maxHeartbeats 4000000 in
set_option maxRecDepth 100000 in
theorem c_X8_hole (l : Launch) (D : va_G) (ka : Nat → ClassId) (kb : Nat → Nat) (q : Nat) (ad : Nat → Nat) (o : Bool) (z : mZ) (ho : Nat → Int32) (pq : Int32) (aq : Int32)  : zI l D ka kb yX8_hole cX8_hole 3 .int 2 45 [.ref q, .int pq, .int aq] ([(q, .inr (8, mO ad o z)), ((ad 7), .inl (ka 0, 24, .inl ho))]) (fun (r : Int32) (_ : Unit) => r = hlA pq aq ho) (fun (_ : Unit) => [(q, .inr (8, mO ad o z)), ((ad 7), .inl (ka 0, 24, .inl ho))]) := by
  refine zI.mk RX8 (by decide +kernel) rfl (Nat.le_of_ble_eq_true rfl) ?_
  intro p e s m below meth c A ls args Q hQ hx hb hF hB hl
  replace hl : lv_has ls 3 [(0, .ref q), (1, .int pq), (2, .int aq)] := hl
  refine lv_iload_n hx hb dX8_hole_0 rfl (lv_at hl 1 rfl) ?_
  refine zSi zm_X8_226 hF hB (c_X8_isTwo l D ka kb pq ) [] rfl (by decide) [] (fun _ => rfl) rfl rfl ⟨Nat.le_of_ble_eq_true rfl, Nat.le_of_ble_eq_true rfl⟩ rfl hl.1 (Nat.le_of_ble_eq_true rfl) ⟨Nat.le_refl _, Nat.le_refl _⟩ dX8_hole_1 ?_
  clear hB
  try clear locs
  try clear H
  intro r1 u1 H locs hp hB
  obtain rfl : r1 = bI (inI pq 2) := hp
  replace hB : zB D A s ([(q, .inr (8, mO ad o z)), ((ad 7), .inl (ka 0, 24, .inl ho))]) H locs := hB
  refine lv_if_eq (tgt := 28) hx hb dX8_hole_4 (by decide) (fun h4 => ?_) (fun h4 => ?_)
  · skip
    refine lv_bipush (v := -2) hx hb dX8_hole_28 (by decide) ?_
    have hk9 : fiK pq aq = false := dB_f.mpr (fun e8 => by rw [bI_eq0 h4] at e8; exact absurd e8.1 (by decide))
    exact zreti hF hB () (by rw [hlA, if_neg (by rw [hk9]; decide)]) (rfl) (rfl) dX8_hole_30 hQ
  · skip
    have hp1 : inI pq 2 = true := bI_ne0 h4
    obtain ⟨p, hp2, hp3⟩ := inI_of hp1 (by decide)
    subst hp3
    have rp : aN (nI p) = p := aNn hp2 (by decide)
    refine lv_iload_n hx hb dX8_hole_7 rfl (lv_at hl 2 rfl) ?_
    refine zSi zm_X8_218 hF hB (c_X8_isAngle l D ka kb aq ) [] rfl (by decide) [] (fun _ => rfl) rfl rfl ⟨Nat.le_of_ble_eq_true rfl, Nat.le_of_ble_eq_true rfl⟩ rfl hl.1 (Nat.le_of_ble_eq_true rfl) ⟨Nat.le_refl _, Nat.le_refl _⟩ dX8_hole_8 ?_
    clear hB
    try clear locs
    try clear H
    intro r2 u2 H locs hp hB
    obtain rfl : r2 = bI (inI aq 12) := hp
    replace hB : zB D A s ([(q, .inr (8, mO ad o z)), ((ad 7), .inl (ka 0, 24, .inl ho))]) H locs := hB
    refine lv_if_eq (tgt := 28) hx hb dX8_hole_11 (by decide) (fun h11 => ?_) (fun h11 => ?_)
    · skip
      refine lv_bipush (v := -2) hx hb dX8_hole_28 (by decide) ?_
      have hk9 : fiK (nI p) aq = false := dB_f.mpr (fun e8 => by rw [bI_eq0 h11] at e8; exact absurd e8.2 (by decide))
      exact zreti hF hB () (by rw [hlA, if_neg (by rw [hk9]; decide)]) (rfl) (rfl) dX8_hole_30 hQ
    · skip
      have ha1 : inI aq 12 = true := bI_ne0 h11
      obtain ⟨a, ha2, ha3⟩ := inI_of ha1 (by decide)
      subst ha3
      have ra : aN (nI a) = a := aNn ha2 (by decide)
      have hk9 : fiK (nI p) (nI a) = true := dB_t.mpr ⟨hp1, ha1⟩
      refine lv_aload_n hx hb dX8_hole_14 rfl (lv_at hl 0 rfl) ?_
      refine zget zf_X8_32 hF hB 0 rfl rfl dX8_hole_15 ?_
      refine lv_bipush (v := 12) hx hb dX8_hole_18 (by decide) ?_
      refine lv_iload_n hx hb dX8_hole_20 rfl (lv_at hl 1 rfl) ?_
      refine lv_imul hx hb dX8_hole_21 ?_
      refine ztopi (y := nI (12 * p)) (pk_mul 12 p) ?_
      refine lv_iload_n hx hb dX8_hole_22 rfl (lv_at hl 2 rfl) ?_
      refine lv_iadd hx hb dX8_hole_23 ?_
      refine ztopi (y := nI ((12 * p) + a)) (nI_add (12 * p) a) ?_
      refine ziald hF hB 1 rfl ((12 * p) + a) (rfl) (by omega) (by decide) (v := (ho ((12 * p) + a))) (rfl) dX8_hole_24 ?_
      refine lv_goto (tgt := 30) hx hb dX8_hole_25 (by decide) ?_
      exact zreti hF hB () (by rw [hlA, if_pos hk9, rp, ra]) (rfl) (rfl) dX8_hole_30 hQ

set_option maxHeartbeats 4000000 in
set_option maxRecDepth 100000 in
theorem c_X8_lawful (l : Launch) (D : va_G) (ka : Nat → ClassId) (kb : Nat → Nat) (q : Nat) (ad : Nat → Nat) (o : Bool) (z : mZ) (le : Nat → Int32) (pq : Int32) (bq : Int32)  : zI l D ka kb yX8_lawful cX8_lawful 4 .int 2 45 [.ref q, .int pq, .int bq] ([(q, .inr (8, mO ad o z)), ((ad 8), .inl (ka 0, 2, .inl le))]) (fun (r : Int32) (_ : Unit) => r = if lwK pq bq = true then le (aN pq) else -2) (fun (_ : Unit) => [(q, .inr (8, mO ad o z)), ((ad 8), .inl (ka 0, 2, .inl (if lwK pq bq = true then upd le (aN pq) bq else le)))]) := by
  refine zI.mk RX8 (by decide +kernel) rfl (Nat.le_of_ble_eq_true rfl) ?_
  intro p e s m below meth c A ls args Q hQ hx hb hF hB hl
  replace hl : lv_has ls 4 [(0, .ref q), (1, .int pq), (2, .int bq)] := hl
  refine lv_iload_n hx hb dX8_lawful_0 rfl (lv_at hl 1 rfl) ?_
  refine zSi zm_X8_226 hF hB (c_X8_isTwo l D ka kb pq ) [] rfl (by decide) [] (fun _ => rfl) rfl rfl ⟨Nat.le_of_ble_eq_true rfl, Nat.le_of_ble_eq_true rfl⟩ rfl hl.1 (Nat.le_of_ble_eq_true rfl) ⟨Nat.le_refl _, Nat.le_refl _⟩ dX8_lawful_1 ?_
  clear hB
  try clear locs
  try clear H
  intro r1 u1 H locs hp hB
  obtain rfl : r1 = bI (inI pq 2) := hp
  replace hB : zB D A s ([(q, .inr (8, mO ad o z)), ((ad 8), .inl (ka 0, 2, .inl le))]) H locs := hB
  refine lv_if_eq (tgt := 19) hx hb dX8_lawful_4 (by decide) (fun h4 => ?_) (fun h4 => ?_)
  · skip
    refine lv_bipush (v := -2) hx hb dX8_lawful_19 (by decide) ?_
    have hk9 : lwK pq bq = false := dB_f.mpr (fun e8 => by rw [bI_eq0 h4] at e8; exact absurd e8.1 (by decide))
    exact zreti hF hB () (by rw [if_neg (by rw [hk9]; decide)]) (by rw [hk9] <;> rfl) (rfl) dX8_lawful_21 hQ
  · skip
    have hp1 : inI pq 2 = true := bI_ne0 h4
    obtain ⟨p, hp2, hp3⟩ := inI_of hp1 (by decide)
    subst hp3
    have rp : aN (nI p) = p := aNn hp2 (by decide)
    refine lv_iload_n hx hb dX8_lawful_7 rfl (lv_at hl 2 rfl) ?_
    refine lv_i2l (v := bq.toInt64) hx hb dX8_lawful_8 rfl ?_
    refine lv_lconst (v := 0) hx hb dX8_lawful_9 (by decide) ?_
    refine zldc2 (v := (4095 : Int64)) ww_22_6 hF dX8_lawful_10 ?_
    refine zSi zm_X8_72 hF hB (c_X8_in l D ka kb bq.toInt64 (0 : Int64) (4095 : Int64) ) [] rfl (by decide) [] (fun _ => rfl) rfl rfl ⟨Nat.le_of_ble_eq_true rfl, Nat.le_of_ble_eq_true rfl⟩ rfl hl.1 (Nat.le_of_ble_eq_true rfl) ⟨Nat.le_refl _, Nat.le_refl _⟩ dX8_lawful_13 ?_
    clear hB
    try clear locs
    try clear H
    intro r2 u2 H locs hp hB
    obtain rfl : r2 = bI (zin bq.toInt64 (0 : Int64) (4095 : Int64)) := hp
    replace hB : zB D A s ([(q, .inr (8, mO ad o z)), ((ad 8), .inl (ka 0, 2, .inl le))]) H locs := hB
    refine lv_if_ne (tgt := 22) hx hb dX8_lawful_16 (by decide) (fun h16 => ?_) (fun h16 => ?_)
    · skip
      have hs9 : inR bq 0 4095 = true := (zin_R (a := 0) (b := 4095) rfl rfl).symm.trans (bI_ne0 h16)
      have hk9 : lwK (nI p) bq = true := dB_t.mpr ⟨hp1, hs9⟩
      refine lv_aload_n hx hb dX8_lawful_22 rfl (lv_at hl 0 rfl) ?_
      refine zget zf_X8_35 hF hB 0 rfl rfl dX8_lawful_23 ?_
      refine lv_iload_n hx hb dX8_lawful_26 rfl (lv_at hl 1 rfl) ?_
      refine ziald hF hB 1 rfl p (rfl) (by omega) (by decide) (v := (le p)) (rfl) dX8_lawful_27 ?_
      refine lv_istore_n (lv' := [(3, .int (le p)), (0, .ref q), (1, .int (nI p)), (2, .int bq)]) hx hb dX8_lawful_28 rfl hl (by decide) rfl ?_
      clear hl
      clear ls
      intro ls hl
      refine lv_aload_n hx hb dX8_lawful_29 rfl (lv_at hl 1 rfl) ?_
      refine zget zf_X8_35 hF hB 0 rfl rfl dX8_lawful_30 ?_
      refine lv_iload_n hx hb dX8_lawful_33 rfl (lv_at hl 2 rfl) ?_
      refine lv_iload_n hx hb dX8_lawful_34 rfl (lv_at hl 3 rfl) ?_
      refine ziast hF hB 1 rfl p (rfl) (by omega) (by decide) dX8_lawful_35 ?_
      clear hB
      try clear locs
      try clear H
      intro H locs hB
      replace hB : zB D A s ([(q, .inr (8, mO ad o z)), ((ad 8), .inl (ka 0, 2, .inl (upd le p bq)))]) H locs := hB
      refine lv_iload_n hx hb dX8_lawful_36 rfl (lv_at hl 0 rfl) ?_
      exact zreti hF hB () (by rw [if_pos hk9, rp]) (by rw [hk9, rp] <;> rfl) (rfl) dX8_lawful_37 hQ
    · skip
      have hs9 : inR bq 0 4095 = false := (zin_R (a := 0) (b := 4095) rfl rfl).symm.trans (bI_eq0 h16)
      refine lv_bipush (v := -2) hx hb dX8_lawful_19 (by decide) ?_
      have hk9 : lwK (nI p) bq = false := dB_f.mpr (fun e8 => by rw [hs9] at e8; exact absurd e8.2 (by decide))
      exact zreti hF hB () (by rw [if_neg (by rw [hk9]; decide)]) (by rw [hk9] <;> rfl) (rfl) dX8_lawful_21 hQ

set_option maxHeartbeats 4000000 in
set_option maxRecDepth 100000 in
theorem c_X8_bitsIn (l : Launch) (D : va_G) (ka : Nat → ClassId) (kb : Nat → Nat) (v : Int32)  : zI l D ka kb yX8_bitsIn cX8_bitsIn 3 .int 0 0 [.int v] ([]) (fun (r : Int32) (_ : Unit) => r = bcnt v 12) (fun (_ : Unit) => []) := by
  refine zI.mk RX8 (by decide +kernel) rfl (Nat.le_of_ble_eq_true rfl) ?_
  intro p e s m below meth c A ls args Q hQ hx hb hF hB hl
  replace hl : lv_has ls 3 [(0, .int v)] := hl
  refine lv_iconst (v := 0) hx hb dX8_bitsIn_0 (by decide) ?_
  refine lv_istore_n (lv' := [(1, .int (0 : Int32)), (0, .int v)]) hx hb dX8_bitsIn_1 rfl hl (by decide) rfl ?_
  clear hl
  clear ls
  intro ls hl
  refine lv_iconst (v := 0) hx hb dX8_bitsIn_2 (by decide) ?_
  refine lv_istore_n (lv' := [(2, .int (0 : Int32)), (1, .int (0 : Int32)), (0, .int v)]) hx hb dX8_bitsIn_3 rfl hl (by decide) rfl ?_
  clear hl
  clear ls
  intro ls hl
  have lp4 : ∀ (fl : Nat) (j : Nat), (hj : j ≤ 12) → 12 - j < fl → ∀ (H : Heap) (locs : List Loc), zB D A s ([]) H locs → ∀ ls : Array Slot, lv_has ls 3 [(1, .int (bcnt v j)), (2, .int (nI j)), (0, .int v)] → W p l e (zRm 0 0 0 0) s m args below meth c H locs 0 0 Q (F0 m 4 ls []) := by
    intro fl
    induction fl with
    | zero => intro j hj hfl; exact absurd hfl (Nat.not_lt_zero _)
    | succ fl ih4 =>
      intro j hj hfl4 H locs hB ls hl
      refine lv_iload_n hx hb dX8_bitsIn_4 rfl (lv_at hl 1 rfl) ?_
      refine lv_bipush (v := 12) hx hb dX8_bitsIn_5 (by decide) ?_
      refine lv_icmp_ge (tgt := 24) hx hb dX8_bitsIn_7 (by decide) (fun h7 => ?_) (fun h7 => ?_)
      · skip
        have hj12 : j = 12 := by have := (nI_leI (a := 12) (b := j) (by decide) (by omega)).mp h7; omega
        subst hj12
        refine lv_iload_n hx hb dX8_bitsIn_24 rfl (lv_at hl 0 rfl) ?_
        exact zreti hF hB () (rfl) (rfl) (rfl) dX8_bitsIn_25 hQ
      · skip
        have hj12 : j < 12 := Nat.not_le.mp (fun e9 => h7 ((nI_leI (a := 12) (b := j) (by decide) (by omega)).mpr e9))
        refine lv_iload_n hx hb dX8_bitsIn_10 rfl (lv_at hl 0 rfl) ?_
        refine lv_iload_n hx hb dX8_bitsIn_11 rfl (lv_at hl 2 rfl) ?_
        refine lv_iload_n hx hb dX8_bitsIn_12 rfl (lv_at hl 1 rfl) ?_
        refine lv_ishr hx hb dX8_bitsIn_13 ?_
        refine lv_iconst (v := 1) hx hb dX8_bitsIn_14 (by decide) ?_
        refine lv_iand hx hb dX8_bitsIn_15 ?_
        refine lv_iadd hx hb dX8_bitsIn_16 ?_
        refine ztopi (y := bcnt v (j + 1)) (rfl) ?_
        refine lv_istore_n (lv' := [(1, .int (bcnt v (j + 1))), (2, .int (nI j)), (0, .int v)]) hx hb dX8_bitsIn_17 rfl hl (by decide) rfl ?_
        clear hl
        clear ls
        intro ls hl
        refine lv_iinc (v := nI (j + 1)) (lv' := [(2, .int (nI (j + 1))), (1, .int (bcnt v (j + 1))), (0, .int v)]) hx hb dX8_bitsIn_18 hl (k := 1) rfl (nI_1 _) (by decide) rfl ?_
        clear hl
        clear ls
        intro ls hl
        refine lv_goto (tgt := 4) hx hb dX8_bitsIn_21 (by decide) ?_
        exact ih4 (j + 1) (by omega) (by omega) _ _ (hB) _ (lv_sub hl [1, 0, 2] rfl)
  exact lp4 (12 - 0 + 1) 0 (Nat.zero_le _) (by omega) _ _ (hB) _ (lv_sub hl [1, 0, 2] rfl)

set_option maxHeartbeats 4000000 in
set_option maxRecDepth 100000 in
theorem c_X8_sizes (l : Launch) (D : va_G) (ka : Nat → ClassId) (kb : Nat → Nat) (q : Nat) (ad : Nat → Nat) (o : Bool) (z : mZ) (bq : Int32)  : zI l D ka kb yX8_sizes cX8_sizes 3 .int 1 25 [.ref q, .int bq] ([(q, .inr (8, mO ad o z))]) (fun (r : Int32) (_ : Unit) => r = if szK bq = true then z.2.2.1 else -2) (fun (_ : Unit) => [(q, .inr (8, mX ad (bI o) z.1 z.2.1 (if szK bq = true then bq else z.2.2.1) z.2.2.2.1 z.2.2.2.2.1 z.2.2.2.2.2.1 z.2.2.2.2.2.2.1 z.2.2.2.2.2.2.2))]) := by
  refine zI.mk RX8 (by decide +kernel) rfl (Nat.le_of_ble_eq_true rfl) ?_
  intro p e s m below meth c A ls args Q hQ hx hb hF hB hl
  replace hl : lv_has ls 3 [(0, .ref q), (1, .int bq)] := hl
  refine lv_iload_n hx hb dX8_sizes_0 rfl (lv_at hl 1 rfl) ?_
  refine lv_i2l (v := bq.toInt64) hx hb dX8_sizes_1 rfl ?_
  refine lv_lconst (v := 0) hx hb dX8_sizes_2 (by decide) ?_
  refine zldc2 (v := (1023 : Int64)) ww_23_6 hF dX8_sizes_3 ?_
  refine zSi zm_X8_72 hF hB (c_X8_in l D ka kb bq.toInt64 (0 : Int64) (1023 : Int64) ) [] rfl (by decide) [] (fun _ => rfl) rfl rfl ⟨Nat.le_of_ble_eq_true rfl, Nat.le_of_ble_eq_true rfl⟩ rfl hl.1 (Nat.le_of_ble_eq_true rfl) ⟨Nat.le_refl _, Nat.le_refl _⟩ dX8_sizes_6 ?_
  clear hB
  try clear locs
  try clear H
  intro r1 u1 H locs hp hB
  obtain rfl : r1 = bI (zin bq.toInt64 (0 : Int64) (1023 : Int64)) := hp
  replace hB : zB D A s ([(q, .inr (8, mO ad o z))]) H locs := hB
  refine lv_if_eq (tgt := 34) hx hb dX8_sizes_9 (by decide) (fun h9 => ?_) (fun h9 => ?_)
  · skip
    have hs9 : inR bq 0 1023 = false := (zin_R (a := 0) (b := 1023) rfl rfl).symm.trans (bI_eq0 h9)
    refine lv_bipush (v := -2) hx hb dX8_sizes_34 (by decide) ?_
    have hk9 : szK bq = false := dB_f.mpr (fun e8 => by rw [hs9] at e8; exact absurd e8.1 (by decide))
    exact zreti hF hB () (by rw [if_neg (by rw [hk9]; decide)]) (by rw [hk9] <;> rfl) (rfl) dX8_sizes_36 hQ
  · skip
    have hs9 : inR bq 0 1023 = true := (zin_R (a := 0) (b := 1023) rfl rfl).symm.trans (bI_ne0 h9)
    refine lv_iload_n hx hb dX8_sizes_12 rfl (lv_at hl 1 rfl) ?_
    refine lv_iconst (v := 1) hx hb dX8_sizes_13 (by decide) ?_
    refine lv_iand hx hb dX8_sizes_14 ?_
    refine lv_iconst (v := 1) hx hb dX8_sizes_15 (by decide) ?_
    refine lv_icmp_eq (tgt := 34) hx hb dX8_sizes_16 (by decide) (fun h16 => ?_) (fun h16 => ?_)
    · skip
      refine lv_bipush (v := -2) hx hb dX8_sizes_34 (by decide) ?_
      have hk9 : szK bq = false := dB_f.mpr (fun e8 => e8.2.1 h16)
      exact zreti hF hB () (by rw [if_neg (by rw [hk9]; decide)]) (by rw [hk9] <;> rfl) (rfl) dX8_sizes_36 hQ
    · skip
      refine lv_iload_n hx hb dX8_sizes_19 rfl (lv_at hl 1 rfl) ?_
      refine zSi zm_X8_242 hF hB (c_X8_bitsIn l D ka kb bq ) [] rfl (by decide) [] (fun _ => rfl) rfl rfl ⟨Nat.le_of_ble_eq_true rfl, Nat.le_of_ble_eq_true rfl⟩ rfl hl.1 (Nat.le_of_ble_eq_true rfl) ⟨Nat.le_refl _, Nat.le_refl _⟩ dX8_sizes_20 ?_
      clear hB
      try clear locs
      try clear H
      intro r2 u2 H locs hp hB
      obtain rfl : r2 = bcnt bq 12 := hp
      replace hB : zB D A s ([(q, .inr (8, mO ad o z))]) H locs := hB
      refine lv_i2l (v := (bcnt bq 12).toInt64) hx hb dX8_sizes_23 rfl ?_
      refine lv_lconst (v := 1) hx hb dX8_sizes_24 (by decide) ?_
      refine zldc2 (v := (3 : Int64)) ww_9_19 hF dX8_sizes_25 ?_
      refine zSi zm_X8_72 hF hB (c_X8_in l D ka kb ((bcnt bq 12).toInt64) (1 : Int64) (3 : Int64) ) [] rfl (by decide) [] (fun _ => rfl) rfl rfl ⟨Nat.le_of_ble_eq_true rfl, Nat.le_of_ble_eq_true rfl⟩ rfl hl.1 (Nat.le_of_ble_eq_true rfl) ⟨Nat.le_refl _, Nat.le_refl _⟩ dX8_sizes_28 ?_
      clear hB
      try clear locs
      try clear H
      intro r3 u3 H locs hp hB
      obtain rfl : r3 = bI (zin ((bcnt bq 12).toInt64) (1 : Int64) (3 : Int64)) := hp
      replace hB : zB D A s ([(q, .inr (8, mO ad o z))]) H locs := hB
      refine lv_if_ne (tgt := 37) hx hb dX8_sizes_31 (by decide) (fun h31 => ?_) (fun h31 => ?_)
      · skip
        have hk9 : szK bq = true := dB_t.mpr ⟨hs9, h16, (zin_R (a := 1) (b := 3) rfl rfl).symm.trans (bI_ne0 h31)⟩
        refine lv_aload_n hx hb dX8_sizes_37 rfl (lv_at hl 0 rfl) ?_
        refine zget zf_X8_65 hF hB 0 rfl rfl dX8_sizes_38 ?_
        refine lv_istore_n (lv' := [(2, .int z.2.2.1), (0, .ref q), (1, .int bq)]) hx hb dX8_sizes_41 rfl hl (by decide) rfl ?_
        clear hl
        clear ls
        intro ls hl
        refine lv_aload_n hx hb dX8_sizes_42 rfl (lv_at hl 1 rfl) ?_
        refine lv_iload_n hx hb dX8_sizes_43 rfl (lv_at hl 2 rfl) ?_
        refine zput_f zp_X8_65 hF hB 0 rfl (rfl) (rfl) (Nat.le_of_ble_eq_true rfl) dX8_sizes_44 ?_
        clear hB
        try clear locs
        try clear H
        intro H locs hB
        replace hB : zB D A s ([(q, .inr (8, mX ad (bI o) z.1 z.2.1 bq z.2.2.2.1 z.2.2.2.2.1 z.2.2.2.2.2.1 z.2.2.2.2.2.2.1 z.2.2.2.2.2.2.2))]) H locs := hB
        refine lv_iload_n hx hb dX8_sizes_47 rfl (lv_at hl 0 rfl) ?_
        exact zreti hF hB () (by rw [if_pos hk9]) (by rw [hk9] <;> rfl) (rfl) dX8_sizes_48 hQ
      · skip
        have ht9 : inR (bcnt bq 12) 1 3 = false := (zin_R (a := 1) (b := 3) rfl rfl).symm.trans (bI_eq0 h31)
        refine lv_bipush (v := -2) hx hb dX8_sizes_34 (by decide) ?_
        have hk9 : szK bq = false := dB_f.mpr (fun e8 => by rw [ht9] at e8; exact absurd e8.2.2 (by decide))
        exact zreti hF hB () (by rw [if_neg (by rw [hk9]; decide)]) (by rw [hk9] <;> rfl) (rfl) dX8_sizes_36 hQ

set_option maxHeartbeats 4000000 in
set_option maxRecDepth 100000 in
theorem c_X8_limit (l : Launch) (D : va_G) (ka : Nat → ClassId) (kb : Nat → Nat) (q : Nat) (ad : Nat → Nat) (o : Bool) (z : mZ) (v : Int32)  : zI l D ka kb yX8_limit cX8_limit 3 .int 1 25 [.ref q, .int v] ([(q, .inr (8, mO ad o z))]) (fun (r : Int32) (_ : Unit) => r = if inR v 0 99 = true then z.2.2.2.1 else -2) (fun (_ : Unit) => [(q, .inr (8, mX ad (bI o) z.1 z.2.1 z.2.2.1 (if inR v 0 99 = true then v else z.2.2.2.1) z.2.2.2.2.1 z.2.2.2.2.2.1 z.2.2.2.2.2.2.1 z.2.2.2.2.2.2.2))]) := by
  refine zI.mk RX8 (by decide +kernel) rfl (Nat.le_of_ble_eq_true rfl) ?_
  intro p e s m below meth c A ls args Q hQ hx hb hF hB hl
  replace hl : lv_has ls 3 [(0, .ref q), (1, .int v)] := hl
  refine lv_iload_n hx hb dX8_limit_0 rfl (lv_at hl 1 rfl) ?_
  refine lv_i2l (v := v.toInt64) hx hb dX8_limit_1 rfl ?_
  refine lv_lconst (v := 0) hx hb dX8_limit_2 (by decide) ?_
  refine zldc2 (v := (99 : Int64)) ww_18_5 hF dX8_limit_3 ?_
  refine zSi zm_X8_72 hF hB (c_X8_in l D ka kb v.toInt64 (0 : Int64) (99 : Int64) ) [] rfl (by decide) [] (fun _ => rfl) rfl rfl ⟨Nat.le_of_ble_eq_true rfl, Nat.le_of_ble_eq_true rfl⟩ rfl hl.1 (Nat.le_of_ble_eq_true rfl) ⟨Nat.le_refl _, Nat.le_refl _⟩ dX8_limit_6 ?_
  clear hB
  try clear locs
  try clear H
  intro r1 u1 H locs hp hB
  obtain rfl : r1 = bI (zin v.toInt64 (0 : Int64) (99 : Int64)) := hp
  replace hB : zB D A s ([(q, .inr (8, mO ad o z))]) H locs := hB
  refine lv_if_ne (tgt := 15) hx hb dX8_limit_9 (by decide) (fun h9 => ?_) (fun h9 => ?_)
  · skip
    have hk9 : inR v 0 99 = true := (zin_R (a := 0) (b := 99) rfl rfl).symm.trans (bI_ne0 h9)
    refine lv_aload_n hx hb dX8_limit_15 rfl (lv_at hl 0 rfl) ?_
    refine zget zf_X8_69 hF hB 0 rfl rfl dX8_limit_16 ?_
    refine lv_istore_n (lv' := [(2, .int z.2.2.2.1), (0, .ref q), (1, .int v)]) hx hb dX8_limit_19 rfl hl (by decide) rfl ?_
    clear hl
    clear ls
    intro ls hl
    refine lv_aload_n hx hb dX8_limit_20 rfl (lv_at hl 1 rfl) ?_
    refine lv_iload_n hx hb dX8_limit_21 rfl (lv_at hl 2 rfl) ?_
    refine zput_f zp_X8_69 hF hB 0 rfl (rfl) (rfl) (Nat.le_of_ble_eq_true rfl) dX8_limit_22 ?_
    clear hB
    try clear locs
    try clear H
    intro H locs hB
    replace hB : zB D A s ([(q, .inr (8, mX ad (bI o) z.1 z.2.1 z.2.2.1 v z.2.2.2.2.1 z.2.2.2.2.2.1 z.2.2.2.2.2.2.1 z.2.2.2.2.2.2.2))]) H locs := hB
    refine lv_iload_n hx hb dX8_limit_25 rfl (lv_at hl 0 rfl) ?_
    exact zreti hF hB () (by rw [if_pos hk9]) (by rw [hk9] <;> rfl) (rfl) dX8_limit_26 hQ
  · skip
    have hk9 : inR v 0 99 = false := (zin_R (a := 0) (b := 99) rfl rfl).symm.trans (bI_eq0 h9)
    refine lv_bipush (v := -2) hx hb dX8_limit_12 (by decide) ?_
    exact zreti hF hB () (by rw [if_neg (by rw [hk9]; decide)]) (by rw [hk9] <;> rfl) (rfl) dX8_limit_14 hQ

set_option maxHeartbeats 4000000 in
set_option maxRecDepth 100000 in
theorem c_X8_pullBy (l : Launch) (D : va_G) (ka : Nat → ClassId) (kb : Nat → Nat) (q : Nat) (ad : Nat → Nat) (o : Bool) (z : mZ) (pu : Nat → Int64) (p9 : Nat) (k9 : Nat) (L : Nat) (mo : Nat → Int32) (an : Nat → Int32) (pl : Nat → Int32) (ho : Nat → Int32) (nu : Nat → Int64) (hp9 : p9 < 2) (hk9 : k9 < 10) (hL : z.2.1 = nI L) (hok : okL L mo an pl) (hoh : okH ho) : zL l D ka kb yX8_pullBy cX8_pullBy 3 3 69 [.ref q, .int (nI p9), .int (nI k9)] ([(q, .inr (8, mO ad o z)), ((ad 9), .inl (ka 1, 4, .inr (.inl pu))), ((ad 4), .inl (ka 0, 8, .inl mo)), ((ad 5), .inl (ka 0, 8, .inl an)), ((ad 6), .inl (ka 0, 8, .inl pl)), ((ad 7), .inl (ka 0, 24, .inl ho)), ((ad 3), .inl (ka 1, 200, .inr (.inl nu)))]) (fun (r : Int64) (u : (Nat → Int64) × (Nat → Int64)) => r = plV (pulI p9 L mo an pl ho) k9 ∧ keepN [29] nu u.2) (fun (u : (Nat → Int64) × (Nat → Int64)) => [(q, .inr (8, mO ad o z)), ((ad 9), .inl (ka 1, 4, .inr (.inl u.1))), ((ad 4), .inl (ka 0, 8, .inl mo)), ((ad 5), .inl (ka 0, 8, .inl an)), ((ad 6), .inl (ka 0, 8, .inl pl)), ((ad 7), .inl (ka 0, 24, .inl ho)), ((ad 3), .inl (ka 1, 200, .inr (.inl u.2)))]) := by
  refine zL.mk RX8 (by decide +kernel) rfl (Nat.le_of_ble_eq_true rfl) ?_
  intro p e s m below meth c A ls args Q hQ hx hb hF hB hl
  replace hl : lv_has ls 3 [(0, .ref q), (1, .int (nI p9)), (2, .int (nI k9))] := hl
  refine lv_aload_n hx hb dX8_pullBy_0 rfl (lv_at hl 0 rfl) ?_
  refine lv_iload_n hx hb dX8_pullBy_1 rfl (lv_at hl 1 rfl) ?_
  refine zVv zm_X8_208 hF hB (c_X8_pulls l D ka kb q ad o z pu p9 L mo an pl ho (hp9) (hL) (hok) (hoh)) [0, 1, 2, 3, 4, 5] rfl (by decide) [q, (ad 9), (ad 4), (ad 5), (ad 6), (ad 7)] (fun _ => rfl) rfl 0 8 rfl rfl rfl ⟨Nat.le_of_ble_eq_true rfl, Nat.le_of_ble_eq_true rfl⟩ rfl hl.1 (Nat.le_of_ble_eq_true rfl) ⟨Nat.le_refl _, Nat.le_refl _⟩ dX8_pullBy_2 ?_
  clear hB
  try clear locs
  try clear H
  intro u1 H locs hp hB
  obtain ⟨pu21, rfl⟩ : ∃ z, z = u1 := ⟨_, rfl⟩
  have hp1 : ∀ k, k < 4 → pu21 k = Int64.ofInt (pulI p9 L mo an pl ho k) := hp
  have HPP := hp1
  replace hB : zB D A s ([(q, .inr (8, mO ad o z)), ((ad 9), .inl (ka 1, 4, .inr (.inl pu21))), ((ad 4), .inl (ka 0, 8, .inl mo)), ((ad 5), .inl (ka 0, 8, .inl an)), ((ad 6), .inl (ka 0, 8, .inl pl)), ((ad 7), .inl (ka 0, 24, .inl ho)), ((ad 3), .inl (ka 1, 200, .inr (.inl nu)))]) H locs := hB
  refine lv_iload_n hx hb dX8_pullBy_5 rfl (lv_at hl 2 rfl) ?_
  refine lv_iconst (v := 5) hx hb dX8_pullBy_6 (by decide) ?_
  refine lv_icmp_ge (tgt := 46) hx hb dX8_pullBy_7 (by decide) (fun h7 => ?_) (fun h7 => ?_)
  · skip
    have hk5 : ¬ k9 < 5 := by have := (nI_leI (a := 5) (b := k9) (by decide) (by omega)).mp h7; omega
    refine lv_aload_n hx hb dX8_pullBy_46 rfl (lv_at hl 0 rfl) ?_
    refine lv_bipush (v := 29) hx hb dX8_pullBy_47 (by decide) ?_
    refine lv_aload_n hx hb dX8_pullBy_49 rfl (lv_at hl 0 rfl) ?_
    refine lv_iconst (v := 0) hx hb dX8_pullBy_50 (by decide) ?_
    refine zVl zm_X8_203 hF hB (c_X8_squareOf l D ka kb q ad o z pu21 0 (by decide)) [0, 1] rfl (by decide) [q, (ad 9)] (fun _ => rfl) rfl 0 8 rfl rfl rfl ⟨Nat.le_of_ble_eq_true rfl, Nat.le_of_ble_eq_true rfl⟩ rfl hl.1 (Nat.le_of_ble_eq_true rfl) ⟨Nat.le_refl _, Nat.le_refl _⟩ dX8_pullBy_51 ?_
    clear hB
    try clear locs
    try clear H
    intro r2 u2 H locs hp hB
    obtain rfl : r2 = sqV (pu21 0) (pu21 1) (pu21 2) (pu21 3) 0 := hp
    replace hB : zB D A s ([(q, .inr (8, mO ad o z)), ((ad 9), .inl (ka 1, 4, .inr (.inl pu21))), ((ad 4), .inl (ka 0, 8, .inl mo)), ((ad 5), .inl (ka 0, 8, .inl an)), ((ad 6), .inl (ka 0, 8, .inl pl)), ((ad 7), .inl (ka 0, 24, .inl ho)), ((ad 3), .inl (ka 1, 200, .inr (.inl nu)))]) H locs := hB
    refine ztopl (y := Int64.ofInt (sqI (pulI p9 L mo an pl ho) 0)) (by rw [hp1 0 (by decide), hp1 1 (by decide), hp1 2 (by decide), hp1 3 (by decide)]; exact sqV_I 0) ?_
    refine lv_aload_n hx hb dX8_pullBy_54 rfl (lv_at hl 0 rfl) ?_
    refine lv_iconst (v := 1) hx hb dX8_pullBy_55 (by decide) ?_
    refine zVl zm_X8_203 hF hB (c_X8_squareOf l D ka kb q ad o z pu21 1 (by decide)) [0, 1] rfl (by decide) [q, (ad 9)] (fun _ => rfl) rfl 0 8 rfl rfl rfl ⟨Nat.le_of_ble_eq_true rfl, Nat.le_of_ble_eq_true rfl⟩ rfl hl.1 (Nat.le_of_ble_eq_true rfl) ⟨Nat.le_refl _, Nat.le_refl _⟩ dX8_pullBy_56 ?_
    clear hB
    try clear locs
    try clear H
    intro r3 u3 H locs hp hB
    obtain rfl : r3 = sqV (pu21 0) (pu21 1) (pu21 2) (pu21 3) 1 := hp
    replace hB : zB D A s ([(q, .inr (8, mO ad o z)), ((ad 9), .inl (ka 1, 4, .inr (.inl pu21))), ((ad 4), .inl (ka 0, 8, .inl mo)), ((ad 5), .inl (ka 0, 8, .inl an)), ((ad 6), .inl (ka 0, 8, .inl pl)), ((ad 7), .inl (ka 0, 24, .inl ho)), ((ad 3), .inl (ka 1, 200, .inr (.inl nu)))]) H locs := hB
    refine ztopl (y := Int64.ofInt (sqI (pulI p9 L mo an pl ho) 1)) (by rw [hp1 0 (by decide), hp1 1 (by decide), hp1 2 (by decide), hp1 3 (by decide)]; exact sqV_I 1) ?_
    refine lv_lconst (v := 0) hx hb dX8_pullBy_59 (by decide) ?_
    refine lv_lconst (v := 0) hx hb dX8_pullBy_60 (by decide) ?_
    refine zldc2 (v := (400 : Int64)) ww_25_13 hF dX8_pullBy_61 ?_
    refine zVv zm_X8_134 hF hB (c_X8_lays l D ka kb q ad o z nu 29 (Int64.ofInt (sqI (pulI p9 L mo an pl ho) 0)) (Int64.ofInt (sqI (pulI p9 L mo an pl ho) 1)) (0 : Int64) (0 : Int64) (400 : Int64) (by decide) (by decide)) [0, 6] rfl (by decide) [q, (ad 3)] (fun _ => rfl) rfl 0 8 rfl rfl rfl ⟨Nat.le_of_ble_eq_true rfl, Nat.le_of_ble_eq_true rfl⟩ rfl hl.1 (Nat.le_of_ble_eq_true rfl) ⟨Nat.le_refl _, Nat.le_refl _⟩ dX8_pullBy_64 ?_
    clear hB
    try clear locs
    try clear H
    intro u4 H locs hp hB
    replace hB : zB D A s ([(q, .inr (8, mO ad o z)), ((ad 9), .inl (ka 1, 4, .inr (.inl pu21))), ((ad 4), .inl (ka 0, 8, .inl mo)), ((ad 5), .inl (ka 0, 8, .inl an)), ((ad 6), .inl (ka 0, 8, .inl pl)), ((ad 7), .inl (ka 0, 24, .inl ho)), ((ad 3), .inl (ka 1, 200, .inr (.inl (setN nu 29 (lowN (Int64.ofInt (sqI (pulI p9 L mo an pl ho) 0)) (Int64.ofInt (sqI (pulI p9 L mo an pl ho) 1)) (0 : Int64) (0 : Int64) (400 : Int64))))))]) H locs := hB
    refine lv_aload_n hx hb dX8_pullBy_67 rfl (lv_at hl 0 rfl) ?_
    refine lv_bipush (v := 29) hx hb dX8_pullBy_68 (by decide) ?_
    refine lv_iload_n hx hb dX8_pullBy_70 rfl (lv_at hl 2 rfl) ?_
    refine lv_iconst (v := 5) hx hb dX8_pullBy_71 (by decide) ?_
    refine lv_irem hx hb dX8_pullBy_72 (by decide) ?_
    refine ztopi (y := nI (k9 % 5)) (pk_rem (a := k9) (d := 5) (by omega) (by decide) (by decide)) ?_
    refine zVl zm_X8_120 hF hB (c_X8_at l D ka kb q ad o z (setN nu 29 (lowN (Int64.ofInt (sqI (pulI p9 L mo an pl ho) 0)) (Int64.ofInt (sqI (pulI p9 L mo an pl ho) 1)) (0 : Int64) (0 : Int64) (400 : Int64))) 29 (k9 % 5) (by decide) (by omega)) [0, 6] rfl (by decide) [q, (ad 3)] (fun _ => rfl) rfl 0 8 rfl rfl rfl ⟨Nat.le_of_ble_eq_true rfl, Nat.le_of_ble_eq_true rfl⟩ rfl hl.1 (Nat.le_of_ble_eq_true rfl) ⟨Nat.le_refl _, Nat.le_refl _⟩ dX8_pullBy_73 ?_
    clear hB
    try clear locs
    try clear H
    intro r5 u5 H locs hp hB
    obtain rfl : r5 = (setN nu 29 (lowN (Int64.ofInt (sqI (pulI p9 L mo an pl ho) 0)) (Int64.ofInt (sqI (pulI p9 L mo an pl ho) 1)) (0 : Int64) (0 : Int64) (400 : Int64))) (5 * 29 + (k9 % 5)) := hp
    replace hB : zB D A s ([(q, .inr (8, mO ad o z)), ((ad 9), .inl (ka 1, 4, .inr (.inl pu21))), ((ad 4), .inl (ka 0, 8, .inl mo)), ((ad 5), .inl (ka 0, 8, .inl an)), ((ad 6), .inl (ka 0, 8, .inl pl)), ((ad 7), .inl (ka 0, 24, .inl ho)), ((ad 3), .inl (ka 1, 200, .inr (.inl (setN nu 29 (lowN (Int64.ofInt (sqI (pulI p9 L mo an pl ho) 0)) (Int64.ofInt (sqI (pulI p9 L mo an pl ho) 1)) (0 : Int64) (0 : Int64) (400 : Int64))))))]) H locs := hB
    exact zretl hF hB (pu21, setN nu 29 (lowN (Int64.ofInt (sqI (pulI p9 L mo an pl ho) 0)) (Int64.ofInt (sqI (pulI p9 L mo an pl ho) 1)) (0 : Int64) (0 : Int64) (400 : Int64))) (⟨(cmp5_get (setN nu 29 (lowN (Int64.ofInt (sqI (pulI p9 L mo an pl ho) 0)) (Int64.ofInt (sqI (pulI p9 L mo an pl ho) 1)) (0 : Int64) (0 : Int64) (400 : Int64))) 29 (k := k9 % 5) (by omega)).trans (by rw [getN_same, plV, if_neg hk5, show k9 % 5 = k9 - 5 by omega] <;> rfl), keepN.rf.set (by simp) _⟩) (rfl) dX8_pullBy_76 hQ
  · skip
    have hk5 : k9 < 5 := Nat.not_le.mp (fun e9 => h7 ((nI_leI (a := 5) (b := k9) (by decide) (by omega)).mpr e9))
    refine lv_aload_n hx hb dX8_pullBy_10 rfl (lv_at hl 0 rfl) ?_
    refine lv_bipush (v := 29) hx hb dX8_pullBy_11 (by decide) ?_
    refine lv_aload_n hx hb dX8_pullBy_13 rfl (lv_at hl 0 rfl) ?_
    refine zget zf_X8_38 hF hB 0 rfl rfl dX8_pullBy_14 ?_
    refine lv_iconst (v := 0) hx hb dX8_pullBy_17 (by decide) ?_
    refine zlald hF hB 1 rfl 0 (by decide) (by decide) (by decide) (v := (Int64.ofInt (pulI p9 L mo an pl ho 0))) (hp1 0 (by decide)) dX8_pullBy_18 ?_
    refine lv_aload_n hx hb dX8_pullBy_19 rfl (lv_at hl 0 rfl) ?_
    refine zget zf_X8_38 hF hB 0 rfl rfl dX8_pullBy_20 ?_
    refine lv_iconst (v := 1) hx hb dX8_pullBy_23 (by decide) ?_
    refine zlald hF hB 1 rfl 1 (by decide) (by decide) (by decide) (v := (Int64.ofInt (pulI p9 L mo an pl ho 1))) (hp1 1 (by decide)) dX8_pullBy_24 ?_
    refine lv_aload_n hx hb dX8_pullBy_25 rfl (lv_at hl 0 rfl) ?_
    refine zget zf_X8_38 hF hB 0 rfl rfl dX8_pullBy_26 ?_
    refine lv_iconst (v := 2) hx hb dX8_pullBy_29 (by decide) ?_
    refine zlald hF hB 1 rfl 2 (by decide) (by decide) (by decide) (v := (Int64.ofInt (pulI p9 L mo an pl ho 2))) (hp1 2 (by decide)) dX8_pullBy_30 ?_
    refine lv_aload_n hx hb dX8_pullBy_31 rfl (lv_at hl 0 rfl) ?_
    refine zget zf_X8_38 hF hB 0 rfl rfl dX8_pullBy_32 ?_
    refine lv_iconst (v := 3) hx hb dX8_pullBy_35 (by decide) ?_
    refine zlald hF hB 1 rfl 3 (by decide) (by decide) (by decide) (v := (Int64.ofInt (pulI p9 L mo an pl ho 3))) (hp1 3 (by decide)) dX8_pullBy_36 ?_
    refine zldc2 (v := (20 : Int64)) ww_25_12 hF dX8_pullBy_37 ?_
    refine zVv zm_X8_134 hF hB (c_X8_lays l D ka kb q ad o z nu 29 (Int64.ofInt (pulI p9 L mo an pl ho 0)) (Int64.ofInt (pulI p9 L mo an pl ho 1)) (Int64.ofInt (pulI p9 L mo an pl ho 2)) (Int64.ofInt (pulI p9 L mo an pl ho 3)) (20 : Int64) (by decide) (by decide)) [0, 6] rfl (by decide) [q, (ad 3)] (fun _ => rfl) rfl 0 8 rfl rfl rfl ⟨Nat.le_of_ble_eq_true rfl, Nat.le_of_ble_eq_true rfl⟩ rfl hl.1 (Nat.le_of_ble_eq_true rfl) ⟨Nat.le_refl _, Nat.le_refl _⟩ dX8_pullBy_40 ?_
    clear hB
    try clear locs
    try clear H
    intro u6 H locs hp hB
    replace hB : zB D A s ([(q, .inr (8, mO ad o z)), ((ad 9), .inl (ka 1, 4, .inr (.inl pu21))), ((ad 4), .inl (ka 0, 8, .inl mo)), ((ad 5), .inl (ka 0, 8, .inl an)), ((ad 6), .inl (ka 0, 8, .inl pl)), ((ad 7), .inl (ka 0, 24, .inl ho)), ((ad 3), .inl (ka 1, 200, .inr (.inl (setN nu 29 (lowN (Int64.ofInt (pulI p9 L mo an pl ho 0)) (Int64.ofInt (pulI p9 L mo an pl ho 1)) (Int64.ofInt (pulI p9 L mo an pl ho 2)) (Int64.ofInt (pulI p9 L mo an pl ho 3)) (20 : Int64))))))]) H locs := hB
    refine lv_goto (tgt := 67) hx hb dX8_pullBy_43 (by decide) ?_
    refine lv_aload_n hx hb dX8_pullBy_67 rfl (lv_at hl 0 rfl) ?_
    refine lv_bipush (v := 29) hx hb dX8_pullBy_68 (by decide) ?_
    refine lv_iload_n hx hb dX8_pullBy_70 rfl (lv_at hl 2 rfl) ?_
    refine lv_iconst (v := 5) hx hb dX8_pullBy_71 (by decide) ?_
    refine lv_irem hx hb dX8_pullBy_72 (by decide) ?_
    refine ztopi (y := nI (k9 % 5)) (pk_rem (a := k9) (d := 5) (by omega) (by decide) (by decide)) ?_
    refine zVl zm_X8_120 hF hB (c_X8_at l D ka kb q ad o z (setN nu 29 (lowN (Int64.ofInt (pulI p9 L mo an pl ho 0)) (Int64.ofInt (pulI p9 L mo an pl ho 1)) (Int64.ofInt (pulI p9 L mo an pl ho 2)) (Int64.ofInt (pulI p9 L mo an pl ho 3)) (20 : Int64))) 29 (k9 % 5) (by decide) (by omega)) [0, 6] rfl (by decide) [q, (ad 3)] (fun _ => rfl) rfl 0 8 rfl rfl rfl ⟨Nat.le_of_ble_eq_true rfl, Nat.le_of_ble_eq_true rfl⟩ rfl hl.1 (Nat.le_of_ble_eq_true rfl) ⟨Nat.le_refl _, Nat.le_refl _⟩ dX8_pullBy_73 ?_
    clear hB
    try clear locs
    try clear H
    intro r7 u7 H locs hp hB
    obtain rfl : r7 = (setN nu 29 (lowN (Int64.ofInt (pulI p9 L mo an pl ho 0)) (Int64.ofInt (pulI p9 L mo an pl ho 1)) (Int64.ofInt (pulI p9 L mo an pl ho 2)) (Int64.ofInt (pulI p9 L mo an pl ho 3)) (20 : Int64))) (5 * 29 + (k9 % 5)) := hp
    replace hB : zB D A s ([(q, .inr (8, mO ad o z)), ((ad 9), .inl (ka 1, 4, .inr (.inl pu21))), ((ad 4), .inl (ka 0, 8, .inl mo)), ((ad 5), .inl (ka 0, 8, .inl an)), ((ad 6), .inl (ka 0, 8, .inl pl)), ((ad 7), .inl (ka 0, 24, .inl ho)), ((ad 3), .inl (ka 1, 200, .inr (.inl (setN nu 29 (lowN (Int64.ofInt (pulI p9 L mo an pl ho 0)) (Int64.ofInt (pulI p9 L mo an pl ho 1)) (Int64.ofInt (pulI p9 L mo an pl ho 2)) (Int64.ofInt (pulI p9 L mo an pl ho 3)) (20 : Int64))))))]) H locs := hB
    exact zretl hF hB (pu21, setN nu 29 (lowN (Int64.ofInt (pulI p9 L mo an pl ho 0)) (Int64.ofInt (pulI p9 L mo an pl ho 1)) (Int64.ofInt (pulI p9 L mo an pl ho 2)) (Int64.ofInt (pulI p9 L mo an pl ho 3)) (20 : Int64))) (⟨(cmp5_get (setN nu 29 (lowN (Int64.ofInt (pulI p9 L mo an pl ho 0)) (Int64.ofInt (pulI p9 L mo an pl ho 1)) (Int64.ofInt (pulI p9 L mo an pl ho 2)) (Int64.ofInt (pulI p9 L mo an pl ho 3)) (20 : Int64))) 29 (k := k9 % 5) (by omega)).trans (by rw [getN_same, plV, if_pos hk5, show k9 % 5 = k9 by omega] <;> rfl), keepN.rf.set (by simp) _⟩) (rfl) dX8_pullBy_76 hQ

set_option maxHeartbeats 4000000 in
set_option maxRecDepth 100000 in
theorem c_X8_pull (l : Launch) (D : va_G) (ka : Nat → ClassId) (kb : Nat → Nat) (q : Nat) (ad : Nat → Nat) (o : Bool) (z : mZ) (pu : Nat → Int64) (pq : Int32) (kq : Int32) (L : Nat) (mo : Nat → Int32) (an : Nat → Int32) (pl : Nat → Int32) (ho : Nat → Int32) (nu : Nat → Int64) (hL : z.2.1 = nI L) (hok : okL L mo an pl) (hoh : okH ho) : zL l D ka kb yX8_pull cX8_pull 3 4 91 [.ref q, .int pq, .int kq] ([(q, .inr (8, mO ad o z)), ((ad 9), .inl (ka 1, 4, .inr (.inl pu))), ((ad 4), .inl (ka 0, 8, .inl mo)), ((ad 5), .inl (ka 0, 8, .inl an)), ((ad 6), .inl (ka 0, 8, .inl pl)), ((ad 7), .inl (ka 0, 24, .inl ho)), ((ad 3), .inl (ka 1, 200, .inr (.inl nu)))]) (fun (r : Int64) (u : (Nat → Int64) × (Nat → Int64)) => r = (if plK pq kq = true then plV (pulI (aN pq) L mo an pl ho) (aN kq) else lMin - (-2 : Int32).toInt64) ∧ keepN [29] nu u.2) (fun (u : (Nat → Int64) × (Nat → Int64)) => [(q, .inr (8, mO ad o z)), ((ad 9), .inl (ka 1, 4, .inr (.inl u.1))), ((ad 4), .inl (ka 0, 8, .inl mo)), ((ad 5), .inl (ka 0, 8, .inl an)), ((ad 6), .inl (ka 0, 8, .inl pl)), ((ad 7), .inl (ka 0, 24, .inl ho)), ((ad 3), .inl (ka 1, 200, .inr (.inl u.2)))]) := by
  refine zL.mk RX8 (by decide +kernel) rfl (Nat.le_of_ble_eq_true rfl) ?_
  intro p e s m below meth c A ls args Q hQ hx hb hF hB hl
  replace hl : lv_has ls 3 [(0, .ref q), (1, .int pq), (2, .int kq)] := hl
  refine lv_iload_n hx hb dX8_pull_0 rfl (lv_at hl 1 rfl) ?_
  refine zSi zm_X8_226 hF hB (c_X8_isTwo l D ka kb pq ) [] rfl (by decide) [] (fun _ => rfl) rfl rfl ⟨Nat.le_of_ble_eq_true rfl, Nat.le_of_ble_eq_true rfl⟩ rfl hl.1 (Nat.le_of_ble_eq_true rfl) ⟨Nat.le_refl _, Nat.le_refl _⟩ dX8_pull_1 ?_
  clear hB
  try clear locs
  try clear H
  intro r1 u1 H locs hp hB
  obtain rfl : r1 = bI (inI pq 2) := hp
  replace hB : zB D A s ([(q, .inr (8, mO ad o z)), ((ad 9), .inl (ka 1, 4, .inr (.inl pu))), ((ad 4), .inl (ka 0, 8, .inl mo)), ((ad 5), .inl (ka 0, 8, .inl an)), ((ad 6), .inl (ka 0, 8, .inl pl)), ((ad 7), .inl (ka 0, 24, .inl ho)), ((ad 3), .inl (ka 1, 200, .inr (.inl nu)))]) H locs := hB
  refine lv_if_eq (tgt := 28) hx hb dX8_pull_4 (by decide) (fun h4 => ?_) (fun h4 => ?_)
  · skip
    refine lv_bipush (v := -2) hx hb dX8_pull_28 (by decide) ?_
    refine zSl zm_X8_99 hF hB (c_X8_no l D ka kb (-2 : Int32) ) [] rfl (by decide) [] (fun _ => rfl) rfl rfl ⟨Nat.le_of_ble_eq_true rfl, Nat.le_of_ble_eq_true rfl⟩ rfl hl.1 (Nat.le_of_ble_eq_true rfl) ⟨Nat.le_refl _, Nat.le_refl _⟩ dX8_pull_30 ?_
    clear hB
    try clear locs
    try clear H
    intro r2 u2 H locs hp hB
    obtain rfl : r2 = lMin - (-2 : Int32).toInt64 := hp
    replace hB : zB D A s ([(q, .inr (8, mO ad o z)), ((ad 9), .inl (ka 1, 4, .inr (.inl pu))), ((ad 4), .inl (ka 0, 8, .inl mo)), ((ad 5), .inl (ka 0, 8, .inl an)), ((ad 6), .inl (ka 0, 8, .inl pl)), ((ad 7), .inl (ka 0, 24, .inl ho)), ((ad 3), .inl (ka 1, 200, .inr (.inl nu)))]) H locs := hB
    have hk0 : plK pq kq = false := dB_f.mpr (fun e8 => by rw [bI_eq0 h4] at e8; exact absurd e8.1 (by decide))
    exact zretl hF hB (pu, nu) (⟨by rw [if_neg (by rw [hk0]; decide)], keepN.rf⟩) (rfl) dX8_pull_33 hQ
  · skip
    have hp1 : inI pq 2 = true := bI_ne0 h4
    obtain ⟨p, hp2, hp3⟩ := inI_of hp1 (by decide)
    subst hp3
    have rp : aN (nI p) = p := aNn hp2 (by decide)
    refine lv_iload_n hx hb dX8_pull_7 rfl (lv_at hl 2 rfl) ?_
    refine lv_i2l (v := kq.toInt64) hx hb dX8_pull_8 rfl ?_
    refine lv_lconst (v := 0) hx hb dX8_pull_9 (by decide) ?_
    refine zldc2 (v := (9 : Int64)) ww_20_9 hF dX8_pull_10 ?_
    refine zSi zm_X8_72 hF hB (c_X8_in l D ka kb kq.toInt64 (0 : Int64) (9 : Int64) ) [] rfl (by decide) [] (fun _ => rfl) rfl rfl ⟨Nat.le_of_ble_eq_true rfl, Nat.le_of_ble_eq_true rfl⟩ rfl hl.1 (Nat.le_of_ble_eq_true rfl) ⟨Nat.le_refl _, Nat.le_refl _⟩ dX8_pull_13 ?_
    clear hB
    try clear locs
    try clear H
    intro r3 u3 H locs hp hB
    obtain rfl : r3 = bI (zin kq.toInt64 (0 : Int64) (9 : Int64)) := hp
    replace hB : zB D A s ([(q, .inr (8, mO ad o z)), ((ad 9), .inl (ka 1, 4, .inr (.inl pu))), ((ad 4), .inl (ka 0, 8, .inl mo)), ((ad 5), .inl (ka 0, 8, .inl an)), ((ad 6), .inl (ka 0, 8, .inl pl)), ((ad 7), .inl (ka 0, 24, .inl ho)), ((ad 3), .inl (ka 1, 200, .inr (.inl nu)))]) H locs := hB
    refine lv_if_eq (tgt := 28) hx hb dX8_pull_16 (by decide) (fun h16 => ?_) (fun h16 => ?_)
    · skip
      have hs9 : inI kq 10 = false := (zin_inI kq 10 (by decide) (by decide)).symm.trans (bI_eq0 h16)
      refine lv_bipush (v := -2) hx hb dX8_pull_28 (by decide) ?_
      refine zSl zm_X8_99 hF hB (c_X8_no l D ka kb (-2 : Int32) ) [] rfl (by decide) [] (fun _ => rfl) rfl rfl ⟨Nat.le_of_ble_eq_true rfl, Nat.le_of_ble_eq_true rfl⟩ rfl hl.1 (Nat.le_of_ble_eq_true rfl) ⟨Nat.le_refl _, Nat.le_refl _⟩ dX8_pull_30 ?_
      clear hB
      try clear locs
      try clear H
      intro r4 u4 H locs hp hB
      obtain rfl : r4 = lMin - (-2 : Int32).toInt64 := hp
      replace hB : zB D A s ([(q, .inr (8, mO ad o z)), ((ad 9), .inl (ka 1, 4, .inr (.inl pu))), ((ad 4), .inl (ka 0, 8, .inl mo)), ((ad 5), .inl (ka 0, 8, .inl an)), ((ad 6), .inl (ka 0, 8, .inl pl)), ((ad 7), .inl (ka 0, 24, .inl ho)), ((ad 3), .inl (ka 1, 200, .inr (.inl nu)))]) H locs := hB
      have hk0 : plK (nI p) kq = false := dB_f.mpr (fun e8 => by rw [hs9] at e8; exact absurd e8.2 (by decide))
      exact zretl hF hB (pu, nu) (⟨by rw [if_neg (by rw [hk0]; decide)], keepN.rf⟩) (rfl) dX8_pull_33 hQ
    · skip
      have hs9 : inI kq 10 = true := (zin_inI kq 10 (by decide) (by decide)).symm.trans (bI_ne0 h16)
      obtain ⟨k, hk2, hk3⟩ := inI_of hs9 (by decide)
      subst hk3
      have rk : aN (nI k) = k := aNn hk2 (by decide)
      have hk0 : plK (nI p) (nI k) = true := dB_t.mpr ⟨hp1, hs9⟩
      refine lv_aload_n hx hb dX8_pull_19 rfl (lv_at hl 0 rfl) ?_
      refine lv_iload_n hx hb dX8_pull_20 rfl (lv_at hl 1 rfl) ?_
      refine lv_iload_n hx hb dX8_pull_21 rfl (lv_at hl 2 rfl) ?_
      refine zVl zm_X8_245 hF hB (c_X8_pullBy l D ka kb q ad o z pu p k L mo an pl ho nu (hp2) (hk2) (hL) (hok) (hoh)) [0, 1, 2, 3, 4, 5, 6] rfl (by decide) [q, (ad 9), (ad 4), (ad 5), (ad 6), (ad 7), (ad 3)] (fun _ => rfl) rfl 0 8 rfl rfl rfl ⟨Nat.le_of_ble_eq_true rfl, Nat.le_of_ble_eq_true rfl⟩ rfl hl.1 (Nat.le_of_ble_eq_true rfl) ⟨Nat.le_refl _, Nat.le_refl _⟩ dX8_pull_22 ?_
      clear hB
      try clear locs
      try clear H
      intro r5 u5 H locs hp hB
      obtain ⟨pu25, nu25⟩ := u5
      have hp5 : r5 = plV (pulI p L mo an pl ho) k ∧ keepN [29] nu nu25 := hp
      have HPP := hp5
      replace hB : zB D A s ([(q, .inr (8, mO ad o z)), ((ad 9), .inl (ka 1, 4, .inr (.inl pu25))), ((ad 4), .inl (ka 0, 8, .inl mo)), ((ad 5), .inl (ka 0, 8, .inl an)), ((ad 6), .inl (ka 0, 8, .inl pl)), ((ad 7), .inl (ka 0, 24, .inl ho)), ((ad 3), .inl (ka 1, 200, .inr (.inl nu25)))]) H locs := hB
      refine lv_goto (tgt := 33) hx hb dX8_pull_25 (by decide) ?_
      exact zretl hF hB (_, _) (⟨by rw [if_pos hk0, rp, rk]; exact HPP.1, HPP.2⟩) (rfl) dX8_pull_33 hQ

set_option maxHeartbeats 4000000 in
set_option maxRecDepth 100000 in
theorem c_X8_quietBy (l : Launch) (D : va_G) (ka : Nat → ClassId) (kb : Nat → Nat) (q : Nat) (ad : Nat → Nat) (o : Bool) (z : mZ) (pu : Nat → Int64) (p9 : Nat) (L : Nat) (mo : Nat → Int32) (an : Nat → Int32) (pl : Nat → Int32) (ho : Nat → Int32) (hp9 : p9 < 2) (hL : z.2.1 = nI L) (hok : okL L mo an pl) (hoh : okH ho) (hli : 0 ≤ z.2.2.2.1.toInt ∧ z.2.2.2.1.toInt ≤ 99) : zI l D ka kb yX8_quietBy cX8_quietBy 2 .int 4 97 [.ref q, .int (nI p9)] ([(q, .inr (8, mO ad o z)), ((ad 9), .inl (ka 1, 4, .inr (.inl pu))), ((ad 4), .inl (ka 0, 8, .inl mo)), ((ad 5), .inl (ka 0, 8, .inl an)), ((ad 6), .inl (ka 0, 8, .inl pl)), ((ad 7), .inl (ka 0, 24, .inl ho))]) (fun (r : Int32) (pu2 : Nat → Int64) => r = bI (quB (pulI p9 L mo an pl ho) z.2.2.2.1.toInt)) (fun (pu2 : Nat → Int64) => [(q, .inr (8, mO ad o z)), ((ad 9), .inl (ka 1, 4, .inr (.inl pu2))), ((ad 4), .inl (ka 0, 8, .inl mo)), ((ad 5), .inl (ka 0, 8, .inl an)), ((ad 6), .inl (ka 0, 8, .inl pl)), ((ad 7), .inl (ka 0, 24, .inl ho))]) := by
  refine zI.mk RX8 (by decide +kernel) rfl (Nat.le_of_ble_eq_true rfl) ?_
  intro p e s m below meth c A ls args Q hQ hx hb hF hB hl
  replace hl : lv_has ls 2 [(0, .ref q), (1, .int (nI p9))] := hl
  refine lv_aload_n hx hb dX8_quietBy_0 rfl (lv_at hl 0 rfl) ?_
  refine lv_iload_n hx hb dX8_quietBy_1 rfl (lv_at hl 1 rfl) ?_
  refine zVv zm_X8_208 hF hB (c_X8_pulls l D ka kb q ad o z pu p9 L mo an pl ho (hp9) (hL) (hok) (hoh)) [0, 1, 2, 3, 4, 5] rfl (by decide) [q, (ad 9), (ad 4), (ad 5), (ad 6), (ad 7)] (fun _ => rfl) rfl 0 8 rfl rfl rfl ⟨Nat.le_of_ble_eq_true rfl, Nat.le_of_ble_eq_true rfl⟩ rfl hl.1 (Nat.le_of_ble_eq_true rfl) ⟨Nat.le_refl _, Nat.le_refl _⟩ dX8_quietBy_2 ?_
  clear hB
  try clear locs
  try clear H
  intro u1 H locs hp hB
  obtain ⟨pu21, rfl⟩ : ∃ z, z = u1 := ⟨_, rfl⟩
  have hp1 : ∀ k, k < 4 → pu21 k = Int64.ofInt (pulI p9 L mo an pl ho k) := hp
  have HPP := hp1
  replace hB : zB D A s ([(q, .inr (8, mO ad o z)), ((ad 9), .inl (ka 1, 4, .inr (.inl pu21))), ((ad 4), .inl (ka 0, 8, .inl mo)), ((ad 5), .inl (ka 0, 8, .inl an)), ((ad 6), .inl (ka 0, 8, .inl pl)), ((ad 7), .inl (ka 0, 24, .inl ho))]) H locs := hB
  refine lv_aload_n hx hb dX8_quietBy_5 rfl (lv_at hl 0 rfl) ?_
  refine zVi zm_X8_248 hF hB (c_X8_isQuiet l D ka kb q ad o z pu21 (pulI p9 L mo an pl ho) (hp1) (pulI_bd hp9 hok hoh) (hli)) [0, 1] rfl (by decide) [q, (ad 9)] (fun _ => rfl) rfl 0 8 rfl rfl rfl ⟨Nat.le_of_ble_eq_true rfl, Nat.le_of_ble_eq_true rfl⟩ rfl hl.1 (Nat.le_of_ble_eq_true rfl) ⟨Nat.le_refl _, Nat.le_refl _⟩ dX8_quietBy_6 ?_
  clear hB
  try clear locs
  try clear H
  intro r2 u2 H locs hp hB
  obtain rfl : r2 = bI (quB (pulI p9 L mo an pl ho) z.2.2.2.1.toInt) := hp
  replace hB : zB D A s ([(q, .inr (8, mO ad o z)), ((ad 9), .inl (ka 1, 4, .inr (.inl pu21))), ((ad 4), .inl (ka 0, 8, .inl mo)), ((ad 5), .inl (ka 0, 8, .inl an)), ((ad 6), .inl (ka 0, 8, .inl pl)), ((ad 7), .inl (ka 0, 24, .inl ho))]) H locs := hB
  refine lv_if_eq (tgt := 16) hx hb dX8_quietBy_9 (by decide) (fun h9 => ?_) (fun h9 => ?_)
  · skip
    refine lv_iconst (v := 0) hx hb dX8_quietBy_16 (by decide) ?_
    refine ztopi (y := bI (quB (pulI p9 L mo an pl ho) z.2.2.2.1.toInt)) (bI_0 (bI_eq0 h9)) ?_
    exact zreti hF hB pu21 (rfl) (rfl) (rfl) dX8_quietBy_17 hQ
  · skip
    refine lv_iconst (v := 1) hx hb dX8_quietBy_12 (by decide) ?_
    refine ztopi (y := bI (quB (pulI p9 L mo an pl ho) z.2.2.2.1.toInt)) (bI_1 (bI_ne0 h9)) ?_
    refine lv_goto (tgt := 17) hx hb dX8_quietBy_13 (by decide) ?_
    exact zreti hF hB pu21 (rfl) (rfl) (rfl) dX8_quietBy_17 hQ

set_option maxHeartbeats 4000000 in
set_option maxRecDepth 100000 in
theorem c_X8_quiet (l : Launch) (D : va_G) (ka : Nat → ClassId) (kb : Nat → Nat) (q : Nat) (ad : Nat → Nat) (o : Bool) (z : mZ) (pu : Nat → Int64) (pq : Int32) (L : Nat) (mo : Nat → Int32) (an : Nat → Int32) (pl : Nat → Int32) (ho : Nat → Int32) (hL : z.2.1 = nI L) (hok : okL L mo an pl) (hoh : okH ho) (hli : 0 ≤ z.2.2.2.1.toInt ∧ z.2.2.2.1.toInt ≤ 99) : zI l D ka kb yX8_quiet cX8_quiet 2 .int 5 118 [.ref q, .int pq] ([(q, .inr (8, mO ad o z)), ((ad 9), .inl (ka 1, 4, .inr (.inl pu))), ((ad 4), .inl (ka 0, 8, .inl mo)), ((ad 5), .inl (ka 0, 8, .inl an)), ((ad 6), .inl (ka 0, 8, .inl pl)), ((ad 7), .inl (ka 0, 24, .inl ho))]) (fun (r : Int32) (pu2 : Nat → Int64) => r = (if inI pq 2 = true then bI (quB (pulI (aN pq) L mo an pl ho) z.2.2.2.1.toInt) else -2)) (fun (pu2 : Nat → Int64) => [(q, .inr (8, mO ad o z)), ((ad 9), .inl (ka 1, 4, .inr (.inl pu2))), ((ad 4), .inl (ka 0, 8, .inl mo)), ((ad 5), .inl (ka 0, 8, .inl an)), ((ad 6), .inl (ka 0, 8, .inl pl)), ((ad 7), .inl (ka 0, 24, .inl ho))]) := by
  refine zI.mk RX8 (by decide +kernel) rfl (Nat.le_of_ble_eq_true rfl) ?_
  intro p e s m below meth c A ls args Q hQ hx hb hF hB hl
  replace hl : lv_has ls 2 [(0, .ref q), (1, .int pq)] := hl
  refine lv_iload_n hx hb dX8_quiet_0 rfl (lv_at hl 1 rfl) ?_
  refine zSi zm_X8_226 hF hB (c_X8_isTwo l D ka kb pq ) [] rfl (by decide) [] (fun _ => rfl) rfl rfl ⟨Nat.le_of_ble_eq_true rfl, Nat.le_of_ble_eq_true rfl⟩ rfl hl.1 (Nat.le_of_ble_eq_true rfl) ⟨Nat.le_refl _, Nat.le_refl _⟩ dX8_quiet_1 ?_
  clear hB
  try clear locs
  try clear H
  intro r1 u1 H locs hp hB
  obtain rfl : r1 = bI (inI pq 2) := hp
  replace hB : zB D A s ([(q, .inr (8, mO ad o z)), ((ad 9), .inl (ka 1, 4, .inr (.inl pu))), ((ad 4), .inl (ka 0, 8, .inl mo)), ((ad 5), .inl (ka 0, 8, .inl an)), ((ad 6), .inl (ka 0, 8, .inl pl)), ((ad 7), .inl (ka 0, 24, .inl ho))]) H locs := hB
  refine lv_if_eq (tgt := 15) hx hb dX8_quiet_4 (by decide) (fun h4 => ?_) (fun h4 => ?_)
  · skip
    have hk0 : inI pq 2 = false := bI_eq0 h4
    refine lv_bipush (v := -2) hx hb dX8_quiet_15 (by decide) ?_
    exact zreti hF hB pu (by rw [if_neg (by rw [hk0]; decide)]) (rfl) (rfl) dX8_quiet_17 hQ
  · skip
    have hp1 : inI pq 2 = true := bI_ne0 h4
    obtain ⟨p, hp2, hp3⟩ := inI_of hp1 (by decide)
    subst hp3
    have rp : aN (nI p) = p := aNn hp2 (by decide)
    refine lv_aload_n hx hb dX8_quiet_7 rfl (lv_at hl 0 rfl) ?_
    refine lv_iload_n hx hb dX8_quiet_8 rfl (lv_at hl 1 rfl) ?_
    refine zVi zm_X8_252 hF hB (c_X8_quietBy l D ka kb q ad o z pu p L mo an pl ho (hp2) (hL) (hok) (hoh) (hli)) [0, 1, 2, 3, 4, 5] rfl (by decide) [q, (ad 9), (ad 4), (ad 5), (ad 6), (ad 7)] (fun _ => rfl) rfl 0 8 rfl rfl rfl ⟨Nat.le_of_ble_eq_true rfl, Nat.le_of_ble_eq_true rfl⟩ rfl hl.1 (Nat.le_of_ble_eq_true rfl) ⟨Nat.le_refl _, Nat.le_refl _⟩ dX8_quiet_9 ?_
    clear hB
    try clear locs
    try clear H
    intro r2 u2 H locs hp hB
    obtain ⟨pu22, rfl⟩ : ∃ z, z = u2 := ⟨_, rfl⟩
    have hp2 : r2 = bI (quB (pulI p L mo an pl ho) z.2.2.2.1.toInt) := hp
    have HPP := hp2
    replace hB : zB D A s ([(q, .inr (8, mO ad o z)), ((ad 9), .inl (ka 1, 4, .inr (.inl pu22))), ((ad 4), .inl (ka 0, 8, .inl mo)), ((ad 5), .inl (ka 0, 8, .inl an)), ((ad 6), .inl (ka 0, 8, .inl pl)), ((ad 7), .inl (ka 0, 24, .inl ho))]) H locs := hB
    refine lv_goto (tgt := 17) hx hb dX8_quiet_12 (by decide) ?_
    exact zreti hF hB pu22 (by rw [if_pos hp1, rp]; exact HPP) (rfl) (rfl) dX8_quiet_17 hQ
