noncomputable def foK (p r : Int32) : Bool := dB (inI p 2 = true ∧ inI r 6 = true)
noncomputable def foO (G : Nat → N5) (m a : Nat → Int32) : Bool := (((efO G m a 0 0 || efO G m a 0 1) || efO G m a 1 0) || efO G m a 1 1) || crO (efV G m a 0 0) (efV G m a 1 1) (efV G m a 1 0) (efV G m a 0 1)
def foD (G : Nat → N5) (m a : Nat → Int32) : N5 := crV (efV G m a 0 0) (efV G m a 1 1) (efV G m a 1 0) (efV G m a 0 1)
noncomputable def fnO (p : Int32) (G : Nat → N5) (m a : Nat → Int32) : Bool := if aN p = 0 then crO (G 6) (efV G m a 1 1) (efV G m a 1 0) (G 7) else crO (efV G m a 0 0) (G 7) (G 6) (efV G m a 0 1)
def fnV (p : Int32) (G : Nat → N5) (m a : Nat → Int32) : N5 := if aN p = 0 then crV (G 6) (efV G m a 1 1) (efV G m a 1 0) (G 7) else crV (efV G m a 0 0) (G 7) (G 6) (efV G m a 0 1)
noncomputable def foW (p r t : Int32) (m a : Nat → Int32) (G : Nat → N5) : Int32 × Option (Nat × N5) :=
  if foK p r = false then (-2, none) else
  if ¬ t = 7 then (-3, none) else
  if foO G m a = true then (-5, none) else
  if zeroN (foD G m a) = true then (-6, none) else
  if (fnO p G m a || quoO (fnV p G m a) (foD G m a)) = true then (-5, none) else
  (1, some (aN r, quoV (fnV p G m a) (foD G m a)))
theorem efO_c {G G2 : Nat → N5} {m a : Nat → Int32} {p b : Nat} (h1 : G (6 + 2 * (p + 1) + b) = G2 (6 + 2 * (p + 1) + b)) (h2 : G (6 + b) = G2 (6 + b)) : efO G m a p b = efO G2 m a p b := by unfold efO efS; rw [h1, h2]
theorem efV_c {G G2 : Nat → N5} {m a : Nat → Int32} {p b : Nat} (h1 : G (6 + 2 * (p + 1) + b) = G2 (6 + 2 * (p + 1) + b)) (h2 : G (6 + b) = G2 (6 + b)) : efV G m a p b = efV G2 m a p b := by unfold efV efS; rw [h1, h2]
theorem kpB_7 : ∀ k, k < 3 → kpB 7 k = true := fun k hk => by
  rcases (show k = 0 ∨ k = 1 ∨ k = 2 by omega) with rfl | rfl | rfl <;> exact dB_t.mpr (by decide)
theorem fnV_d {p : Int32} {G : Nat → N5} {m a : Nat → Int32} (h : fnO p G m a = false) (h6 : 0 < (G 6).2.2.2.2.toInt) (h7 : 0 < (G 7).2.2.2.2.toInt) (e0 : 0 < (efV G m a 0 0).2.2.2.2.toInt) (e1 : 0 < (efV G m a 0 1).2.2.2.2.toInt) (e2 : 0 < (efV G m a 1 0).2.2.2.2.toInt) (e3 : 0 < (efV G m a 1 1).2.2.2.2.toInt) : 0 < (fnV p G m a).2.2.2.2.toInt := by
  unfold fnO at h
  unfold fnV
  split at h
  · next h0 => rw [if_pos h0]; exact crV_d h h6 e3 e2 h7
  · next h0 => rw [if_neg h0]; exact crV_d h e0 h7 h6 e1
set_option maxHeartbeats 4000000 in
set_option maxRecDepth 100000 in
theorem c_X8_found (l : Launch) (D : va_G) (ka : Nat → ClassId) (kb : Nat → Nat) (q : Nat) (ad : Nat → Nat) (o : Bool) (z : mZ) (nu : Nat → Int64) (pm : Nat → Int32) (pa : Nat → Int32) (pq : Int32) (rq : Int32) (hdp : ∀ k9, k9 < 12 → 0 < (nu (5 * k9 + 4)).toInt) (hMA : ∀ k9, k9 < 3 → k9 ≠ 0 → kpB z.2.2.2.2.1 k9 = true → (1 ≤ (pm k9).toInt ∧ (pm k9).toInt ≤ 99) ∧ ∃ a, a < 12 ∧ pa k9 = nI a) : zI l D ka kb yX8_found cX8_found 4 .int 6 190 [.ref q, .int pq, .int rq] ([(q, .inr (8, mO ad o z)), ((ad 3), .inl (ka 1, 200, .inr (.inl nu))), ((ad 12), .inl (ka 0, 3, .inl pm)), ((ad 13), .inl (ka 0, 3, .inl pa))]) (fun (r : Int32) (u : Bool × (Nat → Int64)) => r = (foW pq rq z.2.2.2.2.1 pm pa (getN nu)).1 ∧ ∀ k9, k9 < 12 → getN u.2 k9 = upG (getN nu) (foW pq rq z.2.2.2.2.1 pm pa (getN nu)).2 k9) (fun (u : Bool × (Nat → Int64)) => [(q, .inr (8, mO ad u.1 z)), ((ad 3), .inl (ka 1, 200, .inr (.inl u.2))), ((ad 12), .inl (ka 0, 3, .inl pm)), ((ad 13), .inl (ka 0, 3, .inl pa))]) := by
  refine zI.mk RX8 (by decide +kernel) rfl (Nat.le_of_ble_eq_true rfl) ?_
  intro p e s m below meth c A ls args Q hQ hx hb hF hB hl
  replace hl : lv_has ls 4 [(0, .ref q), (1, .int pq), (2, .int rq)] := hl
  refine lv_iload_n hx hb dX8_found_0 rfl (lv_at hl 1 rfl) ?_
  refine zSi zm_X8_226 hF hB (c_X8_isTwo l D ka kb pq ) [] rfl (by decide) [] (fun _ => rfl) rfl rfl ⟨Nat.le_of_ble_eq_true rfl, Nat.le_of_ble_eq_true rfl⟩ rfl hl.1 (Nat.le_of_ble_eq_true rfl) ⟨Nat.le_refl _, Nat.le_refl _⟩ dX8_found_1 ?_
  clear hB
  try clear locs
  try clear H
  intro r1 u1 H locs hp hB
  obtain rfl : r1 = bI (inI pq 2) := hp
  replace hB : zB D A s ([(q, .inr (8, mO ad o z)), ((ad 3), .inl (ka 1, 200, .inr (.inl nu))), ((ad 12), .inl (ka 0, 3, .inl pm)), ((ad 13), .inl (ka 0, 3, .inl pa))]) H locs := hB
  refine lv_if_eq (tgt := 14) hx hb dX8_found_4 (by decide) (fun h4 => ?_) (fun h4 => ?_)
  · skip
    refine lv_bipush (v := -2) hx hb dX8_found_14 (by decide) ?_
    have hk9 : foK pq rq = false := dB_f.mpr (fun e8 => by rw [bI_eq0 h4] at e8; exact absurd e8.1 (by decide))
    exact zreti hF hB (o, nu) (⟨by unfold foW; rw [if_pos hk9], fun k9 _ => by unfold foW; rw [if_pos (by assumption)]; rfl⟩) (rfl) (rfl) dX8_found_16 hQ
  · skip
    have hp91 : inI pq 2 = true := bI_ne0 h4
    obtain ⟨p9, hp92, hp93⟩ := inI_of hp91 (by decide)
    subst hp93
    have rp9 : aN (nI p9) = p9 := aNn hp92 (by decide)
    refine lv_iload_n hx hb dX8_found_7 rfl (lv_at hl 2 rfl) ?_
    refine zSi zm_X8_162 hF hB (c_X8_isRegister l D ka kb rq ) [] rfl (by decide) [] (fun _ => rfl) rfl rfl ⟨Nat.le_of_ble_eq_true rfl, Nat.le_of_ble_eq_true rfl⟩ rfl hl.1 (Nat.le_of_ble_eq_true rfl) ⟨Nat.le_refl _, Nat.le_refl _⟩ dX8_found_8 ?_
    clear hB
    try clear locs
    try clear H
    intro r2 u2 H locs hp hB
    obtain rfl : r2 = bI (inI rq 6) := hp
    replace hB : zB D A s ([(q, .inr (8, mO ad o z)), ((ad 3), .inl (ka 1, 200, .inr (.inl nu))), ((ad 12), .inl (ka 0, 3, .inl pm)), ((ad 13), .inl (ka 0, 3, .inl pa))]) H locs := hB
    refine lv_if_ne (tgt := 17) hx hb dX8_found_11 (by decide) (fun h11 => ?_) (fun h11 => ?_)
    · skip
      have hi1 : inI rq 6 = true := bI_ne0 h11
      obtain ⟨i, hi2, hi3⟩ := inI_of hi1 (by decide)
      subst hi3
      have ri : aN (nI i) = i := aNn hi2 (by decide)
      have hk8 : foK (nI p9) (nI i) = true := dB_t.mpr ⟨hp91, hi1⟩
      refine lv_aload_n hx hb dX8_found_17 rfl (lv_at hl 0 rfl) ?_
      refine zget zf_X8_213 hF hB 0 rfl rfl dX8_found_18 ?_
      refine lv_bipush (v := 7) hx hb dX8_found_21 (by decide) ?_
      refine lv_icmp_eq (tgt := 29) hx hb dX8_found_23 (by decide) (fun h23 => ?_) (fun h23 => ?_)
      · skip
        obtain ⟨B1, a1, ha1, ha12⟩ := hMA 1 (by decide) (by decide) (by rw [h23]; exact kpB_7 1 (by decide))
        obtain ⟨B2, a2, ha2, ha22⟩ := hMA 2 (by decide) (by decide) (by rw [h23]; exact kpB_7 2 (by decide))
        have A1 : aN (pa 1) < 12 := by rw [ha12, aNn ha1 (by decide)]; exact ha1
        have A2 : aN (pa 2) < 12 := by rw [ha22, aNn ha2 (by decide)]; exact ha2
        refine lv_aload_n hx hb dX8_found_29 rfl (lv_at hl 0 rfl) ?_
        refine lv_iconst (v := 0) hx hb dX8_found_30 (by decide) ?_
        refine zput_f zp_X8_105 hF hB 0 rfl (rfl) (rfl) (Nat.le_of_ble_eq_true rfl) dX8_found_31 ?_
        clear hB
        try clear locs
        try clear H
        intro H locs hB
        replace hB : zB D A s ([(q, .inr (8, mX ad (0 : Int32) z.1 z.2.1 z.2.2.1 z.2.2.2.1 z.2.2.2.2.1 z.2.2.2.2.2.1 z.2.2.2.2.2.2.1 z.2.2.2.2.2.2.2)), ((ad 3), .inl (ka 1, 200, .inr (.inl nu))), ((ad 12), .inl (ka 0, 3, .inl pm)), ((ad 13), .inl (ka 0, 3, .inl pa))]) H locs := hB
        refine lv_iconst (v := 0) hx hb dX8_found_34 (by decide) ?_
        refine lv_istore_n (lv' := [(3, .int (0 : Int32)), (0, .ref q), (1, .int (nI p9)), (2, .int (nI i))]) hx hb dX8_found_35 rfl hl (by decide) rfl ?_
        clear hl
        clear ls
        intro ls hl
        refine lv_iload_n hx hb dX8_found_36 rfl (lv_at hl 0 rfl) ?_
        refine lv_iconst (v := 4) hx hb dX8_found_37 (by decide) ?_
        refine lv_icmp_ge (tgt := 68) hx hb dX8_found_38 (by decide) (fun h38 => ?_) (fun h38 => ?_)
        · skip
          exact absurd h38 (by decide)
        · skip
          refine lv_aload_n hx hb dX8_found_41 rfl (lv_at hl 1 rfl) ?_
          refine zget zf_X8_105 hF hB 0 rfl rfl dX8_found_42 ?_
          refine lv_if_ne (tgt := 68) hx hb dX8_found_45 (by decide) (fun h45 => ?_) (fun h45 => ?_)
          · skip
            exact absurd (by decide) h45
          · skip
            refine lv_aload_n hx hb dX8_found_48 rfl (lv_at hl 1 rfl) ?_
            refine lv_bipush (v := 12) hx hb dX8_found_49 (by decide) ?_
            refine lv_iload_n hx hb dX8_found_51 rfl (lv_at hl 0 rfl) ?_
            refine lv_iadd hx hb dX8_found_52 ?_
            refine ztopi (y := (12 : Int32)) (by decide) ?_
            refine lv_iload_n hx hb dX8_found_53 rfl (lv_at hl 0 rfl) ?_
            refine lv_iconst (v := 2) hx hb dX8_found_54 (by decide) ?_
            refine lv_idiv hx hb dX8_found_55 (by decide) ?_
            refine ztopi (y := (0 : Int32)) (by decide) ?_
            refine lv_iload_n hx hb dX8_found_56 rfl (lv_at hl 0 rfl) ?_
            refine lv_iconst (v := 2) hx hb dX8_found_57 (by decide) ?_
            refine lv_irem hx hb dX8_found_58 (by decide) ?_
            refine ztopi (y := (0 : Int32)) (by decide) ?_
            refine zVv zm_X8_272 hF hB (c_X8_effectTo l D ka kb q ad z nu pm pa 12 0 0 (by decide) (by decide) (by decide) (hdp _ (by decide)) (hdp _ (by decide)) (B1) (⟨a1, ha1, ha12⟩)) [0, 1, 2, 3] rfl (by decide) [q, (ad 3), (ad 12), (ad 13)] (fun _ => rfl) rfl 0 8 rfl rfl rfl ⟨Nat.le_of_ble_eq_true rfl, Nat.le_of_ble_eq_true rfl⟩ rfl hl.1 (Nat.le_of_ble_eq_true rfl) ⟨Nat.le_refl _, Nat.le_refl _⟩ dX8_found_59 ?_
            clear hB
            try clear locs
            try clear H
            intro u3 H locs hp hB
            obtain ⟨nu23, rfl⟩ : ∃ z, z = u3 := ⟨_, rfl⟩
            have hp3 : keepN [20, 21, 30, 31, 32, 33, 34, 35, 36, 37, 12] nu nu23 ∧ (efO (getN nu) pm pa 0 0 = false → getN nu23 12 = efV (getN nu) pm pa 0 0) := hp
            have HPP := hp3
            replace hB : zB D A s ([(q, .inr (8, mO ad (efO (getN nu) pm pa 0 0) z)), ((ad 3), .inl (ka 1, 200, .inr (.inl nu23))), ((ad 12), .inl (ka 0, 3, .inl pm)), ((ad 13), .inl (ka 0, 3, .inl pa))]) H locs := hB
            have X9 : ∀ k9, k9 < 12 → getN nu k9 = getN nu k9 := fun _ _ => rfl
            obtain ⟨K0, R0⟩ := hp3
            have Q0 : efO (getN nu) pm pa 0 0 = efO (getN nu) pm pa 0 0 := efO_c (X9 _ (by decide)) (X9 _ (by decide))
            have Y0 : efV (getN nu) pm pa 0 0 = (efV (getN nu) pm pa 0 0) := efV_c (X9 _ (by decide)) (X9 _ (by decide))
            rw [Q0] at hB
            replace hB : zB D A s ([(q, .inr (8, mO ad (efO (getN nu) pm pa 0 0) z)), ((ad 3), .inl (ka 1, 200, .inr (.inl nu23))), ((ad 12), .inl (ka 0, 3, .inl pm)), ((ad 13), .inl (ka 0, 3, .inl pa))]) H locs := hB
            have X9 : ∀ k9, k9 < 12 → getN nu23 k9 = getN nu k9 := fun k9 h9 => (K0.get (by simp; omega)).trans (X9 k9 h9)
            refine lv_iinc (v := (1 : Int32)) (lv' := [(3, .int (1 : Int32)), (0, .ref q), (1, .int (nI p9)), (2, .int (nI i))]) hx hb dX8_found_62 hl (k := 0) rfl (by decide) (by decide) rfl ?_
            clear hl
            clear ls
            intro ls hl
            refine lv_goto (tgt := 36) hx hb dX8_found_65 (by decide) ?_
            refine lv_iload_n hx hb dX8_found_36 rfl (lv_at hl 0 rfl) ?_
            refine lv_iconst (v := 4) hx hb dX8_found_37 (by decide) ?_
            refine lv_icmp_ge (tgt := 68) hx hb dX8_found_38 (by decide) (fun h38 => ?_) (fun h38 => ?_)
            · skip
              exact absurd h38 (by decide)
            · skip
              refine lv_aload_n hx hb dX8_found_41 rfl (lv_at hl 1 rfl) ?_
              refine zget zf_X8_105 hF hB 0 rfl rfl dX8_found_42 ?_
              refine lv_if_ne (tgt := 68) hx hb dX8_found_45 (by decide) (fun h45 => ?_) (fun h45 => ?_)
              · skip
                have O0 : efO (getN nu) pm pa 0 0 = true := bI_ne0 h45
                have hFO : foO (getN nu) pm pa = true := by unfold foO; simp only [O0, Bool.or_true, Bool.true_or]
                rw [O0] at hB
                replace hB : zB D A s ([(q, .inr (8, mO ad true z)), ((ad 3), .inl (ka 1, 200, .inr (.inl nu23))), ((ad 12), .inl (ka 0, 3, .inl pm)), ((ad 13), .inl (ka 0, 3, .inl pa))]) H locs := hB
                refine lv_aload_n hx hb dX8_found_68 rfl (lv_at hl 1 rfl) ?_
                refine zget zf_X8_105 hF hB 0 rfl rfl dX8_found_69 ?_
                refine lv_if_ne (tgt := 89) hx hb dX8_found_72 (by decide) (fun h72 => ?_) (fun h72 => ?_)
                · skip
                  refine lv_aload_n hx hb dX8_found_89 rfl (lv_at hl 1 rfl) ?_
                  refine zget zf_X8_105 hF hB 0 rfl rfl dX8_found_90 ?_
                  refine lv_if_eq (tgt := 99) hx hb dX8_found_93 (by decide) (fun h93 => ?_) (fun h93 => ?_)
                  · skip
                    exact absurd h93 (by decide)
                  · skip
                    refine lv_bipush (v := -5) hx hb dX8_found_96 (by decide) ?_
                    exact zreti hF hB (true, nu23) (⟨by unfold foW; rw [if_neg (by rw [hk8]; decide), if_neg (not_not_intro h23), if_pos hFO], fun k9 h9 => by unfold foW; rw [if_neg (by rw [hk8]; decide), if_neg (not_not_intro h23), if_pos hFO]; exact X9 k9 h9⟩) (rfl) (rfl) dX8_found_98 hQ
                · skip
                  exact absurd h72 (by decide)
              · skip
                have O0 : efO (getN nu) pm pa 0 0 = false := bI_eq0 h45
                have V0 : getN nu23 12 = (efV (getN nu) pm pa 0 0) := (R0 (Q0.trans O0)).trans Y0
                rw [O0] at hB
                replace hB : zB D A s ([(q, .inr (8, mO ad false z)), ((ad 3), .inl (ka 1, 200, .inr (.inl nu23))), ((ad 12), .inl (ka 0, 3, .inl pm)), ((ad 13), .inl (ka 0, 3, .inl pa))]) H locs := hB
                refine lv_aload_n hx hb dX8_found_48 rfl (lv_at hl 1 rfl) ?_
                refine lv_bipush (v := 12) hx hb dX8_found_49 (by decide) ?_
                refine lv_iload_n hx hb dX8_found_51 rfl (lv_at hl 0 rfl) ?_
                refine lv_iadd hx hb dX8_found_52 ?_
                refine ztopi (y := (13 : Int32)) (by decide) ?_
                refine lv_iload_n hx hb dX8_found_53 rfl (lv_at hl 0 rfl) ?_
                refine lv_iconst (v := 2) hx hb dX8_found_54 (by decide) ?_
                refine lv_idiv hx hb dX8_found_55 (by decide) ?_
                refine ztopi (y := (0 : Int32)) (by decide) ?_
                refine lv_iload_n hx hb dX8_found_56 rfl (lv_at hl 0 rfl) ?_
                refine lv_iconst (v := 2) hx hb dX8_found_57 (by decide) ?_
                refine lv_irem hx hb dX8_found_58 (by decide) ?_
                refine ztopi (y := (1 : Int32)) (by decide) ?_
                refine zVv zm_X8_272 hF hB (c_X8_effectTo l D ka kb q ad z nu23 pm pa 13 0 1 (by decide) (by decide) (by decide) (by rw [X9 9 (by decide)]; exact hdp 9 (by decide)) (by rw [X9 7 (by decide)]; exact hdp 7 (by decide)) (B1) (⟨a1, ha1, ha12⟩)) [0, 1, 2, 3] rfl (by decide) [q, (ad 3), (ad 12), (ad 13)] (fun _ => rfl) rfl 0 8 rfl rfl rfl ⟨Nat.le_of_ble_eq_true rfl, Nat.le_of_ble_eq_true rfl⟩ rfl hl.1 (Nat.le_of_ble_eq_true rfl) ⟨Nat.le_refl _, Nat.le_refl _⟩ dX8_found_59 ?_
                clear hB
                try clear locs
                try clear H
                intro u4 H locs hp hB
                obtain ⟨nu24, rfl⟩ : ∃ z, z = u4 := ⟨_, rfl⟩
                have hp4 : keepN [20, 21, 30, 31, 32, 33, 34, 35, 36, 37, 13] nu23 nu24 ∧ (efO (getN nu23) pm pa 0 1 = false → getN nu24 13 = efV (getN nu23) pm pa 0 1) := hp
                have HPP := hp4
                replace hB : zB D A s ([(q, .inr (8, mO ad (efO (getN nu23) pm pa 0 1) z)), ((ad 3), .inl (ka 1, 200, .inr (.inl nu24))), ((ad 12), .inl (ka 0, 3, .inl pm)), ((ad 13), .inl (ka 0, 3, .inl pa))]) H locs := hB
                obtain ⟨K1, R1⟩ := hp4
                have Q1 : efO (getN nu23) pm pa 0 1 = efO (getN nu) pm pa 0 1 := efO_c (X9 _ (by decide)) (X9 _ (by decide))
                have Y1 : efV (getN nu23) pm pa 0 1 = (efV (getN nu) pm pa 0 1) := efV_c (X9 _ (by decide)) (X9 _ (by decide))
                rw [Q1] at hB
                replace hB : zB D A s ([(q, .inr (8, mO ad (efO (getN nu) pm pa 0 1) z)), ((ad 3), .inl (ka 1, 200, .inr (.inl nu24))), ((ad 12), .inl (ka 0, 3, .inl pm)), ((ad 13), .inl (ka 0, 3, .inl pa))]) H locs := hB
                have X9 : ∀ k9, k9 < 12 → getN nu24 k9 = getN nu k9 := fun k9 h9 => (K1.get (by simp; omega)).trans (X9 k9 h9)
                have V0 : getN nu24 12 = (efV (getN nu) pm pa 0 0) := (K1.get (by decide)).trans V0
                refine lv_iinc (v := (2 : Int32)) (lv' := [(3, .int (2 : Int32)), (0, .ref q), (1, .int (nI p9)), (2, .int (nI i))]) hx hb dX8_found_62 hl (k := 0) rfl (by decide) (by decide) rfl ?_
                clear hl
                clear ls
                intro ls hl
                refine lv_goto (tgt := 36) hx hb dX8_found_65 (by decide) ?_
                refine lv_iload_n hx hb dX8_found_36 rfl (lv_at hl 0 rfl) ?_
                refine lv_iconst (v := 4) hx hb dX8_found_37 (by decide) ?_
                refine lv_icmp_ge (tgt := 68) hx hb dX8_found_38 (by decide) (fun h38 => ?_) (fun h38 => ?_)
                · skip
                  exact absurd h38 (by decide)
                · skip
                  refine lv_aload_n hx hb dX8_found_41 rfl (lv_at hl 1 rfl) ?_
                  refine zget zf_X8_105 hF hB 0 rfl rfl dX8_found_42 ?_
                  refine lv_if_ne (tgt := 68) hx hb dX8_found_45 (by decide) (fun h45 => ?_) (fun h45 => ?_)
                  · skip
                    have O1 : efO (getN nu) pm pa 0 1 = true := bI_ne0 h45
                    have hFO : foO (getN nu) pm pa = true := by unfold foO; simp only [O1, Bool.or_true, Bool.true_or]
                    rw [O1] at hB
                    replace hB : zB D A s ([(q, .inr (8, mO ad true z)), ((ad 3), .inl (ka 1, 200, .inr (.inl nu24))), ((ad 12), .inl (ka 0, 3, .inl pm)), ((ad 13), .inl (ka 0, 3, .inl pa))]) H locs := hB
                    refine lv_aload_n hx hb dX8_found_68 rfl (lv_at hl 1 rfl) ?_
                    refine zget zf_X8_105 hF hB 0 rfl rfl dX8_found_69 ?_
                    refine lv_if_ne (tgt := 89) hx hb dX8_found_72 (by decide) (fun h72 => ?_) (fun h72 => ?_)
                    · skip
                      refine lv_aload_n hx hb dX8_found_89 rfl (lv_at hl 1 rfl) ?_
                      refine zget zf_X8_105 hF hB 0 rfl rfl dX8_found_90 ?_
                      refine lv_if_eq (tgt := 99) hx hb dX8_found_93 (by decide) (fun h93 => ?_) (fun h93 => ?_)
                      · skip
                        exact absurd h93 (by decide)
                      · skip
                        refine lv_bipush (v := -5) hx hb dX8_found_96 (by decide) ?_
                        exact zreti hF hB (true, nu24) (⟨by unfold foW; rw [if_neg (by rw [hk8]; decide), if_neg (not_not_intro h23), if_pos hFO], fun k9 h9 => by unfold foW; rw [if_neg (by rw [hk8]; decide), if_neg (not_not_intro h23), if_pos hFO]; exact X9 k9 h9⟩) (rfl) (rfl) dX8_found_98 hQ
                    · skip
                      exact absurd h72 (by decide)
                  · skip
                    have O1 : efO (getN nu) pm pa 0 1 = false := bI_eq0 h45
                    have V1 : getN nu24 13 = (efV (getN nu) pm pa 0 1) := (R1 (Q1.trans O1)).trans Y1
                    rw [O1] at hB
                    replace hB : zB D A s ([(q, .inr (8, mO ad false z)), ((ad 3), .inl (ka 1, 200, .inr (.inl nu24))), ((ad 12), .inl (ka 0, 3, .inl pm)), ((ad 13), .inl (ka 0, 3, .inl pa))]) H locs := hB
                    refine lv_aload_n hx hb dX8_found_48 rfl (lv_at hl 1 rfl) ?_
                    refine lv_bipush (v := 12) hx hb dX8_found_49 (by decide) ?_
                    refine lv_iload_n hx hb dX8_found_51 rfl (lv_at hl 0 rfl) ?_
                    refine lv_iadd hx hb dX8_found_52 ?_
                    refine ztopi (y := (14 : Int32)) (by decide) ?_
                    refine lv_iload_n hx hb dX8_found_53 rfl (lv_at hl 0 rfl) ?_
                    refine lv_iconst (v := 2) hx hb dX8_found_54 (by decide) ?_
                    refine lv_idiv hx hb dX8_found_55 (by decide) ?_
                    refine ztopi (y := (1 : Int32)) (by decide) ?_
                    refine lv_iload_n hx hb dX8_found_56 rfl (lv_at hl 0 rfl) ?_
                    refine lv_iconst (v := 2) hx hb dX8_found_57 (by decide) ?_
                    refine lv_irem hx hb dX8_found_58 (by decide) ?_
                    refine ztopi (y := (0 : Int32)) (by decide) ?_
                    refine zVv zm_X8_272 hF hB (c_X8_effectTo l D ka kb q ad z nu24 pm pa 14 1 0 (by decide) (by decide) (by decide) (by rw [X9 10 (by decide)]; exact hdp 10 (by decide)) (by rw [X9 6 (by decide)]; exact hdp 6 (by decide)) (B2) (⟨a2, ha2, ha22⟩)) [0, 1, 2, 3] rfl (by decide) [q, (ad 3), (ad 12), (ad 13)] (fun _ => rfl) rfl 0 8 rfl rfl rfl ⟨Nat.le_of_ble_eq_true rfl, Nat.le_of_ble_eq_true rfl⟩ rfl hl.1 (Nat.le_of_ble_eq_true rfl) ⟨Nat.le_refl _, Nat.le_refl _⟩ dX8_found_59 ?_
                    clear hB
                    try clear locs
                    try clear H
                    intro u5 H locs hp hB
                    obtain ⟨nu25, rfl⟩ : ∃ z, z = u5 := ⟨_, rfl⟩
                    have hp5 : keepN [20, 21, 30, 31, 32, 33, 34, 35, 36, 37, 14] nu24 nu25 ∧ (efO (getN nu24) pm pa 1 0 = false → getN nu25 14 = efV (getN nu24) pm pa 1 0) := hp
                    have HPP := hp5
                    replace hB : zB D A s ([(q, .inr (8, mO ad (efO (getN nu24) pm pa 1 0) z)), ((ad 3), .inl (ka 1, 200, .inr (.inl nu25))), ((ad 12), .inl (ka 0, 3, .inl pm)), ((ad 13), .inl (ka 0, 3, .inl pa))]) H locs := hB
                    obtain ⟨K2, R2⟩ := hp5
                    have Q2 : efO (getN nu24) pm pa 1 0 = efO (getN nu) pm pa 1 0 := efO_c (X9 _ (by decide)) (X9 _ (by decide))
                    have Y2 : efV (getN nu24) pm pa 1 0 = (efV (getN nu) pm pa 1 0) := efV_c (X9 _ (by decide)) (X9 _ (by decide))
                    rw [Q2] at hB
                    replace hB : zB D A s ([(q, .inr (8, mO ad (efO (getN nu) pm pa 1 0) z)), ((ad 3), .inl (ka 1, 200, .inr (.inl nu25))), ((ad 12), .inl (ka 0, 3, .inl pm)), ((ad 13), .inl (ka 0, 3, .inl pa))]) H locs := hB
                    have X9 : ∀ k9, k9 < 12 → getN nu25 k9 = getN nu k9 := fun k9 h9 => (K2.get (by simp; omega)).trans (X9 k9 h9)
                    have V0 : getN nu25 12 = (efV (getN nu) pm pa 0 0) := (K2.get (by decide)).trans V0
                    have V1 : getN nu25 13 = (efV (getN nu) pm pa 0 1) := (K2.get (by decide)).trans V1
                    refine lv_iinc (v := (3 : Int32)) (lv' := [(3, .int (3 : Int32)), (0, .ref q), (1, .int (nI p9)), (2, .int (nI i))]) hx hb dX8_found_62 hl (k := 0) rfl (by decide) (by decide) rfl ?_
                    clear hl
                    clear ls
                    intro ls hl
                    refine lv_goto (tgt := 36) hx hb dX8_found_65 (by decide) ?_
                    refine lv_iload_n hx hb dX8_found_36 rfl (lv_at hl 0 rfl) ?_
                    refine lv_iconst (v := 4) hx hb dX8_found_37 (by decide) ?_
                    refine lv_icmp_ge (tgt := 68) hx hb dX8_found_38 (by decide) (fun h38 => ?_) (fun h38 => ?_)
                    · skip
                      exact absurd h38 (by decide)
                    · skip
                      refine lv_aload_n hx hb dX8_found_41 rfl (lv_at hl 1 rfl) ?_
                      refine zget zf_X8_105 hF hB 0 rfl rfl dX8_found_42 ?_
                      refine lv_if_ne (tgt := 68) hx hb dX8_found_45 (by decide) (fun h45 => ?_) (fun h45 => ?_)
                      · skip
                        have O2 : efO (getN nu) pm pa 1 0 = true := bI_ne0 h45
                        have hFO : foO (getN nu) pm pa = true := by unfold foO; simp only [O2, Bool.or_true, Bool.true_or]
                        rw [O2] at hB
                        replace hB : zB D A s ([(q, .inr (8, mO ad true z)), ((ad 3), .inl (ka 1, 200, .inr (.inl nu25))), ((ad 12), .inl (ka 0, 3, .inl pm)), ((ad 13), .inl (ka 0, 3, .inl pa))]) H locs := hB
                        refine lv_aload_n hx hb dX8_found_68 rfl (lv_at hl 1 rfl) ?_
                        refine zget zf_X8_105 hF hB 0 rfl rfl dX8_found_69 ?_
                        refine lv_if_ne (tgt := 89) hx hb dX8_found_72 (by decide) (fun h72 => ?_) (fun h72 => ?_)
                        · skip
                          refine lv_aload_n hx hb dX8_found_89 rfl (lv_at hl 1 rfl) ?_
                          refine zget zf_X8_105 hF hB 0 rfl rfl dX8_found_90 ?_
                          refine lv_if_eq (tgt := 99) hx hb dX8_found_93 (by decide) (fun h93 => ?_) (fun h93 => ?_)
                          · skip
                            exact absurd h93 (by decide)
                          · skip
                            refine lv_bipush (v := -5) hx hb dX8_found_96 (by decide) ?_
                            exact zreti hF hB (true, nu25) (⟨by unfold foW; rw [if_neg (by rw [hk8]; decide), if_neg (not_not_intro h23), if_pos hFO], fun k9 h9 => by unfold foW; rw [if_neg (by rw [hk8]; decide), if_neg (not_not_intro h23), if_pos hFO]; exact X9 k9 h9⟩) (rfl) (rfl) dX8_found_98 hQ
                        · skip
                          exact absurd h72 (by decide)
                      · skip
                        have O2 : efO (getN nu) pm pa 1 0 = false := bI_eq0 h45
                        have V2 : getN nu25 14 = (efV (getN nu) pm pa 1 0) := (R2 (Q2.trans O2)).trans Y2
                        rw [O2] at hB
                        replace hB : zB D A s ([(q, .inr (8, mO ad false z)), ((ad 3), .inl (ka 1, 200, .inr (.inl nu25))), ((ad 12), .inl (ka 0, 3, .inl pm)), ((ad 13), .inl (ka 0, 3, .inl pa))]) H locs := hB
                        refine lv_aload_n hx hb dX8_found_48 rfl (lv_at hl 1 rfl) ?_
                        refine lv_bipush (v := 12) hx hb dX8_found_49 (by decide) ?_
                        refine lv_iload_n hx hb dX8_found_51 rfl (lv_at hl 0 rfl) ?_
                        refine lv_iadd hx hb dX8_found_52 ?_
                        refine ztopi (y := (15 : Int32)) (by decide) ?_
                        refine lv_iload_n hx hb dX8_found_53 rfl (lv_at hl 0 rfl) ?_
                        refine lv_iconst (v := 2) hx hb dX8_found_54 (by decide) ?_
                        refine lv_idiv hx hb dX8_found_55 (by decide) ?_
                        refine ztopi (y := (1 : Int32)) (by decide) ?_
                        refine lv_iload_n hx hb dX8_found_56 rfl (lv_at hl 0 rfl) ?_
                        refine lv_iconst (v := 2) hx hb dX8_found_57 (by decide) ?_
                        refine lv_irem hx hb dX8_found_58 (by decide) ?_
                        refine ztopi (y := (1 : Int32)) (by decide) ?_
                        refine zVv zm_X8_272 hF hB (c_X8_effectTo l D ka kb q ad z nu25 pm pa 15 1 1 (by decide) (by decide) (by decide) (by rw [X9 11 (by decide)]; exact hdp 11 (by decide)) (by rw [X9 7 (by decide)]; exact hdp 7 (by decide)) (B2) (⟨a2, ha2, ha22⟩)) [0, 1, 2, 3] rfl (by decide) [q, (ad 3), (ad 12), (ad 13)] (fun _ => rfl) rfl 0 8 rfl rfl rfl ⟨Nat.le_of_ble_eq_true rfl, Nat.le_of_ble_eq_true rfl⟩ rfl hl.1 (Nat.le_of_ble_eq_true rfl) ⟨Nat.le_refl _, Nat.le_refl _⟩ dX8_found_59 ?_
                        clear hB
                        try clear locs
                        try clear H
                        intro u6 H locs hp hB
                        obtain ⟨nu26, rfl⟩ : ∃ z, z = u6 := ⟨_, rfl⟩
                        have hp6 : keepN [20, 21, 30, 31, 32, 33, 34, 35, 36, 37, 15] nu25 nu26 ∧ (efO (getN nu25) pm pa 1 1 = false → getN nu26 15 = efV (getN nu25) pm pa 1 1) := hp
                        have HPP := hp6
                        replace hB : zB D A s ([(q, .inr (8, mO ad (efO (getN nu25) pm pa 1 1) z)), ((ad 3), .inl (ka 1, 200, .inr (.inl nu26))), ((ad 12), .inl (ka 0, 3, .inl pm)), ((ad 13), .inl (ka 0, 3, .inl pa))]) H locs := hB
                        obtain ⟨K3, R3⟩ := hp6
                        have Q3 : efO (getN nu25) pm pa 1 1 = efO (getN nu) pm pa 1 1 := efO_c (X9 _ (by decide)) (X9 _ (by decide))
                        have Y3 : efV (getN nu25) pm pa 1 1 = (efV (getN nu) pm pa 1 1) := efV_c (X9 _ (by decide)) (X9 _ (by decide))
                        rw [Q3] at hB
                        replace hB : zB D A s ([(q, .inr (8, mO ad (efO (getN nu) pm pa 1 1) z)), ((ad 3), .inl (ka 1, 200, .inr (.inl nu26))), ((ad 12), .inl (ka 0, 3, .inl pm)), ((ad 13), .inl (ka 0, 3, .inl pa))]) H locs := hB
                        have X9 : ∀ k9, k9 < 12 → getN nu26 k9 = getN nu k9 := fun k9 h9 => (K3.get (by simp; omega)).trans (X9 k9 h9)
                        have V0 : getN nu26 12 = (efV (getN nu) pm pa 0 0) := (K3.get (by decide)).trans V0
                        have V1 : getN nu26 13 = (efV (getN nu) pm pa 0 1) := (K3.get (by decide)).trans V1
                        have V2 : getN nu26 14 = (efV (getN nu) pm pa 1 0) := (K3.get (by decide)).trans V2
                        refine lv_iinc (v := (4 : Int32)) (lv' := [(3, .int (4 : Int32)), (0, .ref q), (1, .int (nI p9)), (2, .int (nI i))]) hx hb dX8_found_62 hl (k := 0) rfl (by decide) (by decide) rfl ?_
                        clear hl
                        clear ls
                        intro ls hl
                        refine lv_goto (tgt := 36) hx hb dX8_found_65 (by decide) ?_
                        refine lv_iload_n hx hb dX8_found_36 rfl (lv_at hl 0 rfl) ?_
                        refine lv_iconst (v := 4) hx hb dX8_found_37 (by decide) ?_
                        refine lv_icmp_ge (tgt := 68) hx hb dX8_found_38 (by decide) (fun h38 => ?_) (fun h38 => ?_)
                        · skip
                          refine lv_aload_n hx hb dX8_found_68 rfl (lv_at hl 1 rfl) ?_
                          refine zget zf_X8_105 hF hB 0 rfl rfl dX8_found_69 ?_
                          refine lv_if_ne (tgt := 89) hx hb dX8_found_72 (by decide) (fun h72 => ?_) (fun h72 => ?_)
                          · skip
                            have O3 : efO (getN nu) pm pa 1 1 = true := bI_ne0 h72
                            have hFO : foO (getN nu) pm pa = true := by unfold foO; simp only [O3, Bool.or_true, Bool.true_or]
                            rw [O3] at hB
                            replace hB : zB D A s ([(q, .inr (8, mO ad true z)), ((ad 3), .inl (ka 1, 200, .inr (.inl nu26))), ((ad 12), .inl (ka 0, 3, .inl pm)), ((ad 13), .inl (ka 0, 3, .inl pa))]) H locs := hB
                            refine lv_aload_n hx hb dX8_found_89 rfl (lv_at hl 1 rfl) ?_
                            refine zget zf_X8_105 hF hB 0 rfl rfl dX8_found_90 ?_
                            refine lv_if_eq (tgt := 99) hx hb dX8_found_93 (by decide) (fun h93 => ?_) (fun h93 => ?_)
                            · skip
                              exact absurd h93 (by decide)
                            · skip
                              refine lv_bipush (v := -5) hx hb dX8_found_96 (by decide) ?_
                              exact zreti hF hB (true, nu26) (⟨by unfold foW; rw [if_neg (by rw [hk8]; decide), if_neg (not_not_intro h23), if_pos hFO], fun k9 h9 => by unfold foW; rw [if_neg (by rw [hk8]; decide), if_neg (not_not_intro h23), if_pos hFO]; exact X9 k9 h9⟩) (rfl) (rfl) dX8_found_98 hQ
                          · skip
                            have O3 : efO (getN nu) pm pa 1 1 = false := bI_eq0 h72
                            have V3 : getN nu26 15 = (efV (getN nu) pm pa 1 1) := (R3 (Q3.trans O3)).trans Y3
                            rw [O3] at hB
                            replace hB : zB D A s ([(q, .inr (8, mO ad false z)), ((ad 3), .inl (ka 1, 200, .inr (.inl nu26))), ((ad 12), .inl (ka 0, 3, .inl pm)), ((ad 13), .inl (ka 0, 3, .inl pa))]) H locs := hB
                            refine lv_aload_n hx hb dX8_found_75 rfl (lv_at hl 1 rfl) ?_
                            refine lv_bipush (v := 16) hx hb dX8_found_76 (by decide) ?_
                            refine lv_bipush (v := 12) hx hb dX8_found_78 (by decide) ?_
                            refine lv_bipush (v := 15) hx hb dX8_found_80 (by decide) ?_
                            refine lv_bipush (v := 14) hx hb dX8_found_82 (by decide) ?_
                            refine lv_bipush (v := 13) hx hb dX8_found_84 (by decide) ?_
                            have W0 := V0
                            have W1 := V1
                            have W2 := V2
                            have W3 := V3
                            refine zVv zm_X8_275 hF hB (c_X8_crossTo l D ka kb q ad z nu26 16 12 15 14 13 (by decide) (by decide) (by decide) (by decide) (by decide) (by decide) (by decide) (by rw [V0]; exact efV_d O0 (hdp _ (by decide)) (hdp _ (by decide)) A1 B1) (by rw [V3]; exact efV_d O3 (hdp _ (by decide)) (hdp _ (by decide)) A2 B2) (by rw [V2]; exact efV_d O2 (hdp _ (by decide)) (hdp _ (by decide)) A2 B2) (by rw [V1]; exact efV_d O1 (hdp _ (by decide)) (hdp _ (by decide)) A1 B1)) [0, 1] rfl (by decide) [q, (ad 3)] (fun _ => rfl) rfl 0 8 rfl rfl rfl ⟨Nat.le_of_ble_eq_true rfl, Nat.le_of_ble_eq_true rfl⟩ rfl hl.1 (Nat.le_of_ble_eq_true rfl) ⟨Nat.le_refl _, Nat.le_refl _⟩ dX8_found_86 ?_
                            clear hB
                            try clear locs
                            try clear H
                            intro u7 H locs hp hB
                            obtain ⟨nu27, rfl⟩ : ∃ z, z = u7 := ⟨_, rfl⟩
                            have hp7 : keepN [20, 21, 16] nu26 nu27 ∧ (crO (getN nu26 12) (getN nu26 15) (getN nu26 14) (getN nu26 13) = false → getN nu27 16 = crV (getN nu26 12) (getN nu26 15) (getN nu26 14) (getN nu26 13)) := hp
                            have HPP := hp7
                            replace hB : zB D A s ([(q, .inr (8, mO ad (crO (getN nu26 12) (getN nu26 15) (getN nu26 14) (getN nu26 13)) z)), ((ad 3), .inl (ka 1, 200, .inr (.inl nu27))), ((ad 12), .inl (ka 0, 3, .inl pm)), ((ad 13), .inl (ka 0, 3, .inl pa))]) H locs := hB
                            obtain ⟨K5, R5⟩ := hp7
                            have Q5 : crO (getN nu26 12) (getN nu26 15) (getN nu26 14) (getN nu26 13) = crO (efV (getN nu) pm pa 0 0) (efV (getN nu) pm pa 1 1) (efV (getN nu) pm pa 1 0) (efV (getN nu) pm pa 0 1) := by rw [V0, V3, V2, V1]
                            rw [Q5] at hB
                            replace hB : zB D A s ([(q, .inr (8, mO ad (crO (efV (getN nu) pm pa 0 0) (efV (getN nu) pm pa 1 1) (efV (getN nu) pm pa 1 0) (efV (getN nu) pm pa 0 1)) z)), ((ad 3), .inl (ka 1, 200, .inr (.inl nu27))), ((ad 12), .inl (ka 0, 3, .inl pm)), ((ad 13), .inl (ka 0, 3, .inl pa))]) H locs := hB
                            have X9 : ∀ k9, k9 < 12 → getN nu27 k9 = getN nu k9 := fun k9 h9 => (K5.get (by simp; omega)).trans (X9 k9 h9)
                            have V0 : getN nu27 12 = (efV (getN nu) pm pa 0 0) := (K5.get (by decide)).trans V0
                            have V1 : getN nu27 13 = (efV (getN nu) pm pa 0 1) := (K5.get (by decide)).trans V1
                            have V2 : getN nu27 14 = (efV (getN nu) pm pa 1 0) := (K5.get (by decide)).trans V2
                            have V3 : getN nu27 15 = (efV (getN nu) pm pa 1 1) := (K5.get (by decide)).trans V3
                            refine lv_aload_n hx hb dX8_found_89 rfl (lv_at hl 1 rfl) ?_
                            refine zget zf_X8_105 hF hB 0 rfl rfl dX8_found_90 ?_
                            refine lv_if_eq (tgt := 99) hx hb dX8_found_93 (by decide) (fun h93 => ?_) (fun h93 => ?_)
                            · skip
                              have O5 : crO (efV (getN nu) pm pa 0 0) (efV (getN nu) pm pa 1 1) (efV (getN nu) pm pa 1 0) (efV (getN nu) pm pa 0 1) = false := bI_eq0 h93
                              have hFO : foO (getN nu) pm pa = false := by unfold foO; simp only [O0, O1, O2, O3, O5, Bool.or_false]
                              have V5 : getN nu27 16 = foD (getN nu) pm pa := by rw [R5 (Q5.trans O5), W0, W3, W2, W1]; rfl
                              rw [O5] at hB
                              replace hB : zB D A s ([(q, .inr (8, mO ad false z)), ((ad 3), .inl (ka 1, 200, .inr (.inl nu27))), ((ad 12), .inl (ka 0, 3, .inl pm)), ((ad 13), .inl (ka 0, 3, .inl pa))]) H locs := hB
                              refine lv_aload_n hx hb dX8_found_99 rfl (lv_at hl 1 rfl) ?_
                              refine lv_bipush (v := 16) hx hb dX8_found_100 (by decide) ?_
                              refine zVi zm_X8_167 hF hB (c_X8_isNought l D ka kb q ad false z nu27 16 (by first | assumption | omega | decide)) [0, 1] rfl (by decide) [q, (ad 3)] (fun _ => rfl) rfl 0 8 rfl rfl rfl ⟨Nat.le_of_ble_eq_true rfl, Nat.le_of_ble_eq_true rfl⟩ rfl hl.1 (Nat.le_of_ble_eq_true rfl) ⟨Nat.le_refl _, Nat.le_refl _⟩ dX8_found_102 ?_
                              clear hB
                              try clear locs
                              try clear H
                              intro r8 u8 H locs hp hB
                              obtain rfl : r8 = bI (zeroN (getN nu27 16)) := hp
                              replace hB : zB D A s ([(q, .inr (8, mO ad false z)), ((ad 3), .inl (ka 1, 200, .inr (.inl nu27))), ((ad 12), .inl (ka 0, 3, .inl pm)), ((ad 13), .inl (ka 0, 3, .inl pa))]) H locs := hB
                              refine lv_if_eq (tgt := 111) hx hb dX8_found_105 (by decide) (fun h105 => ?_) (fun h105 => ?_)
                              · skip
                                have hZ : zeroN (foD (getN nu) pm pa) = false := by rw [← V5]; exact bI_eq0 h105
                                refine lv_iload_n hx hb dX8_found_111 rfl (lv_at hl 2 rfl) ?_
                                refine lv_if_ne (tgt := 132) hx hb dX8_found_112 (by decide) (fun h112 => ?_) (fun h112 => ?_)
                                · skip
                                  have hp0 : p9 ≠ 0 := fun e8 => h112 (by rw [e8]; rfl)
                                  refine lv_aload_n hx hb dX8_found_132 rfl (lv_at hl 1 rfl) ?_
                                  refine lv_bipush (v := 17) hx hb dX8_found_133 (by decide) ?_
                                  refine lv_bipush (v := 12) hx hb dX8_found_135 (by decide) ?_
                                  refine lv_bipush (v := 7) hx hb dX8_found_137 (by decide) ?_
                                  refine lv_bipush (v := 6) hx hb dX8_found_139 (by decide) ?_
                                  refine lv_bipush (v := 13) hx hb dX8_found_141 (by decide) ?_
                                  refine zVv zm_X8_275 hF hB (c_X8_crossTo l D ka kb q ad z nu27 17 12 7 6 13 (by decide) (by decide) (by decide) (by decide) (by decide) (by decide) (by decide) (by rw [V0]; exact efV_d O0 (hdp _ (by decide)) (hdp _ (by decide)) A1 B1) (by rw [X9 7 (by decide)]; exact hdp 7 (by decide)) (by rw [X9 6 (by decide)]; exact hdp 6 (by decide)) (by rw [V1]; exact efV_d O1 (hdp _ (by decide)) (hdp _ (by decide)) A1 B1)) [0, 1] rfl (by decide) [q, (ad 3)] (fun _ => rfl) rfl 0 8 rfl rfl rfl ⟨Nat.le_of_ble_eq_true rfl, Nat.le_of_ble_eq_true rfl⟩ rfl hl.1 (Nat.le_of_ble_eq_true rfl) ⟨Nat.le_refl _, Nat.le_refl _⟩ dX8_found_143 ?_
                                  clear hB
                                  try clear locs
                                  try clear H
                                  intro u9 H locs hp hB
                                  obtain ⟨nu29, rfl⟩ : ∃ z, z = u9 := ⟨_, rfl⟩
                                  have hp9 : keepN [20, 21, 17] nu27 nu29 ∧ (crO (getN nu27 12) (getN nu27 7) (getN nu27 6) (getN nu27 13) = false → getN nu29 17 = crV (getN nu27 12) (getN nu27 7) (getN nu27 6) (getN nu27 13)) := hp
                                  have HPP := hp9
                                  replace hB : zB D A s ([(q, .inr (8, mO ad (crO (getN nu27 12) (getN nu27 7) (getN nu27 6) (getN nu27 13)) z)), ((ad 3), .inl (ka 1, 200, .inr (.inl nu29))), ((ad 12), .inl (ka 0, 3, .inl pm)), ((ad 13), .inl (ka 0, 3, .inl pa))]) H locs := hB
                                  obtain ⟨K6, R6⟩ := hp9
                                  have Q6 : crO (getN nu27 12) (getN nu27 7) (getN nu27 6) (getN nu27 13) = fnO (nI p9) (getN nu) pm pa := by rw [V0, X9 7 (by decide), X9 6 (by decide), V1]; unfold fnO; rw [rp9, if_neg hp0]
                                  have Y6 : fnO (nI p9) (getN nu) pm pa = false → getN nu29 17 = fnV (nI p9) (getN nu) pm pa := fun e9 => by rw [R6 (Q6.trans e9), V0, X9 7 (by decide), X9 6 (by decide), V1]; unfold fnV; rw [rp9, if_neg hp0]
                                  rw [Q6] at hB
                                  replace hB : zB D A s ([(q, .inr (8, mO ad (fnO (nI p9) (getN nu) pm pa) z)), ((ad 3), .inl (ka 1, 200, .inr (.inl nu29))), ((ad 12), .inl (ka 0, 3, .inl pm)), ((ad 13), .inl (ka 0, 3, .inl pa))]) H locs := hB
                                  have X9 : ∀ k9, k9 < 12 → getN nu29 k9 = getN nu k9 := fun k9 h9 => (K6.get (by simp; omega)).trans (X9 k9 h9)
                                  have V0 : getN nu29 12 = (efV (getN nu) pm pa 0 0) := (K6.get (by decide)).trans V0
                                  have V1 : getN nu29 13 = (efV (getN nu) pm pa 0 1) := (K6.get (by decide)).trans V1
                                  have V2 : getN nu29 14 = (efV (getN nu) pm pa 1 0) := (K6.get (by decide)).trans V2
                                  have V3 : getN nu29 15 = (efV (getN nu) pm pa 1 1) := (K6.get (by decide)).trans V3
                                  have V5 : getN nu29 16 = foD (getN nu) pm pa := (K6.get (by decide)).trans V5
                                  refine lv_aload_n hx hb dX8_found_146 rfl (lv_at hl 1 rfl) ?_
                                  refine zget zf_X8_105 hF hB 0 rfl rfl dX8_found_147 ?_
                                  refine lv_if_ne (tgt := 163) hx hb dX8_found_150 (by decide) (fun h150 => ?_) (fun h150 => ?_)
                                  · skip
                                    have O6 : fnO (nI p9) (getN nu) pm pa = true := bI_ne0 h150
                                    have hO7 : (fnO (nI p9) (getN nu) pm pa || quoO (fnV (nI p9) (getN nu) pm pa) (foD (getN nu) pm pa)) = true := by rw [O6]; rfl
                                    rw [O6] at hB
                                    replace hB : zB D A s ([(q, .inr (8, mO ad true z)), ((ad 3), .inl (ka 1, 200, .inr (.inl nu29))), ((ad 12), .inl (ka 0, 3, .inl pm)), ((ad 13), .inl (ka 0, 3, .inl pa))]) H locs := hB
                                    refine lv_aload_n hx hb dX8_found_163 rfl (lv_at hl 1 rfl) ?_
                                    refine zget zf_X8_105 hF hB 0 rfl rfl dX8_found_164 ?_
                                    refine lv_if_eq (tgt := 173) hx hb dX8_found_167 (by decide) (fun h167 => ?_) (fun h167 => ?_)
                                    · skip
                                      exact absurd h167 (by decide)
                                    · skip
                                      refine lv_bipush (v := -5) hx hb dX8_found_170 (by decide) ?_
                                      exact zreti hF hB (true, nu29) (⟨by unfold foW; rw [if_neg (by rw [hk8]; decide), if_neg (not_not_intro h23), if_neg (by rw [hFO]; decide), if_neg (by rw [hZ]; decide), if_pos hO7], fun k9 h9 => by unfold foW; rw [if_neg (by rw [hk8]; decide), if_neg (not_not_intro h23), if_neg (by rw [hFO]; decide), if_neg (by rw [hZ]; decide), if_pos hO7]; exact X9 k9 h9⟩) (rfl) (rfl) dX8_found_172 hQ
                                  · skip
                                    have O6 : fnO (nI p9) (getN nu) pm pa = false := bI_eq0 h150
                                    have V6 : getN nu29 17 = fnV (nI p9) (getN nu) pm pa := Y6 O6
                                    have D6 : 0 < (fnV (nI p9) (getN nu) pm pa).2.2.2.2.toInt := fnV_d O6 (hdp _ (by decide)) (hdp _ (by decide)) (efV_d O0 (hdp _ (by decide)) (hdp _ (by decide)) A1 B1) (efV_d O1 (hdp _ (by decide)) (hdp _ (by decide)) A1 B1) (efV_d O2 (hdp _ (by decide)) (hdp _ (by decide)) A2 B2) (efV_d O3 (hdp _ (by decide)) (hdp _ (by decide)) A2 B2)
                                    rw [O6] at hB
                                    replace hB : zB D A s ([(q, .inr (8, mO ad false z)), ((ad 3), .inl (ka 1, 200, .inr (.inl nu29))), ((ad 12), .inl (ka 0, 3, .inl pm)), ((ad 13), .inl (ka 0, 3, .inl pa))]) H locs := hB
                                    refine lv_aload_n hx hb dX8_found_153 rfl (lv_at hl 1 rfl) ?_
                                    refine lv_bipush (v := 18) hx hb dX8_found_154 (by decide) ?_
                                    refine lv_bipush (v := 17) hx hb dX8_found_156 (by decide) ?_
                                    refine lv_bipush (v := 16) hx hb dX8_found_158 (by decide) ?_
                                    have V6O := V6
                                    have V5O := V5
                                    refine zVv zm_X8_174 hF hB (c_X8_quotient l D ka kb q ad z nu29 18 17 16 (by decide) (by decide) (by decide) (by decide) (by decide) (by rw [V5]; exact hZ) (by
                                        rw [show nu29 (5 * 17 + 4) = (fnV (nI p9) (getN nu) pm pa).2.2.2.2 from congrArg (fun v : N5 => v.2.2.2.2) V6]
                                        exact D6)) [0, 1] rfl (by decide) [q, (ad 3)] (fun _ => rfl) rfl 0 8 rfl rfl rfl ⟨Nat.le_of_ble_eq_true rfl, Nat.le_of_ble_eq_true rfl⟩ rfl hl.1 (Nat.le_of_ble_eq_true rfl) ⟨Nat.le_refl _, Nat.le_refl _⟩ dX8_found_160 ?_
                                    clear hB
                                    try clear locs
                                    try clear H
                                    intro u10 H locs hp hB
                                    obtain ⟨nu210, rfl⟩ : ∃ z, z = u10 := ⟨_, rfl⟩
                                    have hp10 : keepN [30, 31, 32, 33, 34, 35, 36, 37, 18] nu29 nu210 ∧ (quoO (getN nu29 17) (getN nu29 16) = false → getN nu210 18 = quoV (getN nu29 17) (getN nu29 16)) := hp
                                    have HPP := hp10
                                    replace hB : zB D A s ([(q, .inr (8, mO ad (quoO (getN nu29 17) (getN nu29 16)) z)), ((ad 3), .inl (ka 1, 200, .inr (.inl nu210))), ((ad 12), .inl (ka 0, 3, .inl pm)), ((ad 13), .inl (ka 0, 3, .inl pa))]) H locs := hB
                                    obtain ⟨K7, R7⟩ := hp10
                                    have Q7 : quoO (getN nu29 17) (getN nu29 16) = quoO (fnV (nI p9) (getN nu) pm pa) (foD (getN nu) pm pa) := by rw [V6, V5]
                                    rw [Q7] at hB
                                    replace hB : zB D A s ([(q, .inr (8, mO ad (quoO (fnV (nI p9) (getN nu) pm pa) (foD (getN nu) pm pa)) z)), ((ad 3), .inl (ka 1, 200, .inr (.inl nu210))), ((ad 12), .inl (ka 0, 3, .inl pm)), ((ad 13), .inl (ka 0, 3, .inl pa))]) H locs := hB
                                    have X9 : ∀ k9, k9 < 12 → getN nu210 k9 = getN nu k9 := fun k9 h9 => (K7.get (by simp; omega)).trans (X9 k9 h9)
                                    have V0 : getN nu210 12 = (efV (getN nu) pm pa 0 0) := (K7.get (by decide)).trans V0
                                    have V1 : getN nu210 13 = (efV (getN nu) pm pa 0 1) := (K7.get (by decide)).trans V1
                                    have V2 : getN nu210 14 = (efV (getN nu) pm pa 1 0) := (K7.get (by decide)).trans V2
                                    have V3 : getN nu210 15 = (efV (getN nu) pm pa 1 1) := (K7.get (by decide)).trans V3
                                    have V5 : getN nu210 16 = foD (getN nu) pm pa := (K7.get (by decide)).trans V5
                                    refine lv_aload_n hx hb dX8_found_163 rfl (lv_at hl 1 rfl) ?_
                                    refine zget zf_X8_105 hF hB 0 rfl rfl dX8_found_164 ?_
                                    refine lv_if_eq (tgt := 173) hx hb dX8_found_167 (by decide) (fun h167 => ?_) (fun h167 => ?_)
                                    · skip
                                      have O7 : quoO (fnV (nI p9) (getN nu) pm pa) (foD (getN nu) pm pa) = false := bI_eq0 h167
                                      have hO7 : (fnO (nI p9) (getN nu) pm pa || quoO (fnV (nI p9) (getN nu) pm pa) (foD (getN nu) pm pa)) = false := by rw [O6, O7]; rfl
                                      have V7 : getN nu210 18 = quoV (fnV (nI p9) (getN nu) pm pa) (foD (getN nu) pm pa) := by rw [R7 (Q7.trans O7), V6O, V5O]
                                      rw [O7] at hB
                                      replace hB : zB D A s ([(q, .inr (8, mO ad false z)), ((ad 3), .inl (ka 1, 200, .inr (.inl nu210))), ((ad 12), .inl (ka 0, 3, .inl pm)), ((ad 13), .inl (ka 0, 3, .inl pa))]) H locs := hB
                                      refine lv_aload_n hx hb dX8_found_173 rfl (lv_at hl 1 rfl) ?_
                                      refine lv_iload_n hx hb dX8_found_174 rfl (lv_at hl 3 rfl) ?_
                                      refine lv_bipush (v := 18) hx hb dX8_found_175 (by decide) ?_
                                      refine zVv zm_X8_177 hF hB (c_X8_moves l D ka kb q ad false z nu210 i 18 (by omega) (by decide) (by omega)) [0, 1] rfl (by decide) [q, (ad 3)] (fun _ => rfl) rfl 0 8 rfl rfl rfl ⟨Nat.le_of_ble_eq_true rfl, Nat.le_of_ble_eq_true rfl⟩ rfl hl.1 (Nat.le_of_ble_eq_true rfl) ⟨Nat.le_refl _, Nat.le_refl _⟩ dX8_found_177 ?_
                                      clear hB
                                      try clear locs
                                      try clear H
                                      intro u11 H locs hp hB
                                      replace hB : zB D A s ([(q, .inr (8, mO ad false z)), ((ad 3), .inl (ka 1, 200, .inr (.inl (setN nu210 i (getN nu210 18))))), ((ad 12), .inl (ka 0, 3, .inl pm)), ((ad 13), .inl (ka 0, 3, .inl pa))]) H locs := hB
                                      refine lv_iconst (v := 1) hx hb dX8_found_180 (by decide) ?_
                                      exact zreti hF hB (false, setN nu210 i (getN nu210 18)) (⟨by unfold foW; rw [if_neg (by rw [hk8]; decide), if_neg (not_not_intro h23), if_neg (by rw [hFO]; decide), if_neg (by rw [hZ]; decide), if_neg (by rw [hO7]; decide), ri], fun k9 h9 => by
                                          unfold foW; rw [if_neg (by rw [hk8]; decide), if_neg (not_not_intro h23), if_neg (by rw [hFO]; decide), if_neg (by rw [hZ]; decide), if_neg (by rw [hO7]; decide), ri]
                                          show getN (setN nu210 i (getN nu210 18)) k9 = if k9 = i then quoV (fnV (nI p9) (getN nu) pm pa) (foD (getN nu) pm pa) else getN nu k9
                                          by_cases e8 : k9 = i
                                          · rw [if_pos e8, e8, getN_same, V7]
                                          · rw [if_neg e8, getN_ne _ _ _ _ e8]; exact X9 k9 h9⟩) (rfl) (rfl) dX8_found_181 hQ
                                    · skip
                                      have O7 : quoO (fnV (nI p9) (getN nu) pm pa) (foD (getN nu) pm pa) = true := bI_ne0 h167
                                      have hO7 : (fnO (nI p9) (getN nu) pm pa || quoO (fnV (nI p9) (getN nu) pm pa) (foD (getN nu) pm pa)) = true := by rw [O6, O7]; rfl
                                      rw [O7] at hB
                                      replace hB : zB D A s ([(q, .inr (8, mO ad true z)), ((ad 3), .inl (ka 1, 200, .inr (.inl nu210))), ((ad 12), .inl (ka 0, 3, .inl pm)), ((ad 13), .inl (ka 0, 3, .inl pa))]) H locs := hB
                                      refine lv_bipush (v := -5) hx hb dX8_found_170 (by decide) ?_
                                      exact zreti hF hB (true, nu210) (⟨by unfold foW; rw [if_neg (by rw [hk8]; decide), if_neg (not_not_intro h23), if_neg (by rw [hFO]; decide), if_neg (by rw [hZ]; decide), if_pos hO7], fun k9 h9 => by unfold foW; rw [if_neg (by rw [hk8]; decide), if_neg (not_not_intro h23), if_neg (by rw [hFO]; decide), if_neg (by rw [hZ]; decide), if_pos hO7]; exact X9 k9 h9⟩) (rfl) (rfl) dX8_found_172 hQ
                                · skip
                                  have hp0 : p9 = 0 := (nI_eq (b := 0) (by omega) (by decide)).mp h112
                                  refine lv_aload_n hx hb dX8_found_115 rfl (lv_at hl 1 rfl) ?_
                                  refine lv_bipush (v := 17) hx hb dX8_found_116 (by decide) ?_
                                  refine lv_bipush (v := 6) hx hb dX8_found_118 (by decide) ?_
                                  refine lv_bipush (v := 15) hx hb dX8_found_120 (by decide) ?_
                                  refine lv_bipush (v := 14) hx hb dX8_found_122 (by decide) ?_
                                  refine lv_bipush (v := 7) hx hb dX8_found_124 (by decide) ?_
                                  refine zVv zm_X8_275 hF hB (c_X8_crossTo l D ka kb q ad z nu27 17 6 15 14 7 (by decide) (by decide) (by decide) (by decide) (by decide) (by decide) (by decide) (by rw [X9 6 (by decide)]; exact hdp 6 (by decide)) (by rw [V3]; exact efV_d O3 (hdp _ (by decide)) (hdp _ (by decide)) A2 B2) (by rw [V2]; exact efV_d O2 (hdp _ (by decide)) (hdp _ (by decide)) A2 B2) (by rw [X9 7 (by decide)]; exact hdp 7 (by decide))) [0, 1] rfl (by decide) [q, (ad 3)] (fun _ => rfl) rfl 0 8 rfl rfl rfl ⟨Nat.le_of_ble_eq_true rfl, Nat.le_of_ble_eq_true rfl⟩ rfl hl.1 (Nat.le_of_ble_eq_true rfl) ⟨Nat.le_refl _, Nat.le_refl _⟩ dX8_found_126 ?_
                                  clear hB
                                  try clear locs
                                  try clear H
                                  intro u12 H locs hp hB
                                  obtain ⟨nu212, rfl⟩ : ∃ z, z = u12 := ⟨_, rfl⟩
                                  have hp12 : keepN [20, 21, 17] nu27 nu212 ∧ (crO (getN nu27 6) (getN nu27 15) (getN nu27 14) (getN nu27 7) = false → getN nu212 17 = crV (getN nu27 6) (getN nu27 15) (getN nu27 14) (getN nu27 7)) := hp
                                  have HPP := hp12
                                  replace hB : zB D A s ([(q, .inr (8, mO ad (crO (getN nu27 6) (getN nu27 15) (getN nu27 14) (getN nu27 7)) z)), ((ad 3), .inl (ka 1, 200, .inr (.inl nu212))), ((ad 12), .inl (ka 0, 3, .inl pm)), ((ad 13), .inl (ka 0, 3, .inl pa))]) H locs := hB
                                  obtain ⟨K6, R6⟩ := hp12
                                  have Q6 : crO (getN nu27 6) (getN nu27 15) (getN nu27 14) (getN nu27 7) = fnO (nI p9) (getN nu) pm pa := by rw [X9 6 (by decide), V3, V2, X9 7 (by decide)]; unfold fnO; rw [rp9, if_pos hp0]
                                  have Y6 : fnO (nI p9) (getN nu) pm pa = false → getN nu212 17 = fnV (nI p9) (getN nu) pm pa := fun e9 => by rw [R6 (Q6.trans e9), X9 6 (by decide), V3, V2, X9 7 (by decide)]; unfold fnV; rw [rp9, if_pos hp0]
                                  rw [Q6] at hB
                                  replace hB : zB D A s ([(q, .inr (8, mO ad (fnO (nI p9) (getN nu) pm pa) z)), ((ad 3), .inl (ka 1, 200, .inr (.inl nu212))), ((ad 12), .inl (ka 0, 3, .inl pm)), ((ad 13), .inl (ka 0, 3, .inl pa))]) H locs := hB
                                  have X9 : ∀ k9, k9 < 12 → getN nu212 k9 = getN nu k9 := fun k9 h9 => (K6.get (by simp; omega)).trans (X9 k9 h9)
                                  have V0 : getN nu212 12 = (efV (getN nu) pm pa 0 0) := (K6.get (by decide)).trans V0
                                  have V1 : getN nu212 13 = (efV (getN nu) pm pa 0 1) := (K6.get (by decide)).trans V1
                                  have V2 : getN nu212 14 = (efV (getN nu) pm pa 1 0) := (K6.get (by decide)).trans V2
                                  have V3 : getN nu212 15 = (efV (getN nu) pm pa 1 1) := (K6.get (by decide)).trans V3
                                  have V5 : getN nu212 16 = foD (getN nu) pm pa := (K6.get (by decide)).trans V5
                                  refine lv_goto (tgt := 146) hx hb dX8_found_129 (by decide) ?_
                                  refine lv_aload_n hx hb dX8_found_146 rfl (lv_at hl 1 rfl) ?_
                                  refine zget zf_X8_105 hF hB 0 rfl rfl dX8_found_147 ?_
                                  refine lv_if_ne (tgt := 163) hx hb dX8_found_150 (by decide) (fun h150 => ?_) (fun h150 => ?_)
                                  · skip
                                    have O6 : fnO (nI p9) (getN nu) pm pa = true := bI_ne0 h150
                                    have hO7 : (fnO (nI p9) (getN nu) pm pa || quoO (fnV (nI p9) (getN nu) pm pa) (foD (getN nu) pm pa)) = true := by rw [O6]; rfl
                                    rw [O6] at hB
                                    replace hB : zB D A s ([(q, .inr (8, mO ad true z)), ((ad 3), .inl (ka 1, 200, .inr (.inl nu212))), ((ad 12), .inl (ka 0, 3, .inl pm)), ((ad 13), .inl (ka 0, 3, .inl pa))]) H locs := hB
                                    refine lv_aload_n hx hb dX8_found_163 rfl (lv_at hl 1 rfl) ?_
                                    refine zget zf_X8_105 hF hB 0 rfl rfl dX8_found_164 ?_
                                    refine lv_if_eq (tgt := 173) hx hb dX8_found_167 (by decide) (fun h167 => ?_) (fun h167 => ?_)
                                    · skip
                                      exact absurd h167 (by decide)
                                    · skip
                                      refine lv_bipush (v := -5) hx hb dX8_found_170 (by decide) ?_
                                      exact zreti hF hB (true, nu212) (⟨by unfold foW; rw [if_neg (by rw [hk8]; decide), if_neg (not_not_intro h23), if_neg (by rw [hFO]; decide), if_neg (by rw [hZ]; decide), if_pos hO7], fun k9 h9 => by unfold foW; rw [if_neg (by rw [hk8]; decide), if_neg (not_not_intro h23), if_neg (by rw [hFO]; decide), if_neg (by rw [hZ]; decide), if_pos hO7]; exact X9 k9 h9⟩) (rfl) (rfl) dX8_found_172 hQ
                                  · skip
                                    have O6 : fnO (nI p9) (getN nu) pm pa = false := bI_eq0 h150
                                    have V6 : getN nu212 17 = fnV (nI p9) (getN nu) pm pa := Y6 O6
                                    have D6 : 0 < (fnV (nI p9) (getN nu) pm pa).2.2.2.2.toInt := fnV_d O6 (hdp _ (by decide)) (hdp _ (by decide)) (efV_d O0 (hdp _ (by decide)) (hdp _ (by decide)) A1 B1) (efV_d O1 (hdp _ (by decide)) (hdp _ (by decide)) A1 B1) (efV_d O2 (hdp _ (by decide)) (hdp _ (by decide)) A2 B2) (efV_d O3 (hdp _ (by decide)) (hdp _ (by decide)) A2 B2)
                                    rw [O6] at hB
                                    replace hB : zB D A s ([(q, .inr (8, mO ad false z)), ((ad 3), .inl (ka 1, 200, .inr (.inl nu212))), ((ad 12), .inl (ka 0, 3, .inl pm)), ((ad 13), .inl (ka 0, 3, .inl pa))]) H locs := hB
                                    refine lv_aload_n hx hb dX8_found_153 rfl (lv_at hl 1 rfl) ?_
                                    refine lv_bipush (v := 18) hx hb dX8_found_154 (by decide) ?_
                                    refine lv_bipush (v := 17) hx hb dX8_found_156 (by decide) ?_
                                    refine lv_bipush (v := 16) hx hb dX8_found_158 (by decide) ?_
                                    have V6O := V6
                                    have V5O := V5
                                    refine zVv zm_X8_174 hF hB (c_X8_quotient l D ka kb q ad z nu212 18 17 16 (by decide) (by decide) (by decide) (by decide) (by decide) (by rw [V5]; exact hZ) (by
                                        rw [show nu212 (5 * 17 + 4) = (fnV (nI p9) (getN nu) pm pa).2.2.2.2 from congrArg (fun v : N5 => v.2.2.2.2) V6]
                                        exact D6)) [0, 1] rfl (by decide) [q, (ad 3)] (fun _ => rfl) rfl 0 8 rfl rfl rfl ⟨Nat.le_of_ble_eq_true rfl, Nat.le_of_ble_eq_true rfl⟩ rfl hl.1 (Nat.le_of_ble_eq_true rfl) ⟨Nat.le_refl _, Nat.le_refl _⟩ dX8_found_160 ?_
                                    clear hB
                                    try clear locs
                                    try clear H
                                    intro u13 H locs hp hB
                                    obtain ⟨nu213, rfl⟩ : ∃ z, z = u13 := ⟨_, rfl⟩
                                    have hp13 : keepN [30, 31, 32, 33, 34, 35, 36, 37, 18] nu212 nu213 ∧ (quoO (getN nu212 17) (getN nu212 16) = false → getN nu213 18 = quoV (getN nu212 17) (getN nu212 16)) := hp
                                    have HPP := hp13
                                    replace hB : zB D A s ([(q, .inr (8, mO ad (quoO (getN nu212 17) (getN nu212 16)) z)), ((ad 3), .inl (ka 1, 200, .inr (.inl nu213))), ((ad 12), .inl (ka 0, 3, .inl pm)), ((ad 13), .inl (ka 0, 3, .inl pa))]) H locs := hB
                                    obtain ⟨K7, R7⟩ := hp13
                                    have Q7 : quoO (getN nu212 17) (getN nu212 16) = quoO (fnV (nI p9) (getN nu) pm pa) (foD (getN nu) pm pa) := by rw [V6, V5]
                                    rw [Q7] at hB
                                    replace hB : zB D A s ([(q, .inr (8, mO ad (quoO (fnV (nI p9) (getN nu) pm pa) (foD (getN nu) pm pa)) z)), ((ad 3), .inl (ka 1, 200, .inr (.inl nu213))), ((ad 12), .inl (ka 0, 3, .inl pm)), ((ad 13), .inl (ka 0, 3, .inl pa))]) H locs := hB
                                    have X9 : ∀ k9, k9 < 12 → getN nu213 k9 = getN nu k9 := fun k9 h9 => (K7.get (by simp; omega)).trans (X9 k9 h9)
                                    have V0 : getN nu213 12 = (efV (getN nu) pm pa 0 0) := (K7.get (by decide)).trans V0
                                    have V1 : getN nu213 13 = (efV (getN nu) pm pa 0 1) := (K7.get (by decide)).trans V1
                                    have V2 : getN nu213 14 = (efV (getN nu) pm pa 1 0) := (K7.get (by decide)).trans V2
                                    have V3 : getN nu213 15 = (efV (getN nu) pm pa 1 1) := (K7.get (by decide)).trans V3
                                    have V5 : getN nu213 16 = foD (getN nu) pm pa := (K7.get (by decide)).trans V5
                                    refine lv_aload_n hx hb dX8_found_163 rfl (lv_at hl 1 rfl) ?_
                                    refine zget zf_X8_105 hF hB 0 rfl rfl dX8_found_164 ?_
                                    refine lv_if_eq (tgt := 173) hx hb dX8_found_167 (by decide) (fun h167 => ?_) (fun h167 => ?_)
                                    · skip
                                      have O7 : quoO (fnV (nI p9) (getN nu) pm pa) (foD (getN nu) pm pa) = false := bI_eq0 h167
                                      have hO7 : (fnO (nI p9) (getN nu) pm pa || quoO (fnV (nI p9) (getN nu) pm pa) (foD (getN nu) pm pa)) = false := by rw [O6, O7]; rfl
                                      have V7 : getN nu213 18 = quoV (fnV (nI p9) (getN nu) pm pa) (foD (getN nu) pm pa) := by rw [R7 (Q7.trans O7), V6O, V5O]
                                      rw [O7] at hB
                                      replace hB : zB D A s ([(q, .inr (8, mO ad false z)), ((ad 3), .inl (ka 1, 200, .inr (.inl nu213))), ((ad 12), .inl (ka 0, 3, .inl pm)), ((ad 13), .inl (ka 0, 3, .inl pa))]) H locs := hB
                                      refine lv_aload_n hx hb dX8_found_173 rfl (lv_at hl 1 rfl) ?_
                                      refine lv_iload_n hx hb dX8_found_174 rfl (lv_at hl 3 rfl) ?_
                                      refine lv_bipush (v := 18) hx hb dX8_found_175 (by decide) ?_
                                      refine zVv zm_X8_177 hF hB (c_X8_moves l D ka kb q ad false z nu213 i 18 (by omega) (by decide) (by omega)) [0, 1] rfl (by decide) [q, (ad 3)] (fun _ => rfl) rfl 0 8 rfl rfl rfl ⟨Nat.le_of_ble_eq_true rfl, Nat.le_of_ble_eq_true rfl⟩ rfl hl.1 (Nat.le_of_ble_eq_true rfl) ⟨Nat.le_refl _, Nat.le_refl _⟩ dX8_found_177 ?_
                                      clear hB
                                      try clear locs
                                      try clear H
                                      intro u14 H locs hp hB
                                      replace hB : zB D A s ([(q, .inr (8, mO ad false z)), ((ad 3), .inl (ka 1, 200, .inr (.inl (setN nu213 i (getN nu213 18))))), ((ad 12), .inl (ka 0, 3, .inl pm)), ((ad 13), .inl (ka 0, 3, .inl pa))]) H locs := hB
                                      refine lv_iconst (v := 1) hx hb dX8_found_180 (by decide) ?_
                                      exact zreti hF hB (false, setN nu213 i (getN nu213 18)) (⟨by unfold foW; rw [if_neg (by rw [hk8]; decide), if_neg (not_not_intro h23), if_neg (by rw [hFO]; decide), if_neg (by rw [hZ]; decide), if_neg (by rw [hO7]; decide), ri], fun k9 h9 => by
                                          unfold foW; rw [if_neg (by rw [hk8]; decide), if_neg (not_not_intro h23), if_neg (by rw [hFO]; decide), if_neg (by rw [hZ]; decide), if_neg (by rw [hO7]; decide), ri]
                                          show getN (setN nu213 i (getN nu213 18)) k9 = if k9 = i then quoV (fnV (nI p9) (getN nu) pm pa) (foD (getN nu) pm pa) else getN nu k9
                                          by_cases e8 : k9 = i
                                          · rw [if_pos e8, e8, getN_same, V7]
                                          · rw [if_neg e8, getN_ne _ _ _ _ e8]; exact X9 k9 h9⟩) (rfl) (rfl) dX8_found_181 hQ
                                    · skip
                                      have O7 : quoO (fnV (nI p9) (getN nu) pm pa) (foD (getN nu) pm pa) = true := bI_ne0 h167
                                      have hO7 : (fnO (nI p9) (getN nu) pm pa || quoO (fnV (nI p9) (getN nu) pm pa) (foD (getN nu) pm pa)) = true := by rw [O6, O7]; rfl
                                      rw [O7] at hB
                                      replace hB : zB D A s ([(q, .inr (8, mO ad true z)), ((ad 3), .inl (ka 1, 200, .inr (.inl nu213))), ((ad 12), .inl (ka 0, 3, .inl pm)), ((ad 13), .inl (ka 0, 3, .inl pa))]) H locs := hB
                                      refine lv_bipush (v := -5) hx hb dX8_found_170 (by decide) ?_
                                      exact zreti hF hB (true, nu213) (⟨by unfold foW; rw [if_neg (by rw [hk8]; decide), if_neg (not_not_intro h23), if_neg (by rw [hFO]; decide), if_neg (by rw [hZ]; decide), if_pos hO7], fun k9 h9 => by unfold foW; rw [if_neg (by rw [hk8]; decide), if_neg (not_not_intro h23), if_neg (by rw [hFO]; decide), if_neg (by rw [hZ]; decide), if_pos hO7]; exact X9 k9 h9⟩) (rfl) (rfl) dX8_found_172 hQ
                              · skip
                                have hZ : zeroN (foD (getN nu) pm pa) = true := by rw [← V5]; exact bI_ne0 h105
                                refine lv_bipush (v := -6) hx hb dX8_found_108 (by decide) ?_
                                exact zreti hF hB (false, nu27) (⟨by unfold foW; rw [if_neg (by rw [hk8]; decide), if_neg (not_not_intro h23), if_neg (by rw [hFO]; decide), if_pos hZ], fun k9 h9 => by unfold foW; rw [if_neg (by rw [hk8]; decide), if_neg (not_not_intro h23), if_neg (by rw [hFO]; decide), if_pos hZ]; exact X9 k9 h9⟩) (rfl) (rfl) dX8_found_110 hQ
                            · skip
                              have O5 : crO (efV (getN nu) pm pa 0 0) (efV (getN nu) pm pa 1 1) (efV (getN nu) pm pa 1 0) (efV (getN nu) pm pa 0 1) = true := bI_ne0 h93
                              have hFO : foO (getN nu) pm pa = true := by unfold foO; simp only [O5, Bool.or_true]
                              rw [O5] at hB
                              replace hB : zB D A s ([(q, .inr (8, mO ad true z)), ((ad 3), .inl (ka 1, 200, .inr (.inl nu27))), ((ad 12), .inl (ka 0, 3, .inl pm)), ((ad 13), .inl (ka 0, 3, .inl pa))]) H locs := hB
                              refine lv_bipush (v := -5) hx hb dX8_found_96 (by decide) ?_
                              exact zreti hF hB (true, nu27) (⟨by unfold foW; rw [if_neg (by rw [hk8]; decide), if_neg (not_not_intro h23), if_pos hFO], fun k9 h9 => by unfold foW; rw [if_neg (by rw [hk8]; decide), if_neg (not_not_intro h23), if_pos hFO]; exact X9 k9 h9⟩) (rfl) (rfl) dX8_found_98 hQ
                        · skip
                          exact absurd (by decide) h38
      · skip
        refine lv_bipush (v := -3) hx hb dX8_found_26 (by decide) ?_
        exact zreti hF hB (o, nu) (⟨by unfold foW; rw [if_neg (by rw [hk8]; decide), if_pos h23], fun k9 _ => by unfold foW; rw [if_neg (by rw [hk8]; decide), if_pos h23]; rfl⟩) (rfl) (rfl) dX8_found_28 hQ
    · skip
      refine lv_bipush (v := -2) hx hb dX8_found_14 (by decide) ?_
      have hk9 : foK (nI p9) rq = false := dB_f.mpr (fun e8 => by rw [bI_eq0 h11] at e8; exact absurd e8.2 (by decide))
      exact zreti hF hB (o, nu) (⟨by unfold foW; rw [if_pos hk9], fun k9 _ => by unfold foW; rw [if_pos (by assumption)]; rfl⟩) (rfl) (rfl) dX8_found_16 hQ
