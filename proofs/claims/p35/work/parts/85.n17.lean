theorem op_0 {X Y : N5} : opO (nI 0) X Y = sumO false X Y ∧ opV (nI 0) X Y = sumV false X Y := by
  unfold opO opV
  rw [if_pos (by decide), if_pos (by decide), dB_f.mpr (by decide)]
  exact ⟨rfl, rfl⟩
theorem op_1 {X Y : N5} : opO (nI 1) X Y = sumO true X Y ∧ opV (nI 1) X Y = sumV true X Y := by
  unfold opO opV
  rw [if_pos (by decide), if_pos (by decide), dB_t.mpr (by decide)]
  exact ⟨rfl, rfl⟩
theorem op_2 {X Y : N5} : opO (nI 2) X Y = prodO X Y ∧ opV (nI 2) X Y = prodV X Y := by
  unfold opO opV
  exact ⟨by rw [if_neg (by decide), if_pos (by decide)], by rw [if_neg (by decide), if_pos (by decide)]⟩
theorem op_3 {X Y : N5} : opO (nI 3) X Y = quoO X Y ∧ opV (nI 3) X Y = quoV X Y := by
  unfold opO opV
  rw [if_neg (by decide), if_neg (by decide), if_neg (by decide), if_neg (by decide)]
  exact ⟨rfl, rfl⟩
theorem okH_up {ho : Nat → Int32} {j : Nat} {v : Int32} (h : okH ho) (hv : 1 ≤ v.toInt ∧ v.toInt ≤ 9) : okH (upd ho j v) := fun k hk => by
  unfold upd
  by_cases e : k = j
  · rw [if_pos e]; omega
  · rw [if_neg e]; exact h k hk
/-! a bit of what is open -/
theorem lgX_bit (m : Int32) {a : Nat} (ha : a < 12) : lgX m a = if m.toBitVec.getLsbD a = true then 1 else 0 := by
  have h1 : (m >>> (nI a &&& 31)).toBitVec = m.toBitVec.sshiftRight a := by
    have e : ∀ a, a < 12 → nI a &&& 31 = nI a := by decide
    rw [e a ha, Int32.toBitVec_shiftRight]
    have e2 : ∀ a, a < 12 → ((nI a).toBitVec.smod 32).toNat = a := by decide
    show m.toBitVec.sshiftRight ((nI a).toBitVec.smod 32).toNat = _
    rw [e2 a ha]
  have h2 : (lgX m a).toBitVec = (m.toBitVec.sshiftRight a) &&& 1#32 := by
    show ((m >>> (nI a &&& 31)) &&& 1).toBitVec = _
    rw [Int32.toBitVec_and, h1]; rfl
  apply Int32.toBitVec_inj.mp
  rw [h2]
  apply BitVec.eq_of_getLsbD_eq
  intro i hi
  rw [BitVec.getLsbD_and, BitVec.getLsbD_sshiftRight]
  by_cases h0 : i = 0
  · subst h0
    rw [show (decide (32 ≤ 0)) = false from rfl, Nat.add_zero, if_pos (by omega)]
    cases m.toBitVec.getLsbD a <;> rfl
  · have e1 : (1#32 : BitVec 32).getLsbD i = false := by
      rw [BitVec.getLsbD_one]
      simp [h0]
    rw [e1, Bool.and_false]
    split
    · exact e1.symm
    · exact (BitVec.getLsbD_zero).symm
theorem lgX_clr (m : Int32) {a k : Nat} (ha : a < 12) (hk : k < 12) : lgX (m &&& (((1 : Int32) <<< (nI k &&& 31)) ^^^ (-1))) a = if a = k then 0 else lgX m a := by
  rw [lgX_bit _ ha, lgX_bit m ha, Int32.toBitVec_and, BitVec.getLsbD_and]
  have e : ∀ k, k < 12 → ∀ a, a < 12 → (((1 : Int32) <<< (nI k &&& 31)) ^^^ (-1)).toBitVec.getLsbD a = !(decide (a = k)) := by decide
  rw [e k hk a ha]
  by_cases h : a = k
  · rw [if_pos h, decide_eq_true h, Bool.not_true, Bool.and_false]; rfl
  · rw [if_neg h, decide_eq_false h, Bool.not_false, Bool.and_true]
theorem opN_lg (m : Int32) (p : Nat) (ho : Nat → Int32) {a : Nat} (ha : a < 12) : ∀ n, n ≤ 12 → (lgX (opN m p ho n) a = if a < n ∧ ho (12 * p + a) ≠ 0 then 0 else lgX m a)
  | 0, _ => by rw [if_neg (fun e => absurd e.1 (Nat.not_lt_zero _))]; rfl
  | n + 1, hn => by
    have ih := opN_lg m p ho ha n (by omega)
    unfold opN
    by_cases h0 : ho (12 * p + n) = 0
    · rw [if_pos h0, ih]
      by_cases e : a = n
      · subst e
        rw [if_neg (fun e => by omega), if_neg (fun e => e.2 h0)]
      · by_cases e2 : a < n ∧ ho (12 * p + a) ≠ 0
        · rw [if_pos e2, if_pos ⟨by omega, e2.2⟩]
        · rw [if_neg e2, if_neg (fun e3 => e2 ⟨by omega, e3.2⟩)]
    · rw [if_neg h0, lgX_clr _ ha (by omega), ih]
      by_cases e : a = n
      · subst e
        rw [if_pos rfl, if_pos ⟨by omega, h0⟩]
      · rw [if_neg e]
        by_cases e2 : a < n ∧ ho (12 * p + a) ≠ 0
        · rw [if_pos e2, if_pos ⟨by omega, e2.2⟩]
        · rw [if_neg e2, if_neg (fun e3 => e2 ⟨by omega, e3.2⟩)]
theorem opN_t {le ho : Nat → Int32} {p a : Nat} (ha : a < 12) (h : lgX (opN (le p) p ho 12) a = 1) : frB p a le ho = true := by
  rw [opN_lg _ _ _ ha 12 (Nat.le_refl _)] at h
  by_cases e : a < 12 ∧ ho (12 * p + a) ≠ 0
  · rw [if_pos e] at h; exact absurd h (by decide)
  · rw [if_neg e] at h
    exact dB_t.mpr ⟨h, Decidable.of_not_not (fun e9 => e ⟨ha, e9⟩)⟩
theorem opN_f {le ho : Nat → Int32} {p a : Nat} (ha : a < 12) (h : lgX (opN (le p) p ho 12) a = 0) : frB p a le ho = false := by
  rw [opN_lg _ _ _ ha 12 (Nat.le_refl _)] at h
  refine dB_f.mpr (fun e8 => ?_)
  rw [if_neg (fun e => e.2 e8.2), e8.1] at h
  exact absurd h (by decide)
set_option maxHeartbeats 4000000 in
set_option maxRecDepth 100000 in
theorem c_X7_reckon (l : Launch) (D : va_G) (ka : Nat → ClassId) (kb : Nat → Nat) (bd : Nat → Nat) (na : Nat → Nat) (o : Bool) (N : Nat → N5) (w9 : Int32) (rr : Int32) (ss : Int32) (tt : Int32) (hd6 : ∀ k, k < 6 → 0 < (N k).2.2.2.2.toInt) : zI l D ka kb yX7_reckon cX7_reckon 8 .int 6 199 [.ref (bd 31), .int w9, .int rr, .int ss, .int tt] ([((bd 31), .inr (7, [.ref (bd 0), .ref (bd 1), .ref (na 6), .ref (na 7), .ref (bd 2), .ref (bd 3), .ref (bd 4), .ref (bd 5), .ref (bd 6)])), ((bd 1), .inl (ka 3, 6, .inr (.inr (.inr (.inr (nR na 0)))))), ((bd 0), .inr (2, [.int (bI o), .ref (na 25), .ref (na 26), .ref (na 27)]))] ++ nP na N) (fun (r : Int32) (u : (Nat → N5) × Bool) => r = (rkV w9 rr ss tt N).1 ∧ (∀ k9, k9 < 25 → u.1 k9 = upG N (rkV w9 rr ss tt N).2 k9)) (fun (u : (Nat → N5) × Bool) => [((bd 31), .inr (7, [.ref (bd 0), .ref (bd 1), .ref (na 6), .ref (na 7), .ref (bd 2), .ref (bd 3), .ref (bd 4), .ref (bd 5), .ref (bd 6)])), ((bd 1), .inl (ka 3, 6, .inr (.inr (.inr (.inr (nR na 0)))))), ((bd 0), .inr (2, [.int (bI u.2), .ref (na 25), .ref (na 26), .ref (na 27)]))] ++ nP na u.1) := by
  refine zI.mk RX7 (by decide +kernel) rfl (Nat.le_of_ble_eq_true rfl) ?_
  intro p e s m below meth c A ls args Q hQ hx hb hF hB hl
  replace hl : lv_has ls 8 [(0, .ref (bd 31)), (1, .int w9), (2, .int rr), (3, .int ss), (4, .int tt)] := hl
  refine lv_iload_n hx hb dX7_reckon_0 rfl (lv_at hl 1 rfl) ?_
  refine lv_iconst (v := 4) hx hb dX7_reckon_1 (by decide) ?_
  refine zSi zm_X7_65 hF hB (c_X7_isOutside l D ka kb w9 4 (by decide)) [] rfl (by decide) [] (fun _ => rfl) rfl rfl ⟨Nat.le_of_ble_eq_true rfl, Nat.le_of_ble_eq_true rfl⟩ rfl hl.1 (Nat.le_of_ble_eq_true rfl) ⟨Nat.le_refl _, Nat.le_refl _⟩ dX7_reckon_2 ?_
  clear hB
  try clear locs
  try clear H
  intro r1 u1 H locs hp hB
  obtain rfl : r1 = bI (!(inI w9 4)) := hp
  replace hB : zB D A s ([((bd 31), .inr (7, [.ref (bd 0), .ref (bd 1), .ref (na 6), .ref (na 7), .ref (bd 2), .ref (bd 3), .ref (bd 4), .ref (bd 5), .ref (bd 6)])), ((bd 1), .inl (ka 3, 6, .inr (.inr (.inr (.inr (nR na 0)))))), ((bd 0), .inr (2, [.int (bI o), .ref (na 25), .ref (na 26), .ref (na 27)]))] ++ nP na N) H locs := hB
  refine lv_if_ne (tgt := 36) hx hb dX7_reckon_5 (by decide) (fun h5 => ?_) (fun h5 => ?_)
  · skip
    replace h5 := (b9_t h5)
    refine lv_bipush (v := -2) hx hb dX7_reckon_36 (by decide) ?_
    have hrk : rkV w9 rr ss tt N = (-2, none) := by rw [rkV, if_pos (fun e8 => absurd (h5.symm.trans e8.1) (by decide))]
    exact zreti hF hB (N, o) (⟨by rw [hrk], fun _ _ => by rw [hrk] <;> rfl⟩) (rfl) (rfl) dX7_reckon_38 hQ
  · skip
    replace h5 := (b9_f h5)
    obtain ⟨wg, hwg2, hwg3⟩ := inI_of h5 (by decide)
    subst hwg3
    have rwg : aN (nI wg) = wg := aNn hwg2 (by decide)
    have hwg1 : inI (nI wg) 4 = true := h5
    refine lv_iload_n hx hb dX7_reckon_8 rfl (lv_at hl 2 rfl) ?_
    refine lv_bipush (v := 6) hx hb dX7_reckon_9 (by decide) ?_
    refine zSi zm_X7_65 hF hB (c_X7_isOutside l D ka kb rr 6 (by decide)) [] rfl (by decide) [] (fun _ => rfl) rfl rfl ⟨Nat.le_of_ble_eq_true rfl, Nat.le_of_ble_eq_true rfl⟩ rfl hl.1 (Nat.le_of_ble_eq_true rfl) ⟨Nat.le_refl _, Nat.le_refl _⟩ dX7_reckon_11 ?_
    clear hB
    try clear locs
    try clear H
    intro r2 u2 H locs hp hB
    obtain rfl : r2 = bI (!(inI rr 6)) := hp
    replace hB : zB D A s ([((bd 31), .inr (7, [.ref (bd 0), .ref (bd 1), .ref (na 6), .ref (na 7), .ref (bd 2), .ref (bd 3), .ref (bd 4), .ref (bd 5), .ref (bd 6)])), ((bd 1), .inl (ka 3, 6, .inr (.inr (.inr (.inr (nR na 0)))))), ((bd 0), .inr (2, [.int (bI o), .ref (na 25), .ref (na 26), .ref (na 27)]))] ++ nP na N) H locs := hB
    refine lv_if_ne (tgt := 36) hx hb dX7_reckon_14 (by decide) (fun h14 => ?_) (fun h14 => ?_)
    · skip
      replace h14 := (b9_t h14)
      refine lv_bipush (v := -2) hx hb dX7_reckon_36 (by decide) ?_
      have hrk : rkV (nI wg) rr ss tt N = (-2, none) := by rw [rkV, if_pos (fun e8 => absurd (h14.symm.trans e8.2.1) (by decide))]
      exact zreti hF hB (N, o) (⟨by rw [hrk], fun _ _ => by rw [hrk] <;> rfl⟩) (rfl) (rfl) dX7_reckon_38 hQ
    · skip
      replace h14 := (b9_f h14)
      obtain ⟨rg, hrg2, hrg3⟩ := inI_of h14 (by decide)
      subst hrg3
      have rrg : aN (nI rg) = rg := aNn hrg2 (by decide)
      have hrg1 : inI (nI rg) 6 = true := h14
      refine lv_iload_n hx hb dX7_reckon_17 rfl (lv_at hl 3 rfl) ?_
      refine lv_bipush (v := 6) hx hb dX7_reckon_18 (by decide) ?_
      refine zSi zm_X7_65 hF hB (c_X7_isOutside l D ka kb ss 6 (by decide)) [] rfl (by decide) [] (fun _ => rfl) rfl rfl ⟨Nat.le_of_ble_eq_true rfl, Nat.le_of_ble_eq_true rfl⟩ rfl hl.1 (Nat.le_of_ble_eq_true rfl) ⟨Nat.le_refl _, Nat.le_refl _⟩ dX7_reckon_20 ?_
      clear hB
      try clear locs
      try clear H
      intro r3 u3 H locs hp hB
      obtain rfl : r3 = bI (!(inI ss 6)) := hp
      replace hB : zB D A s ([((bd 31), .inr (7, [.ref (bd 0), .ref (bd 1), .ref (na 6), .ref (na 7), .ref (bd 2), .ref (bd 3), .ref (bd 4), .ref (bd 5), .ref (bd 6)])), ((bd 1), .inl (ka 3, 6, .inr (.inr (.inr (.inr (nR na 0)))))), ((bd 0), .inr (2, [.int (bI o), .ref (na 25), .ref (na 26), .ref (na 27)]))] ++ nP na N) H locs := hB
      refine lv_if_ne (tgt := 36) hx hb dX7_reckon_23 (by decide) (fun h23 => ?_) (fun h23 => ?_)
      · skip
        replace h23 := (b9_t h23)
        refine lv_bipush (v := -2) hx hb dX7_reckon_36 (by decide) ?_
        have hrk : rkV (nI wg) (nI rg) ss tt N = (-2, none) := by rw [rkV, if_pos (fun e8 => absurd (h23.symm.trans e8.2.2.1) (by decide))]
        exact zreti hF hB (N, o) (⟨by rw [hrk], fun _ _ => by rw [hrk] <;> rfl⟩) (rfl) (rfl) dX7_reckon_38 hQ
      · skip
        replace h23 := (b9_f h23)
        obtain ⟨sg, hsg2, hsg3⟩ := inI_of h23 (by decide)
        subst hsg3
        have rsg : aN (nI sg) = sg := aNn hsg2 (by decide)
        have hsg1 : inI (nI sg) 6 = true := h23
        refine lv_iload hx hb dX7_reckon_26 (lv_at hl 4 rfl) ?_
        refine lv_bipush (v := 6) hx hb dX7_reckon_28 (by decide) ?_
        refine zSi zm_X7_65 hF hB (c_X7_isOutside l D ka kb tt 6 (by decide)) [] rfl (by decide) [] (fun _ => rfl) rfl rfl ⟨Nat.le_of_ble_eq_true rfl, Nat.le_of_ble_eq_true rfl⟩ rfl hl.1 (Nat.le_of_ble_eq_true rfl) ⟨Nat.le_refl _, Nat.le_refl _⟩ dX7_reckon_30 ?_
        clear hB
        try clear locs
        try clear H
        intro r4 u4 H locs hp hB
        obtain rfl : r4 = bI (!(inI tt 6)) := hp
        replace hB : zB D A s ([((bd 31), .inr (7, [.ref (bd 0), .ref (bd 1), .ref (na 6), .ref (na 7), .ref (bd 2), .ref (bd 3), .ref (bd 4), .ref (bd 5), .ref (bd 6)])), ((bd 1), .inl (ka 3, 6, .inr (.inr (.inr (.inr (nR na 0)))))), ((bd 0), .inr (2, [.int (bI o), .ref (na 25), .ref (na 26), .ref (na 27)]))] ++ nP na N) H locs := hB
        refine lv_if_eq (tgt := 39) hx hb dX7_reckon_33 (by decide) (fun h33 => ?_) (fun h33 => ?_)
        · skip
          replace h33 := (b9_f h33)
          obtain ⟨tg, htg2, htg3⟩ := inI_of h33 (by decide)
          subst htg3
          have rtg : aN (nI tg) = tg := aNn htg2 (by decide)
          have htg1 : inI (nI tg) 6 = true := h33
          refine lv_aload_n hx hb dX7_reckon_39 rfl (lv_at hl 0 rfl) ?_
          refine zget zf_X7_18 hF hB 0 rfl rfl dX7_reckon_40 ?_
          refine lv_iload_n hx hb dX7_reckon_43 rfl (lv_at hl 2 rfl) ?_
          refine zaald hF hB 1 rfl (t0 := 3) rfl rg (rfl) (by omega) (by decide) (r := na rg) (nR_0 _ _) dX7_reckon_44 ?_
          refine lv_astore (lv' := [(5, .ref (na rg)), (0, .ref (bd 31)), (1, .int (nI wg)), (2, .int (nI rg)), (3, .int (nI sg)), (4, .int (nI tg))]) hx hb dX7_reckon_45 hl (by decide) rfl ?_
          clear hl
          clear ls
          intro ls hl
          refine lv_aload_n hx hb dX7_reckon_47 rfl (lv_at hl 1 rfl) ?_
          refine zget zf_X7_18 hF hB 0 rfl rfl dX7_reckon_48 ?_
          refine lv_iload_n hx hb dX7_reckon_51 rfl (lv_at hl 4 rfl) ?_
          refine zaald hF hB 1 rfl (t0 := 3) rfl sg (rfl) (by omega) (by decide) (r := na sg) (nR_0 _ _) dX7_reckon_52 ?_
          refine lv_astore (lv' := [(6, .ref (na sg)), (5, .ref (na rg)), (0, .ref (bd 31)), (1, .int (nI wg)), (2, .int (nI rg)), (3, .int (nI sg)), (4, .int (nI tg))]) hx hb dX7_reckon_53 hl (by decide) rfl ?_
          clear hl
          clear ls
          intro ls hl
          refine lv_iload_n hx hb dX7_reckon_55 rfl (lv_at hl 3 rfl) ?_
          refine lv_iconst (v := 3) hx hb dX7_reckon_56 (by decide) ?_
          refine lv_icmp_ne (tgt := 71) hx hb dX7_reckon_57 (by decide) (fun h57 => ?_) (fun h57 => ?_)
          · skip
            have hw3 : wg ≠ 3 := fun e8 => h57 (by rw [e8]; rfl)
            refine lv_iload_n hx hb dX7_reckon_71 rfl (lv_at hl 3 rfl) ?_
            rcases zsw (nI wg) 0 2 with hsw | hsw
            · skip
              refine lv_tableOut (tgt := 169) hx hb dX7_reckon_72 hsw (by decide) ?_
              exact absurd (show wg = 3 by rw [nI_toInt (by omega)] at hsw; omega) hw3
            · skip
              rcases (show Int32.toInt (nI wg) = 0 ∨ Int32.toInt (nI wg) = 1 ∨ Int32.toInt (nI wg) = 2 by omega) with hc9 | hc9 | hc9
              · skip
                refine lv_tableIn (tgt := 100) hx hb dX7_reckon_72 (by omega) (by omega) (by rw [hc9]; rfl) (by decide) ?_
                have hwk : wg = 0 := by rw [nI_toInt (by omega)] at hc9; omega
                have hop := op_0 (X := N rg) (Y := N sg)
                have hnz : ¬ (nI wg = 3 ∧ zeroN (N sg) = true) := fun e8 => by have e7 := e8.1; rw [hwk] at e7; exact absurd e7 (by decide)
                refine lv_aload_n hx hb dX7_reckon_100 rfl (lv_at hl 2 rfl) ?_
                refine zget zf_X7_10 hF hB 0 rfl rfl dX7_reckon_101 ?_
                refine lv_aload hx hb dX7_reckon_104 (lv_at hl 1 rfl) ?_
                refine lv_aload hx hb dX7_reckon_106 (lv_at hl 0 rfl) ?_
                refine lv_aload_n hx hb dX7_reckon_108 rfl (lv_at hl 2 rfl) ?_
                refine zget zf_X7_18 hF hB 0 rfl rfl dX7_reckon_109 ?_
                refine lv_iload hx hb dX7_reckon_112 (lv_at hl 6 rfl) ?_
                refine zaald hF hB 1 rfl (t0 := 3) rfl tg (rfl) (by omega) (by decide) (r := na tg) (nR_0 _ _) dX7_reckon_114 ?_
                refine zVi zm_X7_96 hF hB (c_X2_sum l D ka kb (bd 0) na o 25 26 27 N tg rg sg (by omega) (by omega) (by omega) (hd6 _ hrg2) (hd6 _ hsg2)) ([2] ++ npr 3) (zsel_pool rfl rfl) (va_nd_pool rfl rfl) ([(bd 0)] ++ nA na) (fun _ => zad_pool rfl) (zad_pool rfl) 2 2 rfl rfl rfl ⟨Nat.le_of_ble_eq_true rfl, Nat.le_of_ble_eq_true rfl⟩ rfl hl.1 (Nat.le_of_ble_eq_true rfl) ⟨Nat.le_refl _, Nat.le_refl _⟩ dX7_reckon_115 ?_
                clear hB
                try clear locs
                try clear H
                intro r5 u5 H locs hp hB
                obtain rfl : r5 = bI (!(sumO false (N rg) (N sg))) := hp
                replace hB : zB D A s ([((bd 31), .inr (7, [.ref (bd 0), .ref (bd 1), .ref (na 6), .ref (na 7), .ref (bd 2), .ref (bd 3), .ref (bd 4), .ref (bd 5), .ref (bd 6)])), ((bd 1), .inl (ka 3, 6, .inr (.inr (.inr (.inr (nR na 0)))))), ((bd 0), .inr (2, [.int (bI (sumO false (N rg) (N sg))), .ref (na 25), .ref (na 26), .ref (na 27)]))] ++ nP na (if sumO false (N rg) (N sg) = true then N else upN N tg (sumV false (N rg) (N sg)))) H locs := zB_pool hB rfl rfl rfl rfl
                have hO9 : sumO false (N rg) (N sg) = sumO false (N rg) (N sg) := rfl
                obtain ⟨M1, hM1⟩ : ∃ M, M = (if sumO false (N rg) (N sg) = true then N else upN N tg (sumV false (N rg) (N sg))) := ⟨_, rfl⟩
                rw [← hM1] at hB
                refine lv_istore (lv' := [(7, .int (bI (!(sumO false (N rg) (N sg))))), (6, .ref (na sg)), (5, .ref (na rg)), (0, .ref (bd 31)), (1, .int (nI wg)), (2, .int (nI rg)), (3, .int (nI sg)), (4, .int (nI tg))]) hx hb dX7_reckon_118 hl (by decide) rfl ?_
                clear hl
                clear ls
                intro ls hl
                refine lv_goto (tgt := 189) hx hb dX7_reckon_120 (by decide) ?_
                refine lv_iload hx hb dX7_reckon_189 (lv_at hl 0 rfl) ?_
                refine lv_if_eq (tgt := 198) hx hb dX7_reckon_191 (by decide) (fun h191 => ?_) (fun h191 => ?_)
                · skip
                  replace h191 := (b9_f h191)
                  have hrk : rkV (nI wg) (nI rg) (nI sg) (nI tg) N = (-5, none) := by rw [rkV, if_neg (fun e8 => e8 ⟨hwg1, hrg1, hsg1, htg1⟩), show (nI rg).toInt.toNat = rg from rrg, show (nI sg).toInt.toNat = sg from rsg, show (nI tg).toInt.toNat = tg from rtg, if_neg hnz, hwk, hop.1, if_pos h191]
                  refine lv_bipush (v := -5) hx hb dX7_reckon_198 (by decide) ?_
                  exact zreti hF hB (M1, (sumO false (N rg) (N sg))) (⟨by rw [hrk], fun k9 _ => by rw [hrk]; show M1 k9 = _; rw [hM1, if_pos h191] <;> rfl⟩) (rfl) (rfl) dX7_reckon_200 hQ
                · skip
                  replace h191 := (b9_t h191)
                  have hrk : rkV (nI wg) (nI rg) (nI sg) (nI tg) N = (1, some (tg, sumV false (N rg) (N sg))) := by rw [rkV, if_neg (fun e8 => e8 ⟨hwg1, hrg1, hsg1, htg1⟩), show (nI rg).toInt.toNat = rg from rrg, show (nI sg).toInt.toNat = sg from rsg, show (nI tg).toInt.toNat = tg from rtg, if_neg hnz, hwk, hop.1, if_neg (by rw [h191]; decide), hop.2]
                  refine lv_iconst (v := 1) hx hb dX7_reckon_194 (by decide) ?_
                  refine lv_goto (tgt := 200) hx hb dX7_reckon_195 (by decide) ?_
                  exact zreti hF hB (M1, (sumO false (N rg) (N sg))) (⟨by rw [hrk], fun k9 _ => by rw [hrk]; show M1 k9 = _; rw [hM1, if_neg (by rw [h191]; decide)] <;> rfl⟩) (rfl) (rfl) dX7_reckon_200 hQ
              · skip
                refine lv_tableIn (tgt := 123) hx hb dX7_reckon_72 (by omega) (by omega) (by rw [hc9]; rfl) (by decide) ?_
                have hwk : wg = 1 := by rw [nI_toInt (by omega)] at hc9; omega
                have hop := op_1 (X := N rg) (Y := N sg)
                have hnz : ¬ (nI wg = 3 ∧ zeroN (N sg) = true) := fun e8 => by have e7 := e8.1; rw [hwk] at e7; exact absurd e7 (by decide)
                refine lv_aload_n hx hb dX7_reckon_123 rfl (lv_at hl 2 rfl) ?_
                refine zget zf_X7_10 hF hB 0 rfl rfl dX7_reckon_124 ?_
                refine lv_aload hx hb dX7_reckon_127 (lv_at hl 1 rfl) ?_
                refine lv_aload hx hb dX7_reckon_129 (lv_at hl 0 rfl) ?_
                refine lv_aload_n hx hb dX7_reckon_131 rfl (lv_at hl 2 rfl) ?_
                refine zget zf_X7_18 hF hB 0 rfl rfl dX7_reckon_132 ?_
                refine lv_iload hx hb dX7_reckon_135 (lv_at hl 6 rfl) ?_
                refine zaald hF hB 1 rfl (t0 := 3) rfl tg (rfl) (by omega) (by decide) (r := na tg) (nR_0 _ _) dX7_reckon_137 ?_
                refine zVi zm_X7_100 hF hB (c_X2_difference l D ka kb (bd 0) na o 25 26 27 N tg rg sg (by omega) (by omega) (by omega) (hd6 _ hrg2) (hd6 _ hsg2)) ([2] ++ npr 3) (zsel_pool rfl rfl) (va_nd_pool rfl rfl) ([(bd 0)] ++ nA na) (fun _ => zad_pool rfl) (zad_pool rfl) 2 2 rfl rfl rfl ⟨Nat.le_of_ble_eq_true rfl, Nat.le_of_ble_eq_true rfl⟩ rfl hl.1 (Nat.le_of_ble_eq_true rfl) ⟨Nat.le_refl _, Nat.le_refl _⟩ dX7_reckon_138 ?_
                clear hB
                try clear locs
                try clear H
                intro r6 u6 H locs hp hB
                obtain rfl : r6 = bI (!(sumO true (N rg) (N sg))) := hp
                replace hB : zB D A s ([((bd 31), .inr (7, [.ref (bd 0), .ref (bd 1), .ref (na 6), .ref (na 7), .ref (bd 2), .ref (bd 3), .ref (bd 4), .ref (bd 5), .ref (bd 6)])), ((bd 1), .inl (ka 3, 6, .inr (.inr (.inr (.inr (nR na 0)))))), ((bd 0), .inr (2, [.int (bI (sumO true (N rg) (N sg))), .ref (na 25), .ref (na 26), .ref (na 27)]))] ++ nP na (if sumO true (N rg) (N sg) = true then N else upN N tg (sumV true (N rg) (N sg)))) H locs := zB_pool hB rfl rfl rfl rfl
                have hO9 : sumO true (N rg) (N sg) = sumO true (N rg) (N sg) := rfl
                obtain ⟨M1, hM1⟩ : ∃ M, M = (if sumO true (N rg) (N sg) = true then N else upN N tg (sumV true (N rg) (N sg))) := ⟨_, rfl⟩
                rw [← hM1] at hB
                refine lv_istore (lv' := [(7, .int (bI (!(sumO true (N rg) (N sg))))), (6, .ref (na sg)), (5, .ref (na rg)), (0, .ref (bd 31)), (1, .int (nI wg)), (2, .int (nI rg)), (3, .int (nI sg)), (4, .int (nI tg))]) hx hb dX7_reckon_141 hl (by decide) rfl ?_
                clear hl
                clear ls
                intro ls hl
                refine lv_goto (tgt := 189) hx hb dX7_reckon_143 (by decide) ?_
                refine lv_iload hx hb dX7_reckon_189 (lv_at hl 0 rfl) ?_
                refine lv_if_eq (tgt := 198) hx hb dX7_reckon_191 (by decide) (fun h191 => ?_) (fun h191 => ?_)
                · skip
                  replace h191 := (b9_f h191)
                  have hrk : rkV (nI wg) (nI rg) (nI sg) (nI tg) N = (-5, none) := by rw [rkV, if_neg (fun e8 => e8 ⟨hwg1, hrg1, hsg1, htg1⟩), show (nI rg).toInt.toNat = rg from rrg, show (nI sg).toInt.toNat = sg from rsg, show (nI tg).toInt.toNat = tg from rtg, if_neg hnz, hwk, hop.1, if_pos h191]
                  refine lv_bipush (v := -5) hx hb dX7_reckon_198 (by decide) ?_
                  exact zreti hF hB (M1, (sumO true (N rg) (N sg))) (⟨by rw [hrk], fun k9 _ => by rw [hrk]; show M1 k9 = _; rw [hM1, if_pos h191] <;> rfl⟩) (rfl) (rfl) dX7_reckon_200 hQ
                · skip
                  replace h191 := (b9_t h191)
                  have hrk : rkV (nI wg) (nI rg) (nI sg) (nI tg) N = (1, some (tg, sumV true (N rg) (N sg))) := by rw [rkV, if_neg (fun e8 => e8 ⟨hwg1, hrg1, hsg1, htg1⟩), show (nI rg).toInt.toNat = rg from rrg, show (nI sg).toInt.toNat = sg from rsg, show (nI tg).toInt.toNat = tg from rtg, if_neg hnz, hwk, hop.1, if_neg (by rw [h191]; decide), hop.2]
                  refine lv_iconst (v := 1) hx hb dX7_reckon_194 (by decide) ?_
                  refine lv_goto (tgt := 200) hx hb dX7_reckon_195 (by decide) ?_
                  exact zreti hF hB (M1, (sumO true (N rg) (N sg))) (⟨by rw [hrk], fun k9 _ => by rw [hrk]; show M1 k9 = _; rw [hM1, if_neg (by rw [h191]; decide)] <;> rfl⟩) (rfl) (rfl) dX7_reckon_200 hQ
              · skip
                refine lv_tableIn (tgt := 146) hx hb dX7_reckon_72 (by omega) (by omega) (by rw [hc9]; rfl) (by decide) ?_
                have hwk : wg = 2 := by rw [nI_toInt (by omega)] at hc9; omega
                have hop := op_2 (X := N rg) (Y := N sg)
                have hnz : ¬ (nI wg = 3 ∧ zeroN (N sg) = true) := fun e8 => by have e7 := e8.1; rw [hwk] at e7; exact absurd e7 (by decide)
                refine lv_aload_n hx hb dX7_reckon_146 rfl (lv_at hl 2 rfl) ?_
                refine zget zf_X7_10 hF hB 0 rfl rfl dX7_reckon_147 ?_
                refine lv_aload hx hb dX7_reckon_150 (lv_at hl 1 rfl) ?_
                refine lv_aload hx hb dX7_reckon_152 (lv_at hl 0 rfl) ?_
                refine lv_aload_n hx hb dX7_reckon_154 rfl (lv_at hl 2 rfl) ?_
                refine zget zf_X7_18 hF hB 0 rfl rfl dX7_reckon_155 ?_
                refine lv_iload hx hb dX7_reckon_158 (lv_at hl 6 rfl) ?_
                refine zaald hF hB 1 rfl (t0 := 3) rfl tg (rfl) (by omega) (by decide) (r := na tg) (nR_0 _ _) dX7_reckon_160 ?_
                refine zVi zm_X7_103 hF hB (c_X2_product l D ka kb (bd 0) na o 25 26 27 N tg rg sg (by omega) (by omega) (by omega) (hd6 _ hrg2) (hd6 _ hsg2)) ([2] ++ npr 3) (zsel_pool rfl rfl) (va_nd_pool rfl rfl) ([(bd 0)] ++ nA na) (fun _ => zad_pool rfl) (zad_pool rfl) 2 2 rfl rfl rfl ⟨Nat.le_of_ble_eq_true rfl, Nat.le_of_ble_eq_true rfl⟩ rfl hl.1 (Nat.le_of_ble_eq_true rfl) ⟨Nat.le_refl _, Nat.le_refl _⟩ dX7_reckon_161 ?_
                clear hB
                try clear locs
                try clear H
                intro r7 u7 H locs hp hB
                obtain rfl : r7 = bI (!(prodO (N rg) (N sg))) := hp
                replace hB : zB D A s ([((bd 31), .inr (7, [.ref (bd 0), .ref (bd 1), .ref (na 6), .ref (na 7), .ref (bd 2), .ref (bd 3), .ref (bd 4), .ref (bd 5), .ref (bd 6)])), ((bd 1), .inl (ka 3, 6, .inr (.inr (.inr (.inr (nR na 0)))))), ((bd 0), .inr (2, [.int (bI (prodO (N rg) (N sg))), .ref (na 25), .ref (na 26), .ref (na 27)]))] ++ nP na (if prodO (N rg) (N sg) = true then N else upN N tg (prodV (N rg) (N sg)))) H locs := zB_pool hB rfl rfl rfl rfl
                have hO9 : prodO (N rg) (N sg) = prodO (N rg) (N sg) := rfl
                obtain ⟨M1, hM1⟩ : ∃ M, M = (if prodO (N rg) (N sg) = true then N else upN N tg (prodV (N rg) (N sg))) := ⟨_, rfl⟩
                rw [← hM1] at hB
                refine lv_istore (lv' := [(7, .int (bI (!(prodO (N rg) (N sg))))), (6, .ref (na sg)), (5, .ref (na rg)), (0, .ref (bd 31)), (1, .int (nI wg)), (2, .int (nI rg)), (3, .int (nI sg)), (4, .int (nI tg))]) hx hb dX7_reckon_164 hl (by decide) rfl ?_
                clear hl
                clear ls
                intro ls hl
                refine lv_goto (tgt := 189) hx hb dX7_reckon_166 (by decide) ?_
                refine lv_iload hx hb dX7_reckon_189 (lv_at hl 0 rfl) ?_
                refine lv_if_eq (tgt := 198) hx hb dX7_reckon_191 (by decide) (fun h191 => ?_) (fun h191 => ?_)
                · skip
                  replace h191 := (b9_f h191)
                  have hrk : rkV (nI wg) (nI rg) (nI sg) (nI tg) N = (-5, none) := by rw [rkV, if_neg (fun e8 => e8 ⟨hwg1, hrg1, hsg1, htg1⟩), show (nI rg).toInt.toNat = rg from rrg, show (nI sg).toInt.toNat = sg from rsg, show (nI tg).toInt.toNat = tg from rtg, if_neg hnz, hwk, hop.1, if_pos h191]
                  refine lv_bipush (v := -5) hx hb dX7_reckon_198 (by decide) ?_
                  exact zreti hF hB (M1, (prodO (N rg) (N sg))) (⟨by rw [hrk], fun k9 _ => by rw [hrk]; show M1 k9 = _; rw [hM1, if_pos h191] <;> rfl⟩) (rfl) (rfl) dX7_reckon_200 hQ
                · skip
                  replace h191 := (b9_t h191)
                  have hrk : rkV (nI wg) (nI rg) (nI sg) (nI tg) N = (1, some (tg, prodV (N rg) (N sg))) := by rw [rkV, if_neg (fun e8 => e8 ⟨hwg1, hrg1, hsg1, htg1⟩), show (nI rg).toInt.toNat = rg from rrg, show (nI sg).toInt.toNat = sg from rsg, show (nI tg).toInt.toNat = tg from rtg, if_neg hnz, hwk, hop.1, if_neg (by rw [h191]; decide), hop.2]
                  refine lv_iconst (v := 1) hx hb dX7_reckon_194 (by decide) ?_
                  refine lv_goto (tgt := 200) hx hb dX7_reckon_195 (by decide) ?_
                  exact zreti hF hB (M1, (prodO (N rg) (N sg))) (⟨by rw [hrk], fun k9 _ => by rw [hrk]; show M1 k9 = _; rw [hM1, if_neg (by rw [h191]; decide)] <;> rfl⟩) (rfl) (rfl) dX7_reckon_200 hQ
          · skip
            have hw3 : wg = 3 := (nI_eq (b := 3) (by omega) (by decide)).mp h57
            refine lv_aload hx hb dX7_reckon_60 (lv_at hl 0 rfl) ?_
            refine zVi zm_X7_92 hF hB (c_X1_isZero l D ka kb (na sg) (N sg) ) [3 + sg] (zsel_num rfl (by omega)) (va_nd_1 _) [na sg] (fun _ => rfl) rfl (3 + sg) 1 rfl (nP_atn rfl (by omega)) rfl ⟨Nat.le_of_ble_eq_true rfl, Nat.le_of_ble_eq_true rfl⟩ rfl hl.1 (Nat.le_of_ble_eq_true rfl) ⟨Nat.le_refl _, Nat.le_refl _⟩ dX7_reckon_62 ?_
            clear hB
            try clear locs
            try clear H
            intro r8 u8 H locs hp hB
            obtain rfl : r8 = bI (zeroN (N sg)) := hp
            replace hB : zB D A s ([((bd 31), .inr (7, [.ref (bd 0), .ref (bd 1), .ref (na 6), .ref (na 7), .ref (bd 2), .ref (bd 3), .ref (bd 4), .ref (bd 5), .ref (bd 6)])), ((bd 1), .inl (ka 3, 6, .inr (.inr (.inr (.inr (nR na 0)))))), ((bd 0), .inr (2, [.int (bI o), .ref (na 25), .ref (na 26), .ref (na 27)]))] ++ nP na N) H locs := (by have e9 := zB_num (X := (N sg)) hB rfl (by omega); rw [upN_id] at e9; exact e9)
            refine lv_if_eq (tgt := 71) hx hb dX7_reckon_65 (by decide) (fun h65 => ?_) (fun h65 => ?_)
            · skip
              have hzz : zeroN (N sg) = false := bI_eq0 h65
              refine lv_iload_n hx hb dX7_reckon_71 rfl (lv_at hl 3 rfl) ?_
              rcases zsw (nI wg) 0 2 with hsw | hsw
              · skip
                refine lv_tableOut (tgt := 169) hx hb dX7_reckon_72 hsw (by decide) ?_
                have hwk : wg = 3 := by rw [nI_toInt (by omega)] at hsw; omega
                have hop := op_3 (X := N rg) (Y := N sg)
                have hnz : ¬ (nI wg = 3 ∧ zeroN (N sg) = true) := fun e8 => by rw [hzz] at e8; exact absurd e8.2 (by decide)
                refine lv_aload_n hx hb dX7_reckon_169 rfl (lv_at hl 2 rfl) ?_
                refine zget zf_X7_10 hF hB 0 rfl rfl dX7_reckon_170 ?_
                refine lv_aload hx hb dX7_reckon_173 (lv_at hl 1 rfl) ?_
                refine lv_aload hx hb dX7_reckon_175 (lv_at hl 0 rfl) ?_
                refine lv_aload_n hx hb dX7_reckon_177 rfl (lv_at hl 2 rfl) ?_
                refine zget zf_X7_18 hF hB 0 rfl rfl dX7_reckon_178 ?_
                refine lv_iload hx hb dX7_reckon_181 (lv_at hl 6 rfl) ?_
                refine zaald hF hB 1 rfl (t0 := 3) rfl tg (rfl) (by omega) (by decide) (r := na tg) (nR_0 _ _) dX7_reckon_183 ?_
                refine zVi zm_X7_106 hF hB (c_X2_quotient l D ka kb (bd 0) na o 25 26 27 N tg rg sg (by omega) (by omega) (by omega) (hd6 _ hrg2) (hd6 _ hsg2) (hzz) (by decide) (by omega) (by omega) (by omega)) ([2] ++ npr 3) (zsel_pool rfl rfl) (va_nd_pool rfl rfl) ([(bd 0)] ++ nA na) (fun _ => zad_pool rfl) (zad_pool rfl) 2 2 rfl rfl rfl ⟨Nat.le_of_ble_eq_true rfl, Nat.le_of_ble_eq_true rfl⟩ rfl hl.1 (Nat.le_of_ble_eq_true rfl) ⟨Nat.le_refl _, Nat.le_refl _⟩ dX7_reckon_184 ?_
                clear hB
                try clear locs
                try clear H
                intro r9 u9 H locs hp hB
                obtain ⟨N99, o99⟩ := u9
                have hp9 : r9 = bI (!(quoO (N rg) (N sg))) ∧ (∀ k9, k9 ≠ 25 → k9 ≠ 26 → k9 ≠ 27 → k9 ≠ tg → N99 k9 = N k9) ∧ N99 tg = (if quoO (N rg) (N sg) = true then N tg else quoV (N rg) (N sg)) := hp
                have HPP := hp9
                replace hB : zB D A s ([((bd 31), .inr (7, [.ref (bd 0), .ref (bd 1), .ref (na 6), .ref (na 7), .ref (bd 2), .ref (bd 3), .ref (bd 4), .ref (bd 5), .ref (bd 6)])), ((bd 1), .inl (ka 3, 6, .inr (.inr (.inr (.inr (nR na 0)))))), ((bd 0), .inr (2, [.int (bI o99), .ref (na 25), .ref (na 26), .ref (na 27)]))] ++ nP na N99) H locs := zB_pool hB rfl rfl rfl rfl
                have hQ9 := HPP
                refine lv_istore (lv' := [(7, .int r9), (6, .ref (na sg)), (5, .ref (na rg)), (0, .ref (bd 31)), (1, .int (nI wg)), (2, .int (nI rg)), (3, .int (nI sg)), (4, .int (nI tg))]) hx hb dX7_reckon_187 hl (by decide) rfl ?_
                clear hl
                clear ls
                intro ls hl
                refine lv_iload hx hb dX7_reckon_189 (lv_at hl 0 rfl) ?_
                refine lv_if_eq (tgt := 198) hx hb dX7_reckon_191 (by decide) (fun h191 => ?_) (fun h191 => ?_)
                · skip
                  have hqq : quoO (N rg) (N sg) = true := b9_f (hQ9.1.symm.trans h191)
                  have hrk : rkV (nI wg) (nI rg) (nI sg) (nI tg) N = (-5, none) := by rw [rkV, if_neg (fun e8 => e8 ⟨hwg1, hrg1, hsg1, htg1⟩), show (nI rg).toInt.toNat = rg from rrg, show (nI sg).toInt.toNat = sg from rsg, show (nI tg).toInt.toNat = tg from rtg, if_neg hnz, hwk, hop.1, if_pos hqq]
                  refine lv_bipush (v := -5) hx hb dX7_reckon_198 (by decide) ?_
                  exact zreti hF hB (N99, (o99)) (⟨by rw [hrk], fun k9 h25 => by
                    rw [hrk]
                    show N99 k9 = N k9
                    by_cases e9 : k9 = tg
                    · rw [e9, hQ9.2.2, if_pos hqq]
                    · exact hQ9.2.1 k9 (by omega) (by omega) (by omega) e9⟩) (rfl) (rfl) dX7_reckon_200 hQ
                · skip
                  have hqq : quoO (N rg) (N sg) = false := b9_t (fun e8 => h191 (hQ9.1.trans e8))
                  have hrk : rkV (nI wg) (nI rg) (nI sg) (nI tg) N = (1, some (tg, quoV (N rg) (N sg))) := by rw [rkV, if_neg (fun e8 => e8 ⟨hwg1, hrg1, hsg1, htg1⟩), show (nI rg).toInt.toNat = rg from rrg, show (nI sg).toInt.toNat = sg from rsg, show (nI tg).toInt.toNat = tg from rtg, if_neg hnz, hwk, hop.1, if_neg (by rw [hqq]; decide), hop.2]
                  refine lv_iconst (v := 1) hx hb dX7_reckon_194 (by decide) ?_
                  refine lv_goto (tgt := 200) hx hb dX7_reckon_195 (by decide) ?_
                  exact zreti hF hB (N99, (o99)) (⟨by rw [hrk], fun k9 h25 => by
                    rw [hrk]
                    show N99 k9 = (if k9 = tg then quoV (N rg) (N sg) else N k9)
                    by_cases e9 : k9 = tg
                    · rw [if_pos e9, e9, hQ9.2.2, if_neg (by rw [hqq]; decide)]
                    · rw [if_neg e9]; exact hQ9.2.1 k9 (by omega) (by omega) (by omega) e9⟩) (rfl) (rfl) dX7_reckon_200 hQ
              · skip
                rcases (show Int32.toInt (nI wg) = 0 ∨ Int32.toInt (nI wg) = 1 ∨ Int32.toInt (nI wg) = 2 by omega) with hc9 | hc9 | hc9
                · skip
                  rw [nI_toInt (by omega)] at hc9; omega
                · skip
                  rw [nI_toInt (by omega)] at hc9; omega
                · skip
                  rw [nI_toInt (by omega)] at hc9; omega
            · skip
              have hzz : zeroN (N sg) = true := bI_ne0 h65
              refine lv_bipush (v := -6) hx hb dX7_reckon_68 (by decide) ?_
              have hrk : rkV (nI wg) (nI rg) (nI sg) (nI tg) N = (-6, none) := by rw [rkV, if_neg (fun e8 => e8 ⟨hwg1, hrg1, hsg1, htg1⟩), show (nI sg).toInt.toNat = sg from rsg, if_pos ⟨by rw [hw3]; rfl, hzz⟩]
              exact zreti hF hB (N, o) (⟨by rw [hrk], fun _ _ => by rw [hrk] <;> rfl⟩) (rfl) (rfl) dX7_reckon_70 hQ
        · skip
          replace h33 := (b9_t h33)
          refine lv_bipush (v := -2) hx hb dX7_reckon_36 (by decide) ?_
          have hrk : rkV (nI wg) (nI rg) (nI sg) tt N = (-2, none) := by rw [rkV, if_pos (fun e8 => absurd (h33.symm.trans e8.2.2.2) (by decide))]
          exact zreti hF hB (N, o) (⟨by rw [hrk], fun _ _ => by rw [hrk] <;> rfl⟩) (rfl) (rfl) dX7_reckon_38 hQ

set_option maxHeartbeats 4000000 in
set_option maxRecDepth 100000 in
theorem c_X7_makeHole (l : Launch) (D : va_G) (ka : Nat → ClassId) (kb : Nat → Nat) (bd : Nat → Nat) (na : Nat → Nat) (lu : Int32) (sz9 : Int32) (re9 : Int32) (ho : Nat → Int32) (kp : Nat → Bool) (p9 : Nat) (a : Nat) (v : Int32) (hp9 : p9 < 2) (ha : a < 12) : zV l D ka kb yX7_makeHole cX7_makeHole 4 1 23 [.ref (bd 31), .int (nI p9), .int (nI a), .int v] ([((bd 31), .inr (7, [.ref (bd 0), .ref (bd 1), .ref (na 6), .ref (na 7), .ref (bd 2), .ref (bd 3), .ref (bd 4), .ref (bd 5), .ref (bd 6)])), ((bd 2), .inr (3, [.int lu, .ref (bd 7), .ref (bd 8), .ref (bd 9), .ref (bd 10), .ref (bd 11), .int sz9, .int re9])), ((bd 10), .inl (ka 0, 24, .inl ho)), ((bd 3), .inr (0, [.ref (bd 12), .ref (bd 13), .ref (bd 14), .ref (bd 15), .ref (bd 16), .ref (bd 17), .ref (na 21), .ref (na 22), .ref (na 23), .ref (na 24)])), ((bd 14), .inl (ka 2, 3, .inl (kI kp)))]) (fun (_ : Unit) => True) (fun (_ : Unit) => [((bd 31), .inr (7, [.ref (bd 0), .ref (bd 1), .ref (na 6), .ref (na 7), .ref (bd 2), .ref (bd 3), .ref (bd 4), .ref (bd 5), .ref (bd 6)])), ((bd 2), .inr (3, [.int lu, .ref (bd 7), .ref (bd 8), .ref (bd 9), .ref (bd 10), .ref (bd 11), .int sz9, .int re9])), ((bd 10), .inl (ka 0, 24, .inl (upd ho (12 * p9 + a) v))), ((bd 3), .inr (0, [.ref (bd 12), .ref (bd 13), .ref (bd 14), .ref (bd 15), .ref (bd 16), .ref (bd 17), .ref (na 21), .ref (na 22), .ref (na 23), .ref (na 24)])), ((bd 14), .inl (ka 2, 3, .inl (kI (fgB kp 3))))]) := by
  refine zV.mk RX7 (by decide +kernel) rfl (Nat.le_of_ble_eq_true rfl) ?_
  intro p e s m below meth c A ls args Q hQ hx hb hF hB hl
  replace hl : lv_has ls 4 [(0, .ref (bd 31)), (1, .int (nI p9)), (2, .int (nI a)), (3, .int v)] := hl
  refine lv_aload_n hx hb dX7_makeHole_0 rfl (lv_at hl 0 rfl) ?_
  refine zget zf_X7_33 hF hB 0 rfl rfl dX7_makeHole_1 ?_
  refine lv_iload_n hx hb dX7_makeHole_4 rfl (lv_at hl 1 rfl) ?_
  refine lv_iload_n hx hb dX7_makeHole_5 rfl (lv_at hl 2 rfl) ?_
  refine lv_iload_n hx hb dX7_makeHole_6 rfl (lv_at hl 3 rfl) ?_
  refine zVv zm_X7_302 hF hB (c_X3_setHole l D ka kb bd lu sz9 re9 ho p9 a v (by first | assumption | omega | decide) (by first | assumption | omega | decide)) [1, 2] rfl (by decide) [(bd 2), (bd 10)] (fun _ => rfl) rfl 1 3 rfl rfl rfl ⟨Nat.le_of_ble_eq_true rfl, Nat.le_of_ble_eq_true rfl⟩ rfl hl.1 (Nat.le_of_ble_eq_true rfl) ⟨Nat.le_refl _, Nat.le_refl _⟩ dX7_makeHole_7 ?_
  clear hB
  try clear locs
  try clear H
  intro u1 H locs hp hB
  replace hB : zB D A s ([((bd 31), .inr (7, [.ref (bd 0), .ref (bd 1), .ref (na 6), .ref (na 7), .ref (bd 2), .ref (bd 3), .ref (bd 4), .ref (bd 5), .ref (bd 6)])), ((bd 2), .inr (3, [.int lu, .ref (bd 7), .ref (bd 8), .ref (bd 9), .ref (bd 10), .ref (bd 11), .int sz9, .int re9])), ((bd 10), .inl (ka 0, 24, .inl (upd ho (12 * p9 + a) v))), ((bd 3), .inr (0, [.ref (bd 12), .ref (bd 13), .ref (bd 14), .ref (bd 15), .ref (bd 16), .ref (bd 17), .ref (na 21), .ref (na 22), .ref (na 23), .ref (na 24)])), ((bd 14), .inl (ka 2, 3, .inl (kI kp)))]) H locs := hB
  refine lv_aload_n hx hb dX7_makeHole_10 rfl (lv_at hl 0 rfl) ?_
  refine zget zf_X7_40 hF hB 0 rfl rfl dX7_makeHole_11 ?_
  refine zVv zm_X7_134 hF hB (c_X0_forget l D ka kb bd na kp ) [3, 4] rfl (by decide) [(bd 3), (bd 14)] (fun _ => rfl) rfl 3 0 rfl rfl rfl ⟨Nat.le_of_ble_eq_true rfl, Nat.le_of_ble_eq_true rfl⟩ rfl hl.1 (Nat.le_of_ble_eq_true rfl) ⟨Nat.le_refl _, Nat.le_refl _⟩ dX7_makeHole_14 ?_
  clear hB
  try clear locs
  try clear H
  intro u2 H locs hp hB
  replace hB : zB D A s ([((bd 31), .inr (7, [.ref (bd 0), .ref (bd 1), .ref (na 6), .ref (na 7), .ref (bd 2), .ref (bd 3), .ref (bd 4), .ref (bd 5), .ref (bd 6)])), ((bd 2), .inr (3, [.int lu, .ref (bd 7), .ref (bd 8), .ref (bd 9), .ref (bd 10), .ref (bd 11), .int sz9, .int re9])), ((bd 10), .inl (ka 0, 24, .inl (upd ho (12 * p9 + a) v))), ((bd 3), .inr (0, [.ref (bd 12), .ref (bd 13), .ref (bd 14), .ref (bd 15), .ref (bd 16), .ref (bd 17), .ref (na 21), .ref (na 22), .ref (na 23), .ref (na 24)])), ((bd 14), .inl (ka 2, 3, .inl (kI (fgB kp 3))))]) H locs := hB
  exact zretv hF hB () (trivial) (rfl) dX7_makeHole_17 hQ

set_option maxHeartbeats 4000000 in
set_option maxRecDepth 100000 in
theorem c_X7_lump (l : Launch) (D : va_G) (ka : Nat → ClassId) (kb : Nat → Nat) (bd : Nat → Nat) (na : Nat → Nat) (sz9 : Int32) (re9 : Int32) (kp : Nat → Bool) (L : Nat) (mo : Nat → Int32) (an : Nat → Int32) (pl : Nat → Int32) (mm : Int32) (aa : Int32) (pp : Int32) (hL : L ≤ 8) : zI l D ka kb yX7_lump cX7_lump 4 .int 1 23 [.ref (bd 31), .int mm, .int aa, .int pp] ([((bd 31), .inr (7, [.ref (bd 0), .ref (bd 1), .ref (na 6), .ref (na 7), .ref (bd 2), .ref (bd 3), .ref (bd 4), .ref (bd 5), .ref (bd 6)])), ((bd 2), .inr (3, [.int (nI L), .ref (bd 7), .ref (bd 8), .ref (bd 9), .ref (bd 10), .ref (bd 11), .int sz9, .int re9])), ((bd 7), .inl (ka 0, 8, .inl mo)), ((bd 8), .inl (ka 0, 8, .inl an)), ((bd 9), .inl (ka 0, 8, .inl pl)), ((bd 3), .inr (0, [.ref (bd 12), .ref (bd 13), .ref (bd 14), .ref (bd 15), .ref (bd 16), .ref (bd 17), .ref (na 21), .ref (na 22), .ref (na 23), .ref (na 24)])), ((bd 14), .inl (ka 2, 3, .inl (kI kp)))]) (fun (r : Int32) (_ : Unit) => r = luA mm aa pp L) (fun (_ : Unit) => [((bd 31), .inr (7, [.ref (bd 0), .ref (bd 1), .ref (na 6), .ref (na 7), .ref (bd 2), .ref (bd 3), .ref (bd 4), .ref (bd 5), .ref (bd 6)])), ((bd 2), .inr (3, [.int (nI (if luB mm aa pp L = true then (L + 1) else L)), .ref (bd 7), .ref (bd 8), .ref (bd 9), .ref (bd 10), .ref (bd 11), .int sz9, .int re9])), ((bd 7), .inl (ka 0, 8, .inl (if luB mm aa pp L = true then upd mo L mm else mo))), ((bd 8), .inl (ka 0, 8, .inl (if luB mm aa pp L = true then upd an L aa else an))), ((bd 9), .inl (ka 0, 8, .inl (if luB mm aa pp L = true then upd pl L pp else pl))), ((bd 3), .inr (0, [.ref (bd 12), .ref (bd 13), .ref (bd 14), .ref (bd 15), .ref (bd 16), .ref (bd 17), .ref (na 21), .ref (na 22), .ref (na 23), .ref (na 24)])), ((bd 14), .inl (ka 2, 3, .inl (kI (if luB mm aa pp L = true then fgB kp 3 else kp))))]) := by
  refine zI.mk RX7 (by decide +kernel) rfl (Nat.le_of_ble_eq_true rfl) ?_
  intro p e s m below meth c A ls args Q hQ hx hb hF hB hl
  replace hl : lv_has ls 4 [(0, .ref (bd 31)), (1, .int mm), (2, .int aa), (3, .int pp)] := hl
  refine lv_iload_n hx hb dX7_lump_0 rfl (lv_at hl 1 rfl) ?_
  refine zSi zm_X7_123 hF hB (c_X7_isNoMoment l D ka kb mm ) [] rfl (by decide) [] (fun _ => rfl) rfl rfl ⟨Nat.le_of_ble_eq_true rfl, Nat.le_of_ble_eq_true rfl⟩ rfl hl.1 (Nat.le_of_ble_eq_true rfl) ⟨Nat.le_refl _, Nat.le_refl _⟩ dX7_lump_1 ?_
  clear hB
  try clear locs
  try clear H
  intro r1 u1 H locs hp hB
  obtain rfl : r1 = bI (!(inM mm)) := hp
  replace hB : zB D A s ([((bd 31), .inr (7, [.ref (bd 0), .ref (bd 1), .ref (na 6), .ref (na 7), .ref (bd 2), .ref (bd 3), .ref (bd 4), .ref (bd 5), .ref (bd 6)])), ((bd 2), .inr (3, [.int (nI L), .ref (bd 7), .ref (bd 8), .ref (bd 9), .ref (bd 10), .ref (bd 11), .int sz9, .int re9])), ((bd 7), .inl (ka 0, 8, .inl mo)), ((bd 8), .inl (ka 0, 8, .inl an)), ((bd 9), .inl (ka 0, 8, .inl pl)), ((bd 3), .inr (0, [.ref (bd 12), .ref (bd 13), .ref (bd 14), .ref (bd 15), .ref (bd 16), .ref (bd 17), .ref (na 21), .ref (na 22), .ref (na 23), .ref (na 24)])), ((bd 14), .inl (ka 2, 3, .inl (kI kp)))]) H locs := hB
  refine lv_if_ne (tgt := 25) hx hb dX7_lump_4 (by decide) (fun h4 => ?_) (fun h4 => ?_)
  · skip
    replace h4 := (b9_t h4)
    refine lv_bipush (v := -2) hx hb dX7_lump_25 (by decide) ?_
    have hnk : ¬ (inM mm = true ∧ inI aa 12 = true ∧ inI pp 11 = true) := fun e8 => absurd (h4.symm.trans e8.1) (by decide)
    have hlB : luB mm aa pp L = false := dB_f.mpr (fun e8 => hnk e8.1)
    exact zreti hF hB () (by rw [luA, if_pos hnk]) (by rw [hlB] <;> rfl) (rfl) dX7_lump_27 hQ
  · skip
    replace h4 := (b9_f h4)
    refine lv_iload_n hx hb dX7_lump_7 rfl (lv_at hl 2 rfl) ?_
    refine lv_bipush (v := 12) hx hb dX7_lump_8 (by decide) ?_
    refine zSi zm_X7_65 hF hB (c_X7_isOutside l D ka kb aa 12 (by decide)) [] rfl (by decide) [] (fun _ => rfl) rfl rfl ⟨Nat.le_of_ble_eq_true rfl, Nat.le_of_ble_eq_true rfl⟩ rfl hl.1 (Nat.le_of_ble_eq_true rfl) ⟨Nat.le_refl _, Nat.le_refl _⟩ dX7_lump_10 ?_
    clear hB
    try clear locs
    try clear H
    intro r2 u2 H locs hp hB
    obtain rfl : r2 = bI (!(inI aa 12)) := hp
    replace hB : zB D A s ([((bd 31), .inr (7, [.ref (bd 0), .ref (bd 1), .ref (na 6), .ref (na 7), .ref (bd 2), .ref (bd 3), .ref (bd 4), .ref (bd 5), .ref (bd 6)])), ((bd 2), .inr (3, [.int (nI L), .ref (bd 7), .ref (bd 8), .ref (bd 9), .ref (bd 10), .ref (bd 11), .int sz9, .int re9])), ((bd 7), .inl (ka 0, 8, .inl mo)), ((bd 8), .inl (ka 0, 8, .inl an)), ((bd 9), .inl (ka 0, 8, .inl pl)), ((bd 3), .inr (0, [.ref (bd 12), .ref (bd 13), .ref (bd 14), .ref (bd 15), .ref (bd 16), .ref (bd 17), .ref (na 21), .ref (na 22), .ref (na 23), .ref (na 24)])), ((bd 14), .inl (ka 2, 3, .inl (kI kp)))]) H locs := hB
    refine lv_if_ne (tgt := 25) hx hb dX7_lump_13 (by decide) (fun h13 => ?_) (fun h13 => ?_)
    · skip
      replace h13 := (b9_t h13)
      refine lv_bipush (v := -2) hx hb dX7_lump_25 (by decide) ?_
      have hnk : ¬ (inM mm = true ∧ inI aa 12 = true ∧ inI pp 11 = true) := fun e8 => absurd (h13.symm.trans e8.2.1) (by decide)
      have hlB : luB mm aa pp L = false := dB_f.mpr (fun e8 => hnk e8.1)
      exact zreti hF hB () (by rw [luA, if_pos hnk]) (by rw [hlB] <;> rfl) (rfl) dX7_lump_27 hQ
    · skip
      replace h13 := (b9_f h13)
      obtain ⟨ag, hag2, hag3⟩ := inI_of h13 (by decide)
      subst hag3
      have rag : aN (nI ag) = ag := aNn hag2 (by decide)
      have hag1 : inI (nI ag) 12 = true := h13
      refine lv_iload_n hx hb dX7_lump_16 rfl (lv_at hl 3 rfl) ?_
      refine lv_bipush (v := 11) hx hb dX7_lump_17 (by decide) ?_
      refine zSi zm_X7_65 hF hB (c_X7_isOutside l D ka kb pp 11 (by decide)) [] rfl (by decide) [] (fun _ => rfl) rfl rfl ⟨Nat.le_of_ble_eq_true rfl, Nat.le_of_ble_eq_true rfl⟩ rfl hl.1 (Nat.le_of_ble_eq_true rfl) ⟨Nat.le_refl _, Nat.le_refl _⟩ dX7_lump_19 ?_
      clear hB
      try clear locs
      try clear H
      intro r3 u3 H locs hp hB
      obtain rfl : r3 = bI (!(inI pp 11)) := hp
      replace hB : zB D A s ([((bd 31), .inr (7, [.ref (bd 0), .ref (bd 1), .ref (na 6), .ref (na 7), .ref (bd 2), .ref (bd 3), .ref (bd 4), .ref (bd 5), .ref (bd 6)])), ((bd 2), .inr (3, [.int (nI L), .ref (bd 7), .ref (bd 8), .ref (bd 9), .ref (bd 10), .ref (bd 11), .int sz9, .int re9])), ((bd 7), .inl (ka 0, 8, .inl mo)), ((bd 8), .inl (ka 0, 8, .inl an)), ((bd 9), .inl (ka 0, 8, .inl pl)), ((bd 3), .inr (0, [.ref (bd 12), .ref (bd 13), .ref (bd 14), .ref (bd 15), .ref (bd 16), .ref (bd 17), .ref (na 21), .ref (na 22), .ref (na 23), .ref (na 24)])), ((bd 14), .inl (ka 2, 3, .inl (kI kp)))]) H locs := hB
      refine lv_if_eq (tgt := 28) hx hb dX7_lump_22 (by decide) (fun h22 => ?_) (fun h22 => ?_)
      · skip
        replace h22 := (b9_f h22)
        obtain ⟨pg, hpg2, hpg3⟩ := inI_of h22 (by decide)
        subst hpg3
        have rpg : aN (nI pg) = pg := aNn hpg2 (by decide)
        have hpg1 : inI (nI pg) 11 = true := h22
        refine lv_aload_n hx hb dX7_lump_28 rfl (lv_at hl 0 rfl) ?_
        refine zget zf_X7_33 hF hB 0 rfl rfl dX7_lump_29 ?_
        refine zVi zm_X7_126 hF hB (c_X3_lumps l D ka kb bd (nI L) sz9 re9 ) [1] rfl (by decide) [(bd 2)] (fun _ => rfl) rfl 1 3 rfl rfl rfl ⟨Nat.le_of_ble_eq_true rfl, Nat.le_of_ble_eq_true rfl⟩ rfl hl.1 (Nat.le_of_ble_eq_true rfl) ⟨Nat.le_refl _, Nat.le_refl _⟩ dX7_lump_32 ?_
        clear hB
        try clear locs
        try clear H
        intro r4 u4 H locs hp hB
        obtain rfl : r4 = (nI L) := hp
        replace hB : zB D A s ([((bd 31), .inr (7, [.ref (bd 0), .ref (bd 1), .ref (na 6), .ref (na 7), .ref (bd 2), .ref (bd 3), .ref (bd 4), .ref (bd 5), .ref (bd 6)])), ((bd 2), .inr (3, [.int (nI L), .ref (bd 7), .ref (bd 8), .ref (bd 9), .ref (bd 10), .ref (bd 11), .int sz9, .int re9])), ((bd 7), .inl (ka 0, 8, .inl mo)), ((bd 8), .inl (ka 0, 8, .inl an)), ((bd 9), .inl (ka 0, 8, .inl pl)), ((bd 3), .inr (0, [.ref (bd 12), .ref (bd 13), .ref (bd 14), .ref (bd 15), .ref (bd 16), .ref (bd 17), .ref (na 21), .ref (na 22), .ref (na 23), .ref (na 24)])), ((bd 14), .inl (ka 2, 3, .inl (kI kp)))]) H locs := hB
        refine lv_bipush (v := 8) hx hb dX7_lump_35 (by decide) ?_
        refine lv_icmp_ne (tgt := 43) hx hb dX7_lump_37 (by decide) (fun h37 => ?_) (fun h37 => ?_)
        · skip
          have hL8 : L ≠ 8 := fun e8 => h37 (by rw [e8]; rfl)
          have hlB : luB mm (nI ag) (nI pg) L = true := dB_t.mpr ⟨⟨h4, hag1, hpg1⟩, by omega⟩
          refine lv_aload_n hx hb dX7_lump_43 rfl (lv_at hl 0 rfl) ?_
          refine zget zf_X7_33 hF hB 0 rfl rfl dX7_lump_44 ?_
          refine lv_iload_n hx hb dX7_lump_47 rfl (lv_at hl 1 rfl) ?_
          refine lv_iload_n hx hb dX7_lump_48 rfl (lv_at hl 2 rfl) ?_
          refine lv_iload_n hx hb dX7_lump_49 rfl (lv_at hl 3 rfl) ?_
          refine zVv zm_X7_130 hF hB (c_X3_addLump l D ka kb bd sz9 re9 L mo an pl mm (nI ag) (nI pg) (by omega)) [1, 2, 3, 4] rfl (by decide) [(bd 2), (bd 7), (bd 8), (bd 9)] (fun _ => rfl) rfl 1 3 rfl rfl rfl ⟨Nat.le_of_ble_eq_true rfl, Nat.le_of_ble_eq_true rfl⟩ rfl hl.1 (Nat.le_of_ble_eq_true rfl) ⟨Nat.le_refl _, Nat.le_refl _⟩ dX7_lump_50 ?_
          clear hB
          try clear locs
          try clear H
          intro u5 H locs hp hB
          replace hB : zB D A s ([((bd 31), .inr (7, [.ref (bd 0), .ref (bd 1), .ref (na 6), .ref (na 7), .ref (bd 2), .ref (bd 3), .ref (bd 4), .ref (bd 5), .ref (bd 6)])), ((bd 2), .inr (3, [.int (nI (L + 1)), .ref (bd 7), .ref (bd 8), .ref (bd 9), .ref (bd 10), .ref (bd 11), .int sz9, .int re9])), ((bd 7), .inl (ka 0, 8, .inl (upd mo L mm))), ((bd 8), .inl (ka 0, 8, .inl (upd an L (nI ag)))), ((bd 9), .inl (ka 0, 8, .inl (upd pl L (nI pg)))), ((bd 3), .inr (0, [.ref (bd 12), .ref (bd 13), .ref (bd 14), .ref (bd 15), .ref (bd 16), .ref (bd 17), .ref (na 21), .ref (na 22), .ref (na 23), .ref (na 24)])), ((bd 14), .inl (ka 2, 3, .inl (kI kp)))]) H locs := hB
          refine lv_aload_n hx hb dX7_lump_53 rfl (lv_at hl 0 rfl) ?_
          refine zget zf_X7_40 hF hB 0 rfl rfl dX7_lump_54 ?_
          refine zVv zm_X7_134 hF hB (c_X0_forget l D ka kb bd na kp ) [5, 6] rfl (by decide) [(bd 3), (bd 14)] (fun _ => rfl) rfl 5 0 rfl rfl rfl ⟨Nat.le_of_ble_eq_true rfl, Nat.le_of_ble_eq_true rfl⟩ rfl hl.1 (Nat.le_of_ble_eq_true rfl) ⟨Nat.le_refl _, Nat.le_refl _⟩ dX7_lump_57 ?_
          clear hB
          try clear locs
          try clear H
          intro u6 H locs hp hB
          replace hB : zB D A s ([((bd 31), .inr (7, [.ref (bd 0), .ref (bd 1), .ref (na 6), .ref (na 7), .ref (bd 2), .ref (bd 3), .ref (bd 4), .ref (bd 5), .ref (bd 6)])), ((bd 2), .inr (3, [.int (nI (L + 1)), .ref (bd 7), .ref (bd 8), .ref (bd 9), .ref (bd 10), .ref (bd 11), .int sz9, .int re9])), ((bd 7), .inl (ka 0, 8, .inl (upd mo L mm))), ((bd 8), .inl (ka 0, 8, .inl (upd an L (nI ag)))), ((bd 9), .inl (ka 0, 8, .inl (upd pl L (nI pg)))), ((bd 3), .inr (0, [.ref (bd 12), .ref (bd 13), .ref (bd 14), .ref (bd 15), .ref (bd 16), .ref (bd 17), .ref (na 21), .ref (na 22), .ref (na 23), .ref (na 24)])), ((bd 14), .inl (ka 2, 3, .inl (kI (fgB kp 3))))]) H locs := hB
          refine lv_aload_n hx hb dX7_lump_60 rfl (lv_at hl 0 rfl) ?_
          refine zget zf_X7_33 hF hB 0 rfl rfl dX7_lump_61 ?_
          refine zVi zm_X7_126 hF hB (c_X3_lumps l D ka kb bd (nI (L + 1)) sz9 re9 ) [1] rfl (by decide) [(bd 2)] (fun _ => rfl) rfl 1 3 rfl rfl rfl ⟨Nat.le_of_ble_eq_true rfl, Nat.le_of_ble_eq_true rfl⟩ rfl hl.1 (Nat.le_of_ble_eq_true rfl) ⟨Nat.le_refl _, Nat.le_refl _⟩ dX7_lump_64 ?_
          clear hB
          try clear locs
          try clear H
          intro r7 u7 H locs hp hB
          obtain rfl : r7 = (nI (L + 1)) := hp
          replace hB : zB D A s ([((bd 31), .inr (7, [.ref (bd 0), .ref (bd 1), .ref (na 6), .ref (na 7), .ref (bd 2), .ref (bd 3), .ref (bd 4), .ref (bd 5), .ref (bd 6)])), ((bd 2), .inr (3, [.int (nI (L + 1)), .ref (bd 7), .ref (bd 8), .ref (bd 9), .ref (bd 10), .ref (bd 11), .int sz9, .int re9])), ((bd 7), .inl (ka 0, 8, .inl (upd mo L mm))), ((bd 8), .inl (ka 0, 8, .inl (upd an L (nI ag)))), ((bd 9), .inl (ka 0, 8, .inl (upd pl L (nI pg)))), ((bd 3), .inr (0, [.ref (bd 12), .ref (bd 13), .ref (bd 14), .ref (bd 15), .ref (bd 16), .ref (bd 17), .ref (na 21), .ref (na 22), .ref (na 23), .ref (na 24)])), ((bd 14), .inl (ka 2, 3, .inl (kI (fgB kp 3))))]) H locs := hB
          refine lv_iconst (v := 1) hx hb dX7_lump_67 (by decide) ?_
          refine lv_isub hx hb dX7_lump_68 ?_
          refine ztopi (y := nI L) ((pk_sub (a := L + 1) (b := 1) (by omega))) ?_
          exact zreti hF hB () (by rw [luA, if_neg (fun e8 => e8 ⟨h4, hag1, hpg1⟩), if_neg hL8]) (by rw [hlB] <;> rfl) (rfl) dX7_lump_69 hQ
        · skip
          have hL8 : L = 8 := (nI_eq (b := 8) (by omega) (by decide)).mp h37
          have hlB : luB mm (nI ag) (nI pg) L = false := dB_f.mpr (fun e8 => by omega)
          refine lv_bipush (v := -4) hx hb dX7_lump_40 (by decide) ?_
          exact zreti hF hB () (by rw [luA, if_neg (fun e8 => e8 ⟨h4, hag1, hpg1⟩), if_pos hL8]) (by rw [hlB] <;> rfl) (rfl) dX7_lump_42 hQ
      · skip
        replace h22 := (b9_t h22)
        refine lv_bipush (v := -2) hx hb dX7_lump_25 (by decide) ?_
        have hnk : ¬ (inM mm = true ∧ inI (nI ag) 12 = true ∧ inI pp 11 = true) := fun e8 => absurd (h22.symm.trans e8.2.2) (by decide)
        have hlB : luB mm (nI ag) pp L = false := dB_f.mpr (fun e8 => hnk e8.1)
        exact zreti hF hB () (by rw [luA, if_pos hnk]) (by rw [hlB] <;> rfl) (rfl) dX7_lump_27 hQ

set_option maxHeartbeats 4000000 in
set_option maxRecDepth 100000 in
theorem c_X7_unlump (l : Launch) (D : va_G) (ka : Nat → ClassId) (kb : Nat → Nat) (bd : Nat → Nat) (na : Nat → Nat) (sz9 : Int32) (re9 : Int32) (kp : Nat → Bool) (L : Nat) (hL : L ≤ 8) : zI l D ka kb yX7_unlump cX7_unlump 1 .int 1 21 [.ref (bd 31)] ([((bd 31), .inr (7, [.ref (bd 0), .ref (bd 1), .ref (na 6), .ref (na 7), .ref (bd 2), .ref (bd 3), .ref (bd 4), .ref (bd 5), .ref (bd 6)])), ((bd 2), .inr (3, [.int (nI L), .ref (bd 7), .ref (bd 8), .ref (bd 9), .ref (bd 10), .ref (bd 11), .int sz9, .int re9])), ((bd 3), .inr (0, [.ref (bd 12), .ref (bd 13), .ref (bd 14), .ref (bd 15), .ref (bd 16), .ref (bd 17), .ref (na 21), .ref (na 22), .ref (na 23), .ref (na 24)])), ((bd 14), .inl (ka 2, 3, .inl (kI kp)))]) (fun (r : Int32) (_ : Unit) => r = if L = 0 then -3 else nI (L - 1)) (fun (_ : Unit) => [((bd 31), .inr (7, [.ref (bd 0), .ref (bd 1), .ref (na 6), .ref (na 7), .ref (bd 2), .ref (bd 3), .ref (bd 4), .ref (bd 5), .ref (bd 6)])), ((bd 2), .inr (3, [.int (nI (L - 1)), .ref (bd 7), .ref (bd 8), .ref (bd 9), .ref (bd 10), .ref (bd 11), .int sz9, .int re9])), ((bd 3), .inr (0, [.ref (bd 12), .ref (bd 13), .ref (bd 14), .ref (bd 15), .ref (bd 16), .ref (bd 17), .ref (na 21), .ref (na 22), .ref (na 23), .ref (na 24)])), ((bd 14), .inl (ka 2, 3, .inl (kI (if L = 0 then kp else fgB kp 3))))]) := by
  refine zI.mk RX7 (by decide +kernel) rfl (Nat.le_of_ble_eq_true rfl) ?_
  intro p e s m below meth c A ls args Q hQ hx hb hF hB hl
  replace hl : lv_has ls 1 [(0, .ref (bd 31))] := hl
  refine lv_aload_n hx hb dX7_unlump_0 rfl (lv_at hl 0 rfl) ?_
  refine zget zf_X7_33 hF hB 0 rfl rfl dX7_unlump_1 ?_
  refine zVi zm_X7_126 hF hB (c_X3_lumps l D ka kb bd (nI L) sz9 re9 ) [1] rfl (by decide) [(bd 2)] (fun _ => rfl) rfl 1 3 rfl rfl rfl ⟨Nat.le_of_ble_eq_true rfl, Nat.le_of_ble_eq_true rfl⟩ rfl hl.1 (Nat.le_of_ble_eq_true rfl) ⟨Nat.le_refl _, Nat.le_refl _⟩ dX7_unlump_4 ?_
  clear hB
  try clear locs
  try clear H
  intro r1 u1 H locs hp hB
  obtain rfl : r1 = (nI L) := hp
  replace hB : zB D A s ([((bd 31), .inr (7, [.ref (bd 0), .ref (bd 1), .ref (na 6), .ref (na 7), .ref (bd 2), .ref (bd 3), .ref (bd 4), .ref (bd 5), .ref (bd 6)])), ((bd 2), .inr (3, [.int (nI L), .ref (bd 7), .ref (bd 8), .ref (bd 9), .ref (bd 10), .ref (bd 11), .int sz9, .int re9])), ((bd 3), .inr (0, [.ref (bd 12), .ref (bd 13), .ref (bd 14), .ref (bd 15), .ref (bd 16), .ref (bd 17), .ref (na 21), .ref (na 22), .ref (na 23), .ref (na 24)])), ((bd 14), .inl (ka 2, 3, .inl (kI kp)))]) H locs := hB
  refine lv_if_ne (tgt := 13) hx hb dX7_unlump_7 (by decide) (fun h7 => ?_) (fun h7 => ?_)
  · skip
    have hL0 : L ≠ 0 := fun e8 => h7 (by rw [e8]; rfl)
    refine lv_aload_n hx hb dX7_unlump_13 rfl (lv_at hl 0 rfl) ?_
    refine zget zf_X7_33 hF hB 0 rfl rfl dX7_unlump_14 ?_
    refine zVv zm_X7_137 hF hB (c_X3_dropLump l D ka kb bd sz9 re9 L (by omega)) [1] rfl (by decide) [(bd 2)] (fun _ => rfl) rfl 1 3 rfl rfl rfl ⟨Nat.le_of_ble_eq_true rfl, Nat.le_of_ble_eq_true rfl⟩ rfl hl.1 (Nat.le_of_ble_eq_true rfl) ⟨Nat.le_refl _, Nat.le_refl _⟩ dX7_unlump_17 ?_
    clear hB
    try clear locs
    try clear H
    intro u2 H locs hp hB
    replace hB : zB D A s ([((bd 31), .inr (7, [.ref (bd 0), .ref (bd 1), .ref (na 6), .ref (na 7), .ref (bd 2), .ref (bd 3), .ref (bd 4), .ref (bd 5), .ref (bd 6)])), ((bd 2), .inr (3, [.int (nI (L - 1)), .ref (bd 7), .ref (bd 8), .ref (bd 9), .ref (bd 10), .ref (bd 11), .int sz9, .int re9])), ((bd 3), .inr (0, [.ref (bd 12), .ref (bd 13), .ref (bd 14), .ref (bd 15), .ref (bd 16), .ref (bd 17), .ref (na 21), .ref (na 22), .ref (na 23), .ref (na 24)])), ((bd 14), .inl (ka 2, 3, .inl (kI kp)))]) H locs := hB
    refine lv_aload_n hx hb dX7_unlump_20 rfl (lv_at hl 0 rfl) ?_
    refine zget zf_X7_40 hF hB 0 rfl rfl dX7_unlump_21 ?_
    refine zVv zm_X7_134 hF hB (c_X0_forget l D ka kb bd na kp ) [2, 3] rfl (by decide) [(bd 3), (bd 14)] (fun _ => rfl) rfl 2 0 rfl rfl rfl ⟨Nat.le_of_ble_eq_true rfl, Nat.le_of_ble_eq_true rfl⟩ rfl hl.1 (Nat.le_of_ble_eq_true rfl) ⟨Nat.le_refl _, Nat.le_refl _⟩ dX7_unlump_24 ?_
    clear hB
    try clear locs
    try clear H
    intro u3 H locs hp hB
    replace hB : zB D A s ([((bd 31), .inr (7, [.ref (bd 0), .ref (bd 1), .ref (na 6), .ref (na 7), .ref (bd 2), .ref (bd 3), .ref (bd 4), .ref (bd 5), .ref (bd 6)])), ((bd 2), .inr (3, [.int (nI (L - 1)), .ref (bd 7), .ref (bd 8), .ref (bd 9), .ref (bd 10), .ref (bd 11), .int sz9, .int re9])), ((bd 3), .inr (0, [.ref (bd 12), .ref (bd 13), .ref (bd 14), .ref (bd 15), .ref (bd 16), .ref (bd 17), .ref (na 21), .ref (na 22), .ref (na 23), .ref (na 24)])), ((bd 14), .inl (ka 2, 3, .inl (kI (fgB kp 3))))]) H locs := hB
    refine lv_aload_n hx hb dX7_unlump_27 rfl (lv_at hl 0 rfl) ?_
    refine zget zf_X7_33 hF hB 0 rfl rfl dX7_unlump_28 ?_
    refine zVi zm_X7_126 hF hB (c_X3_lumps l D ka kb bd (nI (L - 1)) sz9 re9 ) [1] rfl (by decide) [(bd 2)] (fun _ => rfl) rfl 1 3 rfl rfl rfl ⟨Nat.le_of_ble_eq_true rfl, Nat.le_of_ble_eq_true rfl⟩ rfl hl.1 (Nat.le_of_ble_eq_true rfl) ⟨Nat.le_refl _, Nat.le_refl _⟩ dX7_unlump_31 ?_
    clear hB
    try clear locs
    try clear H
    intro r4 u4 H locs hp hB
    obtain rfl : r4 = (nI (L - 1)) := hp
    replace hB : zB D A s ([((bd 31), .inr (7, [.ref (bd 0), .ref (bd 1), .ref (na 6), .ref (na 7), .ref (bd 2), .ref (bd 3), .ref (bd 4), .ref (bd 5), .ref (bd 6)])), ((bd 2), .inr (3, [.int (nI (L - 1)), .ref (bd 7), .ref (bd 8), .ref (bd 9), .ref (bd 10), .ref (bd 11), .int sz9, .int re9])), ((bd 3), .inr (0, [.ref (bd 12), .ref (bd 13), .ref (bd 14), .ref (bd 15), .ref (bd 16), .ref (bd 17), .ref (na 21), .ref (na 22), .ref (na 23), .ref (na 24)])), ((bd 14), .inl (ka 2, 3, .inl (kI (fgB kp 3))))]) H locs := hB
    exact zreti hF hB () (by rw [if_neg hL0]) (by rw [if_neg hL0]) (rfl) dX7_unlump_34 hQ
  · skip
    have hL0 : L = 0 := (nI_eq (b := 0) (by omega) (by decide)).mp h7
    refine lv_bipush (v := -3) hx hb dX7_unlump_10 (by decide) ?_
    exact zreti hF hB () (by rw [if_pos hL0]) (by rw [if_pos hL0, show L - 1 = L by omega]) (rfl) dX7_unlump_12 hQ

set_option maxHeartbeats 4000000 in
set_option maxRecDepth 100000 in
theorem c_X7_drill (l : Launch) (D : va_G) (ka : Nat → ClassId) (kb : Nat → Nat) (bd : Nat → Nat) (na : Nat → Nat) (lu : Int32) (sz9 : Int32) (re9 : Int32) (le : Nat → Int32) (ho : Nat → Int32) (kp : Nat → Bool) (pq : Int32) (aq : Int32) (sq9 : Int32) (hoh : okH ho) : zI l D ka kb yX7_drill cX7_drill 4 .int 2 46 [.ref (bd 31), .int pq, .int aq, .int sq9] ([((bd 31), .inr (7, [.ref (bd 0), .ref (bd 1), .ref (na 6), .ref (na 7), .ref (bd 2), .ref (bd 3), .ref (bd 4), .ref (bd 5), .ref (bd 6)])), ((bd 2), .inr (3, [.int lu, .ref (bd 7), .ref (bd 8), .ref (bd 9), .ref (bd 10), .ref (bd 11), .int sz9, .int re9])), ((bd 11), .inl (ka 0, 2, .inl le)), ((bd 10), .inl (ka 0, 24, .inl ho)), ((bd 3), .inr (0, [.ref (bd 12), .ref (bd 13), .ref (bd 14), .ref (bd 15), .ref (bd 16), .ref (bd 17), .ref (na 21), .ref (na 22), .ref (na 23), .ref (na 24)])), ((bd 14), .inl (ka 2, 3, .inl (kI kp)))]) (fun (r : Int32) (_ : Unit) => r = drA pq aq sq9 le ho) (fun (_ : Unit) => [((bd 31), .inr (7, [.ref (bd 0), .ref (bd 1), .ref (na 6), .ref (na 7), .ref (bd 2), .ref (bd 3), .ref (bd 4), .ref (bd 5), .ref (bd 6)])), ((bd 2), .inr (3, [.int lu, .ref (bd 7), .ref (bd 8), .ref (bd 9), .ref (bd 10), .ref (bd 11), .int sz9, .int re9])), ((bd 11), .inl (ka 0, 2, .inl le)), ((bd 10), .inl (ka 0, 24, .inl (if drB pq aq sq9 le ho = true then upd ho (12 * aN pq + aN aq) sq9 else ho))), ((bd 3), .inr (0, [.ref (bd 12), .ref (bd 13), .ref (bd 14), .ref (bd 15), .ref (bd 16), .ref (bd 17), .ref (na 21), .ref (na 22), .ref (na 23), .ref (na 24)])), ((bd 14), .inl (ka 2, 3, .inl (kI (if drB pq aq sq9 le ho = true then fgB kp 3 else kp))))]) := by
  refine zI.mk RX7 (by decide +kernel) rfl (Nat.le_of_ble_eq_true rfl) ?_
  intro p e s m below meth c A ls args Q hQ hx hb hF hB hl
  replace hl : lv_has ls 4 [(0, .ref (bd 31)), (1, .int pq), (2, .int aq), (3, .int sq9)] := hl
  refine lv_iload_n hx hb dX7_drill_0 rfl (lv_at hl 1 rfl) ?_
  refine lv_iconst (v := 2) hx hb dX7_drill_1 (by decide) ?_
  refine zSi zm_X7_65 hF hB (c_X7_isOutside l D ka kb pq 2 (by decide)) [] rfl (by decide) [] (fun _ => rfl) rfl rfl ⟨Nat.le_of_ble_eq_true rfl, Nat.le_of_ble_eq_true rfl⟩ rfl hl.1 (Nat.le_of_ble_eq_true rfl) ⟨Nat.le_refl _, Nat.le_refl _⟩ dX7_drill_2 ?_
  clear hB
  try clear locs
  try clear H
  intro r1 u1 H locs hp hB
  obtain rfl : r1 = bI (!(inI pq 2)) := hp
  replace hB : zB D A s ([((bd 31), .inr (7, [.ref (bd 0), .ref (bd 1), .ref (na 6), .ref (na 7), .ref (bd 2), .ref (bd 3), .ref (bd 4), .ref (bd 5), .ref (bd 6)])), ((bd 2), .inr (3, [.int lu, .ref (bd 7), .ref (bd 8), .ref (bd 9), .ref (bd 10), .ref (bd 11), .int sz9, .int re9])), ((bd 11), .inl (ka 0, 2, .inl le)), ((bd 10), .inl (ka 0, 24, .inl ho)), ((bd 3), .inr (0, [.ref (bd 12), .ref (bd 13), .ref (bd 14), .ref (bd 15), .ref (bd 16), .ref (bd 17), .ref (na 21), .ref (na 22), .ref (na 23), .ref (na 24)])), ((bd 14), .inl (ka 2, 3, .inl (kI kp)))]) H locs := hB
  refine lv_if_ne (tgt := 28) hx hb dX7_drill_5 (by decide) (fun h5 => ?_) (fun h5 => ?_)
  · skip
    replace h5 := (b9_t h5)
    refine lv_bipush (v := -2) hx hb dX7_drill_28 (by decide) ?_
    have hK : drK pq aq sq9 = false := dB_f.mpr (fun e8 => absurd (h5.symm.trans e8.1) (by decide))
    have hB8 : drB pq aq sq9 le ho = false := dB_f.mpr (fun e8 => by rw [hK] at e8; exact absurd e8.1 (by decide))
    exact zreti hF hB () (by rw [drA, if_pos hK]) (by rw [hB8] <;> rfl) (rfl) dX7_drill_30 hQ
  · skip
    replace h5 := (b9_f h5)
    obtain ⟨pg, hpg2, hpg3⟩ := inI_of h5 (by decide)
    subst hpg3
    have rpg : aN (nI pg) = pg := aNn hpg2 (by decide)
    have hpg1 : inI (nI pg) 2 = true := h5
    refine lv_iload_n hx hb dX7_drill_8 rfl (lv_at hl 2 rfl) ?_
    refine lv_bipush (v := 12) hx hb dX7_drill_9 (by decide) ?_
    refine zSi zm_X7_65 hF hB (c_X7_isOutside l D ka kb aq 12 (by decide)) [] rfl (by decide) [] (fun _ => rfl) rfl rfl ⟨Nat.le_of_ble_eq_true rfl, Nat.le_of_ble_eq_true rfl⟩ rfl hl.1 (Nat.le_of_ble_eq_true rfl) ⟨Nat.le_refl _, Nat.le_refl _⟩ dX7_drill_11 ?_
    clear hB
    try clear locs
    try clear H
    intro r2 u2 H locs hp hB
    obtain rfl : r2 = bI (!(inI aq 12)) := hp
    replace hB : zB D A s ([((bd 31), .inr (7, [.ref (bd 0), .ref (bd 1), .ref (na 6), .ref (na 7), .ref (bd 2), .ref (bd 3), .ref (bd 4), .ref (bd 5), .ref (bd 6)])), ((bd 2), .inr (3, [.int lu, .ref (bd 7), .ref (bd 8), .ref (bd 9), .ref (bd 10), .ref (bd 11), .int sz9, .int re9])), ((bd 11), .inl (ka 0, 2, .inl le)), ((bd 10), .inl (ka 0, 24, .inl ho)), ((bd 3), .inr (0, [.ref (bd 12), .ref (bd 13), .ref (bd 14), .ref (bd 15), .ref (bd 16), .ref (bd 17), .ref (na 21), .ref (na 22), .ref (na 23), .ref (na 24)])), ((bd 14), .inl (ka 2, 3, .inl (kI kp)))]) H locs := hB
    refine lv_if_ne (tgt := 28) hx hb dX7_drill_14 (by decide) (fun h14 => ?_) (fun h14 => ?_)
    · skip
      replace h14 := (b9_t h14)
      refine lv_bipush (v := -2) hx hb dX7_drill_28 (by decide) ?_
      have hK : drK (nI pg) aq sq9 = false := dB_f.mpr (fun e8 => absurd (h14.symm.trans e8.2.1) (by decide))
      have hB8 : drB (nI pg) aq sq9 le ho = false := dB_f.mpr (fun e8 => by rw [hK] at e8; exact absurd e8.1 (by decide))
      exact zreti hF hB () (by rw [drA, if_pos hK]) (by rw [hB8] <;> rfl) (rfl) dX7_drill_30 hQ
    · skip
      replace h14 := (b9_f h14)
      obtain ⟨ag, hag2, hag3⟩ := inI_of h14 (by decide)
      subst hag3
      have rag : aN (nI ag) = ag := aNn hag2 (by decide)
      have hag1 : inI (nI ag) 12 = true := h14
      refine lv_iload_n hx hb dX7_drill_17 rfl (lv_at hl 3 rfl) ?_
      refine lv_iconst (v := 1) hx hb dX7_drill_18 (by decide) ?_
      refine lv_icmp_lt (tgt := 28) hx hb dX7_drill_19 (by decide) (fun h19 => ?_) (fun h19 => ?_)
      · skip
        refine lv_bipush (v := -2) hx hb dX7_drill_28 (by decide) ?_
        have hK : drK (nI pg) (nI ag) sq9 = false := dB_f.mpr (fun e8 => by have e7 := dB_t.mp e8.2.2; have e6 := (i32_lt_i _ _).mp h19; rw [show (1 : Int32).toInt = 1 from rfl] at e6; omega)
        have hB8 : drB (nI pg) (nI ag) sq9 le ho = false := dB_f.mpr (fun e8 => by rw [hK] at e8; exact absurd e8.1 (by decide))
        exact zreti hF hB () (by rw [drA, if_pos hK]) (by rw [hB8] <;> rfl) (rfl) dX7_drill_30 hQ
      · skip
        refine lv_iload_n hx hb dX7_drill_22 rfl (lv_at hl 3 rfl) ?_
        refine lv_bipush (v := 9) hx hb dX7_drill_23 (by decide) ?_
        refine lv_icmp_le (tgt := 31) hx hb dX7_drill_25 (by decide) (fun h25 => ?_) (fun h25 => ?_)
        · skip
          have hs19 : inR sq9 1 9 = true := dB_t.mpr (by have e7 := mt (i32_lt_i _ _).mpr h19; have e6 := (i32_le_i _ _).mp h25; rw [show (1 : Int32).toInt = 1 from rfl] at e7; rw [show (9 : Int32).toInt = 9 from rfl] at e6; omega)
          have hK : drK (nI pg) (nI ag) sq9 = true := dB_t.mpr ⟨hpg1, hag1, hs19⟩
          refine lv_aload_n hx hb dX7_drill_31 rfl (lv_at hl 0 rfl) ?_
          refine zget zf_X7_33 hF hB 0 rfl rfl dX7_drill_32 ?_
          refine lv_iload_n hx hb dX7_drill_35 rfl (lv_at hl 1 rfl) ?_
          refine zVi zm_X7_140 hF hB (c_X3_openBits l D ka kb bd lu sz9 re9 le ho pg (hpg2)) [1, 2, 3] rfl (by decide) [(bd 2), (bd 11), (bd 10)] (fun _ => rfl) rfl 1 3 rfl rfl rfl ⟨Nat.le_of_ble_eq_true rfl, Nat.le_of_ble_eq_true rfl⟩ rfl hl.1 (Nat.le_of_ble_eq_true rfl) ⟨Nat.le_refl _, Nat.le_refl _⟩ dX7_drill_36 ?_
          clear hB
          try clear locs
          try clear H
          intro r3 u3 H locs hp hB
          obtain rfl : r3 = opN (le pg) pg ho 12 := hp
          replace hB : zB D A s ([((bd 31), .inr (7, [.ref (bd 0), .ref (bd 1), .ref (na 6), .ref (na 7), .ref (bd 2), .ref (bd 3), .ref (bd 4), .ref (bd 5), .ref (bd 6)])), ((bd 2), .inr (3, [.int lu, .ref (bd 7), .ref (bd 8), .ref (bd 9), .ref (bd 10), .ref (bd 11), .int sz9, .int re9])), ((bd 11), .inl (ka 0, 2, .inl le)), ((bd 10), .inl (ka 0, 24, .inl ho)), ((bd 3), .inr (0, [.ref (bd 12), .ref (bd 13), .ref (bd 14), .ref (bd 15), .ref (bd 16), .ref (bd 17), .ref (na 21), .ref (na 22), .ref (na 23), .ref (na 24)])), ((bd 14), .inl (ka 2, 3, .inl (kI kp)))]) H locs := hB
          refine lv_iload_n hx hb dX7_drill_39 rfl (lv_at hl 2 rfl) ?_
          refine lv_ishr hx hb dX7_drill_40 ?_
          refine lv_iconst (v := 1) hx hb dX7_drill_41 (by decide) ?_
          refine lv_iand hx hb dX7_drill_42 ?_
          refine ztopi (y := lgX (opN (le pg) pg ho 12) ag) (rfl) ?_
          refine lv_if_ne (tgt := 49) hx hb dX7_drill_43 (by decide) (fun h43 => ?_) (fun h43 => ?_)
          · skip
            have hfr : frB (aN (nI pg)) (aN (nI ag)) le ho = true := by rw [rpg, rag]; exact opN_t hag2 (lgX_1 h43)
            refine lv_aload_n hx hb dX7_drill_49 rfl (lv_at hl 0 rfl) ?_
            refine lv_iload_n hx hb dX7_drill_50 rfl (lv_at hl 1 rfl) ?_
            refine lv_iload_n hx hb dX7_drill_51 rfl (lv_at hl 2 rfl) ?_
            refine lv_iload_n hx hb dX7_drill_52 rfl (lv_at hl 3 rfl) ?_
            refine zVv zm_X7_143 hF hB (c_X7_makeHole l D ka kb bd na lu sz9 re9 ho kp pg ag sq9 (hpg2) (hag2)) [0, 1, 3, 4, 5] rfl (by decide) [(bd 31), (bd 2), (bd 10), (bd 3), (bd 14)] (fun _ => rfl) rfl 0 7 rfl rfl rfl ⟨Nat.le_of_ble_eq_true rfl, Nat.le_of_ble_eq_true rfl⟩ rfl hl.1 (Nat.le_of_ble_eq_true rfl) ⟨Nat.le_refl _, Nat.le_refl _⟩ dX7_drill_53 ?_
            clear hB
            try clear locs
            try clear H
            intro u4 H locs hp hB
            replace hB : zB D A s ([((bd 31), .inr (7, [.ref (bd 0), .ref (bd 1), .ref (na 6), .ref (na 7), .ref (bd 2), .ref (bd 3), .ref (bd 4), .ref (bd 5), .ref (bd 6)])), ((bd 2), .inr (3, [.int lu, .ref (bd 7), .ref (bd 8), .ref (bd 9), .ref (bd 10), .ref (bd 11), .int sz9, .int re9])), ((bd 11), .inl (ka 0, 2, .inl le)), ((bd 10), .inl (ka 0, 24, .inl (upd ho (12 * pg + ag) sq9))), ((bd 3), .inr (0, [.ref (bd 12), .ref (bd 13), .ref (bd 14), .ref (bd 15), .ref (bd 16), .ref (bd 17), .ref (na 21), .ref (na 22), .ref (na 23), .ref (na 24)])), ((bd 14), .inl (ka 2, 3, .inl (kI (fgB kp 3))))]) H locs := hB
            refine lv_aload_n hx hb dX7_drill_56 rfl (lv_at hl 0 rfl) ?_
            refine zget zf_X7_33 hF hB 0 rfl rfl dX7_drill_57 ?_
            refine lv_iload_n hx hb dX7_drill_60 rfl (lv_at hl 1 rfl) ?_
            refine zVi zm_X7_146 hF hB (c_X3_holes l D ka kb bd lu sz9 re9 (upd ho (12 * pg + ag) sq9) pg (hpg2) (okH_up hoh (dB_t.mp hs19))) [1, 3] rfl (by decide) [(bd 2), (bd 10)] (fun _ => rfl) rfl 1 3 rfl rfl rfl ⟨Nat.le_of_ble_eq_true rfl, Nat.le_of_ble_eq_true rfl⟩ rfl hl.1 (Nat.le_of_ble_eq_true rfl) ⟨Nat.le_refl _, Nat.le_refl _⟩ dX7_drill_61 ?_
            clear hB
            try clear locs
            try clear H
            intro r5 u5 H locs hp hB
            obtain rfl : r5 = nI (hcnt pg (upd ho (12 * pg + ag) sq9) 12) := hp
            replace hB : zB D A s ([((bd 31), .inr (7, [.ref (bd 0), .ref (bd 1), .ref (na 6), .ref (na 7), .ref (bd 2), .ref (bd 3), .ref (bd 4), .ref (bd 5), .ref (bd 6)])), ((bd 2), .inr (3, [.int lu, .ref (bd 7), .ref (bd 8), .ref (bd 9), .ref (bd 10), .ref (bd 11), .int sz9, .int re9])), ((bd 11), .inl (ka 0, 2, .inl le)), ((bd 10), .inl (ka 0, 24, .inl (upd ho (12 * pg + ag) sq9))), ((bd 3), .inr (0, [.ref (bd 12), .ref (bd 13), .ref (bd 14), .ref (bd 15), .ref (bd 16), .ref (bd 17), .ref (na 21), .ref (na 22), .ref (na 23), .ref (na 24)])), ((bd 14), .inl (ka 2, 3, .inl (kI (fgB kp 3))))]) H locs := hB
            have hB8 : drB (nI pg) (nI ag) sq9 le ho = true := dB_t.mpr ⟨hK, hfr⟩
            exact zreti hF hB () (by rw [drA, if_neg (by rw [hK]; decide), if_neg (by rw [hfr]; decide), rpg, rag]) (by rw [hB8, rpg, rag] <;> rfl) (rfl) dX7_drill_64 hQ
          · skip
            have hfr : frB (aN (nI pg)) (aN (nI ag)) le ho = false := by rw [rpg, rag]; exact opN_f hag2 h43
            refine lv_bipush (v := -3) hx hb dX7_drill_46 (by decide) ?_
            have hB8 : drB (nI pg) (nI ag) sq9 le ho = false := dB_f.mpr (fun e8 => by rw [hfr] at e8; exact absurd e8.2 (by decide))
            exact zreti hF hB () (by rw [drA, if_neg (by rw [hK]; decide), if_pos hfr]) (by rw [hB8] <;> rfl) (rfl) dX7_drill_48 hQ
        · skip
          refine lv_bipush (v := -2) hx hb dX7_drill_28 (by decide) ?_
          have hK : drK (nI pg) (nI ag) sq9 = false := dB_f.mpr (fun e8 => by have e7 := dB_t.mp e8.2.2; have e6 := mt (i32_le_i _ _).mpr h25; rw [show (9 : Int32).toInt = 9 from rfl] at e6; omega)
          have hB8 : drB (nI pg) (nI ag) sq9 le ho = false := dB_f.mpr (fun e8 => by rw [hK] at e8; exact absurd e8.1 (by decide))
          exact zreti hF hB () (by rw [drA, if_pos hK]) (by rw [hB8] <;> rfl) (rfl) dX7_drill_30 hQ

set_option maxHeartbeats 4000000 in
set_option maxRecDepth 100000 in
theorem c_X7_hole (l : Launch) (D : va_G) (ka : Nat → ClassId) (kb : Nat → Nat) (bd : Nat → Nat) (na : Nat → Nat) (lu : Int32) (sz9 : Int32) (re9 : Int32) (ho : Nat → Int32) (pq : Int32) (aq : Int32)  : zI l D ka kb yX7_hole cX7_hole 3 .int 1 22 [.ref (bd 31), .int pq, .int aq] ([((bd 31), .inr (7, [.ref (bd 0), .ref (bd 1), .ref (na 6), .ref (na 7), .ref (bd 2), .ref (bd 3), .ref (bd 4), .ref (bd 5), .ref (bd 6)])), ((bd 2), .inr (3, [.int lu, .ref (bd 7), .ref (bd 8), .ref (bd 9), .ref (bd 10), .ref (bd 11), .int sz9, .int re9])), ((bd 10), .inl (ka 0, 24, .inl ho))]) (fun (r : Int32) (_ : Unit) => r = hlA pq aq ho) (fun (_ : Unit) => [((bd 31), .inr (7, [.ref (bd 0), .ref (bd 1), .ref (na 6), .ref (na 7), .ref (bd 2), .ref (bd 3), .ref (bd 4), .ref (bd 5), .ref (bd 6)])), ((bd 2), .inr (3, [.int lu, .ref (bd 7), .ref (bd 8), .ref (bd 9), .ref (bd 10), .ref (bd 11), .int sz9, .int re9])), ((bd 10), .inl (ka 0, 24, .inl ho))]) := by
  refine zI.mk RX7 (by decide +kernel) rfl (Nat.le_of_ble_eq_true rfl) ?_
  intro p e s m below meth c A ls args Q hQ hx hb hF hB hl
  replace hl : lv_has ls 3 [(0, .ref (bd 31)), (1, .int pq), (2, .int aq)] := hl
  refine lv_iload_n hx hb dX7_hole_0 rfl (lv_at hl 1 rfl) ?_
  refine lv_iconst (v := 2) hx hb dX7_hole_1 (by decide) ?_
  refine zSi zm_X7_65 hF hB (c_X7_isOutside l D ka kb pq 2 (by decide)) [] rfl (by decide) [] (fun _ => rfl) rfl rfl ⟨Nat.le_of_ble_eq_true rfl, Nat.le_of_ble_eq_true rfl⟩ rfl hl.1 (Nat.le_of_ble_eq_true rfl) ⟨Nat.le_refl _, Nat.le_refl _⟩ dX7_hole_2 ?_
  clear hB
  try clear locs
  try clear H
  intro r1 u1 H locs hp hB
  obtain rfl : r1 = bI (!(inI pq 2)) := hp
  replace hB : zB D A s ([((bd 31), .inr (7, [.ref (bd 0), .ref (bd 1), .ref (na 6), .ref (na 7), .ref (bd 2), .ref (bd 3), .ref (bd 4), .ref (bd 5), .ref (bd 6)])), ((bd 2), .inr (3, [.int lu, .ref (bd 7), .ref (bd 8), .ref (bd 9), .ref (bd 10), .ref (bd 11), .int sz9, .int re9])), ((bd 10), .inl (ka 0, 24, .inl ho))]) H locs := hB
  refine lv_if_ne (tgt := 17) hx hb dX7_hole_5 (by decide) (fun h5 => ?_) (fun h5 => ?_)
  · skip
    replace h5 := (b9_t h5)
    refine lv_bipush (v := -2) hx hb dX7_hole_17 (by decide) ?_
    have hK : fiK pq aq = false := dB_f.mpr (fun e8 => absurd (h5.symm.trans e8.1) (by decide))
    exact zreti hF hB () (by rw [hlA, if_neg (by rw [hK]; decide)]) (rfl) (rfl) dX7_hole_19 hQ
  · skip
    replace h5 := (b9_f h5)
    obtain ⟨pg, hpg2, hpg3⟩ := inI_of h5 (by decide)
    subst hpg3
    have rpg : aN (nI pg) = pg := aNn hpg2 (by decide)
    have hpg1 : inI (nI pg) 2 = true := h5
    refine lv_iload_n hx hb dX7_hole_8 rfl (lv_at hl 2 rfl) ?_
    refine lv_bipush (v := 12) hx hb dX7_hole_9 (by decide) ?_
    refine zSi zm_X7_65 hF hB (c_X7_isOutside l D ka kb aq 12 (by decide)) [] rfl (by decide) [] (fun _ => rfl) rfl rfl ⟨Nat.le_of_ble_eq_true rfl, Nat.le_of_ble_eq_true rfl⟩ rfl hl.1 (Nat.le_of_ble_eq_true rfl) ⟨Nat.le_refl _, Nat.le_refl _⟩ dX7_hole_11 ?_
    clear hB
    try clear locs
    try clear H
    intro r2 u2 H locs hp hB
    obtain rfl : r2 = bI (!(inI aq 12)) := hp
    replace hB : zB D A s ([((bd 31), .inr (7, [.ref (bd 0), .ref (bd 1), .ref (na 6), .ref (na 7), .ref (bd 2), .ref (bd 3), .ref (bd 4), .ref (bd 5), .ref (bd 6)])), ((bd 2), .inr (3, [.int lu, .ref (bd 7), .ref (bd 8), .ref (bd 9), .ref (bd 10), .ref (bd 11), .int sz9, .int re9])), ((bd 10), .inl (ka 0, 24, .inl ho))]) H locs := hB
    refine lv_if_eq (tgt := 20) hx hb dX7_hole_14 (by decide) (fun h14 => ?_) (fun h14 => ?_)
    · skip
      replace h14 := (b9_f h14)
      obtain ⟨ag, hag2, hag3⟩ := inI_of h14 (by decide)
      subst hag3
      have rag : aN (nI ag) = ag := aNn hag2 (by decide)
      have hag1 : inI (nI ag) 12 = true := h14
      refine lv_aload_n hx hb dX7_hole_20 rfl (lv_at hl 0 rfl) ?_
      refine zget zf_X7_33 hF hB 0 rfl rfl dX7_hole_21 ?_
      refine lv_iload_n hx hb dX7_hole_24 rfl (lv_at hl 1 rfl) ?_
      refine lv_iload_n hx hb dX7_hole_25 rfl (lv_at hl 2 rfl) ?_
      refine zVi zm_X7_149 hF hB (c_X3_sizeAt l D ka kb bd lu sz9 re9 ho pg ag (hpg2) (hag2)) [1, 2] rfl (by decide) [(bd 2), (bd 10)] (fun _ => rfl) rfl 1 3 rfl rfl rfl ⟨Nat.le_of_ble_eq_true rfl, Nat.le_of_ble_eq_true rfl⟩ rfl hl.1 (Nat.le_of_ble_eq_true rfl) ⟨Nat.le_refl _, Nat.le_refl _⟩ dX7_hole_26 ?_
      clear hB
      try clear locs
      try clear H
      intro r3 u3 H locs hp hB
      obtain rfl : r3 = ho (12 * pg + ag) := hp
      replace hB : zB D A s ([((bd 31), .inr (7, [.ref (bd 0), .ref (bd 1), .ref (na 6), .ref (na 7), .ref (bd 2), .ref (bd 3), .ref (bd 4), .ref (bd 5), .ref (bd 6)])), ((bd 2), .inr (3, [.int lu, .ref (bd 7), .ref (bd 8), .ref (bd 9), .ref (bd 10), .ref (bd 11), .int sz9, .int re9])), ((bd 10), .inl (ka 0, 24, .inl ho))]) H locs := hB
      have hK : fiK (nI pg) (nI ag) = true := dB_t.mpr ⟨hpg1, hag1⟩
      exact zreti hF hB () (by rw [hlA, if_pos hK, rpg, rag]) (rfl) (rfl) dX7_hole_29 hQ
    · skip
      replace h14 := (b9_t h14)
      refine lv_bipush (v := -2) hx hb dX7_hole_17 (by decide) ?_
      have hK : fiK (nI pg) aq = false := dB_f.mpr (fun e8 => absurd (h14.symm.trans e8.2) (by decide))
      exact zreti hF hB () (by rw [hlA, if_neg (by rw [hK]; decide)]) (rfl) (rfl) dX7_hole_19 hQ

set_option maxHeartbeats 4000000 in
set_option maxRecDepth 100000 in
theorem c_X7_fill (l : Launch) (D : va_G) (ka : Nat → ClassId) (kb : Nat → Nat) (bd : Nat → Nat) (na : Nat → Nat) (lu : Int32) (sz9 : Int32) (re9 : Int32) (ho : Nat → Int32) (kp : Nat → Bool) (pq : Int32) (aq : Int32)  : zI l D ka kb yX7_fill cX7_fill 4 .int 2 46 [.ref (bd 31), .int pq, .int aq] ([((bd 31), .inr (7, [.ref (bd 0), .ref (bd 1), .ref (na 6), .ref (na 7), .ref (bd 2), .ref (bd 3), .ref (bd 4), .ref (bd 5), .ref (bd 6)])), ((bd 2), .inr (3, [.int lu, .ref (bd 7), .ref (bd 8), .ref (bd 9), .ref (bd 10), .ref (bd 11), .int sz9, .int re9])), ((bd 10), .inl (ka 0, 24, .inl ho)), ((bd 3), .inr (0, [.ref (bd 12), .ref (bd 13), .ref (bd 14), .ref (bd 15), .ref (bd 16), .ref (bd 17), .ref (na 21), .ref (na 22), .ref (na 23), .ref (na 24)])), ((bd 14), .inl (ka 2, 3, .inl (kI kp)))]) (fun (r : Int32) (_ : Unit) => r = fiA pq aq ho) (fun (_ : Unit) => [((bd 31), .inr (7, [.ref (bd 0), .ref (bd 1), .ref (na 6), .ref (na 7), .ref (bd 2), .ref (bd 3), .ref (bd 4), .ref (bd 5), .ref (bd 6)])), ((bd 2), .inr (3, [.int lu, .ref (bd 7), .ref (bd 8), .ref (bd 9), .ref (bd 10), .ref (bd 11), .int sz9, .int re9])), ((bd 10), .inl (ka 0, 24, .inl (if fiB pq aq ho = true then upd ho (12 * aN pq + aN aq) 0 else ho))), ((bd 3), .inr (0, [.ref (bd 12), .ref (bd 13), .ref (bd 14), .ref (bd 15), .ref (bd 16), .ref (bd 17), .ref (na 21), .ref (na 22), .ref (na 23), .ref (na 24)])), ((bd 14), .inl (ka 2, 3, .inl (kI (if fiB pq aq ho = true then fgB kp 3 else kp))))]) := by
  refine zI.mk RX7 (by decide +kernel) rfl (Nat.le_of_ble_eq_true rfl) ?_
  intro p e s m below meth c A ls args Q hQ hx hb hF hB hl
  replace hl : lv_has ls 4 [(0, .ref (bd 31)), (1, .int pq), (2, .int aq)] := hl
  refine lv_iload_n hx hb dX7_fill_0 rfl (lv_at hl 1 rfl) ?_
  refine lv_iconst (v := 2) hx hb dX7_fill_1 (by decide) ?_
  refine zSi zm_X7_65 hF hB (c_X7_isOutside l D ka kb pq 2 (by decide)) [] rfl (by decide) [] (fun _ => rfl) rfl rfl ⟨Nat.le_of_ble_eq_true rfl, Nat.le_of_ble_eq_true rfl⟩ rfl hl.1 (Nat.le_of_ble_eq_true rfl) ⟨Nat.le_refl _, Nat.le_refl _⟩ dX7_fill_2 ?_
  clear hB
  try clear locs
  try clear H
  intro r1 u1 H locs hp hB
  obtain rfl : r1 = bI (!(inI pq 2)) := hp
  replace hB : zB D A s ([((bd 31), .inr (7, [.ref (bd 0), .ref (bd 1), .ref (na 6), .ref (na 7), .ref (bd 2), .ref (bd 3), .ref (bd 4), .ref (bd 5), .ref (bd 6)])), ((bd 2), .inr (3, [.int lu, .ref (bd 7), .ref (bd 8), .ref (bd 9), .ref (bd 10), .ref (bd 11), .int sz9, .int re9])), ((bd 10), .inl (ka 0, 24, .inl ho)), ((bd 3), .inr (0, [.ref (bd 12), .ref (bd 13), .ref (bd 14), .ref (bd 15), .ref (bd 16), .ref (bd 17), .ref (na 21), .ref (na 22), .ref (na 23), .ref (na 24)])), ((bd 14), .inl (ka 2, 3, .inl (kI kp)))]) H locs := hB
  refine lv_if_ne (tgt := 17) hx hb dX7_fill_5 (by decide) (fun h5 => ?_) (fun h5 => ?_)
  · skip
    replace h5 := (b9_t h5)
    refine lv_bipush (v := -2) hx hb dX7_fill_17 (by decide) ?_
    have hK : fiK pq aq = false := dB_f.mpr (fun e8 => absurd (h5.symm.trans e8.1) (by decide))
    have hB8 : fiB pq aq ho = false := dB_f.mpr (fun e8 => by rw [hK] at e8; exact absurd e8.1 (by decide))
    exact zreti hF hB () (by rw [fiA, if_pos hK]) (by rw [hB8] <;> rfl) (rfl) dX7_fill_19 hQ
  · skip
    replace h5 := (b9_f h5)
    obtain ⟨pg, hpg2, hpg3⟩ := inI_of h5 (by decide)
    subst hpg3
    have rpg : aN (nI pg) = pg := aNn hpg2 (by decide)
    have hpg1 : inI (nI pg) 2 = true := h5
    refine lv_iload_n hx hb dX7_fill_8 rfl (lv_at hl 2 rfl) ?_
    refine lv_bipush (v := 12) hx hb dX7_fill_9 (by decide) ?_
    refine zSi zm_X7_65 hF hB (c_X7_isOutside l D ka kb aq 12 (by decide)) [] rfl (by decide) [] (fun _ => rfl) rfl rfl ⟨Nat.le_of_ble_eq_true rfl, Nat.le_of_ble_eq_true rfl⟩ rfl hl.1 (Nat.le_of_ble_eq_true rfl) ⟨Nat.le_refl _, Nat.le_refl _⟩ dX7_fill_11 ?_
    clear hB
    try clear locs
    try clear H
    intro r2 u2 H locs hp hB
    obtain rfl : r2 = bI (!(inI aq 12)) := hp
    replace hB : zB D A s ([((bd 31), .inr (7, [.ref (bd 0), .ref (bd 1), .ref (na 6), .ref (na 7), .ref (bd 2), .ref (bd 3), .ref (bd 4), .ref (bd 5), .ref (bd 6)])), ((bd 2), .inr (3, [.int lu, .ref (bd 7), .ref (bd 8), .ref (bd 9), .ref (bd 10), .ref (bd 11), .int sz9, .int re9])), ((bd 10), .inl (ka 0, 24, .inl ho)), ((bd 3), .inr (0, [.ref (bd 12), .ref (bd 13), .ref (bd 14), .ref (bd 15), .ref (bd 16), .ref (bd 17), .ref (na 21), .ref (na 22), .ref (na 23), .ref (na 24)])), ((bd 14), .inl (ka 2, 3, .inl (kI kp)))]) H locs := hB
    refine lv_if_eq (tgt := 20) hx hb dX7_fill_14 (by decide) (fun h14 => ?_) (fun h14 => ?_)
    · skip
      replace h14 := (b9_f h14)
      obtain ⟨ag, hag2, hag3⟩ := inI_of h14 (by decide)
      subst hag3
      have rag : aN (nI ag) = ag := aNn hag2 (by decide)
      have hag1 : inI (nI ag) 12 = true := h14
      refine lv_aload_n hx hb dX7_fill_20 rfl (lv_at hl 0 rfl) ?_
      refine zget zf_X7_33 hF hB 0 rfl rfl dX7_fill_21 ?_
      refine lv_iload_n hx hb dX7_fill_24 rfl (lv_at hl 1 rfl) ?_
      refine lv_iload_n hx hb dX7_fill_25 rfl (lv_at hl 2 rfl) ?_
      refine zVi zm_X7_149 hF hB (c_X3_sizeAt l D ka kb bd lu sz9 re9 ho pg ag (hpg2) (hag2)) [1, 2] rfl (by decide) [(bd 2), (bd 10)] (fun _ => rfl) rfl 1 3 rfl rfl rfl ⟨Nat.le_of_ble_eq_true rfl, Nat.le_of_ble_eq_true rfl⟩ rfl hl.1 (Nat.le_of_ble_eq_true rfl) ⟨Nat.le_refl _, Nat.le_refl _⟩ dX7_fill_26 ?_
      clear hB
      try clear locs
      try clear H
      intro r3 u3 H locs hp hB
      obtain rfl : r3 = ho (12 * pg + ag) := hp
      replace hB : zB D A s ([((bd 31), .inr (7, [.ref (bd 0), .ref (bd 1), .ref (na 6), .ref (na 7), .ref (bd 2), .ref (bd 3), .ref (bd 4), .ref (bd 5), .ref (bd 6)])), ((bd 2), .inr (3, [.int lu, .ref (bd 7), .ref (bd 8), .ref (bd 9), .ref (bd 10), .ref (bd 11), .int sz9, .int re9])), ((bd 10), .inl (ka 0, 24, .inl ho)), ((bd 3), .inr (0, [.ref (bd 12), .ref (bd 13), .ref (bd 14), .ref (bd 15), .ref (bd 16), .ref (bd 17), .ref (na 21), .ref (na 22), .ref (na 23), .ref (na 24)])), ((bd 14), .inl (ka 2, 3, .inl (kI kp)))]) H locs := hB
      refine lv_istore_n (lv' := [(3, .int (ho (12 * pg + ag))), (0, .ref (bd 31)), (1, .int (nI pg)), (2, .int (nI ag))]) hx hb dX7_fill_29 rfl hl (by decide) rfl ?_
      clear hl
      clear ls
      intro ls hl
      refine lv_iload_n hx hb dX7_fill_30 rfl (lv_at hl 0 rfl) ?_
      refine lv_if_ne (tgt := 37) hx hb dX7_fill_31 (by decide) (fun h31 => ?_) (fun h31 => ?_)
      · skip
        refine lv_aload_n hx hb dX7_fill_37 rfl (lv_at hl 1 rfl) ?_
        refine lv_iload_n hx hb dX7_fill_38 rfl (lv_at hl 2 rfl) ?_
        refine lv_iload_n hx hb dX7_fill_39 rfl (lv_at hl 3 rfl) ?_
        refine lv_iconst (v := 0) hx hb dX7_fill_40 (by decide) ?_
        refine zVv zm_X7_143 hF hB (c_X7_makeHole l D ka kb bd na lu sz9 re9 ho kp pg ag (0 : Int32) (hpg2) (hag2)) [0, 1, 2, 3, 4] rfl (by decide) [(bd 31), (bd 2), (bd 10), (bd 3), (bd 14)] (fun _ => rfl) rfl 0 7 rfl rfl rfl ⟨Nat.le_of_ble_eq_true rfl, Nat.le_of_ble_eq_true rfl⟩ rfl hl.1 (Nat.le_of_ble_eq_true rfl) ⟨Nat.le_refl _, Nat.le_refl _⟩ dX7_fill_41 ?_
        clear hB
        try clear locs
        try clear H
        intro u4 H locs hp hB
        replace hB : zB D A s ([((bd 31), .inr (7, [.ref (bd 0), .ref (bd 1), .ref (na 6), .ref (na 7), .ref (bd 2), .ref (bd 3), .ref (bd 4), .ref (bd 5), .ref (bd 6)])), ((bd 2), .inr (3, [.int lu, .ref (bd 7), .ref (bd 8), .ref (bd 9), .ref (bd 10), .ref (bd 11), .int sz9, .int re9])), ((bd 10), .inl (ka 0, 24, .inl (upd ho (12 * pg + ag) (0 : Int32)))), ((bd 3), .inr (0, [.ref (bd 12), .ref (bd 13), .ref (bd 14), .ref (bd 15), .ref (bd 16), .ref (bd 17), .ref (na 21), .ref (na 22), .ref (na 23), .ref (na 24)])), ((bd 14), .inl (ka 2, 3, .inl (kI (fgB kp 3))))]) H locs := hB
        refine lv_iload_n hx hb dX7_fill_44 rfl (lv_at hl 0 rfl) ?_
        have hK : fiK (nI pg) (nI ag) = true := dB_t.mpr ⟨hpg1, hag1⟩
        have hB8 : fiB (nI pg) (nI ag) ho = true := dB_t.mpr ⟨hK, by rw [rpg, rag]; exact h31⟩
        exact zreti hF hB () (by rw [fiA, if_neg (by rw [hK]; decide), rpg, rag, if_neg h31]) (by rw [hB8, rpg, rag] <;> rfl) (rfl) dX7_fill_45 hQ
      · skip
        refine lv_bipush (v := -3) hx hb dX7_fill_34 (by decide) ?_
        have hK : fiK (nI pg) (nI ag) = true := dB_t.mpr ⟨hpg1, hag1⟩
        have hB8 : fiB (nI pg) (nI ag) ho = false := dB_f.mpr (fun e8 => e8.2 (by rw [rpg, rag]; exact h31))
        exact zreti hF hB () (by rw [fiA, if_neg (by rw [hK]; decide), rpg, rag, if_pos h31]) (by rw [hB8] <;> rfl) (rfl) dX7_fill_36 hQ
    · skip
      replace h14 := (b9_t h14)
      refine lv_bipush (v := -2) hx hb dX7_fill_17 (by decide) ?_
      have hK : fiK (nI pg) aq = false := dB_f.mpr (fun e8 => absurd (h14.symm.trans e8.2) (by decide))
      have hB8 : fiB (nI pg) aq ho = false := dB_f.mpr (fun e8 => by rw [hK] at e8; exact absurd e8.1 (by decide))
      exact zreti hF hB () (by rw [fiA, if_pos hK]) (by rw [hB8] <;> rfl) (rfl) dX7_fill_19 hQ

set_option maxHeartbeats 4000000 in
set_option maxRecDepth 100000 in
theorem c_X7_lawful (l : Launch) (D : va_G) (ka : Nat → ClassId) (kb : Nat → Nat) (bd : Nat → Nat) (na : Nat → Nat) (lu : Int32) (sz9 : Int32) (re9 : Int32) (le : Nat → Int32) (pq : Int32) (bq : Int32)  : zI l D ka kb yX7_lawful cX7_lawful 4 .int 1 22 [.ref (bd 31), .int pq, .int bq] ([((bd 31), .inr (7, [.ref (bd 0), .ref (bd 1), .ref (na 6), .ref (na 7), .ref (bd 2), .ref (bd 3), .ref (bd 4), .ref (bd 5), .ref (bd 6)])), ((bd 2), .inr (3, [.int lu, .ref (bd 7), .ref (bd 8), .ref (bd 9), .ref (bd 10), .ref (bd 11), .int sz9, .int re9])), ((bd 11), .inl (ka 0, 2, .inl le))]) (fun (r : Int32) (_ : Unit) => r = if lwK pq bq = true then le (aN pq) else -2) (fun (_ : Unit) => [((bd 31), .inr (7, [.ref (bd 0), .ref (bd 1), .ref (na 6), .ref (na 7), .ref (bd 2), .ref (bd 3), .ref (bd 4), .ref (bd 5), .ref (bd 6)])), ((bd 2), .inr (3, [.int lu, .ref (bd 7), .ref (bd 8), .ref (bd 9), .ref (bd 10), .ref (bd 11), .int sz9, .int re9])), ((bd 11), .inl (ka 0, 2, .inl (if lwK pq bq = true then upd le (aN pq) bq else le)))]) := by
  refine zI.mk RX7 (by decide +kernel) rfl (Nat.le_of_ble_eq_true rfl) ?_
  intro p e s m below meth c A ls args Q hQ hx hb hF hB hl
  replace hl : lv_has ls 4 [(0, .ref (bd 31)), (1, .int pq), (2, .int bq)] := hl
  refine lv_iload_n hx hb dX7_lawful_0 rfl (lv_at hl 1 rfl) ?_
  refine lv_iconst (v := 2) hx hb dX7_lawful_1 (by decide) ?_
  refine zSi zm_X7_65 hF hB (c_X7_isOutside l D ka kb pq 2 (by decide)) [] rfl (by decide) [] (fun _ => rfl) rfl rfl ⟨Nat.le_of_ble_eq_true rfl, Nat.le_of_ble_eq_true rfl⟩ rfl hl.1 (Nat.le_of_ble_eq_true rfl) ⟨Nat.le_refl _, Nat.le_refl _⟩ dX7_lawful_2 ?_
  clear hB
  try clear locs
  try clear H
  intro r1 u1 H locs hp hB
  obtain rfl : r1 = bI (!(inI pq 2)) := hp
  replace hB : zB D A s ([((bd 31), .inr (7, [.ref (bd 0), .ref (bd 1), .ref (na 6), .ref (na 7), .ref (bd 2), .ref (bd 3), .ref (bd 4), .ref (bd 5), .ref (bd 6)])), ((bd 2), .inr (3, [.int lu, .ref (bd 7), .ref (bd 8), .ref (bd 9), .ref (bd 10), .ref (bd 11), .int sz9, .int re9])), ((bd 11), .inl (ka 0, 2, .inl le))]) H locs := hB
  refine lv_if_ne (tgt := 18) hx hb dX7_lawful_5 (by decide) (fun h5 => ?_) (fun h5 => ?_)
  · skip
    replace h5 := (b9_t h5)
    refine lv_bipush (v := -2) hx hb dX7_lawful_18 (by decide) ?_
    have hK : lwK pq bq = false := dB_f.mpr (fun e8 => absurd (h5.symm.trans e8.1) (by decide))
    exact zreti hF hB () (by rw [if_neg (by rw [hK]; decide)]) (by rw [hK] <;> rfl) (rfl) dX7_lawful_20 hQ
  · skip
    replace h5 := (b9_f h5)
    obtain ⟨pg, hpg2, hpg3⟩ := inI_of h5 (by decide)
    subst hpg3
    have rpg : aN (nI pg) = pg := aNn hpg2 (by decide)
    have hpg1 : inI (nI pg) 2 = true := h5
    refine lv_iload_n hx hb dX7_lawful_8 rfl (lv_at hl 2 rfl) ?_
    refine lv_sipush (v := 4096) hx hb dX7_lawful_9 (by decide) ?_
    refine zSi zm_X7_65 hF hB (c_X7_isOutside l D ka kb bq 4096 (by decide)) [] rfl (by decide) [] (fun _ => rfl) rfl rfl ⟨Nat.le_of_ble_eq_true rfl, Nat.le_of_ble_eq_true rfl⟩ rfl hl.1 (Nat.le_of_ble_eq_true rfl) ⟨Nat.le_refl _, Nat.le_refl _⟩ dX7_lawful_12 ?_
    clear hB
    try clear locs
    try clear H
    intro r2 u2 H locs hp hB
    obtain rfl : r2 = bI (!(inI bq 4096)) := hp
    replace hB : zB D A s ([((bd 31), .inr (7, [.ref (bd 0), .ref (bd 1), .ref (na 6), .ref (na 7), .ref (bd 2), .ref (bd 3), .ref (bd 4), .ref (bd 5), .ref (bd 6)])), ((bd 2), .inr (3, [.int lu, .ref (bd 7), .ref (bd 8), .ref (bd 9), .ref (bd 10), .ref (bd 11), .int sz9, .int re9])), ((bd 11), .inl (ka 0, 2, .inl le))]) H locs := hB
    refine lv_if_eq (tgt := 21) hx hb dX7_lawful_15 (by decide) (fun h15 => ?_) (fun h15 => ?_)
    · skip
      replace h15 := (b9_f h15)
      have hK : lwK (nI pg) bq = true := dB_t.mpr ⟨hpg1, dB_t.mpr (by have e6 := dB_t.mp h15; omega)⟩
      refine lv_aload_n hx hb dX7_lawful_21 rfl (lv_at hl 0 rfl) ?_
      refine zget zf_X7_33 hF hB 0 rfl rfl dX7_lawful_22 ?_
      refine lv_iload_n hx hb dX7_lawful_25 rfl (lv_at hl 1 rfl) ?_
      refine zVi zm_X7_153 hF hB (c_X3_lawfulBits l D ka kb bd lu sz9 re9 le pg (hpg2)) [1, 2] rfl (by decide) [(bd 2), (bd 11)] (fun _ => rfl) rfl 1 3 rfl rfl rfl ⟨Nat.le_of_ble_eq_true rfl, Nat.le_of_ble_eq_true rfl⟩ rfl hl.1 (Nat.le_of_ble_eq_true rfl) ⟨Nat.le_refl _, Nat.le_refl _⟩ dX7_lawful_26 ?_
      clear hB
      try clear locs
      try clear H
      intro r3 u3 H locs hp hB
      obtain rfl : r3 = le pg := hp
      replace hB : zB D A s ([((bd 31), .inr (7, [.ref (bd 0), .ref (bd 1), .ref (na 6), .ref (na 7), .ref (bd 2), .ref (bd 3), .ref (bd 4), .ref (bd 5), .ref (bd 6)])), ((bd 2), .inr (3, [.int lu, .ref (bd 7), .ref (bd 8), .ref (bd 9), .ref (bd 10), .ref (bd 11), .int sz9, .int re9])), ((bd 11), .inl (ka 0, 2, .inl le))]) H locs := hB
      refine lv_istore_n (lv' := [(3, .int (le pg)), (0, .ref (bd 31)), (1, .int (nI pg)), (2, .int bq)]) hx hb dX7_lawful_29 rfl hl (by decide) rfl ?_
      clear hl
      clear ls
      intro ls hl
      refine lv_aload_n hx hb dX7_lawful_30 rfl (lv_at hl 1 rfl) ?_
      refine zget zf_X7_33 hF hB 0 rfl rfl dX7_lawful_31 ?_
      refine lv_iload_n hx hb dX7_lawful_34 rfl (lv_at hl 2 rfl) ?_
      refine lv_iload_n hx hb dX7_lawful_35 rfl (lv_at hl 3 rfl) ?_
      refine zVv zm_X7_156 hF hB (c_X3_tellLawful l D ka kb bd lu sz9 re9 le pg bq (hpg2)) [1, 2] rfl (by decide) [(bd 2), (bd 11)] (fun _ => rfl) rfl 1 3 rfl rfl rfl ⟨Nat.le_of_ble_eq_true rfl, Nat.le_of_ble_eq_true rfl⟩ rfl hl.1 (Nat.le_of_ble_eq_true rfl) ⟨Nat.le_refl _, Nat.le_refl _⟩ dX7_lawful_36 ?_
      clear hB
      try clear locs
      try clear H
      intro u4 H locs hp hB
      replace hB : zB D A s ([((bd 31), .inr (7, [.ref (bd 0), .ref (bd 1), .ref (na 6), .ref (na 7), .ref (bd 2), .ref (bd 3), .ref (bd 4), .ref (bd 5), .ref (bd 6)])), ((bd 2), .inr (3, [.int lu, .ref (bd 7), .ref (bd 8), .ref (bd 9), .ref (bd 10), .ref (bd 11), .int sz9, .int re9])), ((bd 11), .inl (ka 0, 2, .inl (upd le pg bq)))]) H locs := hB
      refine lv_iload_n hx hb dX7_lawful_39 rfl (lv_at hl 0 rfl) ?_
      exact zreti hF hB () (by rw [if_pos hK, rpg]) (by rw [hK, rpg] <;> rfl) (rfl) dX7_lawful_40 hQ
    · skip
      replace h15 := (b9_t h15)
      refine lv_bipush (v := -2) hx hb dX7_lawful_18 (by decide) ?_
      have hK : lwK (nI pg) bq = false := dB_f.mpr (fun e8 => by have e7 := dB_t.mp e8.2; have e6 := dB_f.mp h15; omega)
      exact zreti hF hB () (by rw [if_neg (by rw [hK]; decide)]) (by rw [hK] <;> rfl) (rfl) dX7_lawful_20 hQ

set_option maxHeartbeats 4000000 in
set_option maxRecDepth 100000 in
theorem c_X7_limit (l : Launch) (D : va_G) (ka : Nat → ClassId) (kb : Nat → Nat) (bd : Nat → Nat) (na : Nat → Nat) (lu : Int32) (sz9 : Int32) (re9 : Int32) (v : Int32)  : zI l D ka kb yX7_limit cX7_limit 3 .int 1 21 [.ref (bd 31), .int v] ([((bd 31), .inr (7, [.ref (bd 0), .ref (bd 1), .ref (na 6), .ref (na 7), .ref (bd 2), .ref (bd 3), .ref (bd 4), .ref (bd 5), .ref (bd 6)])), ((bd 2), .inr (3, [.int lu, .ref (bd 7), .ref (bd 8), .ref (bd 9), .ref (bd 10), .ref (bd 11), .int sz9, .int re9]))]) (fun (r : Int32) (_ : Unit) => r = if inR v 0 99 = true then re9 else -2) (fun (_ : Unit) => [((bd 31), .inr (7, [.ref (bd 0), .ref (bd 1), .ref (na 6), .ref (na 7), .ref (bd 2), .ref (bd 3), .ref (bd 4), .ref (bd 5), .ref (bd 6)])), ((bd 2), .inr (3, [.int lu, .ref (bd 7), .ref (bd 8), .ref (bd 9), .ref (bd 10), .ref (bd 11), .int sz9, .int (if inR v 0 99 = true then v else re9)]))]) := by
  refine zI.mk RX7 (by decide +kernel) rfl (Nat.le_of_ble_eq_true rfl) ?_
  intro p e s m below meth c A ls args Q hQ hx hb hF hB hl
  replace hl : lv_has ls 3 [(0, .ref (bd 31)), (1, .int v)] := hl
  refine lv_iload_n hx hb dX7_limit_0 rfl (lv_at hl 1 rfl) ?_
  refine lv_bipush (v := 100) hx hb dX7_limit_1 (by decide) ?_
  refine zSi zm_X7_65 hF hB (c_X7_isOutside l D ka kb v 100 (by decide)) [] rfl (by decide) [] (fun _ => rfl) rfl rfl ⟨Nat.le_of_ble_eq_true rfl, Nat.le_of_ble_eq_true rfl⟩ rfl hl.1 (Nat.le_of_ble_eq_true rfl) ⟨Nat.le_refl _, Nat.le_refl _⟩ dX7_limit_3 ?_
  clear hB
  try clear locs
  try clear H
  intro r1 u1 H locs hp hB
  obtain rfl : r1 = bI (!(inI v 100)) := hp
  replace hB : zB D A s ([((bd 31), .inr (7, [.ref (bd 0), .ref (bd 1), .ref (na 6), .ref (na 7), .ref (bd 2), .ref (bd 3), .ref (bd 4), .ref (bd 5), .ref (bd 6)])), ((bd 2), .inr (3, [.int lu, .ref (bd 7), .ref (bd 8), .ref (bd 9), .ref (bd 10), .ref (bd 11), .int sz9, .int re9]))]) H locs := hB
  refine lv_if_eq (tgt := 12) hx hb dX7_limit_6 (by decide) (fun h6 => ?_) (fun h6 => ?_)
  · skip
    replace h6 := (b9_f h6)
    have hK : inR v 0 99 = true := dB_t.mpr (by have e6 := dB_t.mp h6; omega)
    refine lv_aload_n hx hb dX7_limit_12 rfl (lv_at hl 0 rfl) ?_
    refine zget zf_X7_33 hF hB 0 rfl rfl dX7_limit_13 ?_
    refine zVi zm_X7_172 hF hB (c_X3_reach l D ka kb bd lu sz9 re9 ) [1] rfl (by decide) [(bd 2)] (fun _ => rfl) rfl 1 3 rfl rfl rfl ⟨Nat.le_of_ble_eq_true rfl, Nat.le_of_ble_eq_true rfl⟩ rfl hl.1 (Nat.le_of_ble_eq_true rfl) ⟨Nat.le_refl _, Nat.le_refl _⟩ dX7_limit_16 ?_
    clear hB
    try clear locs
    try clear H
    intro r2 u2 H locs hp hB
    have e9 : re9 = r2 := hp.symm
    subst e9
    replace hB : zB D A s ([((bd 31), .inr (7, [.ref (bd 0), .ref (bd 1), .ref (na 6), .ref (na 7), .ref (bd 2), .ref (bd 3), .ref (bd 4), .ref (bd 5), .ref (bd 6)])), ((bd 2), .inr (3, [.int lu, .ref (bd 7), .ref (bd 8), .ref (bd 9), .ref (bd 10), .ref (bd 11), .int sz9, .int re9]))]) H locs := hB
    refine lv_istore_n (lv' := [(2, .int re9), (0, .ref (bd 31)), (1, .int v)]) hx hb dX7_limit_19 rfl hl (by decide) rfl ?_
    clear hl
    clear ls
    intro ls hl
    refine lv_aload_n hx hb dX7_limit_20 rfl (lv_at hl 1 rfl) ?_
    refine zget zf_X7_33 hF hB 0 rfl rfl dX7_limit_21 ?_
    refine lv_iload_n hx hb dX7_limit_24 rfl (lv_at hl 2 rfl) ?_
    refine zVv zm_X7_175 hF hB (c_X3_tellReach l D ka kb bd lu sz9 re9 v ) [1] rfl (by decide) [(bd 2)] (fun _ => rfl) rfl 1 3 rfl rfl rfl ⟨Nat.le_of_ble_eq_true rfl, Nat.le_of_ble_eq_true rfl⟩ rfl hl.1 (Nat.le_of_ble_eq_true rfl) ⟨Nat.le_refl _, Nat.le_refl _⟩ dX7_limit_25 ?_
    clear hB
    try clear locs
    try clear H
    intro u3 H locs hp hB
    replace hB : zB D A s ([((bd 31), .inr (7, [.ref (bd 0), .ref (bd 1), .ref (na 6), .ref (na 7), .ref (bd 2), .ref (bd 3), .ref (bd 4), .ref (bd 5), .ref (bd 6)])), ((bd 2), .inr (3, [.int lu, .ref (bd 7), .ref (bd 8), .ref (bd 9), .ref (bd 10), .ref (bd 11), .int sz9, .int v]))]) H locs := hB
    refine lv_iload_n hx hb dX7_limit_28 rfl (lv_at hl 0 rfl) ?_
    exact zreti hF hB () (by rw [if_pos hK]) (by rw [hK] <;> rfl) (rfl) dX7_limit_29 hQ
  · skip
    replace h6 := (b9_t h6)
    have hK : inR v 0 99 = false := dB_f.mpr (fun e7 => dB_f.mp h6 (by omega))
    refine lv_bipush (v := -2) hx hb dX7_limit_9 (by decide) ?_
    exact zreti hF hB () (by rw [if_neg (by rw [hK]; decide)]) (by rw [hK] <;> rfl) (rfl) dX7_limit_11 hQ

