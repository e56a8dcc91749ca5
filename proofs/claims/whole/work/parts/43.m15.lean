/-- the first n of f, then those of g -/
def cpN (n : Nat) (f g : Nat → Int32) (j : Nat) : Int32 := if j < n then f j else g j
theorem cpN_0 (f g : Nat → Int32) : cpN 0 f g = g := rfl
theorem cpN_s (n : Nat) (f g : Nat → Int32) : upd (cpN n f g) n (f n) = cpN (n + 1) f g := by
  funext j
  show (if j = n then f n else if j < n then f j else g j) = if j < n + 1 then f j else g j
  by_cases e : j = n
  · rw [if_pos e, if_pos (by omega), e]
  · rw [if_neg e]
    by_cases e2 : j < n
    · rw [if_pos e2, if_pos (by omega)]
    · rw [if_neg e2, if_neg (by omega)]
noncomputable def lkB (P : Nat → Int) (li : Int) (bm : Int32) (b0 b1 : Int) : Bool := dB (quB P li = true ∧ (bm = -1 ∨ sgI (sqI P 0 - b0) (sqI P 1 - b1) < 0))
theorem lkB_f1 {P : Nat → Int} {li : Int} {bm : Int32} {b0 b1 : Int} (h : quB P li = false) : lkB P li bm b0 b1 = false := dB_f.mpr (fun e => by rw [h] at e; exact absurd e.1 (by decide))
theorem lkB_f2 {P : Nat → Int} {li : Int} {bm : Int32} {b0 b1 : Int} (h : ¬ bm = -1) (h2 : 0 ≤ sgI (sqI P 0 - b0) (sqI P 1 - b1)) : lkB P li bm b0 b1 = false := dB_f.mpr (fun e => e.2.elim h (fun e2 => Int32.not_le.mpr e2 h2))
theorem lkB_t {P : Nat → Int} {li : Int} {bm : Int32} {b0 b1 : Int} (h : quB P li = true) (h2 : bm = -1 ∨ sgI (sqI P 0 - b0) (sqI P 1 - b1) < 0) : lkB P li bm b0 b1 = true := dB_t.mpr ⟨h, h2⟩
theorem sm_bb {P : Nat → Int} (h : bdP P) {b0 b1 : Int} (hb : (0 ≤ b0 ∧ b0 ≤ 1270000000) ∧ (-730000000 ≤ b1 ∧ b1 ≤ 730000000)) : smA (sqI P 0 - b0) (sqI P 1 - b1) := by
  have h1 := sq_bd h
  unfold smA
  omega
set_option maxHeartbeats 4000000 in
set_option maxRecDepth 100000 in
theorem c_X8_looksAt (l : Launch) (D : va_G) (ka : Nat → ClassId) (kb : Nat → Nat) (q : Nat) (ad : Nat → Nat) (o : Bool) (z : mZ) (pu : Nat → Int64) (P : Nat → Int) (n : Nat) (b0 : Int) (b1 : Int) (sa : Nat → Int32) (ss : Nat → Int32) (ba : Nat → Int32) (bz : Nat → Int32) (hP : ∀ k, k < 4 → pu k = Int64.ofInt (P k)) (hbd : bdP P) (hli : 0 ≤ z.2.2.2.1.toInt ∧ z.2.2.2.1.toInt ≤ 99) (hbs : z.2.2.2.2.2.2.1 = Int64.ofInt b0) (hbr : z.2.2.2.2.2.2.2 = Int64.ofInt b1) (hb01 : (0 ≤ b0 ∧ b0 ≤ 1270000000) ∧ (-730000000 ≤ b1 ∧ b1 ≤ 730000000)) (hn : n ≤ 4) : zV l D ka kb yX8_looksAt cX8_looksAt 8 4 97 [.ref q, .int (nI n)] ([(q, .inr (8, mO ad o z)), ((ad 9), .inl (ka 1, 4, .inr (.inl pu))), ((ad 14), .inl (ka 0, 4, .inl sa)), ((ad 15), .inl (ka 0, 4, .inl ss)), ((ad 16), .inl (ka 0, 4, .inl ba)), ((ad 17), .inl (ka 0, 4, .inl bz))]) (fun (_ : Unit) => True) (fun (_ : Unit) => [(q, .inr (8, mX ad (bI o) z.1 z.2.1 z.2.2.1 z.2.2.2.1 z.2.2.2.2.1 (if lkB P z.2.2.2.1.toInt z.2.2.2.2.2.1 b0 b1 = true then nI n else z.2.2.2.2.2.1) (if lkB P z.2.2.2.1.toInt z.2.2.2.2.2.1 b0 b1 = true then Int64.ofInt (sqI P 0) else z.2.2.2.2.2.2.1) (if lkB P z.2.2.2.1.toInt z.2.2.2.2.2.1 b0 b1 = true then Int64.ofInt (sqI P 1) else z.2.2.2.2.2.2.2))), ((ad 9), .inl (ka 1, 4, .inr (.inl pu))), ((ad 14), .inl (ka 0, 4, .inl sa)), ((ad 15), .inl (ka 0, 4, .inl ss)), ((ad 16), .inl (ka 0, 4, .inl (if lkB P z.2.2.2.1.toInt z.2.2.2.2.2.1 b0 b1 = true then cpN n sa ba else ba))), ((ad 17), .inl (ka 0, 4, .inl (if lkB P z.2.2.2.1.toInt z.2.2.2.2.2.1 b0 b1 = true then cpN n ss bz else bz)))]) := by
  refine zV.mk RX8 (by decide +kernel) rfl (Nat.le_of_ble_eq_true rfl) ?_
  intro p e s m below meth c A ls args Q hQ hx hb hF hB hl
  replace hl : lv_has ls 8 [(0, .ref q), (1, .int (nI n))] := hl
  have hs0 : sqV (pu 0) (pu 1) (pu 2) (pu 3) 0 = Int64.ofInt (sqI P 0) := by rw [hP 0 (by decide), hP 1 (by decide), hP 2 (by decide), hP 3 (by decide)]; exact sqV_I 0
  have hs1 : sqV (pu 0) (pu 1) (pu 2) (pu 3) 1 = Int64.ofInt (sqI P 1) := by rw [hP 0 (by decide), hP 1 (by decide), hP 2 (by decide), hP 3 (by decide)]; exact sqV_I 1
  have hsm := sm_bb hbd hb01
  refine lv_aload_n hx hb dX8_looksAt_0 rfl (lv_at hl 0 rfl) ?_
  refine zVi zm_X8_248 hF hB (c_X8_isQuiet l D ka kb q ad o z pu P (hP) (hbd) (hli)) [0, 1] rfl (by decide) [q, (ad 9)] (fun _ => rfl) rfl 0 8 rfl rfl rfl ⟨Nat.le_of_ble_eq_true rfl, Nat.le_of_ble_eq_true rfl⟩ rfl hl.1 (Nat.le_of_ble_eq_true rfl) ⟨Nat.le_refl _, Nat.le_refl _⟩ dX8_looksAt_1 ?_
  clear hB
  try clear locs
  try clear H
  intro r1 u1 H locs hp hB
  obtain rfl : r1 = bI (quB P z.2.2.2.1.toInt) := hp
  replace hB : zB D A s ([(q, .inr (8, mO ad o z)), ((ad 9), .inl (ka 1, 4, .inr (.inl pu))), ((ad 14), .inl (ka 0, 4, .inl sa)), ((ad 15), .inl (ka 0, 4, .inl ss)), ((ad 16), .inl (ka 0, 4, .inl ba)), ((ad 17), .inl (ka 0, 4, .inl bz))]) H locs := hB
  refine lv_istore_n (lv' := [(2, .int (bI (quB P z.2.2.2.1.toInt))), (0, .ref q), (1, .int (nI n))]) hx hb dX8_looksAt_4 rfl hl (by decide) rfl ?_
  clear hl
  clear ls
  intro ls hl
  refine lv_aload_n hx hb dX8_looksAt_5 rfl (lv_at hl 1 rfl) ?_
  refine lv_iconst (v := 0) hx hb dX8_looksAt_6 (by decide) ?_
  refine zVl zm_X8_203 hF hB (c_X8_squareOf l D ka kb q ad o z pu 0 (by decide)) [0, 1] rfl (by decide) [q, (ad 9)] (fun _ => rfl) rfl 0 8 rfl rfl rfl ⟨Nat.le_of_ble_eq_true rfl, Nat.le_of_ble_eq_true rfl⟩ rfl hl.1 (Nat.le_of_ble_eq_true rfl) ⟨Nat.le_refl _, Nat.le_refl _⟩ dX8_looksAt_7 ?_
  clear hB
  try clear locs
  try clear H
  intro r2 u2 H locs hp hB
  obtain rfl : r2 = sqV (pu 0) (pu 1) (pu 2) (pu 3) 0 := hp
  replace hB : zB D A s ([(q, .inr (8, mO ad o z)), ((ad 9), .inl (ka 1, 4, .inr (.inl pu))), ((ad 14), .inl (ka 0, 4, .inl sa)), ((ad 15), .inl (ka 0, 4, .inl ss)), ((ad 16), .inl (ka 0, 4, .inl ba)), ((ad 17), .inl (ka 0, 4, .inl bz))]) H locs := hB
  refine ztopl (y := Int64.ofInt (sqI P 0)) (hs0) ?_
  refine lv_lstore_n (lv' := [(3, .long (Int64.ofInt (sqI P 0))), (2, .int (bI (quB P z.2.2.2.1.toInt))), (0, .ref q), (1, .int (nI n))]) hx hb dX8_looksAt_10 rfl hl (by decide) rfl ?_
  clear hl
  clear ls
  intro ls hl
  refine lv_aload_n hx hb dX8_looksAt_11 rfl (lv_at hl 2 rfl) ?_
  refine lv_iconst (v := 1) hx hb dX8_looksAt_12 (by decide) ?_
  refine zVl zm_X8_203 hF hB (c_X8_squareOf l D ka kb q ad o z pu 1 (by decide)) [0, 1] rfl (by decide) [q, (ad 9)] (fun _ => rfl) rfl 0 8 rfl rfl rfl ⟨Nat.le_of_ble_eq_true rfl, Nat.le_of_ble_eq_true rfl⟩ rfl hl.1 (Nat.le_of_ble_eq_true rfl) ⟨Nat.le_refl _, Nat.le_refl _⟩ dX8_looksAt_13 ?_
  clear hB
  try clear locs
  try clear H
  intro r3 u3 H locs hp hB
  obtain rfl : r3 = sqV (pu 0) (pu 1) (pu 2) (pu 3) 1 := hp
  replace hB : zB D A s ([(q, .inr (8, mO ad o z)), ((ad 9), .inl (ka 1, 4, .inr (.inl pu))), ((ad 14), .inl (ka 0, 4, .inl sa)), ((ad 15), .inl (ka 0, 4, .inl ss)), ((ad 16), .inl (ka 0, 4, .inl ba)), ((ad 17), .inl (ka 0, 4, .inl bz))]) H locs := hB
  refine ztopl (y := Int64.ofInt (sqI P 1)) (hs1) ?_
  refine lv_lstore (lv' := [(5, .long (Int64.ofInt (sqI P 1))), (3, .long (Int64.ofInt (sqI P 0))), (2, .int (bI (quB P z.2.2.2.1.toInt))), (0, .ref q), (1, .int (nI n))]) hx hb dX8_looksAt_16 hl (by decide) rfl ?_
  clear hl
  clear ls
  intro ls hl
  refine lv_iload_n hx hb dX8_looksAt_18 rfl (lv_at hl 2 rfl) ?_
  refine lv_if_eq (tgt := 109) hx hb dX8_looksAt_19 (by decide) (fun h19 => ?_) (fun h19 => ?_)
  · skip
    have hq9 := bI_eq0 h19
    have hk9 : lkB P z.2.2.2.1.toInt z.2.2.2.2.2.1 b0 b1 = false := lkB_f1 hq9
    exact zretv hF hB () (trivial) (by rw [hk9] <;> rfl) dX8_looksAt_109 hQ
  · skip
    have hq9 := bI_ne0 h19
    refine lv_aload_n hx hb dX8_looksAt_22 rfl (lv_at hl 3 rfl) ?_
    refine zget zf_X8_279 hF hB 0 rfl rfl dX8_looksAt_23 ?_
    refine lv_iconst (v := -1) hx hb dX8_looksAt_26 (by decide) ?_
    refine lv_icmp_eq (tgt := 50) hx hb dX8_looksAt_27 (by decide) (fun h27 => ?_) (fun h27 => ?_)
    · skip
      have hk9 : lkB P z.2.2.2.1.toInt z.2.2.2.2.2.1 b0 b1 = true := lkB_t hq9 (Or.inl h27)
      refine lv_aload_n hx hb dX8_looksAt_50 rfl (lv_at hl 3 rfl) ?_
      refine lv_iload_n hx hb dX8_looksAt_51 rfl (lv_at hl 4 rfl) ?_
      refine zput_f zp_X8_279 hF hB 0 rfl (rfl) (rfl) (Nat.le_of_ble_eq_true rfl) dX8_looksAt_52 ?_
      clear hB
      try clear locs
      try clear H
      intro H locs hB
      replace hB : zB D A s ([(q, .inr (8, mX ad (bI o) z.1 z.2.1 z.2.2.1 z.2.2.2.1 z.2.2.2.2.1 (nI n) z.2.2.2.2.2.2.1 z.2.2.2.2.2.2.2)), ((ad 9), .inl (ka 1, 4, .inr (.inl pu))), ((ad 14), .inl (ka 0, 4, .inl sa)), ((ad 15), .inl (ka 0, 4, .inl ss)), ((ad 16), .inl (ka 0, 4, .inl ba)), ((ad 17), .inl (ka 0, 4, .inl bz))]) H locs := hB
      refine lv_aload_n hx hb dX8_looksAt_55 rfl (lv_at hl 3 rfl) ?_
      refine lv_lload_n hx hb dX8_looksAt_56 rfl (lv_at hl 1 rfl) ?_
      refine zput_f zp_X8_282 hF hB 0 rfl (rfl) (rfl) (Nat.le_of_ble_eq_true rfl) dX8_looksAt_57 ?_
      clear hB
      try clear locs
      try clear H
      intro H locs hB
      replace hB : zB D A s ([(q, .inr (8, mX ad (bI o) z.1 z.2.1 z.2.2.1 z.2.2.2.1 z.2.2.2.2.1 (nI n) (Int64.ofInt (sqI P 0)) z.2.2.2.2.2.2.2)), ((ad 9), .inl (ka 1, 4, .inr (.inl pu))), ((ad 14), .inl (ka 0, 4, .inl sa)), ((ad 15), .inl (ka 0, 4, .inl ss)), ((ad 16), .inl (ka 0, 4, .inl ba)), ((ad 17), .inl (ka 0, 4, .inl bz))]) H locs := hB
      refine lv_aload_n hx hb dX8_looksAt_60 rfl (lv_at hl 3 rfl) ?_
      refine lv_lload hx hb dX8_looksAt_61 (lv_at hl 0 rfl) ?_
      refine zput_f zp_X8_286 hF hB 0 rfl (rfl) (rfl) (Nat.le_of_ble_eq_true rfl) dX8_looksAt_63 ?_
      clear hB
      try clear locs
      try clear H
      intro H locs hB
      replace hB : zB D A s ([(q, .inr (8, mX ad (bI o) z.1 z.2.1 z.2.2.1 z.2.2.2.1 z.2.2.2.2.1 (nI n) (Int64.ofInt (sqI P 0)) (Int64.ofInt (sqI P 1)))), ((ad 9), .inl (ka 1, 4, .inr (.inl pu))), ((ad 14), .inl (ka 0, 4, .inl sa)), ((ad 15), .inl (ka 0, 4, .inl ss)), ((ad 16), .inl (ka 0, 4, .inl ba)), ((ad 17), .inl (ka 0, 4, .inl bz))]) H locs := hB
      refine lv_iconst (v := 0) hx hb dX8_looksAt_66 (by decide) ?_
      refine lv_istore (lv' := [(7, .int (0 : Int32)), (5, .long (Int64.ofInt (sqI P 1))), (3, .long (Int64.ofInt (sqI P 0))), (2, .int (bI (quB P z.2.2.2.1.toInt))), (0, .ref q), (1, .int (nI n))]) hx hb dX8_looksAt_67 hl (by decide) rfl ?_
      clear hl
      clear ls
      intro ls hl
      have lp69 : ∀ (fl : Nat) (i : Nat), (hi : i ≤ n) → n - i < fl → ∀ (H : Heap) (locs : List Loc), zB D A s ([(q, .inr (8, mX ad (bI o) z.1 z.2.1 z.2.2.1 z.2.2.2.1 z.2.2.2.2.1 (nI n) (Int64.ofInt (sqI P 0)) (Int64.ofInt (sqI P 1)))), ((ad 9), .inl (ka 1, 4, .inr (.inl pu))), ((ad 14), .inl (ka 0, 4, .inl sa)), ((ad 15), .inl (ka 0, 4, .inl ss)), ((ad 16), .inl (ka 0, 4, .inl (cpN i sa ba))), ((ad 17), .inl (ka 0, 4, .inl (cpN i ss bz)))]) H locs → ∀ ls : Array Slot, lv_has ls 8 [(7, .int (nI i)), (0, .ref q), (1, .int (nI n))] → W p l e (zRm 4 97 0 0) s m args below meth c H locs 0 0 Q (F0 m 69 ls []) := by
        intro fl
        induction fl with
        | zero => intro i hi hfl; exact absurd hfl (Nat.not_lt_zero _)
        | succ fl ih69 =>
          intro i hi hfl69 H locs hB ls hl
          refine lv_iload hx hb dX8_looksAt_69 (lv_at hl 0 rfl) ?_
          refine lv_iload_n hx hb dX8_looksAt_71 rfl (lv_at hl 2 rfl) ?_
          refine lv_icmp_ge (tgt := 109) hx hb dX8_looksAt_72 (by decide) (fun h72 => ?_) (fun h72 => ?_)
          · skip
            have hi2 : i = n := by have := (nI_leI (by omega) (by omega)).mp h72; omega
            subst hi2
            exact zretv hF hB () (trivial) (by rw [hk9] <;> rfl) dX8_looksAt_109 hQ
          · skip
            have hi2 : i < n := Nat.not_le.mp (fun e9 => h72 ((nI_leI (by omega) (by omega)).mpr e9))
            refine lv_aload_n hx hb dX8_looksAt_75 rfl (lv_at hl 1 rfl) ?_
            refine zget zf_X8_59 hF hB 0 rfl rfl dX8_looksAt_76 ?_
            refine lv_iload hx hb dX8_looksAt_79 (lv_at hl 0 rfl) ?_
            refine lv_aload_n hx hb dX8_looksAt_81 rfl (lv_at hl 1 rfl) ?_
            refine zget zf_X8_53 hF hB 0 rfl rfl dX8_looksAt_82 ?_
            refine lv_iload hx hb dX8_looksAt_85 (lv_at hl 0 rfl) ?_
            refine ziald hF hB 2 rfl i (rfl) (by omega) (by decide) (v := (sa i)) (rfl) dX8_looksAt_87 ?_
            refine ziast hF hB 4 rfl i (rfl) (by omega) (by decide) dX8_looksAt_88 ?_
            clear hB
            try clear locs
            try clear H
            intro H locs hB
            replace hB : zB D A s ([(q, .inr (8, mX ad (bI o) z.1 z.2.1 z.2.2.1 z.2.2.2.1 z.2.2.2.2.1 (nI n) (Int64.ofInt (sqI P 0)) (Int64.ofInt (sqI P 1)))), ((ad 9), .inl (ka 1, 4, .inr (.inl pu))), ((ad 14), .inl (ka 0, 4, .inl sa)), ((ad 15), .inl (ka 0, 4, .inl ss)), ((ad 16), .inl (ka 0, 4, .inl (cpN (i + 1) sa ba))), ((ad 17), .inl (ka 0, 4, .inl (cpN i ss bz)))]) H locs := (by have e9 := hB; rw [cpN_s _ _ _] at e9; exact e9)
            refine lv_aload_n hx hb dX8_looksAt_89 rfl (lv_at hl 1 rfl) ?_
            refine zget zf_X8_62 hF hB 0 rfl rfl dX8_looksAt_90 ?_
            refine lv_iload hx hb dX8_looksAt_93 (lv_at hl 0 rfl) ?_
            refine lv_aload_n hx hb dX8_looksAt_95 rfl (lv_at hl 1 rfl) ?_
            refine zget zf_X8_56 hF hB 0 rfl rfl dX8_looksAt_96 ?_
            refine lv_iload hx hb dX8_looksAt_99 (lv_at hl 0 rfl) ?_
            refine ziald hF hB 3 rfl i (rfl) (by omega) (by decide) (v := (ss i)) (rfl) dX8_looksAt_101 ?_
            refine ziast hF hB 5 rfl i (rfl) (by omega) (by decide) dX8_looksAt_102 ?_
            clear hB
            try clear locs
            try clear H
            intro H locs hB
            replace hB : zB D A s ([(q, .inr (8, mX ad (bI o) z.1 z.2.1 z.2.2.1 z.2.2.2.1 z.2.2.2.2.1 (nI n) (Int64.ofInt (sqI P 0)) (Int64.ofInt (sqI P 1)))), ((ad 9), .inl (ka 1, 4, .inr (.inl pu))), ((ad 14), .inl (ka 0, 4, .inl sa)), ((ad 15), .inl (ka 0, 4, .inl ss)), ((ad 16), .inl (ka 0, 4, .inl (cpN (i + 1) sa ba))), ((ad 17), .inl (ka 0, 4, .inl (cpN (i + 1) ss bz)))]) H locs := (by have e9 := hB; rw [cpN_s _ _ _] at e9; exact e9)
            refine lv_iinc (v := nI (i + 1)) (lv' := [(7, .int (nI (i + 1))), (0, .ref q), (1, .int (nI n))]) hx hb dX8_looksAt_103 hl (k := 0) rfl (nI_1 _) (by decide) rfl ?_
            clear hl
            clear ls
            intro ls hl
            refine lv_goto (tgt := 69) hx hb dX8_looksAt_106 (by decide) ?_
            exact ih69 (i + 1) (by omega) (by omega) _ _ (hB) _ (lv_sub hl [0, 1, 2] rfl)
      exact lp69 (n - 0 + 1) 0 (Nat.zero_le _) (by omega) _ _ (by rw [cpN_0, cpN_0]; exact hB) _ (lv_sub hl [0, 4, 5] rfl)
    · skip
      refine lv_aload_n hx hb dX8_looksAt_30 rfl (lv_at hl 3 rfl) ?_
      refine lv_lload_n hx hb dX8_looksAt_31 rfl (lv_at hl 1 rfl) ?_
      refine lv_aload_n hx hb dX8_looksAt_32 rfl (lv_at hl 3 rfl) ?_
      refine zget zf_X8_282 hF hB 0 rfl rfl dX8_looksAt_33 ?_
      refine lv_lsub hx hb dX8_looksAt_36 ?_
      refine ztopl (y := Int64.ofInt (sqI P 0 - b0)) (by rw [hbs, ← Int64.ofInt_sub]) ?_
      refine lv_lload hx hb dX8_looksAt_37 (lv_at hl 0 rfl) ?_
      refine lv_aload_n hx hb dX8_looksAt_39 rfl (lv_at hl 3 rfl) ?_
      refine zget zf_X8_286 hF hB 0 rfl rfl dX8_looksAt_40 ?_
      refine lv_lsub hx hb dX8_looksAt_43 ?_
      refine ztopl (y := Int64.ofInt (sqI P 1 - b1)) (by rw [hbr, ← Int64.ofInt_sub]) ?_
      refine zVi zm_X8_185 hF hB (c_X8_sign l D ka kb q ad o z (Int64.ofInt (sqI P 0 - b0)) (Int64.ofInt (sqI P 1 - b1)) ) [0] rfl (by decide) [q] (fun _ => rfl) rfl 0 8 rfl rfl rfl ⟨Nat.le_of_ble_eq_true rfl, Nat.le_of_ble_eq_true rfl⟩ rfl hl.1 (Nat.le_of_ble_eq_true rfl) ⟨Nat.le_refl _, Nat.le_refl _⟩ dX8_looksAt_44 ?_
      clear hB
      try clear locs
      try clear H
      intro r4 u4 H locs hp hB
      obtain rfl : r4 = signV (Int64.ofInt (sqI P 0 - b0)) (Int64.ofInt (sqI P 1 - b1)) := hp
      replace hB : zB D A s ([(q, .inr (8, mO ad (o || (sgN (Int64.ofInt (sqI P 0 - b0)) (Int64.ofInt (sqI P 1 - b1)) && sgSq (Int64.ofInt (sqI P 0 - b0)) (Int64.ofInt (sqI P 1 - b1)))) z)), ((ad 9), .inl (ka 1, 4, .inr (.inl pu))), ((ad 14), .inl (ka 0, 4, .inl sa)), ((ad 15), .inl (ka 0, 4, .inl ss)), ((ad 16), .inl (ka 0, 4, .inl ba)), ((ad 17), .inl (ka 0, 4, .inl bz))]) H locs := hB
      have hz : (o || (sgN (Int64.ofInt (sqI P 0 - b0)) (Int64.ofInt (sqI P 1 - b1)) && sgSq (Int64.ofInt (sqI P 0 - b0)) (Int64.ofInt (sqI P 1 - b1)))) = o := by rw [(sgSq_I hsm).1, Bool.and_false, Bool.or_false]
      rw [hz] at hB
      replace hB : zB D A s ([(q, .inr (8, mO ad o z)), ((ad 9), .inl (ka 1, 4, .inr (.inl pu))), ((ad 14), .inl (ka 0, 4, .inl sa)), ((ad 15), .inl (ka 0, 4, .inl ss)), ((ad 16), .inl (ka 0, 4, .inl ba)), ((ad 17), .inl (ka 0, 4, .inl bz))]) H locs := hB
      refine ztopi (y := sgI (sqI P 0 - b0) (sqI P 1 - b1)) (signV_I hsm) ?_
      refine lv_if_ge (tgt := 109) hx hb dX8_looksAt_47 (by decide) (fun h47 => ?_) (fun h47 => ?_)
      · skip
        have hk9 : lkB P z.2.2.2.1.toInt z.2.2.2.2.2.1 b0 b1 = false := lkB_f2 h27 h47
        exact zretv hF hB () (trivial) (by rw [hk9] <;> rfl) dX8_looksAt_109 hQ
      · skip
        have hk9 : lkB P z.2.2.2.1.toInt z.2.2.2.2.2.1 b0 b1 = true := lkB_t hq9 (Or.inr (Int32.not_le.mp h47))
        refine lv_aload_n hx hb dX8_looksAt_50 rfl (lv_at hl 3 rfl) ?_
        refine lv_iload_n hx hb dX8_looksAt_51 rfl (lv_at hl 4 rfl) ?_
        refine zput_f zp_X8_279 hF hB 0 rfl (rfl) (rfl) (Nat.le_of_ble_eq_true rfl) dX8_looksAt_52 ?_
        clear hB
        try clear locs
        try clear H
        intro H locs hB
        replace hB : zB D A s ([(q, .inr (8, mX ad (bI o) z.1 z.2.1 z.2.2.1 z.2.2.2.1 z.2.2.2.2.1 (nI n) z.2.2.2.2.2.2.1 z.2.2.2.2.2.2.2)), ((ad 9), .inl (ka 1, 4, .inr (.inl pu))), ((ad 14), .inl (ka 0, 4, .inl sa)), ((ad 15), .inl (ka 0, 4, .inl ss)), ((ad 16), .inl (ka 0, 4, .inl ba)), ((ad 17), .inl (ka 0, 4, .inl bz))]) H locs := hB
        refine lv_aload_n hx hb dX8_looksAt_55 rfl (lv_at hl 3 rfl) ?_
        refine lv_lload_n hx hb dX8_looksAt_56 rfl (lv_at hl 1 rfl) ?_
        refine zput_f zp_X8_282 hF hB 0 rfl (rfl) (rfl) (Nat.le_of_ble_eq_true rfl) dX8_looksAt_57 ?_
        clear hB
        try clear locs
        try clear H
        intro H locs hB
        replace hB : zB D A s ([(q, .inr (8, mX ad (bI o) z.1 z.2.1 z.2.2.1 z.2.2.2.1 z.2.2.2.2.1 (nI n) (Int64.ofInt (sqI P 0)) z.2.2.2.2.2.2.2)), ((ad 9), .inl (ka 1, 4, .inr (.inl pu))), ((ad 14), .inl (ka 0, 4, .inl sa)), ((ad 15), .inl (ka 0, 4, .inl ss)), ((ad 16), .inl (ka 0, 4, .inl ba)), ((ad 17), .inl (ka 0, 4, .inl bz))]) H locs := hB
        refine lv_aload_n hx hb dX8_looksAt_60 rfl (lv_at hl 3 rfl) ?_
        refine lv_lload hx hb dX8_looksAt_61 (lv_at hl 0 rfl) ?_
        refine zput_f zp_X8_286 hF hB 0 rfl (rfl) (rfl) (Nat.le_of_ble_eq_true rfl) dX8_looksAt_63 ?_
        clear hB
        try clear locs
        try clear H
        intro H locs hB
        replace hB : zB D A s ([(q, .inr (8, mX ad (bI o) z.1 z.2.1 z.2.2.1 z.2.2.2.1 z.2.2.2.2.1 (nI n) (Int64.ofInt (sqI P 0)) (Int64.ofInt (sqI P 1)))), ((ad 9), .inl (ka 1, 4, .inr (.inl pu))), ((ad 14), .inl (ka 0, 4, .inl sa)), ((ad 15), .inl (ka 0, 4, .inl ss)), ((ad 16), .inl (ka 0, 4, .inl ba)), ((ad 17), .inl (ka 0, 4, .inl bz))]) H locs := hB
        refine lv_iconst (v := 0) hx hb dX8_looksAt_66 (by decide) ?_
        refine lv_istore (lv' := [(7, .int (0 : Int32)), (5, .long (Int64.ofInt (sqI P 1))), (3, .long (Int64.ofInt (sqI P 0))), (2, .int (bI (quB P z.2.2.2.1.toInt))), (0, .ref q), (1, .int (nI n))]) hx hb dX8_looksAt_67 hl (by decide) rfl ?_
        clear hl
        clear ls
        intro ls hl
        have lp69 : ∀ (fl : Nat) (i : Nat), (hi : i ≤ n) → n - i < fl → ∀ (H : Heap) (locs : List Loc), zB D A s ([(q, .inr (8, mX ad (bI o) z.1 z.2.1 z.2.2.1 z.2.2.2.1 z.2.2.2.2.1 (nI n) (Int64.ofInt (sqI P 0)) (Int64.ofInt (sqI P 1)))), ((ad 9), .inl (ka 1, 4, .inr (.inl pu))), ((ad 14), .inl (ka 0, 4, .inl sa)), ((ad 15), .inl (ka 0, 4, .inl ss)), ((ad 16), .inl (ka 0, 4, .inl (cpN i sa ba))), ((ad 17), .inl (ka 0, 4, .inl (cpN i ss bz)))]) H locs → ∀ ls : Array Slot, lv_has ls 8 [(7, .int (nI i)), (0, .ref q), (1, .int (nI n))] → W p l e (zRm 4 97 0 0) s m args below meth c H locs 0 0 Q (F0 m 69 ls []) := by
          intro fl
          induction fl with
          | zero => intro i hi hfl; exact absurd hfl (Nat.not_lt_zero _)
          | succ fl ih69 =>
            intro i hi hfl69 H locs hB ls hl
            refine lv_iload hx hb dX8_looksAt_69 (lv_at hl 0 rfl) ?_
            refine lv_iload_n hx hb dX8_looksAt_71 rfl (lv_at hl 2 rfl) ?_
            refine lv_icmp_ge (tgt := 109) hx hb dX8_looksAt_72 (by decide) (fun h72 => ?_) (fun h72 => ?_)
            · skip
              have hi2 : i = n := by have := (nI_leI (by omega) (by omega)).mp h72; omega
              subst hi2
              exact zretv hF hB () (trivial) (by rw [hk9] <;> rfl) dX8_looksAt_109 hQ
            · skip
              have hi2 : i < n := Nat.not_le.mp (fun e9 => h72 ((nI_leI (by omega) (by omega)).mpr e9))
              refine lv_aload_n hx hb dX8_looksAt_75 rfl (lv_at hl 1 rfl) ?_
              refine zget zf_X8_59 hF hB 0 rfl rfl dX8_looksAt_76 ?_
              refine lv_iload hx hb dX8_looksAt_79 (lv_at hl 0 rfl) ?_
              refine lv_aload_n hx hb dX8_looksAt_81 rfl (lv_at hl 1 rfl) ?_
              refine zget zf_X8_53 hF hB 0 rfl rfl dX8_looksAt_82 ?_
              refine lv_iload hx hb dX8_looksAt_85 (lv_at hl 0 rfl) ?_
              refine ziald hF hB 2 rfl i (rfl) (by omega) (by decide) (v := (sa i)) (rfl) dX8_looksAt_87 ?_
              refine ziast hF hB 4 rfl i (rfl) (by omega) (by decide) dX8_looksAt_88 ?_
              clear hB
              try clear locs
              try clear H
              intro H locs hB
              replace hB : zB D A s ([(q, .inr (8, mX ad (bI o) z.1 z.2.1 z.2.2.1 z.2.2.2.1 z.2.2.2.2.1 (nI n) (Int64.ofInt (sqI P 0)) (Int64.ofInt (sqI P 1)))), ((ad 9), .inl (ka 1, 4, .inr (.inl pu))), ((ad 14), .inl (ka 0, 4, .inl sa)), ((ad 15), .inl (ka 0, 4, .inl ss)), ((ad 16), .inl (ka 0, 4, .inl (cpN (i + 1) sa ba))), ((ad 17), .inl (ka 0, 4, .inl (cpN i ss bz)))]) H locs := (by have e9 := hB; rw [cpN_s _ _ _] at e9; exact e9)
              refine lv_aload_n hx hb dX8_looksAt_89 rfl (lv_at hl 1 rfl) ?_
              refine zget zf_X8_62 hF hB 0 rfl rfl dX8_looksAt_90 ?_
              refine lv_iload hx hb dX8_looksAt_93 (lv_at hl 0 rfl) ?_
              refine lv_aload_n hx hb dX8_looksAt_95 rfl (lv_at hl 1 rfl) ?_
              refine zget zf_X8_56 hF hB 0 rfl rfl dX8_looksAt_96 ?_
              refine lv_iload hx hb dX8_looksAt_99 (lv_at hl 0 rfl) ?_
              refine ziald hF hB 3 rfl i (rfl) (by omega) (by decide) (v := (ss i)) (rfl) dX8_looksAt_101 ?_
              refine ziast hF hB 5 rfl i (rfl) (by omega) (by decide) dX8_looksAt_102 ?_
              clear hB
              try clear locs
              try clear H
              intro H locs hB
              replace hB : zB D A s ([(q, .inr (8, mX ad (bI o) z.1 z.2.1 z.2.2.1 z.2.2.2.1 z.2.2.2.2.1 (nI n) (Int64.ofInt (sqI P 0)) (Int64.ofInt (sqI P 1)))), ((ad 9), .inl (ka 1, 4, .inr (.inl pu))), ((ad 14), .inl (ka 0, 4, .inl sa)), ((ad 15), .inl (ka 0, 4, .inl ss)), ((ad 16), .inl (ka 0, 4, .inl (cpN (i + 1) sa ba))), ((ad 17), .inl (ka 0, 4, .inl (cpN (i + 1) ss bz)))]) H locs := (by have e9 := hB; rw [cpN_s _ _ _] at e9; exact e9)
              refine lv_iinc (v := nI (i + 1)) (lv' := [(7, .int (nI (i + 1))), (0, .ref q), (1, .int (nI n))]) hx hb dX8_looksAt_103 hl (k := 0) rfl (nI_1 _) (by decide) rfl ?_
              clear hl
              clear ls
              intro ls hl
              refine lv_goto (tgt := 69) hx hb dX8_looksAt_106 (by decide) ?_
              exact ih69 (i + 1) (by omega) (by omega) _ _ (hB) _ (lv_sub hl [0, 1, 2] rfl)
        exact lp69 (n - 0 + 1) 0 (Nat.zero_le _) (by omega) _ _ (by rw [cpN_0, cpN_0]; exact hB) _ (lv_sub hl [0, 4, 5] rfl)
