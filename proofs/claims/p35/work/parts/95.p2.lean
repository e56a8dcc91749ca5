theorem lN_nat {n : Nat} (h : n < 2 ^ 63) : (lN n).toInt.natAbs = n := by rw [lN_int h]; rfl
theorem gcd_sum (a b : Nat) : Nat.gcd a b ≤ a + b := by
  by_cases h : a = 0
  · rw [h, Nat.gcd_zero_left]; omega
  · have := Nat.gcd_le_left b (Nat.pos_of_ne_zero h); omega
theorem plV_lt {P : Nat → Int} {k : Nat} (h : k < 5) : plV P k = cmp5 (plN P) k := if_pos h

set_option maxHeartbeats 4000000 in
set_option maxRecDepth 100000 in
theorem c_L_same (l : Launch) (D : va_G) (ka : Nat → ClassId) (kb : Nat → Nat) (bd na : Nat → Nat) (L : Nat) (mo : Nat → Int32) (an : Nat → Int32) (pl : Nat → Int32) (ho : Nat → Int32) (le : Nat → Int32) (sz9 : Int32) (re9 : Int32) (kp : Nat → Bool) (st : Nat → Int32) (N : Nat → N5) (j : JT) (r9 : Nat) (t9 : Nat) (hr9 : r9 < 6) (ht9 : t9 < 6) (hE : N r9 = N t9) :
    zI l D ka kb yL_same cL_same 5 .boolean 2 43 [.ref (bd 31), .int (nI r9), .int (nI t9)] (OW ka bd na (L, mo, an, pl, ho, le, sz9, re9, kp, st, N, j)) (fun (r : Int32) (u : Unit) => r = 1) (fun (u : Unit) => OW ka bd na (L, mo, an, pl, ho, le, sz9, re9, kp, st, N, j)) := by
  refine zI.mk RL (by decide +kernel) rfl (Nat.le_of_ble_eq_true rfl) ?_
  intro p e s m below meth c A ls args Q hQ hx hb hF hB hl
  replace hl : lv_has ls 5 [(0, .ref (bd 31)), (1, .int (nI r9)), (2, .int (nI t9))] := hl
  replace hB : zB D A s ([] ++ OW ka bd na (L, mo, an, pl, ho, le, sz9, re9, kp, st, N, j)) s.heap [] := hB
  refine lv_iconst (v := 1) hx hb dL_same_0 (by decide) ?_
  refine lv_istore_n (lv' := [(3, .int (1 : Int32)), (0, .ref (bd 31)), (1, .int (nI r9)), (2, .int (nI t9))]) hx hb dL_same_1 rfl hl (by decide) rfl ?_
  clear hl
  clear ls
  intro ls hl
  refine lv_iconst (v := 0) hx hb dL_same_2 (by decide) ?_
  refine lv_istore (lv' := [(4, .int (0 : Int32)), (3, .int (1 : Int32)), (0, .ref (bd 31)), (1, .int (nI r9)), (2, .int (nI t9))]) hx hb dL_same_3 hl (by decide) rfl ?_
  clear hl
  clear ls
  intro ls hl
  have lp5 : ∀ (fl : Nat) (k9 : Nat), (hk9 : k9 ≤ 5) → 5 - k9 < fl → ∀ (H : Heap) (locs : List Loc), zB D A s ([] ++ OW ka bd na (L, mo, an, pl, ho, le, sz9, re9, kp, st, N, j)) H locs → ∀ ls : Array Slot, lv_has ls 5 [(4, .int (nI k9)), (3, .int (1 : Int32)), (2, .int (nI t9)), (1, .int (nI r9)), (0, .ref (bd 31))] → W p l e (zRm 2 43 0 0) s m args below meth c H locs 0 0 Q (F0 m 5 ls []) := by
    intro fl
    induction fl with
    | zero => intro k9 hk9 hfl; exact absurd hfl (Nat.not_lt_zero _)
    | succ fl ih5 =>
      intro k9 hk9 hfl5 H locs hB ls hl
      refine lv_iload hx hb dL_same_5 (lv_at hl 0 rfl) ?_
      refine lv_iconst (v := 5) hx hb dL_same_7 (by decide) ?_
      refine lv_icmp_ge (tgt := 45) hx hb dL_same_8 (by decide) (fun h8 => ?_) (fun h8 => ?_)
      · skip
        have hk5 : k9 = 5 := by have := (nI_leI (a := 5) (b := k9) (by decide) (by omega)).mp h8; omega
        refine lv_iload_n hx hb dL_same_45 rfl (lv_at hl 1 rfl) ?_
        exact zreti hF hB () (rfl) (rfl) (rfl) dL_same_46 hQ
      · skip
        have hk5 : k9 < 5 := by have := mt (nI_leI (a := 5) (b := k9) (by decide) (by omega)).mpr h8; omega
        refine lv_iload_n hx hb dL_same_11 rfl (lv_at hl 1 rfl) ?_
        refine lv_if_eq (tgt := 37) hx hb dL_same_12 (by decide) (fun h12 => ?_) (fun h12 => ?_)
        · skip
          exact absurd h12 (by decide)
        · skip
          refine lv_aload_n hx hb dL_same_15 rfl (lv_at hl 4 rfl) ?_
          refine lv_iload_n hx hb dL_same_16 rfl (lv_at hl 3 rfl) ?_
          refine lv_iload hx hb dL_same_17 (lv_at hl 0 rfl) ?_
          refine zWl zm_L_15 hF hB (w_part l D ka kb bd na L mo an pl ho le sz9 re9 kp st N j r9 k9 (hr9) (hk5)) rfl ⟨Nat.le_of_ble_eq_true rfl, Nat.le_of_ble_eq_true rfl⟩ rfl hl.1 (Nat.le_of_ble_eq_true rfl) ⟨Nat.le_refl _, Nat.le_refl _⟩ dL_same_19 ?_
          clear hB
          try clear locs
          try clear H
          intro r101 u101 H locs hp hB
          obtain rfl : r101 = cmp5 (N r9) k9 := hp
          replace hB : zB D A s ([] ++ OW ka bd na (L, mo, an, pl, ho, le, sz9, re9, kp, st, N, j)) H locs := hB
          refine lv_aload_n hx hb dL_same_22 rfl (lv_at hl 4 rfl) ?_
          refine lv_iload_n hx hb dL_same_23 rfl (lv_at hl 2 rfl) ?_
          refine lv_iload hx hb dL_same_24 (lv_at hl 0 rfl) ?_
          refine zWl zm_L_15 hF hB (w_part l D ka kb bd na L mo an pl ho le sz9 re9 kp st N j t9 k9 (ht9) (hk5)) rfl ⟨Nat.le_of_ble_eq_true rfl, Nat.le_of_ble_eq_true rfl⟩ rfl hl.1 (Nat.le_of_ble_eq_true rfl) ⟨Nat.le_refl _, Nat.le_refl _⟩ dL_same_26 ?_
          clear hB
          try clear locs
          try clear H
          intro r102 u102 H locs hp hB
          obtain rfl : r102 = cmp5 (N t9) k9 := hp
          replace hB : zB D A s ([] ++ OW ka bd na (L, mo, an, pl, ho, le, sz9, re9, kp, st, N, j)) H locs := hB
          refine W.lcmp hx hb dL_same_29 ?_
          refine lv_if_ne (tgt := 37) hx hb dL_same_30 (by decide) (fun h30 => ?_) (fun h30 => ?_)
          · skip
            replace h30 := (fun e9 => h30 ((lg_cmp_eq _ _).mpr e9))
            exact (h30 (by rw [hE])).elim
          · skip
            replace h30 := (lg_cmp_eq _ _).mp h30
            refine lv_iconst (v := 1) hx hb dL_same_33 (by decide) ?_
            refine lv_goto (tgt := 38) hx hb dL_same_34 (by decide) ?_
            refine lv_istore_n (lv' := [(3, .int (1 : Int32)), (4, .int (nI k9)), (2, .int (nI t9)), (1, .int (nI r9)), (0, .ref (bd 31))]) hx hb dL_same_38 rfl hl (by decide) rfl ?_
            clear hl
            clear ls
            intro ls hl
            refine lv_iinc (v := nI (k9 + 1)) (lv' := [(4, .int (nI (k9 + 1))), (3, .int (1 : Int32)), (2, .int (nI t9)), (1, .int (nI r9)), (0, .ref (bd 31))]) hx hb dL_same_39 hl (k := 1) rfl (nI_1 _) (by decide) rfl ?_
            clear hl
            clear ls
            intro ls hl
            refine lv_goto (tgt := 5) hx hb dL_same_42 (by decide) ?_
            exact ih5 (k9 + 1) (by omega) (by omega) _ _ (hB) _ (lv_sub hl [0, 1, 2, 3, 4] rfl)
  exact lp5 (5 - 0 + 1) 0 (by decide) (by omega) _ _ (hB) _ (lv_sub hl [0, 1, 4, 3, 2] rfl)

set_option maxHeartbeats 4000000 in
set_option maxRecDepth 100000 in
theorem c_L_like (l : Launch) (D : va_G) (ka : Nat → ClassId) (kb : Nat → Nat) (bd na : Nat → Nat) (L : Nat) (mo : Nat → Int32) (an : Nat → Int32) (pl : Nat → Int32) (ho : Nat → Int32) (le : Nat → Int32) (sz9 : Int32) (re9 : Int32) (kp : Nat → Bool) (st : Nat → Int32) (N : Nat → N5) (j : JT) (r9 : Nat) (p9 : Nat) (hok : okL L mo an pl) (hoh : okH ho) (hr9 : r9 < 6) (hq : p9 < 2) (hB9 : bB (jbb j)) (hE : N r9 = plN (pulI p9 L mo an pl ho)) :
    zI l D ka kb yL_like cL_like 5 .boolean 7 217 [.ref (bd 31), .int (nI r9), .int (nI p9)] (OW ka bd na (L, mo, an, pl, ho, le, sz9, re9, kp, st, N, j)) (fun (r : Int32) (u : (Nat → N5) × JT) => r = 1 ∧ (∀ k9, k9 ≠ 6 → k9 ≠ 7 → u.1 k9 = N k9) ∧ bB (jbb u.2)) (fun (u : (Nat → N5) × JT) => OW ka bd na (L, mo, an, pl, ho, le, sz9, re9, kp, st, u.1, u.2)) := by
  refine zI.mk RL (by decide +kernel) rfl (Nat.le_of_ble_eq_true rfl) ?_
  intro p e s m below meth c A ls args Q hQ hx hb hF hB hl
  replace hl : lv_has ls 5 [(0, .ref (bd 31)), (1, .int (nI r9)), (2, .int (nI p9))] := hl
  replace hB : zB D A s ([] ++ OW ka bd na (L, mo, an, pl, ho, le, sz9, re9, kp, st, N, j)) s.heap [] := hB
  refine lv_iconst (v := 1) hx hb dL_like_0 (by decide) ?_
  refine lv_istore_n (lv' := [(3, .int (1 : Int32)), (0, .ref (bd 31)), (1, .int (nI r9)), (2, .int (nI p9))]) hx hb dL_like_1 rfl hl (by decide) rfl ?_
  clear hl
  clear ls
  intro ls hl
  refine lv_iconst (v := 0) hx hb dL_like_2 (by decide) ?_
  refine lv_istore (lv' := [(4, .int (0 : Int32)), (3, .int (1 : Int32)), (0, .ref (bd 31)), (1, .int (nI r9)), (2, .int (nI p9))]) hx hb dL_like_3 hl (by decide) rfl ?_
  clear hl
  clear ls
  intro ls hl
  have lp5 : ∀ (fl : Nat) (k9 : Nat) (N9 : Nat → N5) (j9 : JT), (hk9 : k9 ≤ 5) → (hNN : ∀ k9, k9 ≠ 6 → k9 ≠ 7 → N9 k9 = N k9) → (hbj : bB (jbb j9)) → 5 - k9 < fl → ∀ (H : Heap) (locs : List Loc), zB D A s ([] ++ OW ka bd na (L, mo, an, pl, ho, le, sz9, re9, kp, st, N9, j9)) H locs → ∀ ls : Array Slot, lv_has ls 5 [(4, .int (nI k9)), (3, .int (1 : Int32)), (2, .int (nI p9)), (1, .int (nI r9)), (0, .ref (bd 31))] → W p l e (zRm 7 217 0 0) s m args below meth c H locs 0 0 Q (F0 m 5 ls []) := by
    intro fl
    induction fl with
    | zero => intro k9 N9 j9 hk9 hNN hbj hfl; exact absurd hfl (Nat.not_lt_zero _)
    | succ fl ih5 =>
      intro k9 N9 j9 hk9 hNN hbj hfl5 H locs hB ls hl
      refine lv_iload hx hb dL_like_5 (lv_at hl 0 rfl) ?_
      refine lv_iconst (v := 5) hx hb dL_like_7 (by decide) ?_
      refine lv_icmp_ge (tgt := 45) hx hb dL_like_8 (by decide) (fun h8 => ?_) (fun h8 => ?_)
      · skip
        have hk5 : k9 = 5 := by have := (nI_leI (a := 5) (b := k9) (by decide) (by omega)).mp h8; omega
        refine lv_iload_n hx hb dL_like_45 rfl (lv_at hl 1 rfl) ?_
        exact zreti hF hB (N9, j9) (⟨rfl, hNN, hbj⟩) (rfl) (rfl) dL_like_46 hQ
      · skip
        have hk5 : k9 < 5 := by have := mt (nI_leI (a := 5) (b := k9) (by decide) (by omega)).mpr h8; omega
        refine lv_iload_n hx hb dL_like_11 rfl (lv_at hl 1 rfl) ?_
        refine lv_if_eq (tgt := 37) hx hb dL_like_12 (by decide) (fun h12 => ?_) (fun h12 => ?_)
        · skip
          exact absurd h12 (by decide)
        · skip
          refine lv_aload_n hx hb dL_like_15 rfl (lv_at hl 4 rfl) ?_
          refine lv_iload_n hx hb dL_like_16 rfl (lv_at hl 3 rfl) ?_
          refine lv_iload hx hb dL_like_17 (lv_at hl 0 rfl) ?_
          refine zWl zm_L_15 hF hB (w_part l D ka kb bd na L mo an pl ho le sz9 re9 kp st N9 j9 r9 k9 (hr9) (hk5)) rfl ⟨Nat.le_of_ble_eq_true rfl, Nat.le_of_ble_eq_true rfl⟩ rfl hl.1 (Nat.le_of_ble_eq_true rfl) ⟨Nat.le_refl _, Nat.le_refl _⟩ dL_like_19 ?_
          clear hB
          try clear locs
          try clear H
          intro r101 u101 H locs hp hB
          obtain rfl : r101 = cmp5 (N9 r9) k9 := hp
          replace hB : zB D A s ([] ++ OW ka bd na (L, mo, an, pl, ho, le, sz9, re9, kp, st, N9, j9)) H locs := hB
          refine lv_aload_n hx hb dL_like_22 rfl (lv_at hl 4 rfl) ?_
          refine lv_iload_n hx hb dL_like_23 rfl (lv_at hl 2 rfl) ?_
          refine lv_iload hx hb dL_like_24 (lv_at hl 0 rfl) ?_
          refine zWl zm_L_23 hF hB (w_pull l D ka kb bd na L mo an pl ho le sz9 re9 kp st N9 j9 p9 k9 (hok) (hoh) (hq) (by omega) (hbj)) rfl ⟨Nat.le_of_ble_eq_true rfl, Nat.le_of_ble_eq_true rfl⟩ rfl hl.1 (Nat.le_of_ble_eq_true rfl) ⟨Nat.le_refl _, Nat.le_refl _⟩ dL_like_26 ?_
          clear hB
          try clear locs
          try clear H
          intro r102 u102 H locs hp hB
          obtain ⟨N_102, j_102⟩ := u102
          have hp102 : r102 = plV (pulI p9 L mo an pl ho) k9 ∧ (∀ k9, k9 ≠ 6 → k9 ≠ 7 → N_102 k9 = N9 k9) ∧ bB (jbb j_102) := hp
          have hr102 := hp102.1
          have hN102 := hp102.2.1
          have hb102 := hp102.2.2
          replace hB : zB D A s ([] ++ OW ka bd na (L, mo, an, pl, ho, le, sz9, re9, kp, st, N_102, j_102)) H locs := hB
          refine W.lcmp hx hb dL_like_29 ?_
          refine lv_if_ne (tgt := 37) hx hb dL_like_30 (by decide) (fun h30 => ?_) (fun h30 => ?_)
          · skip
            replace h30 := (fun e9 => h30 ((lg_cmp_eq _ _).mpr e9))
            exact (h30 (by rw [hr102, plV_lt hk5, hNN r9 (by omega) (by omega), hE])).elim
          · skip
            replace h30 := (lg_cmp_eq _ _).mp h30
            refine lv_iconst (v := 1) hx hb dL_like_33 (by decide) ?_
            refine lv_goto (tgt := 38) hx hb dL_like_34 (by decide) ?_
            refine lv_istore_n (lv' := [(3, .int (1 : Int32)), (4, .int (nI k9)), (2, .int (nI p9)), (1, .int (nI r9)), (0, .ref (bd 31))]) hx hb dL_like_38 rfl hl (by decide) rfl ?_
            clear hl
            clear ls
            intro ls hl
            refine lv_iinc (v := nI (k9 + 1)) (lv' := [(4, .int (nI (k9 + 1))), (3, .int (1 : Int32)), (2, .int (nI p9)), (1, .int (nI r9)), (0, .ref (bd 31))]) hx hb dL_like_39 hl (k := 1) rfl (nI_1 _) (by decide) rfl ?_
            clear hl
            clear ls
            intro ls hl
            refine lv_goto (tgt := 5) hx hb dL_like_42 (by decide) ?_
            exact ih5 (k9 + 1) N_102 j_102 (by omega) (fun i h1 h2 => (hN102 i h1 h2).trans (hNN i h1 h2)) (hb102) (by omega) _ _ (hB) _ (lv_sub hl [0, 1, 2, 3, 4] rfl)
  exact lp5 (5 - 0 + 1) 0 N j (by decide) (fun _ _ _ => rfl) (hB9) (by omega) _ _ (hB) _ (lv_sub hl [0, 1, 4, 3, 2] rfl)

set_option maxHeartbeats 4000000 in
set_option maxRecDepth 100000 in
theorem c_L_is (l : Launch) (D : va_G) (ka : Nat → ClassId) (kb : Nat → Nat) (bd na : Nat → Nat) (L : Nat) (mo : Nat → Int32) (an : Nat → Int32) (pl : Nat → Int32) (ho : Nat → Int32) (le : Nat → Int32) (sz9 : Int32) (re9 : Int32) (kp : Nat → Bool) (st : Nat → Int32) (N : Nat → N5) (j : JT) (r9 : Nat) (a : Int64) (b : Int64) (c9 : Int64) (e9 : Int64) (d : Int64) (hr9 : r9 < 6) (ha8 : -288230376151711744 ≤ a.toInt ∧ a.toInt ≤ 288230376151711744) (hb8 : -288230376151711744 ≤ b.toInt ∧ b.toInt ≤ 288230376151711744) (hc98 : -288230376151711744 ≤ c9.toInt ∧ c9.toInt ≤ 288230376151711744) (he98 : -288230376151711744 ≤ e9.toInt ∧ e9.toInt ≤ 288230376151711744) (hd8 : -288230376151711744 ≤ d.toInt ∧ d.toInt ≤ 288230376151711744) (hd0 : 0 < d.toInt) (hN : N r9 = lowN a b c9 e9 d) :
    zI l D ka kb yL_is cL_is 14 .boolean 2 43 [.ref (bd 31), .int (nI r9), .long a, .long b, .long c9, .long e9, .long d] (OW ka bd na (L, mo, an, pl, ho, le, sz9, re9, kp, st, N, j)) (fun (r : Int32) (u : Unit) => r = 1) (fun (u : Unit) => OW ka bd na (L, mo, an, pl, ho, le, sz9, re9, kp, st, N, j)) := by
  refine zI.mk RL (by decide +kernel) rfl (Nat.le_of_ble_eq_true rfl) ?_
  intro p e s m below meth c A ls args Q hQ hx hb hF hB hl
  replace hl : lv_has ls 14 [(0, .ref (bd 31)), (1, .int (nI r9)), (2, .long a), (4, .long b), (6, .long c9), (8, .long e9), (10, .long d)] := hl
  replace hB : zB D A s ([] ++ OW ka bd na (L, mo, an, pl, ho, le, sz9, re9, kp, st, N, j)) s.heap [] := hB
  have hg := gc_le (a := a) (b := b) (c := c9) (e := e9) (d := d) hd0
  have hg2 : gc a b c9 e9 d < 2 ^ 63 := by omega
  have g1 := gcd_sum a.toInt.natAbs b.toInt.natAbs
  have g2 := gcd_sum c9.toInt.natAbs e9.toInt.natAbs
  have g3 := gcd_sum (Nat.gcd a.toInt.natAbs b.toInt.natAbs) (Nat.gcd c9.toInt.natAbs e9.toInt.natAbs)
  refine lv_lload_n hx hb dL_is_0 rfl (lv_at hl 2 rfl) ?_
  refine lv_lload hx hb dL_is_1 (lv_at hl 3 rfl) ?_
  refine zSl zm_L_9 hF hB (c_L_divisor l D ka kb a b (by omega) (by omega)) [] rfl (by decide) [] (fun _ => rfl) rfl rfl ⟨Nat.le_of_ble_eq_true rfl, Nat.le_of_ble_eq_true rfl⟩ rfl hl.1 (Nat.le_of_ble_eq_true rfl) ⟨Nat.le_refl _, Nat.le_refl _⟩ dL_is_3 ?_
  clear hB
  try clear locs
  try clear H
  intro r101 u101 H locs hp hB
  obtain rfl : r101 = lN (Nat.gcd a.toInt.natAbs b.toInt.natAbs) := hp
  replace hB : zB D A s ([] ++ OW ka bd na (L, mo, an, pl, ho, le, sz9, re9, kp, st, N, j)) H locs := hB
  refine lv_lload hx hb dL_is_6 (lv_at hl 4 rfl) ?_
  refine lv_lload hx hb dL_is_8 (lv_at hl 5 rfl) ?_
  refine zSl zm_L_9 hF hB (c_L_divisor l D ka kb c9 e9 (by omega) (by omega)) [] rfl (by decide) [] (fun _ => rfl) rfl rfl ⟨Nat.le_of_ble_eq_true rfl, Nat.le_of_ble_eq_true rfl⟩ rfl hl.1 (Nat.le_of_ble_eq_true rfl) ⟨Nat.le_refl _, Nat.le_refl _⟩ dL_is_10 ?_
  clear hB
  try clear locs
  try clear H
  intro r102 u102 H locs hp hB
  obtain rfl : r102 = lN (Nat.gcd c9.toInt.natAbs e9.toInt.natAbs) := hp
  replace hB : zB D A s ([] ++ OW ka bd na (L, mo, an, pl, ho, le, sz9, re9, kp, st, N, j)) H locs := hB
  refine zSl zm_L_9 hF hB (c_L_divisor l D ka kb (lN (Nat.gcd a.toInt.natAbs b.toInt.natAbs)) (lN (Nat.gcd c9.toInt.natAbs e9.toInt.natAbs)) (by rw [lN_int (by omega)]; omega) (by rw [lN_int (by omega)]; omega)) [] rfl (by decide) [] (fun _ => rfl) rfl rfl ⟨Nat.le_of_ble_eq_true rfl, Nat.le_of_ble_eq_true rfl⟩ rfl hl.1 (Nat.le_of_ble_eq_true rfl) ⟨Nat.le_refl _, Nat.le_refl _⟩ dL_is_13 ?_
  clear hB
  try clear locs
  try clear H
  intro r103 u103 H locs hp hB
  obtain rfl : r103 = lN (Nat.gcd (lN (Nat.gcd a.toInt.natAbs b.toInt.natAbs)).toInt.natAbs (lN (Nat.gcd c9.toInt.natAbs e9.toInt.natAbs)).toInt.natAbs) := hp
  replace hB : zB D A s ([] ++ OW ka bd na (L, mo, an, pl, ho, le, sz9, re9, kp, st, N, j)) H locs := hB
  refine ztopl (y := lN (Nat.gcd (Nat.gcd a.toInt.natAbs b.toInt.natAbs) (Nat.gcd c9.toInt.natAbs e9.toInt.natAbs))) (by rw [lN_nat (by omega), lN_nat (by omega)]) ?_
  refine lv_lload hx hb dL_is_16 (lv_at hl 6 rfl) ?_
  refine zSl zm_L_9 hF hB (c_L_divisor l D ka kb (lN (Nat.gcd (Nat.gcd a.toInt.natAbs b.toInt.natAbs) (Nat.gcd c9.toInt.natAbs e9.toInt.natAbs))) d (by rw [lN_int (by omega)]; omega) (by omega)) [] rfl (by decide) [] (fun _ => rfl) rfl rfl ⟨Nat.le_of_ble_eq_true rfl, Nat.le_of_ble_eq_true rfl⟩ rfl hl.1 (Nat.le_of_ble_eq_true rfl) ⟨Nat.le_refl _, Nat.le_refl _⟩ dL_is_18 ?_
  clear hB
  try clear locs
  try clear H
  intro r104 u104 H locs hp hB
  obtain rfl : r104 = lN (Nat.gcd (lN (Nat.gcd (Nat.gcd a.toInt.natAbs b.toInt.natAbs) (Nat.gcd c9.toInt.natAbs e9.toInt.natAbs))).toInt.natAbs d.toInt.natAbs) := hp
  replace hB : zB D A s ([] ++ OW ka bd na (L, mo, an, pl, ho, le, sz9, re9, kp, st, N, j)) H locs := hB
  refine ztopl (y := lN (gc a b c9 e9 d)) (by rw [lN_nat (by omega)]; exact congrArg lN (gc_re _ _ _ _ _)) ?_
  refine lv_lstore (lv' := [(12, .long (lN (gc a b c9 e9 d))), (0, .ref (bd 31)), (1, .int (nI r9)), (2, .long a), (4, .long b), (6, .long c9), (8, .long e9), (10, .long d)]) hx hb dL_is_21 hl (by decide) rfl ?_
  clear hl
  clear ls
  intro ls hl
  refine lv_aload_n hx hb dL_is_23 rfl (lv_at hl 1 rfl) ?_
  refine lv_iload_n hx hb dL_is_24 rfl (lv_at hl 2 rfl) ?_
  refine lv_iconst (v := 0) hx hb dL_is_25 (by decide) ?_
  refine zWl zm_L_15 hF hB (w_part l D ka kb bd na L mo an pl ho le sz9 re9 kp st N j r9 0 (hr9) (by decide)) rfl ⟨Nat.le_of_ble_eq_true rfl, Nat.le_of_ble_eq_true rfl⟩ rfl hl.1 (Nat.le_of_ble_eq_true rfl) ⟨Nat.le_refl _, Nat.le_refl _⟩ dL_is_26 ?_
  clear hB
  try clear locs
  try clear H
  intro r105 u105 H locs hp hB
  obtain rfl : r105 = cmp5 (N r9) 0 := hp
  replace hB : zB D A s ([] ++ OW ka bd na (L, mo, an, pl, ho, le, sz9, re9, kp, st, N, j)) H locs := hB
  refine lv_lload_n hx hb dL_is_29 rfl (lv_at hl 3 rfl) ?_
  refine lv_lload hx hb dL_is_30 (lv_at hl 0 rfl) ?_
  refine lv_ldiv hx hb dL_is_32 (lN_ne0 hg2 hg.1) ?_
  refine W.lcmp hx hb dL_is_33 ?_
  refine lv_if_ne (tgt := 101) hx hb dL_is_34 (by decide) (fun h34 => ?_) (fun h34 => ?_)
  · skip
    replace h34 := (fun e9 => h34 ((lg_cmp_eq _ _).mpr e9))
    exact (h34 (by rw [hN]; rfl)).elim
  · skip
    replace h34 := (lg_cmp_eq _ _).mp h34
    refine lv_aload_n hx hb dL_is_37 rfl (lv_at hl 1 rfl) ?_
    refine lv_iload_n hx hb dL_is_38 rfl (lv_at hl 2 rfl) ?_
    refine lv_iconst (v := 1) hx hb dL_is_39 (by decide) ?_
    refine zWl zm_L_15 hF hB (w_part l D ka kb bd na L mo an pl ho le sz9 re9 kp st N j r9 1 (hr9) (by decide)) rfl ⟨Nat.le_of_ble_eq_true rfl, Nat.le_of_ble_eq_true rfl⟩ rfl hl.1 (Nat.le_of_ble_eq_true rfl) ⟨Nat.le_refl _, Nat.le_refl _⟩ dL_is_40 ?_
    clear hB
    try clear locs
    try clear H
    intro r106 u106 H locs hp hB
    obtain rfl : r106 = cmp5 (N r9) 1 := hp
    replace hB : zB D A s ([] ++ OW ka bd na (L, mo, an, pl, ho, le, sz9, re9, kp, st, N, j)) H locs := hB
    refine lv_lload hx hb dL_is_43 (lv_at hl 4 rfl) ?_
    refine lv_lload hx hb dL_is_45 (lv_at hl 0 rfl) ?_
    refine lv_ldiv hx hb dL_is_47 (lN_ne0 hg2 hg.1) ?_
    refine W.lcmp hx hb dL_is_48 ?_
    refine lv_if_ne (tgt := 101) hx hb dL_is_49 (by decide) (fun h49 => ?_) (fun h49 => ?_)
    · skip
      replace h49 := (fun e9 => h49 ((lg_cmp_eq _ _).mpr e9))
      exact (h49 (by rw [hN]; rfl)).elim
    · skip
      replace h49 := (lg_cmp_eq _ _).mp h49
      refine lv_aload_n hx hb dL_is_52 rfl (lv_at hl 1 rfl) ?_
      refine lv_iload_n hx hb dL_is_53 rfl (lv_at hl 2 rfl) ?_
      refine lv_iconst (v := 2) hx hb dL_is_54 (by decide) ?_
      refine zWl zm_L_15 hF hB (w_part l D ka kb bd na L mo an pl ho le sz9 re9 kp st N j r9 2 (hr9) (by decide)) rfl ⟨Nat.le_of_ble_eq_true rfl, Nat.le_of_ble_eq_true rfl⟩ rfl hl.1 (Nat.le_of_ble_eq_true rfl) ⟨Nat.le_refl _, Nat.le_refl _⟩ dL_is_55 ?_
      clear hB
      try clear locs
      try clear H
      intro r107 u107 H locs hp hB
      obtain rfl : r107 = cmp5 (N r9) 2 := hp
      replace hB : zB D A s ([] ++ OW ka bd na (L, mo, an, pl, ho, le, sz9, re9, kp, st, N, j)) H locs := hB
      refine lv_lload hx hb dL_is_58 (lv_at hl 5 rfl) ?_
      refine lv_lload hx hb dL_is_60 (lv_at hl 0 rfl) ?_
      refine lv_ldiv hx hb dL_is_62 (lN_ne0 hg2 hg.1) ?_
      refine W.lcmp hx hb dL_is_63 ?_
      refine lv_if_ne (tgt := 101) hx hb dL_is_64 (by decide) (fun h64 => ?_) (fun h64 => ?_)
      · skip
        replace h64 := (fun e9 => h64 ((lg_cmp_eq _ _).mpr e9))
        exact (h64 (by rw [hN]; rfl)).elim
      · skip
        replace h64 := (lg_cmp_eq _ _).mp h64
        refine lv_aload_n hx hb dL_is_67 rfl (lv_at hl 1 rfl) ?_
        refine lv_iload_n hx hb dL_is_68 rfl (lv_at hl 2 rfl) ?_
        refine lv_iconst (v := 3) hx hb dL_is_69 (by decide) ?_
        refine zWl zm_L_15 hF hB (w_part l D ka kb bd na L mo an pl ho le sz9 re9 kp st N j r9 3 (hr9) (by decide)) rfl ⟨Nat.le_of_ble_eq_true rfl, Nat.le_of_ble_eq_true rfl⟩ rfl hl.1 (Nat.le_of_ble_eq_true rfl) ⟨Nat.le_refl _, Nat.le_refl _⟩ dL_is_70 ?_
        clear hB
        try clear locs
        try clear H
        intro r108 u108 H locs hp hB
        obtain rfl : r108 = cmp5 (N r9) 3 := hp
        replace hB : zB D A s ([] ++ OW ka bd na (L, mo, an, pl, ho, le, sz9, re9, kp, st, N, j)) H locs := hB
        refine lv_lload hx hb dL_is_73 (lv_at hl 6 rfl) ?_
        refine lv_lload hx hb dL_is_75 (lv_at hl 0 rfl) ?_
        refine lv_ldiv hx hb dL_is_77 (lN_ne0 hg2 hg.1) ?_
        refine W.lcmp hx hb dL_is_78 ?_
        refine lv_if_ne (tgt := 101) hx hb dL_is_79 (by decide) (fun h79 => ?_) (fun h79 => ?_)
        · skip
          replace h79 := (fun e9 => h79 ((lg_cmp_eq _ _).mpr e9))
          exact (h79 (by rw [hN]; rfl)).elim
        · skip
          replace h79 := (lg_cmp_eq _ _).mp h79
          refine lv_aload_n hx hb dL_is_82 rfl (lv_at hl 1 rfl) ?_
          refine lv_iload_n hx hb dL_is_83 rfl (lv_at hl 2 rfl) ?_
          refine lv_iconst (v := 4) hx hb dL_is_84 (by decide) ?_
          refine zWl zm_L_15 hF hB (w_part l D ka kb bd na L mo an pl ho le sz9 re9 kp st N j r9 4 (hr9) (by decide)) rfl ⟨Nat.le_of_ble_eq_true rfl, Nat.le_of_ble_eq_true rfl⟩ rfl hl.1 (Nat.le_of_ble_eq_true rfl) ⟨Nat.le_refl _, Nat.le_refl _⟩ dL_is_85 ?_
          clear hB
          try clear locs
          try clear H
          intro r109 u109 H locs hp hB
          obtain rfl : r109 = cmp5 (N r9) 4 := hp
          replace hB : zB D A s ([] ++ OW ka bd na (L, mo, an, pl, ho, le, sz9, re9, kp, st, N, j)) H locs := hB
          refine lv_lload hx hb dL_is_88 (lv_at hl 7 rfl) ?_
          refine lv_lload hx hb dL_is_90 (lv_at hl 0 rfl) ?_
          refine lv_ldiv hx hb dL_is_92 (lN_ne0 hg2 hg.1) ?_
          refine W.lcmp hx hb dL_is_93 ?_
          refine lv_if_ne (tgt := 101) hx hb dL_is_94 (by decide) (fun h94 => ?_) (fun h94 => ?_)
          · skip
            replace h94 := (fun e9 => h94 ((lg_cmp_eq _ _).mpr e9))
            exact (h94 (by rw [hN]; rfl)).elim
          · skip
            replace h94 := (lg_cmp_eq _ _).mp h94
            refine lv_iconst (v := 1) hx hb dL_is_97 (by decide) ?_
            refine lv_goto (tgt := 102) hx hb dL_is_98 (by decide) ?_
            exact zreti hF hB () (rfl) (rfl) (rfl) dL_is_102 hQ
