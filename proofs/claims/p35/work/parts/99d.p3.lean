set_option maxHeartbeats 4000000 in
set_option maxRecDepth 100000 in
theorem w_rk_add (l : Launch) (D : va_G) (ka : Nat → ClassId) (kb : Nat → Nat) (bd na : Nat → Nat) (L : Nat) (mo : Nat → Int32) (an : Nat → Int32) (pl : Nat → Int32) (ho : Nat → Int32) (le : Nat → Int32) (sz9 : Int32) (re9 : Int32) (kp : Nat → Bool) (st : Nat → Int32) (N : Nat → N5) (j : JT) (r9 : Nat) (s9 : Nat) (t9 : Nat) (hd6 : ∀ k, k < 6 → 0 < (N k).2.2.2.2.toInt) (hB9 : bB (jbb j)) (hr : r9 < 6) (hs : s9 < 6) (ht : t9 < 6) (hov : sumO false (N r9) (N s9) = false) :
    zI l D ka kb yX7_reckon cX7_reckon 8 .int 6 199 [.ref (bd 31), .int (nI 0), .int (nI r9), .int (nI s9), .int (nI t9)] (OW ka bd na (L, mo, an, pl, ho, le, sz9, re9, kp, st, N, j)) (fun (r : Int32) (u : (Nat → N5) × JT) => r = 1 ∧ (∀ k9, k9 < 25 → u.1 k9 = upN N t9 (sumV false (N r9) (N s9)) k9) ∧ bB (jbb u.2)) (fun (u : (Nat → N5) × JT) => OW ka bd na (L, mo, an, pl, ho, le, sz9, re9, kp, st, u.1, u.2)) := by
  refine zI.map (fun u => u) (w_reckon l D ka kb bd na L mo an pl ho le sz9 re9 kp st N j 0 r9 s9 t9 hd6 hB9) (fun r u hp => ?_) (fun _ _ _ => rfl)
  have e := rk_1 (w := 0) (G := N) (by decide) hr hs ht (fun h => absurd h.1 (by decide)) ((opk_0 _ _).1.trans hov)
  rw [e, (opk_0 _ _).2] at hp
  exact hp

set_option maxHeartbeats 4000000 in
set_option maxRecDepth 100000 in
theorem w_rk_sub (l : Launch) (D : va_G) (ka : Nat → ClassId) (kb : Nat → Nat) (bd na : Nat → Nat) (L : Nat) (mo : Nat → Int32) (an : Nat → Int32) (pl : Nat → Int32) (ho : Nat → Int32) (le : Nat → Int32) (sz9 : Int32) (re9 : Int32) (kp : Nat → Bool) (st : Nat → Int32) (N : Nat → N5) (j : JT) (r9 : Nat) (s9 : Nat) (t9 : Nat) (hd6 : ∀ k, k < 6 → 0 < (N k).2.2.2.2.toInt) (hB9 : bB (jbb j)) (hr : r9 < 6) (hs : s9 < 6) (ht : t9 < 6) (hov : sumO true (N r9) (N s9) = false) :
    zI l D ka kb yX7_reckon cX7_reckon 8 .int 6 199 [.ref (bd 31), .int (nI 1), .int (nI r9), .int (nI s9), .int (nI t9)] (OW ka bd na (L, mo, an, pl, ho, le, sz9, re9, kp, st, N, j)) (fun (r : Int32) (u : (Nat → N5) × JT) => r = 1 ∧ (∀ k9, k9 < 25 → u.1 k9 = upN N t9 (sumV true (N r9) (N s9)) k9) ∧ bB (jbb u.2)) (fun (u : (Nat → N5) × JT) => OW ka bd na (L, mo, an, pl, ho, le, sz9, re9, kp, st, u.1, u.2)) := by
  refine zI.map (fun u => u) (w_reckon l D ka kb bd na L mo an pl ho le sz9 re9 kp st N j 1 r9 s9 t9 hd6 hB9) (fun r u hp => ?_) (fun _ _ _ => rfl)
  have e := rk_1 (w := 1) (G := N) (by decide) hr hs ht (fun h => absurd h.1 (by decide)) ((opk_1 _ _).1.trans hov)
  rw [e, (opk_1 _ _).2] at hp
  exact hp

set_option maxHeartbeats 4000000 in
set_option maxRecDepth 100000 in
theorem w_rk_mul (l : Launch) (D : va_G) (ka : Nat → ClassId) (kb : Nat → Nat) (bd na : Nat → Nat) (L : Nat) (mo : Nat → Int32) (an : Nat → Int32) (pl : Nat → Int32) (ho : Nat → Int32) (le : Nat → Int32) (sz9 : Int32) (re9 : Int32) (kp : Nat → Bool) (st : Nat → Int32) (N : Nat → N5) (j : JT) (r9 : Nat) (s9 : Nat) (t9 : Nat) (hd6 : ∀ k, k < 6 → 0 < (N k).2.2.2.2.toInt) (hB9 : bB (jbb j)) (hr : r9 < 6) (hs : s9 < 6) (ht : t9 < 6) (hov : prodO (N r9) (N s9) = false) :
    zI l D ka kb yX7_reckon cX7_reckon 8 .int 6 199 [.ref (bd 31), .int (nI 2), .int (nI r9), .int (nI s9), .int (nI t9)] (OW ka bd na (L, mo, an, pl, ho, le, sz9, re9, kp, st, N, j)) (fun (r : Int32) (u : (Nat → N5) × JT) => r = 1 ∧ (∀ k9, k9 < 25 → u.1 k9 = upN N t9 (prodV (N r9) (N s9)) k9) ∧ bB (jbb u.2)) (fun (u : (Nat → N5) × JT) => OW ka bd na (L, mo, an, pl, ho, le, sz9, re9, kp, st, u.1, u.2)) := by
  refine zI.map (fun u => u) (w_reckon l D ka kb bd na L mo an pl ho le sz9 re9 kp st N j 2 r9 s9 t9 hd6 hB9) (fun r u hp => ?_) (fun _ _ _ => rfl)
  have e := rk_1 (w := 2) (G := N) (by decide) hr hs ht (fun h => absurd h.1 (by decide)) ((opk_2 _ _).1.trans hov)
  rw [e, (opk_2 _ _).2] at hp
  exact hp

set_option maxHeartbeats 4000000 in
set_option maxRecDepth 100000 in
theorem w_rk_div (l : Launch) (D : va_G) (ka : Nat → ClassId) (kb : Nat → Nat) (bd na : Nat → Nat) (L : Nat) (mo : Nat → Int32) (an : Nat → Int32) (pl : Nat → Int32) (ho : Nat → Int32) (le : Nat → Int32) (sz9 : Int32) (re9 : Int32) (kp : Nat → Bool) (st : Nat → Int32) (N : Nat → N5) (j : JT) (r9 : Nat) (s9 : Nat) (t9 : Nat) (hd6 : ∀ k, k < 6 → 0 < (N k).2.2.2.2.toInt) (hB9 : bB (jbb j)) (hr : r9 < 6) (hs : s9 < 6) (ht : t9 < 6) (hov : quoO (N r9) (N s9) = false) (hz : zeroN (N s9) = false) :
    zI l D ka kb yX7_reckon cX7_reckon 8 .int 6 199 [.ref (bd 31), .int (nI 3), .int (nI r9), .int (nI s9), .int (nI t9)] (OW ka bd na (L, mo, an, pl, ho, le, sz9, re9, kp, st, N, j)) (fun (r : Int32) (u : (Nat → N5) × JT) => r = 1 ∧ (∀ k9, k9 < 25 → u.1 k9 = upN N t9 (quoV (N r9) (N s9)) k9) ∧ bB (jbb u.2)) (fun (u : (Nat → N5) × JT) => OW ka bd na (L, mo, an, pl, ho, le, sz9, re9, kp, st, u.1, u.2)) := by
  refine zI.map (fun u => u) (w_reckon l D ka kb bd na L mo an pl ho le sz9 re9 kp st N j 3 r9 s9 t9 hd6 hB9) (fun r u hp => ?_) (fun _ _ _ => rfl)
  have e := rk_1 (w := 3) (G := N) (by decide) hr hs ht (fun h => by rw [hz] at h; exact absurd h.2 (by decide)) ((opk_3 _ _).1.trans hov)
  rw [e, (opk_3 _ _).2] at hp
  exact hp

set_option maxHeartbeats 4000000 in
set_option maxRecDepth 100000 in
theorem w_rk_zero (l : Launch) (D : va_G) (ka : Nat → ClassId) (kb : Nat → Nat) (bd na : Nat → Nat) (L : Nat) (mo : Nat → Int32) (an : Nat → Int32) (pl : Nat → Int32) (ho : Nat → Int32) (le : Nat → Int32) (sz9 : Int32) (re9 : Int32) (kp : Nat → Bool) (st : Nat → Int32) (N : Nat → N5) (j : JT) (r9 : Nat) (s9 : Nat) (t9 : Nat) (hd6 : ∀ k, k < 6 → 0 < (N k).2.2.2.2.toInt) (hB9 : bB (jbb j)) (hr : r9 < 6) (hs : s9 < 6) (ht : t9 < 6) (hz : zeroN (N s9) = true) :
    zI l D ka kb yX7_reckon cX7_reckon 8 .int 6 199 [.ref (bd 31), .int (nI 3), .int (nI r9), .int (nI s9), .int (nI t9)] (OW ka bd na (L, mo, an, pl, ho, le, sz9, re9, kp, st, N, j)) (fun (r : Int32) (u : (Nat → N5) × JT) => r = -6 ∧ (∀ k9, k9 < 25 → u.1 k9 = N k9) ∧ bB (jbb u.2)) (fun (u : (Nat → N5) × JT) => OW ka bd na (L, mo, an, pl, ho, le, sz9, re9, kp, st, u.1, u.2)) := by
  refine zI.map (fun u => u) (w_reckon l D ka kb bd na L mo an pl ho le sz9 re9 kp st N j 3 r9 s9 t9 hd6 hB9) (fun r u hp => ?_) (fun _ _ _ => rfl)
  rw [rk_z hr hs ht hz] at hp
  exact hp

theorem rg_step {N : Nat → N5} {k : Nat} {V : N5} (h : ∀ i, i < k → rgX (N i)) (hv : rgX V) : ∀ i, i < k + 1 → rgX (upN N k V i) := fun i hi => by
  by_cases e : i = k
  · rw [e, upN_eq]; exact hv
  · rw [upN_ne e]; exact h i (by omega)
theorem d_step {N : Nat → N5} {k : Nat} {V : N5} (h : ∀ i, i < 6 → 0 < (N i).2.2.2.2.toInt) (hv : 0 < V.2.2.2.2.toInt) : ∀ i, i < 6 → 0 < (upN N k V i).2.2.2.2.toInt := fun i hi => by
  by_cases e : i = k
  · rw [e, upN_eq]; exact hv
  · rw [upN_ne e]; exact h i hi
theorem rgX.d {X : N5} (h : rgX X) : 0 < X.2.2.2.2.toInt := by
  obtain ⟨A, D, h1, _⟩ := h
  exact h1.1

set_option maxHeartbeats 4000000 in
set_option maxRecDepth 100000 in
theorem c_L_registers (l : Launch) (D : va_G) (ka : Nat → ClassId) (kb : Nat → Nat) (bd na : Nat → Nat) (L : Nat) (mo : Nat → Int32) (an : Nat → Int32) (pl : Nat → Int32) (ho : Nat → Int32) (le : Nat → Int32) (sz9 : Int32) (re9 : Int32) (kp : Nat → Bool) (st : Nat → Int32) (N : Nat → N5) (j : JT) (at9 : Nat) (hL : kb 2 ≤ 260) (hat : at9 ≤ 900) (hd6 : ∀ k, k < 6 → 0 < (N k).2.2.2.2.toInt) (hB9 : bB (jbb j)) :
    zI l D ka kb yL_registers cL_registers 6 .boolean 7 226 [.ref (bd 31), .ref (kb 1), .int (nI at9)] (OW ka bd na (L, mo, an, pl, ho, le, sz9, re9, kp, st, N, j)) (fun (r : Int32) (u : (Nat → N5) × JT) => r = 1 ∧ (∀ i, i < 6 → 0 < (u.1 i).2.2.2.2.toInt) ∧ bB (jbb u.2) ∧ (∀ i, i < 6 → u.1 (8 + i) = N (8 + i))) (fun (u : (Nat → N5) × JT) => OW ka bd na (L, mo, an, pl, ho, le, sz9, re9, kp, st, u.1, u.2)) := by
  refine zI.mk RL (by decide +kernel) rfl (Nat.le_of_ble_eq_true rfl) ?_
  intro p e s m below meth c A ls args Q hQ hx hb hF hB hl
  replace hl : lv_has ls 6 [(0, .ref (bd 31)), (1, .ref (kb 1)), (2, .int (nI at9))] := hl
  replace hB : zB D A s ([] ++ OW ka bd na (L, mo, an, pl, ho, le, sz9, re9, kp, st, N, j)) s.heap [] := hB
  refine lv_iconst (v := 0) hx hb dL_registers_0 (by decide) ?_
  refine lv_istore_n (lv' := [(3, .int (0 : Int32)), (0, .ref (bd 31)), (1, .ref (kb 1)), (2, .int (nI at9))]) hx hb dL_registers_1 rfl hl (by decide) rfl ?_
  clear hl
  clear ls
  intro ls hl
  have lp2 : ∀ (fl : Nat) (k9 : Nat) (N9 : Nat → N5), (hk9 : k9 ≤ 2) → (hrg : ∀ i, i < k9 → rgX (N9 i)) → (hd9 : ∀ i, i < 6 → 0 < (N9 i).2.2.2.2.toInt) → (he9 : ∀ i, i < 6 → N9 (8 + i) = N (8 + i)) → 2 - k9 < fl → ∀ (H : Heap) (locs : List Loc), zB D A s ([] ++ OW ka bd na (L, mo, an, pl, ho, le, sz9, re9, kp, st, N9, j)) H locs → ∀ ls : Array Slot, lv_has ls 6 [(3, .int (nI k9)), (2, .int (nI at9)), (1, .ref (kb 1)), (0, .ref (bd 31))] → W p l e (zRm 7 226 0 0) s m args below meth c H locs 0 0 Q (F0 m 2 ls []) := by
    intro fl
    induction fl with
    | zero => intro k9 N9 hk9 hrg hd9 he9 hfl; exact absurd hfl (Nat.not_lt_zero _)
    | succ fl ih2 =>
      intro k9 N9 hk9 hrg hd9 he9 hfl2 H locs hB ls hl
      refine lv_iload_n hx hb dL_registers_2 rfl (lv_at hl 0 rfl) ?_
      refine lv_iconst (v := 2) hx hb dL_registers_3 (by decide) ?_
      refine lv_icmp_ge (tgt := 94) hx hb dL_registers_4 (by decide) (fun h4 => ?_) (fun h4 => ?_)
      · skip
        have hk2 : k9 = 2 := by have := (nI_leI (a := 2) (b := k9) (by decide) (by omega)).mp h4; omega
        subst hk2
        have hX0 := hrg 0 (by decide)
        have hX1 := hrg 1 (by decide)
        have hsm := rg_sum hX0 hX1
        have hpm := rg_prod hX0 hX1
        have hd6 := hd9
        refine lv_aload_n hx hb dL_registers_94 rfl (lv_at hl 3 rfl) ?_
        refine lv_iconst (v := 1) hx hb dL_registers_95 (by decide) ?_
        refine lv_iconst (v := 0) hx hb dL_registers_96 (by decide) ?_
        refine zWl zm_L_15 hF hB (w_part l D ka kb bd na L mo an pl ho le sz9 re9 kp st N9 j 1 0 (by decide) (by decide)) rfl ⟨Nat.le_of_ble_eq_true rfl, Nat.le_of_ble_eq_true rfl⟩ rfl hl.1 (Nat.le_of_ble_eq_true rfl) ⟨Nat.le_refl _, Nat.le_refl _⟩ dL_registers_97 ?_
        clear hB
        try clear locs
        try clear H
        intro r101 u101 H locs hp hB
        obtain rfl : r101 = cmp5 (N9 1) 0 := hp
        replace hB : zB D A s ([] ++ OW ka bd na (L, mo, an, pl, ho, le, sz9, re9, kp, st, N9, j)) H locs := hB
        refine lv_lconst (v := 0) hx hb dL_registers_100 (by decide) ?_
        refine W.lcmp hx hb dL_registers_101 ?_
        refine lv_if_ne (tgt := 142) hx hb dL_registers_102 (by decide) (fun h102 => ?_) (fun h102 => ?_)
        · skip
          replace h102 := (fun e9 => h102 ((lg_cmp_eq _ _).mpr e9))
          refine lv_iconst (v := 0) hx hb dL_registers_142 (by decide) ?_
          refine lv_istore_n (lv' := [(3, .int (0 : Int32)), (2, .int (nI at9)), (1, .ref (kb 1)), (0, .ref (bd 31))]) hx hb dL_registers_143 rfl hl (by decide) rfl ?_
          clear hl
          clear ls
          intro ls hl
          have lp144 : ∀ (fl : Nat) , (hzb : zeroN (N9 1) = false) → 0 < fl → ∀ (H : Heap) (locs : List Loc), zB D A s ([] ++ OW ka bd na (L, mo, an, pl, ho, le, sz9, re9, kp, st, N9, j)) H locs → ∀ ls : Array Slot, lv_has ls 6 [(3, .int (0 : Int32)), (2, .int (nI at9)), (1, .ref (kb 1)), (0, .ref (bd 31))] → W p l e (zRm 7 226 0 0) s m args below meth c H locs 0 0 Q (F0 m 144 ls []) := by
            intro fl
            induction fl with
            | zero => intro  hzb hfl; exact absurd hfl (Nat.not_lt_zero _)
            | succ fl ih144 =>
              intro  hzb hfl144 H locs hB ls hl
              refine lv_aload_n hx hb dL_registers_144 rfl (lv_at hl 3 rfl) ?_
              refine lv_iconst (v := 0) hx hb dL_registers_145 (by decide) ?_
              refine lv_iconst (v := 0) hx hb dL_registers_146 (by decide) ?_
              refine lv_iconst (v := 1) hx hb dL_registers_147 (by decide) ?_
              refine lv_iconst (v := 2) hx hb dL_registers_148 (by decide) ?_
              refine zWi zm_L_69 hF hB (w_rk_add l D ka kb bd na L mo an pl ho le sz9 re9 kp st N9 j 0 1 2 (hd6) (hB9) (by decide) (by decide) (by decide) (by exact hsm.1)) rfl ⟨Nat.le_of_ble_eq_true rfl, Nat.le_of_ble_eq_true rfl⟩ rfl hl.1 (Nat.le_of_ble_eq_true rfl) ⟨Nat.le_refl _, Nat.le_refl _⟩ dL_registers_149 ?_
              clear hB
              try clear locs
              try clear H
              intro r102 u102 H locs hp hB
              obtain ⟨N_102, j_102⟩ := u102
              have hp102 : r102 = 1 ∧ (∀ k9, k9 < 25 → N_102 k9 = upN N9 2 (sumV false (N9 0) (N9 1)) k9) ∧ bB (jbb j_102) := hp
              have hr102 := hp102.1
              have hN102 := hp102.2.1
              have hb102 := hp102.2.2
              have f149_0 : N_102 0 = (N9 0) := (hN102 0 (by decide)).trans (upN_ne (by decide))
              have f149_1 : N_102 1 = (N9 1) := (hN102 1 (by decide)).trans (upN_ne (by decide))
              have f149_2 : N_102 2 = (sumV false (N9 0) (N9 1)) := (hN102 2 (by decide)).trans (upN_eq.trans (rfl))
              have d149 : ∀ i, i < 6 → 0 < (N_102 i).2.2.2.2.toInt := fun i hi => by
                by_cases e : i = 2
                · rw [e, f149_2]; exact sumV_d hsm.1 (hd6 0 (by decide)) (hd6 1 (by decide))
                · rw [hN102 i (by omega), upN_ne e]; exact hd6 i hi
              have e149 : ∀ i, i < 6 → N_102 (8 + i) = N (8 + i) := fun i hi => (hN102 (8 + i) (by omega)).trans ((upN_ne (by omega)).trans (he9 i hi))
              replace hB : zB D A s ([] ++ OW ka bd na (L, mo, an, pl, ho, le, sz9, re9, kp, st, N_102, j_102)) H locs := hB
              refine lv_iconst (v := 1) hx hb dL_registers_152 (by decide) ?_
              refine lv_icmp_ne (tgt := 198) hx hb dL_registers_153 (by decide) (fun h153 => ?_) (fun h153 => ?_)
              · skip
                exact absurd hr102 h153
              · skip
                refine lv_aload_n hx hb dL_registers_156 rfl (lv_at hl 3 rfl) ?_
                refine lv_iconst (v := 1) hx hb dL_registers_157 (by decide) ?_
                refine lv_iconst (v := 2) hx hb dL_registers_158 (by decide) ?_
                refine lv_iconst (v := 1) hx hb dL_registers_159 (by decide) ?_
                refine lv_iconst (v := 3) hx hb dL_registers_160 (by decide) ?_
                refine zWi zm_L_69 hF hB (w_rk_sub l D ka kb bd na L mo an pl ho le sz9 re9 kp st N_102 j_102 2 1 3 (d149) (hb102) (by decide) (by decide) (by decide) (by rw [f149_2, f149_1]; exact hsm.2.1)) rfl ⟨Nat.le_of_ble_eq_true rfl, Nat.le_of_ble_eq_true rfl⟩ rfl hl.1 (Nat.le_of_ble_eq_true rfl) ⟨Nat.le_refl _, Nat.le_refl _⟩ dL_registers_161 ?_
                clear hB
                try clear locs
                try clear H
                intro r103 u103 H locs hp hB
                obtain ⟨N_103, j_103⟩ := u103
                have hp103 : r103 = 1 ∧ (∀ k9, k9 < 25 → N_103 k9 = upN N_102 3 (sumV true (N_102 2) (N_102 1)) k9) ∧ bB (jbb j_103) := hp
                have hr103 := hp103.1
                have hN103 := hp103.2.1
                have hb103 := hp103.2.2
                have f161_0 : N_103 0 = (N9 0) := (hN103 0 (by decide)).trans ((upN_ne (by decide)).trans f149_0)
                have f161_1 : N_103 1 = (N9 1) := (hN103 1 (by decide)).trans ((upN_ne (by decide)).trans f149_1)
                have f161_2 : N_103 2 = (sumV false (N9 0) (N9 1)) := (hN103 2 (by decide)).trans ((upN_ne (by decide)).trans f149_2)
                have f161_3 : N_103 3 = (N9 0) := (hN103 3 (by decide)).trans (upN_eq.trans (by rw [f149_2, f149_1]; exact hsm.2.2.1))
                have d161 : ∀ i, i < 6 → 0 < (N_103 i).2.2.2.2.toInt := fun i hi => by
                  by_cases e : i = 3
                  · rw [e, f161_3]; exact hd6 0 (by decide)
                  · rw [hN103 i (by omega), upN_ne e]; exact d149 i hi
                have e161 : ∀ i, i < 6 → N_103 (8 + i) = N (8 + i) := fun i hi => (hN103 (8 + i) (by omega)).trans ((upN_ne (by omega)).trans (e149 i hi))
                replace hB : zB D A s ([] ++ OW ka bd na (L, mo, an, pl, ho, le, sz9, re9, kp, st, N_103, j_103)) H locs := hB
                refine lv_iconst (v := 1) hx hb dL_registers_164 (by decide) ?_
                refine lv_icmp_ne (tgt := 198) hx hb dL_registers_165 (by decide) (fun h165 => ?_) (fun h165 => ?_)
                · skip
                  exact absurd hr103 h165
                · skip
                  refine lv_aload_n hx hb dL_registers_168 rfl (lv_at hl 3 rfl) ?_
                  refine lv_iconst (v := 0) hx hb dL_registers_169 (by decide) ?_
                  refine lv_iconst (v := 3) hx hb dL_registers_170 (by decide) ?_
                  refine zWs9 zm_L_72 hF hB (c_L_same l D ka kb bd na L mo an pl ho le sz9 re9 kp st N_103 j_103 0 3 (by decide) (by decide) (f161_0.trans f161_3.symm)) rfl ⟨Nat.le_of_ble_eq_true rfl, Nat.le_of_ble_eq_true rfl⟩ rfl hl.1 (Nat.le_of_ble_eq_true rfl) ⟨Nat.le_refl _, Nat.le_refl _⟩ dL_registers_171 ?_
                  clear hB
                  try clear locs
                  try clear H
                  intro r104 u104 H locs hp hB
                  obtain rfl : r104 = (1 : Int32) := hp
                  replace hB : zB D A s ([] ++ OW ka bd na (L, mo, an, pl, ho, le, sz9, re9, kp, st, N_103, j_103)) H locs := hB
                  refine lv_if_eq (tgt := 198) hx hb dL_registers_174 (by decide) (fun h174 => ?_) (fun h174 => ?_)
                  · skip
                    exact absurd h174 (by decide)
                  · skip
                    refine lv_aload_n hx hb dL_registers_177 rfl (lv_at hl 3 rfl) ?_
                    refine lv_iconst (v := 1) hx hb dL_registers_178 (by decide) ?_
                    refine lv_iconst (v := 2) hx hb dL_registers_179 (by decide) ?_
                    refine lv_iconst (v := 0) hx hb dL_registers_180 (by decide) ?_
                    refine lv_iconst (v := 3) hx hb dL_registers_181 (by decide) ?_
                    refine zWi zm_L_69 hF hB (w_rk_sub l D ka kb bd na L mo an pl ho le sz9 re9 kp st N_103 j_103 2 0 3 (d161) (hb103) (by decide) (by decide) (by decide) (by rw [f161_2, f161_0]; exact hsm.2.2.2.1)) rfl ⟨Nat.le_of_ble_eq_true rfl, Nat.le_of_ble_eq_true rfl⟩ rfl hl.1 (Nat.le_of_ble_eq_true rfl) ⟨Nat.le_refl _, Nat.le_refl _⟩ dL_registers_182 ?_
                    clear hB
                    try clear locs
                    try clear H
                    intro r105 u105 H locs hp hB
                    obtain ⟨N_105, j_105⟩ := u105
                    have hp105 : r105 = 1 ∧ (∀ k9, k9 < 25 → N_105 k9 = upN N_103 3 (sumV true (N_103 2) (N_103 0)) k9) ∧ bB (jbb j_105) := hp
                    have hr105 := hp105.1
                    have hN105 := hp105.2.1
                    have hb105 := hp105.2.2
                    have f182_0 : N_105 0 = (N9 0) := (hN105 0 (by decide)).trans ((upN_ne (by decide)).trans f161_0)
                    have f182_1 : N_105 1 = (N9 1) := (hN105 1 (by decide)).trans ((upN_ne (by decide)).trans f161_1)
                    have f182_2 : N_105 2 = (sumV false (N9 0) (N9 1)) := (hN105 2 (by decide)).trans ((upN_ne (by decide)).trans f161_2)
                    have f182_3 : N_105 3 = (N9 1) := (hN105 3 (by decide)).trans (upN_eq.trans (by rw [f161_2, f161_0]; exact hsm.2.2.2.2))
                    have d182 : ∀ i, i < 6 → 0 < (N_105 i).2.2.2.2.toInt := fun i hi => by
                      by_cases e : i = 3
                      · rw [e, f182_3]; exact hd6 1 (by decide)
                      · rw [hN105 i (by omega), upN_ne e]; exact d161 i hi
                    have e182 : ∀ i, i < 6 → N_105 (8 + i) = N (8 + i) := fun i hi => (hN105 (8 + i) (by omega)).trans ((upN_ne (by omega)).trans (e161 i hi))
                    replace hB : zB D A s ([] ++ OW ka bd na (L, mo, an, pl, ho, le, sz9, re9, kp, st, N_105, j_105)) H locs := hB
                    refine lv_iconst (v := 1) hx hb dL_registers_185 (by decide) ?_
                    refine lv_icmp_ne (tgt := 198) hx hb dL_registers_186 (by decide) (fun h186 => ?_) (fun h186 => ?_)
                    · skip
                      exact absurd hr105 h186
                    · skip
                      refine lv_aload_n hx hb dL_registers_189 rfl (lv_at hl 3 rfl) ?_
                      refine lv_iconst (v := 1) hx hb dL_registers_190 (by decide) ?_
                      refine lv_iconst (v := 3) hx hb dL_registers_191 (by decide) ?_
                      refine zWs9 zm_L_72 hF hB (c_L_same l D ka kb bd na L mo an pl ho le sz9 re9 kp st N_105 j_105 1 3 (by decide) (by decide) (f182_1.trans f182_3.symm)) rfl ⟨Nat.le_of_ble_eq_true rfl, Nat.le_of_ble_eq_true rfl⟩ rfl hl.1 (Nat.le_of_ble_eq_true rfl) ⟨Nat.le_refl _, Nat.le_refl _⟩ dL_registers_192 ?_
                      clear hB
                      try clear locs
                      try clear H
                      intro r106 u106 H locs hp hB
                      obtain rfl : r106 = (1 : Int32) := hp
                      replace hB : zB D A s ([] ++ OW ka bd na (L, mo, an, pl, ho, le, sz9, re9, kp, st, N_105, j_105)) H locs := hB
                      refine lv_if_ne (tgt := 200) hx hb dL_registers_195 (by decide) (fun h195 => ?_) (fun h195 => ?_)
                      · skip
                        refine lv_aload_n hx hb dL_registers_200 rfl (lv_at hl 3 rfl) ?_
                        refine lv_iconst (v := 2) hx hb dL_registers_201 (by decide) ?_
                        refine lv_iconst (v := 0) hx hb dL_registers_202 (by decide) ?_
                        refine lv_iconst (v := 1) hx hb dL_registers_203 (by decide) ?_
                        refine lv_iconst (v := 2) hx hb dL_registers_204 (by decide) ?_
                        refine zWi zm_L_69 hF hB (w_rk_mul l D ka kb bd na L mo an pl ho le sz9 re9 kp st N_105 j_105 0 1 2 (d182) (hb105) (by decide) (by decide) (by decide) (by rw [f182_0, f182_1]; exact hpm.1)) rfl ⟨Nat.le_of_ble_eq_true rfl, Nat.le_of_ble_eq_true rfl⟩ rfl hl.1 (Nat.le_of_ble_eq_true rfl) ⟨Nat.le_refl _, Nat.le_refl _⟩ dL_registers_205 ?_
                        clear hB
                        try clear locs
                        try clear H
                        intro r107 u107 H locs hp hB
                        obtain ⟨N_107, j_107⟩ := u107
                        have hp107 : r107 = 1 ∧ (∀ k9, k9 < 25 → N_107 k9 = upN N_105 2 (prodV (N_105 0) (N_105 1)) k9) ∧ bB (jbb j_107) := hp
                        have hr107 := hp107.1
                        have hN107 := hp107.2.1
                        have hb107 := hp107.2.2
                        have f205_0 : N_107 0 = (N9 0) := (hN107 0 (by decide)).trans ((upN_ne (by decide)).trans f182_0)
                        have f205_1 : N_107 1 = (N9 1) := (hN107 1 (by decide)).trans ((upN_ne (by decide)).trans f182_1)
                        have f205_3 : N_107 3 = (N9 1) := (hN107 3 (by decide)).trans ((upN_ne (by decide)).trans f182_3)
                        have f205_2 : N_107 2 = (prodV (N9 0) (N9 1)) := (hN107 2 (by decide)).trans (upN_eq.trans (by rw [f182_0, f182_1]))
                        have d205 : ∀ i, i < 6 → 0 < (N_107 i).2.2.2.2.toInt := fun i hi => by
                          by_cases e : i = 2
                          · rw [e, f205_2]; exact prodV_d hpm.1 (hd6 0 (by decide)) (hd6 1 (by decide))
                          · rw [hN107 i (by omega), upN_ne e]; exact d182 i hi
                        have e205 : ∀ i, i < 6 → N_107 (8 + i) = N (8 + i) := fun i hi => (hN107 (8 + i) (by omega)).trans ((upN_ne (by omega)).trans (e182 i hi))
                        replace hB : zB D A s ([] ++ OW ka bd na (L, mo, an, pl, ho, le, sz9, re9, kp, st, N_107, j_107)) H locs := hB
                        refine lv_iconst (v := 1) hx hb dL_registers_208 (by decide) ?_
                        refine lv_icmp_ne (tgt := 267) hx hb dL_registers_209 (by decide) (fun h209 => ?_) (fun h209 => ?_)
                        · skip
                          exact absurd hr107 h209
                        · skip
                          refine lv_aload_n hx hb dL_registers_212 rfl (lv_at hl 3 rfl) ?_
                          refine lv_iconst (v := 2) hx hb dL_registers_213 (by decide) ?_
                          refine lv_iconst (v := 1) hx hb dL_registers_214 (by decide) ?_
                          refine lv_iconst (v := 0) hx hb dL_registers_215 (by decide) ?_
                          refine lv_iconst (v := 3) hx hb dL_registers_216 (by decide) ?_
                          refine zWi zm_L_69 hF hB (w_rk_mul l D ka kb bd na L mo an pl ho le sz9 re9 kp st N_107 j_107 1 0 3 (d205) (hb107) (by decide) (by decide) (by decide) (by rw [f205_1, f205_0]; exact hpm.2.1)) rfl ⟨Nat.le_of_ble_eq_true rfl, Nat.le_of_ble_eq_true rfl⟩ rfl hl.1 (Nat.le_of_ble_eq_true rfl) ⟨Nat.le_refl _, Nat.le_refl _⟩ dL_registers_217 ?_
                          clear hB
                          try clear locs
                          try clear H
                          intro r108 u108 H locs hp hB
                          obtain ⟨N_108, j_108⟩ := u108
                          have hp108 : r108 = 1 ∧ (∀ k9, k9 < 25 → N_108 k9 = upN N_107 3 (prodV (N_107 1) (N_107 0)) k9) ∧ bB (jbb j_108) := hp
                          have hr108 := hp108.1
                          have hN108 := hp108.2.1
                          have hb108 := hp108.2.2
                          have f217_0 : N_108 0 = (N9 0) := (hN108 0 (by decide)).trans ((upN_ne (by decide)).trans f205_0)
                          have f217_1 : N_108 1 = (N9 1) := (hN108 1 (by decide)).trans ((upN_ne (by decide)).trans f205_1)
                          have f217_2 : N_108 2 = (prodV (N9 0) (N9 1)) := (hN108 2 (by decide)).trans ((upN_ne (by decide)).trans f205_2)
                          have f217_3 : N_108 3 = (prodV (N9 0) (N9 1)) := (hN108 3 (by decide)).trans (upN_eq.trans (by rw [f205_1, f205_0]; exact hpm.2.2.1.symm))
                          have d217 : ∀ i, i < 6 → 0 < (N_108 i).2.2.2.2.toInt := fun i hi => by
                            by_cases e : i = 3
                            · rw [e, f217_3]; exact prodV_d hpm.1 (hd6 0 (by decide)) (hd6 1 (by decide))
                            · rw [hN108 i (by omega), upN_ne e]; exact d205 i hi
                          have e217 : ∀ i, i < 6 → N_108 (8 + i) = N (8 + i) := fun i hi => (hN108 (8 + i) (by omega)).trans ((upN_ne (by omega)).trans (e205 i hi))
                          replace hB : zB D A s ([] ++ OW ka bd na (L, mo, an, pl, ho, le, sz9, re9, kp, st, N_108, j_108)) H locs := hB
                          refine lv_iconst (v := 1) hx hb dL_registers_220 (by decide) ?_
                          refine lv_icmp_ne (tgt := 267) hx hb dL_registers_221 (by decide) (fun h221 => ?_) (fun h221 => ?_)
                          · skip
                            exact absurd hr108 h221
                          · skip
                            refine lv_aload_n hx hb dL_registers_224 rfl (lv_at hl 3 rfl) ?_
                            refine lv_iconst (v := 2) hx hb dL_registers_225 (by decide) ?_
                            refine lv_iconst (v := 3) hx hb dL_registers_226 (by decide) ?_
                            refine zWs9 zm_L_72 hF hB (c_L_same l D ka kb bd na L mo an pl ho le sz9 re9 kp st N_108 j_108 2 3 (by decide) (by decide) (f217_2.trans f217_3.symm)) rfl ⟨Nat.le_of_ble_eq_true rfl, Nat.le_of_ble_eq_true rfl⟩ rfl hl.1 (Nat.le_of_ble_eq_true rfl) ⟨Nat.le_refl _, Nat.le_refl _⟩ dL_registers_227 ?_
                            clear hB
                            try clear locs
                            try clear H
                            intro r109 u109 H locs hp hB
                            obtain rfl : r109 = (1 : Int32) := hp
                            replace hB : zB D A s ([] ++ OW ka bd na (L, mo, an, pl, ho, le, sz9, re9, kp, st, N_108, j_108)) H locs := hB
                            refine lv_if_eq (tgt := 267) hx hb dL_registers_230 (by decide) (fun h230 => ?_) (fun h230 => ?_)
                            · skip
                              exact absurd h230 (by decide)
                            · skip
                              refine lv_aload_n hx hb dL_registers_233 rfl (lv_at hl 3 rfl) ?_
                              refine lv_iconst (v := 3) hx hb dL_registers_234 (by decide) ?_
                              refine lv_iconst (v := 2) hx hb dL_registers_235 (by decide) ?_
                              refine lv_iconst (v := 1) hx hb dL_registers_236 (by decide) ?_
                              refine lv_iconst (v := 4) hx hb dL_registers_237 (by decide) ?_
                              refine zWi zm_L_69 hF hB (w_rk_div l D ka kb bd na L mo an pl ho le sz9 re9 kp st N_108 j_108 2 1 4 (d217) (hb108) (by decide) (by decide) (by decide) (by rw [f217_2, f217_1]; exact (hpm.2.2.2.2.2 hzb).1) (by rw [f217_1]; exact hzb)) rfl ⟨Nat.le_of_ble_eq_true rfl, Nat.le_of_ble_eq_true rfl⟩ rfl hl.1 (Nat.le_of_ble_eq_true rfl) ⟨Nat.le_refl _, Nat.le_refl _⟩ dL_registers_238 ?_
                              clear hB
                              try clear locs
                              try clear H
                              intro r110 u110 H locs hp hB
                              obtain ⟨N_110, j_110⟩ := u110
                              have hp110 : r110 = 1 ∧ (∀ k9, k9 < 25 → N_110 k9 = upN N_108 4 (quoV (N_108 2) (N_108 1)) k9) ∧ bB (jbb j_110) := hp
                              have hr110 := hp110.1
                              have hN110 := hp110.2.1
                              have hb110 := hp110.2.2
                              have f238_0 : N_110 0 = (N9 0) := (hN110 0 (by decide)).trans ((upN_ne (by decide)).trans f217_0)
                              have f238_1 : N_110 1 = (N9 1) := (hN110 1 (by decide)).trans ((upN_ne (by decide)).trans f217_1)
                              have f238_2 : N_110 2 = (prodV (N9 0) (N9 1)) := (hN110 2 (by decide)).trans ((upN_ne (by decide)).trans f217_2)
                              have f238_3 : N_110 3 = (prodV (N9 0) (N9 1)) := (hN110 3 (by decide)).trans ((upN_ne (by decide)).trans f217_3)
                              have f238_4 : N_110 4 = (N9 0) := (hN110 4 (by decide)).trans (upN_eq.trans (by rw [f217_2, f217_1]; exact (hpm.2.2.2.2.2 hzb).2))
                              have d238 : ∀ i, i < 6 → 0 < (N_110 i).2.2.2.2.toInt := fun i hi => by
                                by_cases e : i = 4
                                · rw [e, f238_4]; exact hd6 0 (by decide)
                                · rw [hN110 i (by omega), upN_ne e]; exact d217 i hi
                              have e238 : ∀ i, i < 6 → N_110 (8 + i) = N (8 + i) := fun i hi => (hN110 (8 + i) (by omega)).trans ((upN_ne (by omega)).trans (e217 i hi))
                              replace hB : zB D A s ([] ++ OW ka bd na (L, mo, an, pl, ho, le, sz9, re9, kp, st, N_110, j_110)) H locs := hB
                              refine lv_iload_n hx hb dL_registers_241 rfl (lv_at hl 0 rfl) ?_
                              refine lv_if_eq (tgt := 250) hx hb dL_registers_242 (by decide) (fun h242 => ?_) (fun h242 => ?_)
                              · skip
                                refine lv_iconst (v := 1) hx hb dL_registers_250 (by decide) ?_
                                refine lv_icmp_ne (tgt := 267) hx hb dL_registers_251 (by decide) (fun h251 => ?_) (fun h251 => ?_)
                                · skip
                                  exact absurd hr110 h251
                                · skip
                                  refine lv_iload_n hx hb dL_registers_254 rfl (lv_at hl 0 rfl) ?_
                                  refine lv_if_ne (tgt := 269) hx hb dL_registers_255 (by decide) (fun h255 => ?_) (fun h255 => ?_)
                                  · skip
                                    exact absurd (by decide) h255
                                  · skip
                                    refine lv_aload_n hx hb dL_registers_258 rfl (lv_at hl 3 rfl) ?_
                                    refine lv_iconst (v := 0) hx hb dL_registers_259 (by decide) ?_
                                    refine lv_iconst (v := 4) hx hb dL_registers_260 (by decide) ?_
                                    refine zWs9 zm_L_72 hF hB (c_L_same l D ka kb bd na L mo an pl ho le sz9 re9 kp st N_110 j_110 0 4 (by decide) (by decide) (f238_0.trans f238_4.symm)) rfl ⟨Nat.le_of_ble_eq_true rfl, Nat.le_of_ble_eq_true rfl⟩ rfl hl.1 (Nat.le_of_ble_eq_true rfl) ⟨Nat.le_refl _, Nat.le_refl _⟩ dL_registers_261 ?_
                                    clear hB
                                    try clear locs
                                    try clear H
                                    intro r111 u111 H locs hp hB
                                    obtain rfl : r111 = (1 : Int32) := hp
                                    replace hB : zB D A s ([] ++ OW ka bd na (L, mo, an, pl, ho, le, sz9, re9, kp, st, N_110, j_110)) H locs := hB
                                    refine lv_if_ne (tgt := 269) hx hb dL_registers_264 (by decide) (fun h264 => ?_) (fun h264 => ?_)
                                    · skip
                                      refine lv_aload_n hx hb dL_registers_269 rfl (lv_at hl 3 rfl) ?_
                                      refine lv_iconst (v := 0) hx hb dL_registers_270 (by decide) ?_
                                      refine lv_iconst (v := 1) hx hb dL_registers_271 (by decide) ?_
                                      refine zWi zm_L_75 hF hB (w_compare l D ka kb bd na L mo an pl ho le sz9 re9 kp st N_110 j_110 0 1 (d238) (hb110)) rfl ⟨Nat.le_of_ble_eq_true rfl, Nat.le_of_ble_eq_true rfl⟩ rfl hl.1 (Nat.le_of_ble_eq_true rfl) ⟨Nat.le_refl _, Nat.le_refl _⟩ dL_registers_272 ?_
                                      clear hB
                                      try clear locs
                                      try clear H
                                      intro r112 u112 H locs hp hB
                                      obtain ⟨N_112, j_112⟩ := u112
                                      have hp112 : r112 = cmpV (nI 0) (nI 1) N_110 ∧ (∀ k9, k9 ≠ 6 → N_112 k9 = N_110 k9) ∧ bB (jbb j_112) := hp
                                      have hr112 := hp112.1
                                      have hN112 := hp112.2.1
                                      have hb112 := hp112.2.2
                                      have c1 : r112 = cmpV (nI 0) (nI 1) N9 := hr112.trans (cmpV_cg (by decide) (by decide) f238_0 f238_1)
                                      have d272 : ∀ i, i < 6 → 0 < (N_112 i).2.2.2.2.toInt := fun i hi => by rw [hN112 i (by omega)]; exact d238 i hi
                                      have e272 : ∀ i, i < 6 → N_112 (8 + i) = N (8 + i) := fun i hi => (hN112 (8 + i) (by omega)).trans (e238 i hi)
                                      have f272_0 : N_112 0 = (N9 0) := (hN112 0 (by decide)).trans f238_0
                                      have f272_1 : N_112 1 = (N9 1) := (hN112 1 (by decide)).trans f238_1
                                      have f272_2 : N_112 2 = (prodV (N9 0) (N9 1)) := (hN112 2 (by decide)).trans f238_2
                                      have f272_3 : N_112 3 = (prodV (N9 0) (N9 1)) := (hN112 3 (by decide)).trans f238_3
                                      replace hB : zB D A s ([] ++ OW ka bd na (L, mo, an, pl, ho, le, sz9, re9, kp, st, N_112, j_112)) H locs := hB
                                      refine lv_istore (lv' := [(4, .int r112), (3, .int (0 : Int32)), (2, .int (nI at9)), (1, .ref (kb 1)), (0, .ref (bd 31))]) hx hb dL_registers_275 hl (by decide) rfl ?_
                                      clear hl
                                      clear ls
                                      intro ls hl
                                      refine lv_aload_n hx hb dL_registers_277 rfl (lv_at hl 4 rfl) ?_
                                      refine lv_iconst (v := 1) hx hb dL_registers_278 (by decide) ?_
                                      refine lv_iconst (v := 0) hx hb dL_registers_279 (by decide) ?_
                                      refine zWi zm_L_75 hF hB (w_compare l D ka kb bd na L mo an pl ho le sz9 re9 kp st N_112 j_112 1 0 (d272) (hb112)) rfl ⟨Nat.le_of_ble_eq_true rfl, Nat.le_of_ble_eq_true rfl⟩ rfl hl.1 (Nat.le_of_ble_eq_true rfl) ⟨Nat.le_refl _, Nat.le_refl _⟩ dL_registers_280 ?_
                                      clear hB
                                      try clear locs
                                      try clear H
                                      intro r113 u113 H locs hp hB
                                      obtain ⟨N_113, j_113⟩ := u113
                                      have hp113 : r113 = cmpV (nI 1) (nI 0) N_112 ∧ (∀ k9, k9 ≠ 6 → N_113 k9 = N_112 k9) ∧ bB (jbb j_113) := hp
                                      have hr113 := hp113.1
                                      have hN113 := hp113.2.1
                                      have hb113 := hp113.2.2
                                      have c2 : r113 = cmpV (nI 1) (nI 0) N9 := hr113.trans (cmpV_cg (by decide) (by decide) f272_1 f272_0)
                                      have d280 : ∀ i, i < 6 → 0 < (N_113 i).2.2.2.2.toInt := fun i hi => by rw [hN113 i (by omega)]; exact d272 i hi
                                      have e280 : ∀ i, i < 6 → N_113 (8 + i) = N (8 + i) := fun i hi => (hN113 (8 + i) (by omega)).trans (e272 i hi)
                                      have hcp := cmp_pair hX0 hX1
                                      have f280_2 : N_113 2 = (prodV (N9 0) (N9 1)) := (hN113 2 (by decide)).trans f272_2
                                      have f280_3 : N_113 3 = (prodV (N9 0) (N9 1)) := (hN113 3 (by decide)).trans f272_3
                                      replace hB : zB D A s ([] ++ OW ka bd na (L, mo, an, pl, ho, le, sz9, re9, kp, st, N_113, j_113)) H locs := hB
                                      refine lv_istore (lv' := [(5, .int r113), (4, .int r112), (3, .int (0 : Int32)), (2, .int (nI at9)), (1, .ref (kb 1)), (0, .ref (bd 31))]) hx hb dL_registers_283 hl (by decide) rfl ?_
                                      clear hl
                                      clear ls
                                      intro ls hl
                                      refine lv_iload hx hb dL_registers_285 (lv_at hl 1 rfl) ?_
                                      refine lv_bipush (v := -3) hx hb dL_registers_287 (by decide) ?_
                                      refine lv_icmp_ne (tgt := 307) hx hb dL_registers_289 (by decide) (fun h289 => ?_) (fun h289 => ?_)
                                      · skip
                                        have c3 := hcp.elim (fun e => absurd (c1.trans e.1) h289) (fun e => c2.trans (e.2.trans (congrArg (fun z : Int32 => -z) c1.symm)))
                                        refine lv_iload hx hb dL_registers_307 (lv_at hl 0 rfl) ?_
                                        refine lv_iload hx hb dL_registers_309 (lv_at hl 1 rfl) ?_
                                        refine lv_ineg hx hb dL_registers_311 ?_
                                        refine lv_icmp_ne (tgt := 328) hx hb dL_registers_312 (by decide) (fun h312 => ?_) (fun h312 => ?_)
                                        · skip
                                          exact absurd c3 h312
                                        · skip
                                          refine lv_aload_n hx hb dL_registers_315 rfl (lv_at hl 5 rfl) ?_
                                          refine lv_iconst (v := 2) hx hb dL_registers_316 (by decide) ?_
                                          refine lv_iconst (v := 3) hx hb dL_registers_317 (by decide) ?_
                                          refine zWi zm_L_75 hF hB (w_compare l D ka kb bd na L mo an pl ho le sz9 re9 kp st N_113 j_113 2 3 (d280) (hb113)) rfl ⟨Nat.le_of_ble_eq_true rfl, Nat.le_of_ble_eq_true rfl⟩ rfl hl.1 (Nat.le_of_ble_eq_true rfl) ⟨Nat.le_refl _, Nat.le_refl _⟩ dL_registers_318 ?_
                                          clear hB
                                          try clear locs
                                          try clear H
                                          intro r114 u114 H locs hp hB
                                          obtain ⟨N_114, j_114⟩ := u114
                                          have hp114 : r114 = cmpV (nI 2) (nI 3) N_113 ∧ (∀ k9, k9 ≠ 6 → N_114 k9 = N_113 k9) ∧ bB (jbb j_114) := hp
                                          have hr114 := hp114.1
                                          have hN114 := hp114.2.1
                                          have hb114 := hp114.2.2
                                          have c5 : r114 = 0 := hr114.trans (cmp_same (by decide) (by decide) (f280_2.trans f280_3.symm) (by rw [f280_2]; exact hpm.2.2.2.2.1) (by rw [f280_2]; exact hpm.2.2.2.1) (by decide) (by decide))
                                          have d318 : ∀ i, i < 6 → 0 < (N_114 i).2.2.2.2.toInt := fun i hi => by rw [hN114 i (by omega)]; exact d280 i hi
                                          have e318 : ∀ i, i < 6 → N_114 (8 + i) = N (8 + i) := fun i hi => (hN114 (8 + i) (by omega)).trans (e280 i hi)
                                          replace hB : zB D A s ([] ++ OW ka bd na (L, mo, an, pl, ho, le, sz9, re9, kp, st, N_114, j_114)) H locs := hB
                                          refine lv_if_ne (tgt := 328) hx hb dL_registers_321 (by decide) (fun h321 => ?_) (fun h321 => ?_)
                                          · skip
                                            exact absurd c5 h321
                                          · skip
                                            refine lv_iconst (v := 1) hx hb dL_registers_324 (by decide) ?_
                                            refine lv_goto (tgt := 329) hx hb dL_registers_325 (by decide) ?_
                                            exact zreti hF hB (N_114, j_114) (⟨rfl, d318, hb114, e318⟩) (rfl) (rfl) dL_registers_329 hQ
                                      · skip
                                        have c4 := hcp.elim (fun e => c2.trans e.2) (fun e => absurd (c1.symm.trans h289) e.1)
                                        refine lv_iload hx hb dL_registers_292 (lv_at hl 0 rfl) ?_
                                        refine lv_bipush (v := -3) hx hb dL_registers_294 (by decide) ?_
                                        refine lv_icmp_ne (tgt := 303) hx hb dL_registers_296 (by decide) (fun h296 => ?_) (fun h296 => ?_)
                                        · skip
                                          exact absurd c4 h296
                                        · skip
                                          refine lv_iconst (v := 1) hx hb dL_registers_299 (by decide) ?_
                                          refine lv_goto (tgt := 329) hx hb dL_registers_300 (by decide) ?_
                                          exact zreti hF hB (N_113, j_113) (⟨rfl, d280, hb113, e280⟩) (rfl) (rfl) dL_registers_329 hQ
                                    · skip
                                      exact absurd h264 (by decide)
                              · skip
                                exact absurd (by decide) h242
                      · skip
                        exact absurd h195 (by decide)
          exact lp144 (0 + 1)  (dB_f.mpr (fun e => h102 e.1)) (by omega) _ _ (hB) _ (lv_sub hl [0, 1, 2, 3] rfl)
        · skip
          replace h102 := (lg_cmp_eq _ _).mp h102
          refine lv_aload_n hx hb dL_registers_105 rfl (lv_at hl 3 rfl) ?_
          refine lv_iconst (v := 1) hx hb dL_registers_106 (by decide) ?_
          refine lv_iconst (v := 1) hx hb dL_registers_107 (by decide) ?_
          refine zWl zm_L_15 hF hB (w_part l D ka kb bd na L mo an pl ho le sz9 re9 kp st N9 j 1 1 (by decide) (by decide)) rfl ⟨Nat.le_of_ble_eq_true rfl, Nat.le_of_ble_eq_true rfl⟩ rfl hl.1 (Nat.le_of_ble_eq_true rfl) ⟨Nat.le_refl _, Nat.le_refl _⟩ dL_registers_108 ?_
          clear hB
          try clear locs
          try clear H
          intro r115 u115 H locs hp hB
          obtain rfl : r115 = cmp5 (N9 1) 1 := hp
          replace hB : zB D A s ([] ++ OW ka bd na (L, mo, an, pl, ho, le, sz9, re9, kp, st, N9, j)) H locs := hB
          refine lv_lconst (v := 0) hx hb dL_registers_111 (by decide) ?_
          refine W.lcmp hx hb dL_registers_112 ?_
          refine lv_if_ne (tgt := 142) hx hb dL_registers_113 (by decide) (fun h113 => ?_) (fun h113 => ?_)
          · skip
            replace h113 := (fun e9 => h113 ((lg_cmp_eq _ _).mpr e9))
            refine lv_iconst (v := 0) hx hb dL_registers_142 (by decide) ?_
            refine lv_istore_n (lv' := [(3, .int (0 : Int32)), (2, .int (nI at9)), (1, .ref (kb 1)), (0, .ref (bd 31))]) hx hb dL_registers_143 rfl hl (by decide) rfl ?_
            clear hl
            clear ls
            intro ls hl
            have lp144 : ∀ (fl : Nat) , (hzb : zeroN (N9 1) = false) → 0 < fl → ∀ (H : Heap) (locs : List Loc), zB D A s ([] ++ OW ka bd na (L, mo, an, pl, ho, le, sz9, re9, kp, st, N9, j)) H locs → ∀ ls : Array Slot, lv_has ls 6 [(3, .int (0 : Int32)), (2, .int (nI at9)), (1, .ref (kb 1)), (0, .ref (bd 31))] → W p l e (zRm 7 226 0 0) s m args below meth c H locs 0 0 Q (F0 m 144 ls []) := by
              intro fl
              induction fl with
              | zero => intro  hzb hfl; exact absurd hfl (Nat.not_lt_zero _)
              | succ fl ih144 =>
                intro  hzb hfl144 H locs hB ls hl
                refine lv_aload_n hx hb dL_registers_144 rfl (lv_at hl 3 rfl) ?_
                refine lv_iconst (v := 0) hx hb dL_registers_145 (by decide) ?_
                refine lv_iconst (v := 0) hx hb dL_registers_146 (by decide) ?_
                refine lv_iconst (v := 1) hx hb dL_registers_147 (by decide) ?_
                refine lv_iconst (v := 2) hx hb dL_registers_148 (by decide) ?_
                refine zWi zm_L_69 hF hB (w_rk_add l D ka kb bd na L mo an pl ho le sz9 re9 kp st N9 j 0 1 2 (hd6) (hB9) (by decide) (by decide) (by decide) (by exact hsm.1)) rfl ⟨Nat.le_of_ble_eq_true rfl, Nat.le_of_ble_eq_true rfl⟩ rfl hl.1 (Nat.le_of_ble_eq_true rfl) ⟨Nat.le_refl _, Nat.le_refl _⟩ dL_registers_149 ?_
                clear hB
                try clear locs
                try clear H
                intro r116 u116 H locs hp hB
                obtain ⟨N_116, j_116⟩ := u116
                have hp116 : r116 = 1 ∧ (∀ k9, k9 < 25 → N_116 k9 = upN N9 2 (sumV false (N9 0) (N9 1)) k9) ∧ bB (jbb j_116) := hp
                have hr116 := hp116.1
                have hN116 := hp116.2.1
                have hb116 := hp116.2.2
                have f149_0 : N_116 0 = (N9 0) := (hN116 0 (by decide)).trans (upN_ne (by decide))
                have f149_1 : N_116 1 = (N9 1) := (hN116 1 (by decide)).trans (upN_ne (by decide))
                have f149_2 : N_116 2 = (sumV false (N9 0) (N9 1)) := (hN116 2 (by decide)).trans (upN_eq.trans (rfl))
                have d149 : ∀ i, i < 6 → 0 < (N_116 i).2.2.2.2.toInt := fun i hi => by
                  by_cases e : i = 2
                  · rw [e, f149_2]; exact sumV_d hsm.1 (hd6 0 (by decide)) (hd6 1 (by decide))
                  · rw [hN116 i (by omega), upN_ne e]; exact hd6 i hi
                have e149 : ∀ i, i < 6 → N_116 (8 + i) = N (8 + i) := fun i hi => (hN116 (8 + i) (by omega)).trans ((upN_ne (by omega)).trans (he9 i hi))
                replace hB : zB D A s ([] ++ OW ka bd na (L, mo, an, pl, ho, le, sz9, re9, kp, st, N_116, j_116)) H locs := hB
                refine lv_iconst (v := 1) hx hb dL_registers_152 (by decide) ?_
                refine lv_icmp_ne (tgt := 198) hx hb dL_registers_153 (by decide) (fun h153 => ?_) (fun h153 => ?_)
                · skip
                  exact absurd hr116 h153
                · skip
                  refine lv_aload_n hx hb dL_registers_156 rfl (lv_at hl 3 rfl) ?_
                  refine lv_iconst (v := 1) hx hb dL_registers_157 (by decide) ?_
                  refine lv_iconst (v := 2) hx hb dL_registers_158 (by decide) ?_
                  refine lv_iconst (v := 1) hx hb dL_registers_159 (by decide) ?_
                  refine lv_iconst (v := 3) hx hb dL_registers_160 (by decide) ?_
                  refine zWi zm_L_69 hF hB (w_rk_sub l D ka kb bd na L mo an pl ho le sz9 re9 kp st N_116 j_116 2 1 3 (d149) (hb116) (by decide) (by decide) (by decide) (by rw [f149_2, f149_1]; exact hsm.2.1)) rfl ⟨Nat.le_of_ble_eq_true rfl, Nat.le_of_ble_eq_true rfl⟩ rfl hl.1 (Nat.le_of_ble_eq_true rfl) ⟨Nat.le_refl _, Nat.le_refl _⟩ dL_registers_161 ?_
                  clear hB
                  try clear locs
                  try clear H
                  intro r117 u117 H locs hp hB
                  obtain ⟨N_117, j_117⟩ := u117
                  have hp117 : r117 = 1 ∧ (∀ k9, k9 < 25 → N_117 k9 = upN N_116 3 (sumV true (N_116 2) (N_116 1)) k9) ∧ bB (jbb j_117) := hp
                  have hr117 := hp117.1
                  have hN117 := hp117.2.1
                  have hb117 := hp117.2.2
                  have f161_0 : N_117 0 = (N9 0) := (hN117 0 (by decide)).trans ((upN_ne (by decide)).trans f149_0)
                  have f161_1 : N_117 1 = (N9 1) := (hN117 1 (by decide)).trans ((upN_ne (by decide)).trans f149_1)
                  have f161_2 : N_117 2 = (sumV false (N9 0) (N9 1)) := (hN117 2 (by decide)).trans ((upN_ne (by decide)).trans f149_2)
                  have f161_3 : N_117 3 = (N9 0) := (hN117 3 (by decide)).trans (upN_eq.trans (by rw [f149_2, f149_1]; exact hsm.2.2.1))
                  have d161 : ∀ i, i < 6 → 0 < (N_117 i).2.2.2.2.toInt := fun i hi => by
                    by_cases e : i = 3
                    · rw [e, f161_3]; exact hd6 0 (by decide)
                    · rw [hN117 i (by omega), upN_ne e]; exact d149 i hi
                  have e161 : ∀ i, i < 6 → N_117 (8 + i) = N (8 + i) := fun i hi => (hN117 (8 + i) (by omega)).trans ((upN_ne (by omega)).trans (e149 i hi))
                  replace hB : zB D A s ([] ++ OW ka bd na (L, mo, an, pl, ho, le, sz9, re9, kp, st, N_117, j_117)) H locs := hB
                  refine lv_iconst (v := 1) hx hb dL_registers_164 (by decide) ?_
                  refine lv_icmp_ne (tgt := 198) hx hb dL_registers_165 (by decide) (fun h165 => ?_) (fun h165 => ?_)
                  · skip
                    exact absurd hr117 h165
                  · skip
                    refine lv_aload_n hx hb dL_registers_168 rfl (lv_at hl 3 rfl) ?_
                    refine lv_iconst (v := 0) hx hb dL_registers_169 (by decide) ?_
                    refine lv_iconst (v := 3) hx hb dL_registers_170 (by decide) ?_
                    refine zWs9 zm_L_72 hF hB (c_L_same l D ka kb bd na L mo an pl ho le sz9 re9 kp st N_117 j_117 0 3 (by decide) (by decide) (f161_0.trans f161_3.symm)) rfl ⟨Nat.le_of_ble_eq_true rfl, Nat.le_of_ble_eq_true rfl⟩ rfl hl.1 (Nat.le_of_ble_eq_true rfl) ⟨Nat.le_refl _, Nat.le_refl _⟩ dL_registers_171 ?_
                    clear hB
                    try clear locs
                    try clear H
                    intro r118 u118 H locs hp hB
                    obtain rfl : r118 = (1 : Int32) := hp
                    replace hB : zB D A s ([] ++ OW ka bd na (L, mo, an, pl, ho, le, sz9, re9, kp, st, N_117, j_117)) H locs := hB
                    refine lv_if_eq (tgt := 198) hx hb dL_registers_174 (by decide) (fun h174 => ?_) (fun h174 => ?_)
                    · skip
                      exact absurd h174 (by decide)
                    · skip
                      refine lv_aload_n hx hb dL_registers_177 rfl (lv_at hl 3 rfl) ?_
                      refine lv_iconst (v := 1) hx hb dL_registers_178 (by decide) ?_
                      refine lv_iconst (v := 2) hx hb dL_registers_179 (by decide) ?_
                      refine lv_iconst (v := 0) hx hb dL_registers_180 (by decide) ?_
                      refine lv_iconst (v := 3) hx hb dL_registers_181 (by decide) ?_
                      refine zWi zm_L_69 hF hB (w_rk_sub l D ka kb bd na L mo an pl ho le sz9 re9 kp st N_117 j_117 2 0 3 (d161) (hb117) (by decide) (by decide) (by decide) (by rw [f161_2, f161_0]; exact hsm.2.2.2.1)) rfl ⟨Nat.le_of_ble_eq_true rfl, Nat.le_of_ble_eq_true rfl⟩ rfl hl.1 (Nat.le_of_ble_eq_true rfl) ⟨Nat.le_refl _, Nat.le_refl _⟩ dL_registers_182 ?_
                      clear hB
                      try clear locs
                      try clear H
                      intro r119 u119 H locs hp hB
                      obtain ⟨N_119, j_119⟩ := u119
                      have hp119 : r119 = 1 ∧ (∀ k9, k9 < 25 → N_119 k9 = upN N_117 3 (sumV true (N_117 2) (N_117 0)) k9) ∧ bB (jbb j_119) := hp
                      have hr119 := hp119.1
                      have hN119 := hp119.2.1
                      have hb119 := hp119.2.2
                      have f182_0 : N_119 0 = (N9 0) := (hN119 0 (by decide)).trans ((upN_ne (by decide)).trans f161_0)
                      have f182_1 : N_119 1 = (N9 1) := (hN119 1 (by decide)).trans ((upN_ne (by decide)).trans f161_1)
                      have f182_2 : N_119 2 = (sumV false (N9 0) (N9 1)) := (hN119 2 (by decide)).trans ((upN_ne (by decide)).trans f161_2)
                      have f182_3 : N_119 3 = (N9 1) := (hN119 3 (by decide)).trans (upN_eq.trans (by rw [f161_2, f161_0]; exact hsm.2.2.2.2))
                      have d182 : ∀ i, i < 6 → 0 < (N_119 i).2.2.2.2.toInt := fun i hi => by
                        by_cases e : i = 3
                        · rw [e, f182_3]; exact hd6 1 (by decide)
                        · rw [hN119 i (by omega), upN_ne e]; exact d161 i hi
                      have e182 : ∀ i, i < 6 → N_119 (8 + i) = N (8 + i) := fun i hi => (hN119 (8 + i) (by omega)).trans ((upN_ne (by omega)).trans (e161 i hi))
                      replace hB : zB D A s ([] ++ OW ka bd na (L, mo, an, pl, ho, le, sz9, re9, kp, st, N_119, j_119)) H locs := hB
                      refine lv_iconst (v := 1) hx hb dL_registers_185 (by decide) ?_
                      refine lv_icmp_ne (tgt := 198) hx hb dL_registers_186 (by decide) (fun h186 => ?_) (fun h186 => ?_)
                      · skip
                        exact absurd hr119 h186
                      · skip
                        refine lv_aload_n hx hb dL_registers_189 rfl (lv_at hl 3 rfl) ?_
                        refine lv_iconst (v := 1) hx hb dL_registers_190 (by decide) ?_
                        refine lv_iconst (v := 3) hx hb dL_registers_191 (by decide) ?_
                        refine zWs9 zm_L_72 hF hB (c_L_same l D ka kb bd na L mo an pl ho le sz9 re9 kp st N_119 j_119 1 3 (by decide) (by decide) (f182_1.trans f182_3.symm)) rfl ⟨Nat.le_of_ble_eq_true rfl, Nat.le_of_ble_eq_true rfl⟩ rfl hl.1 (Nat.le_of_ble_eq_true rfl) ⟨Nat.le_refl _, Nat.le_refl _⟩ dL_registers_192 ?_
                        clear hB
                        try clear locs
                        try clear H
                        intro r120 u120 H locs hp hB
                        obtain rfl : r120 = (1 : Int32) := hp
                        replace hB : zB D A s ([] ++ OW ka bd na (L, mo, an, pl, ho, le, sz9, re9, kp, st, N_119, j_119)) H locs := hB
                        refine lv_if_ne (tgt := 200) hx hb dL_registers_195 (by decide) (fun h195 => ?_) (fun h195 => ?_)
                        · skip
                          refine lv_aload_n hx hb dL_registers_200 rfl (lv_at hl 3 rfl) ?_
                          refine lv_iconst (v := 2) hx hb dL_registers_201 (by decide) ?_
                          refine lv_iconst (v := 0) hx hb dL_registers_202 (by decide) ?_
                          refine lv_iconst (v := 1) hx hb dL_registers_203 (by decide) ?_
                          refine lv_iconst (v := 2) hx hb dL_registers_204 (by decide) ?_
                          refine zWi zm_L_69 hF hB (w_rk_mul l D ka kb bd na L mo an pl ho le sz9 re9 kp st N_119 j_119 0 1 2 (d182) (hb119) (by decide) (by decide) (by decide) (by rw [f182_0, f182_1]; exact hpm.1)) rfl ⟨Nat.le_of_ble_eq_true rfl, Nat.le_of_ble_eq_true rfl⟩ rfl hl.1 (Nat.le_of_ble_eq_true rfl) ⟨Nat.le_refl _, Nat.le_refl _⟩ dL_registers_205 ?_
                          clear hB
                          try clear locs
                          try clear H
                          intro r121 u121 H locs hp hB
                          obtain ⟨N_121, j_121⟩ := u121
                          have hp121 : r121 = 1 ∧ (∀ k9, k9 < 25 → N_121 k9 = upN N_119 2 (prodV (N_119 0) (N_119 1)) k9) ∧ bB (jbb j_121) := hp
                          have hr121 := hp121.1
                          have hN121 := hp121.2.1
                          have hb121 := hp121.2.2
                          have f205_0 : N_121 0 = (N9 0) := (hN121 0 (by decide)).trans ((upN_ne (by decide)).trans f182_0)
                          have f205_1 : N_121 1 = (N9 1) := (hN121 1 (by decide)).trans ((upN_ne (by decide)).trans f182_1)
                          have f205_3 : N_121 3 = (N9 1) := (hN121 3 (by decide)).trans ((upN_ne (by decide)).trans f182_3)
                          have f205_2 : N_121 2 = (prodV (N9 0) (N9 1)) := (hN121 2 (by decide)).trans (upN_eq.trans (by rw [f182_0, f182_1]))
                          have d205 : ∀ i, i < 6 → 0 < (N_121 i).2.2.2.2.toInt := fun i hi => by
                            by_cases e : i = 2
                            · rw [e, f205_2]; exact prodV_d hpm.1 (hd6 0 (by decide)) (hd6 1 (by decide))
                            · rw [hN121 i (by omega), upN_ne e]; exact d182 i hi
                          have e205 : ∀ i, i < 6 → N_121 (8 + i) = N (8 + i) := fun i hi => (hN121 (8 + i) (by omega)).trans ((upN_ne (by omega)).trans (e182 i hi))
                          replace hB : zB D A s ([] ++ OW ka bd na (L, mo, an, pl, ho, le, sz9, re9, kp, st, N_121, j_121)) H locs := hB
                          refine lv_iconst (v := 1) hx hb dL_registers_208 (by decide) ?_
                          refine lv_icmp_ne (tgt := 267) hx hb dL_registers_209 (by decide) (fun h209 => ?_) (fun h209 => ?_)
                          · skip
                            exact absurd hr121 h209
                          · skip
                            refine lv_aload_n hx hb dL_registers_212 rfl (lv_at hl 3 rfl) ?_
                            refine lv_iconst (v := 2) hx hb dL_registers_213 (by decide) ?_
                            refine lv_iconst (v := 1) hx hb dL_registers_214 (by decide) ?_
                            refine lv_iconst (v := 0) hx hb dL_registers_215 (by decide) ?_
                            refine lv_iconst (v := 3) hx hb dL_registers_216 (by decide) ?_
                            refine zWi zm_L_69 hF hB (w_rk_mul l D ka kb bd na L mo an pl ho le sz9 re9 kp st N_121 j_121 1 0 3 (d205) (hb121) (by decide) (by decide) (by decide) (by rw [f205_1, f205_0]; exact hpm.2.1)) rfl ⟨Nat.le_of_ble_eq_true rfl, Nat.le_of_ble_eq_true rfl⟩ rfl hl.1 (Nat.le_of_ble_eq_true rfl) ⟨Nat.le_refl _, Nat.le_refl _⟩ dL_registers_217 ?_
                            clear hB
                            try clear locs
                            try clear H
                            intro r122 u122 H locs hp hB
                            obtain ⟨N_122, j_122⟩ := u122
                            have hp122 : r122 = 1 ∧ (∀ k9, k9 < 25 → N_122 k9 = upN N_121 3 (prodV (N_121 1) (N_121 0)) k9) ∧ bB (jbb j_122) := hp
                            have hr122 := hp122.1
                            have hN122 := hp122.2.1
                            have hb122 := hp122.2.2
                            have f217_0 : N_122 0 = (N9 0) := (hN122 0 (by decide)).trans ((upN_ne (by decide)).trans f205_0)
                            have f217_1 : N_122 1 = (N9 1) := (hN122 1 (by decide)).trans ((upN_ne (by decide)).trans f205_1)
                            have f217_2 : N_122 2 = (prodV (N9 0) (N9 1)) := (hN122 2 (by decide)).trans ((upN_ne (by decide)).trans f205_2)
                            have f217_3 : N_122 3 = (prodV (N9 0) (N9 1)) := (hN122 3 (by decide)).trans (upN_eq.trans (by rw [f205_1, f205_0]; exact hpm.2.2.1.symm))
                            have d217 : ∀ i, i < 6 → 0 < (N_122 i).2.2.2.2.toInt := fun i hi => by
                              by_cases e : i = 3
                              · rw [e, f217_3]; exact prodV_d hpm.1 (hd6 0 (by decide)) (hd6 1 (by decide))
                              · rw [hN122 i (by omega), upN_ne e]; exact d205 i hi
                            have e217 : ∀ i, i < 6 → N_122 (8 + i) = N (8 + i) := fun i hi => (hN122 (8 + i) (by omega)).trans ((upN_ne (by omega)).trans (e205 i hi))
                            replace hB : zB D A s ([] ++ OW ka bd na (L, mo, an, pl, ho, le, sz9, re9, kp, st, N_122, j_122)) H locs := hB
                            refine lv_iconst (v := 1) hx hb dL_registers_220 (by decide) ?_
                            refine lv_icmp_ne (tgt := 267) hx hb dL_registers_221 (by decide) (fun h221 => ?_) (fun h221 => ?_)
                            · skip
                              exact absurd hr122 h221
                            · skip
                              refine lv_aload_n hx hb dL_registers_224 rfl (lv_at hl 3 rfl) ?_
                              refine lv_iconst (v := 2) hx hb dL_registers_225 (by decide) ?_
                              refine lv_iconst (v := 3) hx hb dL_registers_226 (by decide) ?_
                              refine zWs9 zm_L_72 hF hB (c_L_same l D ka kb bd na L mo an pl ho le sz9 re9 kp st N_122 j_122 2 3 (by decide) (by decide) (f217_2.trans f217_3.symm)) rfl ⟨Nat.le_of_ble_eq_true rfl, Nat.le_of_ble_eq_true rfl⟩ rfl hl.1 (Nat.le_of_ble_eq_true rfl) ⟨Nat.le_refl _, Nat.le_refl _⟩ dL_registers_227 ?_
                              clear hB
                              try clear locs
                              try clear H
                              intro r123 u123 H locs hp hB
                              obtain rfl : r123 = (1 : Int32) := hp
                              replace hB : zB D A s ([] ++ OW ka bd na (L, mo, an, pl, ho, le, sz9, re9, kp, st, N_122, j_122)) H locs := hB
                              refine lv_if_eq (tgt := 267) hx hb dL_registers_230 (by decide) (fun h230 => ?_) (fun h230 => ?_)
                              · skip
                                exact absurd h230 (by decide)
                              · skip
                                refine lv_aload_n hx hb dL_registers_233 rfl (lv_at hl 3 rfl) ?_
                                refine lv_iconst (v := 3) hx hb dL_registers_234 (by decide) ?_
                                refine lv_iconst (v := 2) hx hb dL_registers_235 (by decide) ?_
                                refine lv_iconst (v := 1) hx hb dL_registers_236 (by decide) ?_
                                refine lv_iconst (v := 4) hx hb dL_registers_237 (by decide) ?_
                                refine zWi zm_L_69 hF hB (w_rk_div l D ka kb bd na L mo an pl ho le sz9 re9 kp st N_122 j_122 2 1 4 (d217) (hb122) (by decide) (by decide) (by decide) (by rw [f217_2, f217_1]; exact (hpm.2.2.2.2.2 hzb).1) (by rw [f217_1]; exact hzb)) rfl ⟨Nat.le_of_ble_eq_true rfl, Nat.le_of_ble_eq_true rfl⟩ rfl hl.1 (Nat.le_of_ble_eq_true rfl) ⟨Nat.le_refl _, Nat.le_refl _⟩ dL_registers_238 ?_
                                clear hB
                                try clear locs
                                try clear H
                                intro r124 u124 H locs hp hB
                                obtain ⟨N_124, j_124⟩ := u124
                                have hp124 : r124 = 1 ∧ (∀ k9, k9 < 25 → N_124 k9 = upN N_122 4 (quoV (N_122 2) (N_122 1)) k9) ∧ bB (jbb j_124) := hp
                                have hr124 := hp124.1
                                have hN124 := hp124.2.1
                                have hb124 := hp124.2.2
                                have f238_0 : N_124 0 = (N9 0) := (hN124 0 (by decide)).trans ((upN_ne (by decide)).trans f217_0)
                                have f238_1 : N_124 1 = (N9 1) := (hN124 1 (by decide)).trans ((upN_ne (by decide)).trans f217_1)
                                have f238_2 : N_124 2 = (prodV (N9 0) (N9 1)) := (hN124 2 (by decide)).trans ((upN_ne (by decide)).trans f217_2)
                                have f238_3 : N_124 3 = (prodV (N9 0) (N9 1)) := (hN124 3 (by decide)).trans ((upN_ne (by decide)).trans f217_3)
                                have f238_4 : N_124 4 = (N9 0) := (hN124 4 (by decide)).trans (upN_eq.trans (by rw [f217_2, f217_1]; exact (hpm.2.2.2.2.2 hzb).2))
                                have d238 : ∀ i, i < 6 → 0 < (N_124 i).2.2.2.2.toInt := fun i hi => by
                                  by_cases e : i = 4
                                  · rw [e, f238_4]; exact hd6 0 (by decide)
                                  · rw [hN124 i (by omega), upN_ne e]; exact d217 i hi
                                have e238 : ∀ i, i < 6 → N_124 (8 + i) = N (8 + i) := fun i hi => (hN124 (8 + i) (by omega)).trans ((upN_ne (by omega)).trans (e217 i hi))
                                replace hB : zB D A s ([] ++ OW ka bd na (L, mo, an, pl, ho, le, sz9, re9, kp, st, N_124, j_124)) H locs := hB
                                refine lv_iload_n hx hb dL_registers_241 rfl (lv_at hl 0 rfl) ?_
                                refine lv_if_eq (tgt := 250) hx hb dL_registers_242 (by decide) (fun h242 => ?_) (fun h242 => ?_)
                                · skip
                                  refine lv_iconst (v := 1) hx hb dL_registers_250 (by decide) ?_
                                  refine lv_icmp_ne (tgt := 267) hx hb dL_registers_251 (by decide) (fun h251 => ?_) (fun h251 => ?_)
                                  · skip
                                    exact absurd hr124 h251
                                  · skip
                                    refine lv_iload_n hx hb dL_registers_254 rfl (lv_at hl 0 rfl) ?_
                                    refine lv_if_ne (tgt := 269) hx hb dL_registers_255 (by decide) (fun h255 => ?_) (fun h255 => ?_)
                                    · skip
                                      exact absurd (by decide) h255
                                    · skip
                                      refine lv_aload_n hx hb dL_registers_258 rfl (lv_at hl 3 rfl) ?_
                                      refine lv_iconst (v := 0) hx hb dL_registers_259 (by decide) ?_
                                      refine lv_iconst (v := 4) hx hb dL_registers_260 (by decide) ?_
                                      refine zWs9 zm_L_72 hF hB (c_L_same l D ka kb bd na L mo an pl ho le sz9 re9 kp st N_124 j_124 0 4 (by decide) (by decide) (f238_0.trans f238_4.symm)) rfl ⟨Nat.le_of_ble_eq_true rfl, Nat.le_of_ble_eq_true rfl⟩ rfl hl.1 (Nat.le_of_ble_eq_true rfl) ⟨Nat.le_refl _, Nat.le_refl _⟩ dL_registers_261 ?_
                                      clear hB
                                      try clear locs
                                      try clear H
                                      intro r125 u125 H locs hp hB
                                      obtain rfl : r125 = (1 : Int32) := hp
                                      replace hB : zB D A s ([] ++ OW ka bd na (L, mo, an, pl, ho, le, sz9, re9, kp, st, N_124, j_124)) H locs := hB
                                      refine lv_if_ne (tgt := 269) hx hb dL_registers_264 (by decide) (fun h264 => ?_) (fun h264 => ?_)
                                      · skip
                                        refine lv_aload_n hx hb dL_registers_269 rfl (lv_at hl 3 rfl) ?_
                                        refine lv_iconst (v := 0) hx hb dL_registers_270 (by decide) ?_
                                        refine lv_iconst (v := 1) hx hb dL_registers_271 (by decide) ?_
                                        refine zWi zm_L_75 hF hB (w_compare l D ka kb bd na L mo an pl ho le sz9 re9 kp st N_124 j_124 0 1 (d238) (hb124)) rfl ⟨Nat.le_of_ble_eq_true rfl, Nat.le_of_ble_eq_true rfl⟩ rfl hl.1 (Nat.le_of_ble_eq_true rfl) ⟨Nat.le_refl _, Nat.le_refl _⟩ dL_registers_272 ?_
                                        clear hB
                                        try clear locs
                                        try clear H
                                        intro r126 u126 H locs hp hB
                                        obtain ⟨N_126, j_126⟩ := u126
                                        have hp126 : r126 = cmpV (nI 0) (nI 1) N_124 ∧ (∀ k9, k9 ≠ 6 → N_126 k9 = N_124 k9) ∧ bB (jbb j_126) := hp
                                        have hr126 := hp126.1
                                        have hN126 := hp126.2.1
                                        have hb126 := hp126.2.2
                                        have c1 : r126 = cmpV (nI 0) (nI 1) N9 := hr126.trans (cmpV_cg (by decide) (by decide) f238_0 f238_1)
                                        have d272 : ∀ i, i < 6 → 0 < (N_126 i).2.2.2.2.toInt := fun i hi => by rw [hN126 i (by omega)]; exact d238 i hi
                                        have e272 : ∀ i, i < 6 → N_126 (8 + i) = N (8 + i) := fun i hi => (hN126 (8 + i) (by omega)).trans (e238 i hi)
                                        have f272_0 : N_126 0 = (N9 0) := (hN126 0 (by decide)).trans f238_0
                                        have f272_1 : N_126 1 = (N9 1) := (hN126 1 (by decide)).trans f238_1
                                        have f272_2 : N_126 2 = (prodV (N9 0) (N9 1)) := (hN126 2 (by decide)).trans f238_2
                                        have f272_3 : N_126 3 = (prodV (N9 0) (N9 1)) := (hN126 3 (by decide)).trans f238_3
                                        replace hB : zB D A s ([] ++ OW ka bd na (L, mo, an, pl, ho, le, sz9, re9, kp, st, N_126, j_126)) H locs := hB
                                        refine lv_istore (lv' := [(4, .int r126), (3, .int (0 : Int32)), (2, .int (nI at9)), (1, .ref (kb 1)), (0, .ref (bd 31))]) hx hb dL_registers_275 hl (by decide) rfl ?_
                                        clear hl
                                        clear ls
                                        intro ls hl
                                        refine lv_aload_n hx hb dL_registers_277 rfl (lv_at hl 4 rfl) ?_
                                        refine lv_iconst (v := 1) hx hb dL_registers_278 (by decide) ?_
                                        refine lv_iconst (v := 0) hx hb dL_registers_279 (by decide) ?_
                                        refine zWi zm_L_75 hF hB (w_compare l D ka kb bd na L mo an pl ho le sz9 re9 kp st N_126 j_126 1 0 (d272) (hb126)) rfl ⟨Nat.le_of_ble_eq_true rfl, Nat.le_of_ble_eq_true rfl⟩ rfl hl.1 (Nat.le_of_ble_eq_true rfl) ⟨Nat.le_refl _, Nat.le_refl _⟩ dL_registers_280 ?_
                                        clear hB
                                        try clear locs
                                        try clear H
                                        intro r127 u127 H locs hp hB
                                        obtain ⟨N_127, j_127⟩ := u127
                                        have hp127 : r127 = cmpV (nI 1) (nI 0) N_126 ∧ (∀ k9, k9 ≠ 6 → N_127 k9 = N_126 k9) ∧ bB (jbb j_127) := hp
                                        have hr127 := hp127.1
                                        have hN127 := hp127.2.1
                                        have hb127 := hp127.2.2
                                        have c2 : r127 = cmpV (nI 1) (nI 0) N9 := hr127.trans (cmpV_cg (by decide) (by decide) f272_1 f272_0)
                                        have d280 : ∀ i, i < 6 → 0 < (N_127 i).2.2.2.2.toInt := fun i hi => by rw [hN127 i (by omega)]; exact d272 i hi
                                        have e280 : ∀ i, i < 6 → N_127 (8 + i) = N (8 + i) := fun i hi => (hN127 (8 + i) (by omega)).trans (e272 i hi)
                                        have hcp := cmp_pair hX0 hX1
                                        have f280_2 : N_127 2 = (prodV (N9 0) (N9 1)) := (hN127 2 (by decide)).trans f272_2
                                        have f280_3 : N_127 3 = (prodV (N9 0) (N9 1)) := (hN127 3 (by decide)).trans f272_3
                                        replace hB : zB D A s ([] ++ OW ka bd na (L, mo, an, pl, ho, le, sz9, re9, kp, st, N_127, j_127)) H locs := hB
                                        refine lv_istore (lv' := [(5, .int r127), (4, .int r126), (3, .int (0 : Int32)), (2, .int (nI at9)), (1, .ref (kb 1)), (0, .ref (bd 31))]) hx hb dL_registers_283 hl (by decide) rfl ?_
                                        clear hl
                                        clear ls
                                        intro ls hl
                                        refine lv_iload hx hb dL_registers_285 (lv_at hl 1 rfl) ?_
                                        refine lv_bipush (v := -3) hx hb dL_registers_287 (by decide) ?_
                                        refine lv_icmp_ne (tgt := 307) hx hb dL_registers_289 (by decide) (fun h289 => ?_) (fun h289 => ?_)
                                        · skip
                                          have c3 := hcp.elim (fun e => absurd (c1.trans e.1) h289) (fun e => c2.trans (e.2.trans (congrArg (fun z : Int32 => -z) c1.symm)))
                                          refine lv_iload hx hb dL_registers_307 (lv_at hl 0 rfl) ?_
                                          refine lv_iload hx hb dL_registers_309 (lv_at hl 1 rfl) ?_
                                          refine lv_ineg hx hb dL_registers_311 ?_
                                          refine lv_icmp_ne (tgt := 328) hx hb dL_registers_312 (by decide) (fun h312 => ?_) (fun h312 => ?_)
                                          · skip
                                            exact absurd c3 h312
                                          · skip
                                            refine lv_aload_n hx hb dL_registers_315 rfl (lv_at hl 5 rfl) ?_
                                            refine lv_iconst (v := 2) hx hb dL_registers_316 (by decide) ?_
                                            refine lv_iconst (v := 3) hx hb dL_registers_317 (by decide) ?_
                                            refine zWi zm_L_75 hF hB (w_compare l D ka kb bd na L mo an pl ho le sz9 re9 kp st N_127 j_127 2 3 (d280) (hb127)) rfl ⟨Nat.le_of_ble_eq_true rfl, Nat.le_of_ble_eq_true rfl⟩ rfl hl.1 (Nat.le_of_ble_eq_true rfl) ⟨Nat.le_refl _, Nat.le_refl _⟩ dL_registers_318 ?_
                                            clear hB
                                            try clear locs
                                            try clear H
                                            intro r128 u128 H locs hp hB
                                            obtain ⟨N_128, j_128⟩ := u128
                                            have hp128 : r128 = cmpV (nI 2) (nI 3) N_127 ∧ (∀ k9, k9 ≠ 6 → N_128 k9 = N_127 k9) ∧ bB (jbb j_128) := hp
                                            have hr128 := hp128.1
                                            have hN128 := hp128.2.1
                                            have hb128 := hp128.2.2
                                            have c5 : r128 = 0 := hr128.trans (cmp_same (by decide) (by decide) (f280_2.trans f280_3.symm) (by rw [f280_2]; exact hpm.2.2.2.2.1) (by rw [f280_2]; exact hpm.2.2.2.1) (by decide) (by decide))
                                            have d318 : ∀ i, i < 6 → 0 < (N_128 i).2.2.2.2.toInt := fun i hi => by rw [hN128 i (by omega)]; exact d280 i hi
                                            have e318 : ∀ i, i < 6 → N_128 (8 + i) = N (8 + i) := fun i hi => (hN128 (8 + i) (by omega)).trans (e280 i hi)
                                            replace hB : zB D A s ([] ++ OW ka bd na (L, mo, an, pl, ho, le, sz9, re9, kp, st, N_128, j_128)) H locs := hB
                                            refine lv_if_ne (tgt := 328) hx hb dL_registers_321 (by decide) (fun h321 => ?_) (fun h321 => ?_)
                                            · skip
                                              exact absurd c5 h321
                                            · skip
                                              refine lv_iconst (v := 1) hx hb dL_registers_324 (by decide) ?_
                                              refine lv_goto (tgt := 329) hx hb dL_registers_325 (by decide) ?_
                                              exact zreti hF hB (N_128, j_128) (⟨rfl, d318, hb128, e318⟩) (rfl) (rfl) dL_registers_329 hQ
                                        · skip
                                          have c4 := hcp.elim (fun e => c2.trans e.2) (fun e => absurd (c1.symm.trans h289) e.1)
                                          refine lv_iload hx hb dL_registers_292 (lv_at hl 0 rfl) ?_
                                          refine lv_bipush (v := -3) hx hb dL_registers_294 (by decide) ?_
                                          refine lv_icmp_ne (tgt := 303) hx hb dL_registers_296 (by decide) (fun h296 => ?_) (fun h296 => ?_)
                                          · skip
                                            exact absurd c4 h296
                                          · skip
                                            refine lv_iconst (v := 1) hx hb dL_registers_299 (by decide) ?_
                                            refine lv_goto (tgt := 329) hx hb dL_registers_300 (by decide) ?_
                                            exact zreti hF hB (N_127, j_127) (⟨rfl, d280, hb127, e280⟩) (rfl) (rfl) dL_registers_329 hQ
                                      · skip
                                        exact absurd h264 (by decide)
                                · skip
                                  exact absurd (by decide) h242
                        · skip
                          exact absurd h195 (by decide)
            exact lp144 (0 + 1)  (dB_f.mpr (fun e => h113 e.2.1)) (by omega) _ _ (hB) _ (lv_sub hl [0, 1, 2, 3] rfl)
          · skip
            replace h113 := (lg_cmp_eq _ _).mp h113
            refine lv_aload_n hx hb dL_registers_116 rfl (lv_at hl 3 rfl) ?_
            refine lv_iconst (v := 1) hx hb dL_registers_117 (by decide) ?_
            refine lv_iconst (v := 2) hx hb dL_registers_118 (by decide) ?_
            refine zWl zm_L_15 hF hB (w_part l D ka kb bd na L mo an pl ho le sz9 re9 kp st N9 j 1 2 (by decide) (by decide)) rfl ⟨Nat.le_of_ble_eq_true rfl, Nat.le_of_ble_eq_true rfl⟩ rfl hl.1 (Nat.le_of_ble_eq_true rfl) ⟨Nat.le_refl _, Nat.le_refl _⟩ dL_registers_119 ?_
            clear hB
            try clear locs
            try clear H
            intro r129 u129 H locs hp hB
            obtain rfl : r129 = cmp5 (N9 1) 2 := hp
            replace hB : zB D A s ([] ++ OW ka bd na (L, mo, an, pl, ho, le, sz9, re9, kp, st, N9, j)) H locs := hB
            refine lv_lconst (v := 0) hx hb dL_registers_122 (by decide) ?_
            refine W.lcmp hx hb dL_registers_123 ?_
            refine lv_if_ne (tgt := 142) hx hb dL_registers_124 (by decide) (fun h124 => ?_) (fun h124 => ?_)
            · skip
              replace h124 := (fun e9 => h124 ((lg_cmp_eq _ _).mpr e9))
              refine lv_iconst (v := 0) hx hb dL_registers_142 (by decide) ?_
              refine lv_istore_n (lv' := [(3, .int (0 : Int32)), (2, .int (nI at9)), (1, .ref (kb 1)), (0, .ref (bd 31))]) hx hb dL_registers_143 rfl hl (by decide) rfl ?_
              clear hl
              clear ls
              intro ls hl
              have lp144 : ∀ (fl : Nat) , (hzb : zeroN (N9 1) = false) → 0 < fl → ∀ (H : Heap) (locs : List Loc), zB D A s ([] ++ OW ka bd na (L, mo, an, pl, ho, le, sz9, re9, kp, st, N9, j)) H locs → ∀ ls : Array Slot, lv_has ls 6 [(3, .int (0 : Int32)), (2, .int (nI at9)), (1, .ref (kb 1)), (0, .ref (bd 31))] → W p l e (zRm 7 226 0 0) s m args below meth c H locs 0 0 Q (F0 m 144 ls []) := by
                intro fl
                induction fl with
                | zero => intro  hzb hfl; exact absurd hfl (Nat.not_lt_zero _)
                | succ fl ih144 =>
                  intro  hzb hfl144 H locs hB ls hl
                  refine lv_aload_n hx hb dL_registers_144 rfl (lv_at hl 3 rfl) ?_
                  refine lv_iconst (v := 0) hx hb dL_registers_145 (by decide) ?_
                  refine lv_iconst (v := 0) hx hb dL_registers_146 (by decide) ?_
                  refine lv_iconst (v := 1) hx hb dL_registers_147 (by decide) ?_
                  refine lv_iconst (v := 2) hx hb dL_registers_148 (by decide) ?_
                  refine zWi zm_L_69 hF hB (w_rk_add l D ka kb bd na L mo an pl ho le sz9 re9 kp st N9 j 0 1 2 (hd6) (hB9) (by decide) (by decide) (by decide) (by exact hsm.1)) rfl ⟨Nat.le_of_ble_eq_true rfl, Nat.le_of_ble_eq_true rfl⟩ rfl hl.1 (Nat.le_of_ble_eq_true rfl) ⟨Nat.le_refl _, Nat.le_refl _⟩ dL_registers_149 ?_
                  clear hB
                  try clear locs
                  try clear H
                  intro r130 u130 H locs hp hB
                  obtain ⟨N_130, j_130⟩ := u130
                  have hp130 : r130 = 1 ∧ (∀ k9, k9 < 25 → N_130 k9 = upN N9 2 (sumV false (N9 0) (N9 1)) k9) ∧ bB (jbb j_130) := hp
                  have hr130 := hp130.1
                  have hN130 := hp130.2.1
                  have hb130 := hp130.2.2
                  have f149_0 : N_130 0 = (N9 0) := (hN130 0 (by decide)).trans (upN_ne (by decide))
                  have f149_1 : N_130 1 = (N9 1) := (hN130 1 (by decide)).trans (upN_ne (by decide))
                  have f149_2 : N_130 2 = (sumV false (N9 0) (N9 1)) := (hN130 2 (by decide)).trans (upN_eq.trans (rfl))
                  have d149 : ∀ i, i < 6 → 0 < (N_130 i).2.2.2.2.toInt := fun i hi => by
                    by_cases e : i = 2
                    · rw [e, f149_2]; exact sumV_d hsm.1 (hd6 0 (by decide)) (hd6 1 (by decide))
                    · rw [hN130 i (by omega), upN_ne e]; exact hd6 i hi
                  have e149 : ∀ i, i < 6 → N_130 (8 + i) = N (8 + i) := fun i hi => (hN130 (8 + i) (by omega)).trans ((upN_ne (by omega)).trans (he9 i hi))
                  replace hB : zB D A s ([] ++ OW ka bd na (L, mo, an, pl, ho, le, sz9, re9, kp, st, N_130, j_130)) H locs := hB
                  refine lv_iconst (v := 1) hx hb dL_registers_152 (by decide) ?_
                  refine lv_icmp_ne (tgt := 198) hx hb dL_registers_153 (by decide) (fun h153 => ?_) (fun h153 => ?_)
                  · skip
                    exact absurd hr130 h153
                  · skip
                    refine lv_aload_n hx hb dL_registers_156 rfl (lv_at hl 3 rfl) ?_
                    refine lv_iconst (v := 1) hx hb dL_registers_157 (by decide) ?_
                    refine lv_iconst (v := 2) hx hb dL_registers_158 (by decide) ?_
                    refine lv_iconst (v := 1) hx hb dL_registers_159 (by decide) ?_
                    refine lv_iconst (v := 3) hx hb dL_registers_160 (by decide) ?_
                    refine zWi zm_L_69 hF hB (w_rk_sub l D ka kb bd na L mo an pl ho le sz9 re9 kp st N_130 j_130 2 1 3 (d149) (hb130) (by decide) (by decide) (by decide) (by rw [f149_2, f149_1]; exact hsm.2.1)) rfl ⟨Nat.le_of_ble_eq_true rfl, Nat.le_of_ble_eq_true rfl⟩ rfl hl.1 (Nat.le_of_ble_eq_true rfl) ⟨Nat.le_refl _, Nat.le_refl _⟩ dL_registers_161 ?_
                    clear hB
                    try clear locs
                    try clear H
                    intro r131 u131 H locs hp hB
                    obtain ⟨N_131, j_131⟩ := u131
                    have hp131 : r131 = 1 ∧ (∀ k9, k9 < 25 → N_131 k9 = upN N_130 3 (sumV true (N_130 2) (N_130 1)) k9) ∧ bB (jbb j_131) := hp
                    have hr131 := hp131.1
                    have hN131 := hp131.2.1
                    have hb131 := hp131.2.2
                    have f161_0 : N_131 0 = (N9 0) := (hN131 0 (by decide)).trans ((upN_ne (by decide)).trans f149_0)
                    have f161_1 : N_131 1 = (N9 1) := (hN131 1 (by decide)).trans ((upN_ne (by decide)).trans f149_1)
                    have f161_2 : N_131 2 = (sumV false (N9 0) (N9 1)) := (hN131 2 (by decide)).trans ((upN_ne (by decide)).trans f149_2)
                    have f161_3 : N_131 3 = (N9 0) := (hN131 3 (by decide)).trans (upN_eq.trans (by rw [f149_2, f149_1]; exact hsm.2.2.1))
                    have d161 : ∀ i, i < 6 → 0 < (N_131 i).2.2.2.2.toInt := fun i hi => by
                      by_cases e : i = 3
                      · rw [e, f161_3]; exact hd6 0 (by decide)
                      · rw [hN131 i (by omega), upN_ne e]; exact d149 i hi
                    have e161 : ∀ i, i < 6 → N_131 (8 + i) = N (8 + i) := fun i hi => (hN131 (8 + i) (by omega)).trans ((upN_ne (by omega)).trans (e149 i hi))
                    replace hB : zB D A s ([] ++ OW ka bd na (L, mo, an, pl, ho, le, sz9, re9, kp, st, N_131, j_131)) H locs := hB
                    refine lv_iconst (v := 1) hx hb dL_registers_164 (by decide) ?_
                    refine lv_icmp_ne (tgt := 198) hx hb dL_registers_165 (by decide) (fun h165 => ?_) (fun h165 => ?_)
                    · skip
                      exact absurd hr131 h165
                    · skip
                      refine lv_aload_n hx hb dL_registers_168 rfl (lv_at hl 3 rfl) ?_
                      refine lv_iconst (v := 0) hx hb dL_registers_169 (by decide) ?_
                      refine lv_iconst (v := 3) hx hb dL_registers_170 (by decide) ?_
                      refine zWs9 zm_L_72 hF hB (c_L_same l D ka kb bd na L mo an pl ho le sz9 re9 kp st N_131 j_131 0 3 (by decide) (by decide) (f161_0.trans f161_3.symm)) rfl ⟨Nat.le_of_ble_eq_true rfl, Nat.le_of_ble_eq_true rfl⟩ rfl hl.1 (Nat.le_of_ble_eq_true rfl) ⟨Nat.le_refl _, Nat.le_refl _⟩ dL_registers_171 ?_
                      clear hB
                      try clear locs
                      try clear H
                      intro r132 u132 H locs hp hB
                      obtain rfl : r132 = (1 : Int32) := hp
                      replace hB : zB D A s ([] ++ OW ka bd na (L, mo, an, pl, ho, le, sz9, re9, kp, st, N_131, j_131)) H locs := hB
                      refine lv_if_eq (tgt := 198) hx hb dL_registers_174 (by decide) (fun h174 => ?_) (fun h174 => ?_)
                      · skip
                        exact absurd h174 (by decide)
                      · skip
                        refine lv_aload_n hx hb dL_registers_177 rfl (lv_at hl 3 rfl) ?_
                        refine lv_iconst (v := 1) hx hb dL_registers_178 (by decide) ?_
                        refine lv_iconst (v := 2) hx hb dL_registers_179 (by decide) ?_
                        refine lv_iconst (v := 0) hx hb dL_registers_180 (by decide) ?_
                        refine lv_iconst (v := 3) hx hb dL_registers_181 (by decide) ?_
                        refine zWi zm_L_69 hF hB (w_rk_sub l D ka kb bd na L mo an pl ho le sz9 re9 kp st N_131 j_131 2 0 3 (d161) (hb131) (by decide) (by decide) (by decide) (by rw [f161_2, f161_0]; exact hsm.2.2.2.1)) rfl ⟨Nat.le_of_ble_eq_true rfl, Nat.le_of_ble_eq_true rfl⟩ rfl hl.1 (Nat.le_of_ble_eq_true rfl) ⟨Nat.le_refl _, Nat.le_refl _⟩ dL_registers_182 ?_
                        clear hB
                        try clear locs
                        try clear H
                        intro r133 u133 H locs hp hB
                        obtain ⟨N_133, j_133⟩ := u133
                        have hp133 : r133 = 1 ∧ (∀ k9, k9 < 25 → N_133 k9 = upN N_131 3 (sumV true (N_131 2) (N_131 0)) k9) ∧ bB (jbb j_133) := hp
                        have hr133 := hp133.1
                        have hN133 := hp133.2.1
                        have hb133 := hp133.2.2
                        have f182_0 : N_133 0 = (N9 0) := (hN133 0 (by decide)).trans ((upN_ne (by decide)).trans f161_0)
                        have f182_1 : N_133 1 = (N9 1) := (hN133 1 (by decide)).trans ((upN_ne (by decide)).trans f161_1)
                        have f182_2 : N_133 2 = (sumV false (N9 0) (N9 1)) := (hN133 2 (by decide)).trans ((upN_ne (by decide)).trans f161_2)
                        have f182_3 : N_133 3 = (N9 1) := (hN133 3 (by decide)).trans (upN_eq.trans (by rw [f161_2, f161_0]; exact hsm.2.2.2.2))
                        have d182 : ∀ i, i < 6 → 0 < (N_133 i).2.2.2.2.toInt := fun i hi => by
                          by_cases e : i = 3
                          · rw [e, f182_3]; exact hd6 1 (by decide)
                          · rw [hN133 i (by omega), upN_ne e]; exact d161 i hi
                        have e182 : ∀ i, i < 6 → N_133 (8 + i) = N (8 + i) := fun i hi => (hN133 (8 + i) (by omega)).trans ((upN_ne (by omega)).trans (e161 i hi))
                        replace hB : zB D A s ([] ++ OW ka bd na (L, mo, an, pl, ho, le, sz9, re9, kp, st, N_133, j_133)) H locs := hB
                        refine lv_iconst (v := 1) hx hb dL_registers_185 (by decide) ?_
                        refine lv_icmp_ne (tgt := 198) hx hb dL_registers_186 (by decide) (fun h186 => ?_) (fun h186 => ?_)
                        · skip
                          exact absurd hr133 h186
                        · skip
                          refine lv_aload_n hx hb dL_registers_189 rfl (lv_at hl 3 rfl) ?_
                          refine lv_iconst (v := 1) hx hb dL_registers_190 (by decide) ?_
                          refine lv_iconst (v := 3) hx hb dL_registers_191 (by decide) ?_
                          refine zWs9 zm_L_72 hF hB (c_L_same l D ka kb bd na L mo an pl ho le sz9 re9 kp st N_133 j_133 1 3 (by decide) (by decide) (f182_1.trans f182_3.symm)) rfl ⟨Nat.le_of_ble_eq_true rfl, Nat.le_of_ble_eq_true rfl⟩ rfl hl.1 (Nat.le_of_ble_eq_true rfl) ⟨Nat.le_refl _, Nat.le_refl _⟩ dL_registers_192 ?_
                          clear hB
                          try clear locs
                          try clear H
                          intro r134 u134 H locs hp hB
                          obtain rfl : r134 = (1 : Int32) := hp
                          replace hB : zB D A s ([] ++ OW ka bd na (L, mo, an, pl, ho, le, sz9, re9, kp, st, N_133, j_133)) H locs := hB
                          refine lv_if_ne (tgt := 200) hx hb dL_registers_195 (by decide) (fun h195 => ?_) (fun h195 => ?_)
                          · skip
                            refine lv_aload_n hx hb dL_registers_200 rfl (lv_at hl 3 rfl) ?_
                            refine lv_iconst (v := 2) hx hb dL_registers_201 (by decide) ?_
                            refine lv_iconst (v := 0) hx hb dL_registers_202 (by decide) ?_
                            refine lv_iconst (v := 1) hx hb dL_registers_203 (by decide) ?_
                            refine lv_iconst (v := 2) hx hb dL_registers_204 (by decide) ?_
                            refine zWi zm_L_69 hF hB (w_rk_mul l D ka kb bd na L mo an pl ho le sz9 re9 kp st N_133 j_133 0 1 2 (d182) (hb133) (by decide) (by decide) (by decide) (by rw [f182_0, f182_1]; exact hpm.1)) rfl ⟨Nat.le_of_ble_eq_true rfl, Nat.le_of_ble_eq_true rfl⟩ rfl hl.1 (Nat.le_of_ble_eq_true rfl) ⟨Nat.le_refl _, Nat.le_refl _⟩ dL_registers_205 ?_
                            clear hB
                            try clear locs
                            try clear H
                            intro r135 u135 H locs hp hB
                            obtain ⟨N_135, j_135⟩ := u135
                            have hp135 : r135 = 1 ∧ (∀ k9, k9 < 25 → N_135 k9 = upN N_133 2 (prodV (N_133 0) (N_133 1)) k9) ∧ bB (jbb j_135) := hp
                            have hr135 := hp135.1
                            have hN135 := hp135.2.1
                            have hb135 := hp135.2.2
                            have f205_0 : N_135 0 = (N9 0) := (hN135 0 (by decide)).trans ((upN_ne (by decide)).trans f182_0)
                            have f205_1 : N_135 1 = (N9 1) := (hN135 1 (by decide)).trans ((upN_ne (by decide)).trans f182_1)
                            have f205_3 : N_135 3 = (N9 1) := (hN135 3 (by decide)).trans ((upN_ne (by decide)).trans f182_3)
                            have f205_2 : N_135 2 = (prodV (N9 0) (N9 1)) := (hN135 2 (by decide)).trans (upN_eq.trans (by rw [f182_0, f182_1]))
                            have d205 : ∀ i, i < 6 → 0 < (N_135 i).2.2.2.2.toInt := fun i hi => by
                              by_cases e : i = 2
                              · rw [e, f205_2]; exact prodV_d hpm.1 (hd6 0 (by decide)) (hd6 1 (by decide))
                              · rw [hN135 i (by omega), upN_ne e]; exact d182 i hi
                            have e205 : ∀ i, i < 6 → N_135 (8 + i) = N (8 + i) := fun i hi => (hN135 (8 + i) (by omega)).trans ((upN_ne (by omega)).trans (e182 i hi))
                            replace hB : zB D A s ([] ++ OW ka bd na (L, mo, an, pl, ho, le, sz9, re9, kp, st, N_135, j_135)) H locs := hB
                            refine lv_iconst (v := 1) hx hb dL_registers_208 (by decide) ?_
                            refine lv_icmp_ne (tgt := 267) hx hb dL_registers_209 (by decide) (fun h209 => ?_) (fun h209 => ?_)
                            · skip
                              exact absurd hr135 h209
                            · skip
                              refine lv_aload_n hx hb dL_registers_212 rfl (lv_at hl 3 rfl) ?_
                              refine lv_iconst (v := 2) hx hb dL_registers_213 (by decide) ?_
                              refine lv_iconst (v := 1) hx hb dL_registers_214 (by decide) ?_
                              refine lv_iconst (v := 0) hx hb dL_registers_215 (by decide) ?_
                              refine lv_iconst (v := 3) hx hb dL_registers_216 (by decide) ?_
                              refine zWi zm_L_69 hF hB (w_rk_mul l D ka kb bd na L mo an pl ho le sz9 re9 kp st N_135 j_135 1 0 3 (d205) (hb135) (by decide) (by decide) (by decide) (by rw [f205_1, f205_0]; exact hpm.2.1)) rfl ⟨Nat.le_of_ble_eq_true rfl, Nat.le_of_ble_eq_true rfl⟩ rfl hl.1 (Nat.le_of_ble_eq_true rfl) ⟨Nat.le_refl _, Nat.le_refl _⟩ dL_registers_217 ?_
                              clear hB
                              try clear locs
                              try clear H
                              intro r136 u136 H locs hp hB
                              obtain ⟨N_136, j_136⟩ := u136
                              have hp136 : r136 = 1 ∧ (∀ k9, k9 < 25 → N_136 k9 = upN N_135 3 (prodV (N_135 1) (N_135 0)) k9) ∧ bB (jbb j_136) := hp
                              have hr136 := hp136.1
                              have hN136 := hp136.2.1
                              have hb136 := hp136.2.2
                              have f217_0 : N_136 0 = (N9 0) := (hN136 0 (by decide)).trans ((upN_ne (by decide)).trans f205_0)
                              have f217_1 : N_136 1 = (N9 1) := (hN136 1 (by decide)).trans ((upN_ne (by decide)).trans f205_1)
                              have f217_2 : N_136 2 = (prodV (N9 0) (N9 1)) := (hN136 2 (by decide)).trans ((upN_ne (by decide)).trans f205_2)
                              have f217_3 : N_136 3 = (prodV (N9 0) (N9 1)) := (hN136 3 (by decide)).trans (upN_eq.trans (by rw [f205_1, f205_0]; exact hpm.2.2.1.symm))
                              have d217 : ∀ i, i < 6 → 0 < (N_136 i).2.2.2.2.toInt := fun i hi => by
                                by_cases e : i = 3
                                · rw [e, f217_3]; exact prodV_d hpm.1 (hd6 0 (by decide)) (hd6 1 (by decide))
                                · rw [hN136 i (by omega), upN_ne e]; exact d205 i hi
                              have e217 : ∀ i, i < 6 → N_136 (8 + i) = N (8 + i) := fun i hi => (hN136 (8 + i) (by omega)).trans ((upN_ne (by omega)).trans (e205 i hi))
                              replace hB : zB D A s ([] ++ OW ka bd na (L, mo, an, pl, ho, le, sz9, re9, kp, st, N_136, j_136)) H locs := hB
                              refine lv_iconst (v := 1) hx hb dL_registers_220 (by decide) ?_
                              refine lv_icmp_ne (tgt := 267) hx hb dL_registers_221 (by decide) (fun h221 => ?_) (fun h221 => ?_)
                              · skip
                                exact absurd hr136 h221
                              · skip
                                refine lv_aload_n hx hb dL_registers_224 rfl (lv_at hl 3 rfl) ?_
                                refine lv_iconst (v := 2) hx hb dL_registers_225 (by decide) ?_
                                refine lv_iconst (v := 3) hx hb dL_registers_226 (by decide) ?_
                                refine zWs9 zm_L_72 hF hB (c_L_same l D ka kb bd na L mo an pl ho le sz9 re9 kp st N_136 j_136 2 3 (by decide) (by decide) (f217_2.trans f217_3.symm)) rfl ⟨Nat.le_of_ble_eq_true rfl, Nat.le_of_ble_eq_true rfl⟩ rfl hl.1 (Nat.le_of_ble_eq_true rfl) ⟨Nat.le_refl _, Nat.le_refl _⟩ dL_registers_227 ?_
                                clear hB
                                try clear locs
                                try clear H
                                intro r137 u137 H locs hp hB
                                obtain rfl : r137 = (1 : Int32) := hp
                                replace hB : zB D A s ([] ++ OW ka bd na (L, mo, an, pl, ho, le, sz9, re9, kp, st, N_136, j_136)) H locs := hB
                                refine lv_if_eq (tgt := 267) hx hb dL_registers_230 (by decide) (fun h230 => ?_) (fun h230 => ?_)
                                · skip
                                  exact absurd h230 (by decide)
                                · skip
                                  refine lv_aload_n hx hb dL_registers_233 rfl (lv_at hl 3 rfl) ?_
                                  refine lv_iconst (v := 3) hx hb dL_registers_234 (by decide) ?_
                                  refine lv_iconst (v := 2) hx hb dL_registers_235 (by decide) ?_
                                  refine lv_iconst (v := 1) hx hb dL_registers_236 (by decide) ?_
                                  refine lv_iconst (v := 4) hx hb dL_registers_237 (by decide) ?_
                                  refine zWi zm_L_69 hF hB (w_rk_div l D ka kb bd na L mo an pl ho le sz9 re9 kp st N_136 j_136 2 1 4 (d217) (hb136) (by decide) (by decide) (by decide) (by rw [f217_2, f217_1]; exact (hpm.2.2.2.2.2 hzb).1) (by rw [f217_1]; exact hzb)) rfl ⟨Nat.le_of_ble_eq_true rfl, Nat.le_of_ble_eq_true rfl⟩ rfl hl.1 (Nat.le_of_ble_eq_true rfl) ⟨Nat.le_refl _, Nat.le_refl _⟩ dL_registers_238 ?_
                                  clear hB
                                  try clear locs
                                  try clear H
                                  intro r138 u138 H locs hp hB
                                  obtain ⟨N_138, j_138⟩ := u138
                                  have hp138 : r138 = 1 ∧ (∀ k9, k9 < 25 → N_138 k9 = upN N_136 4 (quoV (N_136 2) (N_136 1)) k9) ∧ bB (jbb j_138) := hp
                                  have hr138 := hp138.1
                                  have hN138 := hp138.2.1
                                  have hb138 := hp138.2.2
                                  have f238_0 : N_138 0 = (N9 0) := (hN138 0 (by decide)).trans ((upN_ne (by decide)).trans f217_0)
                                  have f238_1 : N_138 1 = (N9 1) := (hN138 1 (by decide)).trans ((upN_ne (by decide)).trans f217_1)
                                  have f238_2 : N_138 2 = (prodV (N9 0) (N9 1)) := (hN138 2 (by decide)).trans ((upN_ne (by decide)).trans f217_2)
                                  have f238_3 : N_138 3 = (prodV (N9 0) (N9 1)) := (hN138 3 (by decide)).trans ((upN_ne (by decide)).trans f217_3)
                                  have f238_4 : N_138 4 = (N9 0) := (hN138 4 (by decide)).trans (upN_eq.trans (by rw [f217_2, f217_1]; exact (hpm.2.2.2.2.2 hzb).2))
                                  have d238 : ∀ i, i < 6 → 0 < (N_138 i).2.2.2.2.toInt := fun i hi => by
                                    by_cases e : i = 4
                                    · rw [e, f238_4]; exact hd6 0 (by decide)
                                    · rw [hN138 i (by omega), upN_ne e]; exact d217 i hi
                                  have e238 : ∀ i, i < 6 → N_138 (8 + i) = N (8 + i) := fun i hi => (hN138 (8 + i) (by omega)).trans ((upN_ne (by omega)).trans (e217 i hi))
                                  replace hB : zB D A s ([] ++ OW ka bd na (L, mo, an, pl, ho, le, sz9, re9, kp, st, N_138, j_138)) H locs := hB
                                  refine lv_iload_n hx hb dL_registers_241 rfl (lv_at hl 0 rfl) ?_
                                  refine lv_if_eq (tgt := 250) hx hb dL_registers_242 (by decide) (fun h242 => ?_) (fun h242 => ?_)
                                  · skip
                                    refine lv_iconst (v := 1) hx hb dL_registers_250 (by decide) ?_
                                    refine lv_icmp_ne (tgt := 267) hx hb dL_registers_251 (by decide) (fun h251 => ?_) (fun h251 => ?_)
                                    · skip
                                      exact absurd hr138 h251
                                    · skip
                                      refine lv_iload_n hx hb dL_registers_254 rfl (lv_at hl 0 rfl) ?_
                                      refine lv_if_ne (tgt := 269) hx hb dL_registers_255 (by decide) (fun h255 => ?_) (fun h255 => ?_)
                                      · skip
                                        exact absurd (by decide) h255
                                      · skip
                                        refine lv_aload_n hx hb dL_registers_258 rfl (lv_at hl 3 rfl) ?_
                                        refine lv_iconst (v := 0) hx hb dL_registers_259 (by decide) ?_
                                        refine lv_iconst (v := 4) hx hb dL_registers_260 (by decide) ?_
                                        refine zWs9 zm_L_72 hF hB (c_L_same l D ka kb bd na L mo an pl ho le sz9 re9 kp st N_138 j_138 0 4 (by decide) (by decide) (f238_0.trans f238_4.symm)) rfl ⟨Nat.le_of_ble_eq_true rfl, Nat.le_of_ble_eq_true rfl⟩ rfl hl.1 (Nat.le_of_ble_eq_true rfl) ⟨Nat.le_refl _, Nat.le_refl _⟩ dL_registers_261 ?_
                                        clear hB
                                        try clear locs
                                        try clear H
                                        intro r139 u139 H locs hp hB
                                        obtain rfl : r139 = (1 : Int32) := hp
                                        replace hB : zB D A s ([] ++ OW ka bd na (L, mo, an, pl, ho, le, sz9, re9, kp, st, N_138, j_138)) H locs := hB
                                        refine lv_if_ne (tgt := 269) hx hb dL_registers_264 (by decide) (fun h264 => ?_) (fun h264 => ?_)
                                        · skip
                                          refine lv_aload_n hx hb dL_registers_269 rfl (lv_at hl 3 rfl) ?_
                                          refine lv_iconst (v := 0) hx hb dL_registers_270 (by decide) ?_
                                          refine lv_iconst (v := 1) hx hb dL_registers_271 (by decide) ?_
                                          refine zWi zm_L_75 hF hB (w_compare l D ka kb bd na L mo an pl ho le sz9 re9 kp st N_138 j_138 0 1 (d238) (hb138)) rfl ⟨Nat.le_of_ble_eq_true rfl, Nat.le_of_ble_eq_true rfl⟩ rfl hl.1 (Nat.le_of_ble_eq_true rfl) ⟨Nat.le_refl _, Nat.le_refl _⟩ dL_registers_272 ?_
                                          clear hB
                                          try clear locs
                                          try clear H
                                          intro r140 u140 H locs hp hB
                                          obtain ⟨N_140, j_140⟩ := u140
                                          have hp140 : r140 = cmpV (nI 0) (nI 1) N_138 ∧ (∀ k9, k9 ≠ 6 → N_140 k9 = N_138 k9) ∧ bB (jbb j_140) := hp
                                          have hr140 := hp140.1
                                          have hN140 := hp140.2.1
                                          have hb140 := hp140.2.2
                                          have c1 : r140 = cmpV (nI 0) (nI 1) N9 := hr140.trans (cmpV_cg (by decide) (by decide) f238_0 f238_1)
                                          have d272 : ∀ i, i < 6 → 0 < (N_140 i).2.2.2.2.toInt := fun i hi => by rw [hN140 i (by omega)]; exact d238 i hi
                                          have e272 : ∀ i, i < 6 → N_140 (8 + i) = N (8 + i) := fun i hi => (hN140 (8 + i) (by omega)).trans (e238 i hi)
                                          have f272_0 : N_140 0 = (N9 0) := (hN140 0 (by decide)).trans f238_0
                                          have f272_1 : N_140 1 = (N9 1) := (hN140 1 (by decide)).trans f238_1
                                          have f272_2 : N_140 2 = (prodV (N9 0) (N9 1)) := (hN140 2 (by decide)).trans f238_2
                                          have f272_3 : N_140 3 = (prodV (N9 0) (N9 1)) := (hN140 3 (by decide)).trans f238_3
                                          replace hB : zB D A s ([] ++ OW ka bd na (L, mo, an, pl, ho, le, sz9, re9, kp, st, N_140, j_140)) H locs := hB
                                          refine lv_istore (lv' := [(4, .int r140), (3, .int (0 : Int32)), (2, .int (nI at9)), (1, .ref (kb 1)), (0, .ref (bd 31))]) hx hb dL_registers_275 hl (by decide) rfl ?_
                                          clear hl
                                          clear ls
                                          intro ls hl
                                          refine lv_aload_n hx hb dL_registers_277 rfl (lv_at hl 4 rfl) ?_
                                          refine lv_iconst (v := 1) hx hb dL_registers_278 (by decide) ?_
                                          refine lv_iconst (v := 0) hx hb dL_registers_279 (by decide) ?_
                                          refine zWi zm_L_75 hF hB (w_compare l D ka kb bd na L mo an pl ho le sz9 re9 kp st N_140 j_140 1 0 (d272) (hb140)) rfl ⟨Nat.le_of_ble_eq_true rfl, Nat.le_of_ble_eq_true rfl⟩ rfl hl.1 (Nat.le_of_ble_eq_true rfl) ⟨Nat.le_refl _, Nat.le_refl _⟩ dL_registers_280 ?_
                                          clear hB
                                          try clear locs
                                          try clear H
                                          intro r141 u141 H locs hp hB
                                          obtain ⟨N_141, j_141⟩ := u141
                                          have hp141 : r141 = cmpV (nI 1) (nI 0) N_140 ∧ (∀ k9, k9 ≠ 6 → N_141 k9 = N_140 k9) ∧ bB (jbb j_141) := hp
                                          have hr141 := hp141.1
                                          have hN141 := hp141.2.1
                                          have hb141 := hp141.2.2
                                          have c2 : r141 = cmpV (nI 1) (nI 0) N9 := hr141.trans (cmpV_cg (by decide) (by decide) f272_1 f272_0)
                                          have d280 : ∀ i, i < 6 → 0 < (N_141 i).2.2.2.2.toInt := fun i hi => by rw [hN141 i (by omega)]; exact d272 i hi
                                          have e280 : ∀ i, i < 6 → N_141 (8 + i) = N (8 + i) := fun i hi => (hN141 (8 + i) (by omega)).trans (e272 i hi)
                                          have hcp := cmp_pair hX0 hX1
                                          have f280_2 : N_141 2 = (prodV (N9 0) (N9 1)) := (hN141 2 (by decide)).trans f272_2
                                          have f280_3 : N_141 3 = (prodV (N9 0) (N9 1)) := (hN141 3 (by decide)).trans f272_3
                                          replace hB : zB D A s ([] ++ OW ka bd na (L, mo, an, pl, ho, le, sz9, re9, kp, st, N_141, j_141)) H locs := hB
                                          refine lv_istore (lv' := [(5, .int r141), (4, .int r140), (3, .int (0 : Int32)), (2, .int (nI at9)), (1, .ref (kb 1)), (0, .ref (bd 31))]) hx hb dL_registers_283 hl (by decide) rfl ?_
                                          clear hl
                                          clear ls
                                          intro ls hl
                                          refine lv_iload hx hb dL_registers_285 (lv_at hl 1 rfl) ?_
                                          refine lv_bipush (v := -3) hx hb dL_registers_287 (by decide) ?_
                                          refine lv_icmp_ne (tgt := 307) hx hb dL_registers_289 (by decide) (fun h289 => ?_) (fun h289 => ?_)
                                          · skip
                                            have c3 := hcp.elim (fun e => absurd (c1.trans e.1) h289) (fun e => c2.trans (e.2.trans (congrArg (fun z : Int32 => -z) c1.symm)))
                                            refine lv_iload hx hb dL_registers_307 (lv_at hl 0 rfl) ?_
                                            refine lv_iload hx hb dL_registers_309 (lv_at hl 1 rfl) ?_
                                            refine lv_ineg hx hb dL_registers_311 ?_
                                            refine lv_icmp_ne (tgt := 328) hx hb dL_registers_312 (by decide) (fun h312 => ?_) (fun h312 => ?_)
                                            · skip
                                              exact absurd c3 h312
                                            · skip
                                              refine lv_aload_n hx hb dL_registers_315 rfl (lv_at hl 5 rfl) ?_
                                              refine lv_iconst (v := 2) hx hb dL_registers_316 (by decide) ?_
                                              refine lv_iconst (v := 3) hx hb dL_registers_317 (by decide) ?_
                                              refine zWi zm_L_75 hF hB (w_compare l D ka kb bd na L mo an pl ho le sz9 re9 kp st N_141 j_141 2 3 (d280) (hb141)) rfl ⟨Nat.le_of_ble_eq_true rfl, Nat.le_of_ble_eq_true rfl⟩ rfl hl.1 (Nat.le_of_ble_eq_true rfl) ⟨Nat.le_refl _, Nat.le_refl _⟩ dL_registers_318 ?_
                                              clear hB
                                              try clear locs
                                              try clear H
                                              intro r142 u142 H locs hp hB
                                              obtain ⟨N_142, j_142⟩ := u142
                                              have hp142 : r142 = cmpV (nI 2) (nI 3) N_141 ∧ (∀ k9, k9 ≠ 6 → N_142 k9 = N_141 k9) ∧ bB (jbb j_142) := hp
                                              have hr142 := hp142.1
                                              have hN142 := hp142.2.1
                                              have hb142 := hp142.2.2
                                              have c5 : r142 = 0 := hr142.trans (cmp_same (by decide) (by decide) (f280_2.trans f280_3.symm) (by rw [f280_2]; exact hpm.2.2.2.2.1) (by rw [f280_2]; exact hpm.2.2.2.1) (by decide) (by decide))
                                              have d318 : ∀ i, i < 6 → 0 < (N_142 i).2.2.2.2.toInt := fun i hi => by rw [hN142 i (by omega)]; exact d280 i hi
                                              have e318 : ∀ i, i < 6 → N_142 (8 + i) = N (8 + i) := fun i hi => (hN142 (8 + i) (by omega)).trans (e280 i hi)
                                              replace hB : zB D A s ([] ++ OW ka bd na (L, mo, an, pl, ho, le, sz9, re9, kp, st, N_142, j_142)) H locs := hB
                                              refine lv_if_ne (tgt := 328) hx hb dL_registers_321 (by decide) (fun h321 => ?_) (fun h321 => ?_)
                                              · skip
                                                exact absurd c5 h321
                                              · skip
                                                refine lv_iconst (v := 1) hx hb dL_registers_324 (by decide) ?_
                                                refine lv_goto (tgt := 329) hx hb dL_registers_325 (by decide) ?_
                                                exact zreti hF hB (N_142, j_142) (⟨rfl, d318, hb142, e318⟩) (rfl) (rfl) dL_registers_329 hQ
                                          · skip
                                            have c4 := hcp.elim (fun e => c2.trans e.2) (fun e => absurd (c1.symm.trans h289) e.1)
                                            refine lv_iload hx hb dL_registers_292 (lv_at hl 0 rfl) ?_
                                            refine lv_bipush (v := -3) hx hb dL_registers_294 (by decide) ?_
                                            refine lv_icmp_ne (tgt := 303) hx hb dL_registers_296 (by decide) (fun h296 => ?_) (fun h296 => ?_)
                                            · skip
                                              exact absurd c4 h296
                                            · skip
                                              refine lv_iconst (v := 1) hx hb dL_registers_299 (by decide) ?_
                                              refine lv_goto (tgt := 329) hx hb dL_registers_300 (by decide) ?_
                                              exact zreti hF hB (N_141, j_141) (⟨rfl, d280, hb141, e280⟩) (rfl) (rfl) dL_registers_329 hQ
                                        · skip
                                          exact absurd h264 (by decide)
                                  · skip
                                    exact absurd (by decide) h242
                          · skip
                            exact absurd h195 (by decide)
              exact lp144 (0 + 1)  (dB_f.mpr (fun e => h124 e.2.2.1)) (by omega) _ _ (hB) _ (lv_sub hl [0, 1, 2, 3] rfl)
            · skip
              replace h124 := (lg_cmp_eq _ _).mp h124
              refine lv_aload_n hx hb dL_registers_127 rfl (lv_at hl 3 rfl) ?_
              refine lv_iconst (v := 1) hx hb dL_registers_128 (by decide) ?_
              refine lv_iconst (v := 3) hx hb dL_registers_129 (by decide) ?_
              refine zWl zm_L_15 hF hB (w_part l D ka kb bd na L mo an pl ho le sz9 re9 kp st N9 j 1 3 (by decide) (by decide)) rfl ⟨Nat.le_of_ble_eq_true rfl, Nat.le_of_ble_eq_true rfl⟩ rfl hl.1 (Nat.le_of_ble_eq_true rfl) ⟨Nat.le_refl _, Nat.le_refl _⟩ dL_registers_130 ?_
              clear hB
              try clear locs
              try clear H
              intro r143 u143 H locs hp hB
              obtain rfl : r143 = cmp5 (N9 1) 3 := hp
              replace hB : zB D A s ([] ++ OW ka bd na (L, mo, an, pl, ho, le, sz9, re9, kp, st, N9, j)) H locs := hB
              refine lv_lconst (v := 0) hx hb dL_registers_133 (by decide) ?_
              refine W.lcmp hx hb dL_registers_134 ?_
              refine lv_if_ne (tgt := 142) hx hb dL_registers_135 (by decide) (fun h135 => ?_) (fun h135 => ?_)
              · skip
                replace h135 := (fun e9 => h135 ((lg_cmp_eq _ _).mpr e9))
                refine lv_iconst (v := 0) hx hb dL_registers_142 (by decide) ?_
                refine lv_istore_n (lv' := [(3, .int (0 : Int32)), (2, .int (nI at9)), (1, .ref (kb 1)), (0, .ref (bd 31))]) hx hb dL_registers_143 rfl hl (by decide) rfl ?_
                clear hl
                clear ls
                intro ls hl
                have lp144 : ∀ (fl : Nat) , (hzb : zeroN (N9 1) = false) → 0 < fl → ∀ (H : Heap) (locs : List Loc), zB D A s ([] ++ OW ka bd na (L, mo, an, pl, ho, le, sz9, re9, kp, st, N9, j)) H locs → ∀ ls : Array Slot, lv_has ls 6 [(3, .int (0 : Int32)), (2, .int (nI at9)), (1, .ref (kb 1)), (0, .ref (bd 31))] → W p l e (zRm 7 226 0 0) s m args below meth c H locs 0 0 Q (F0 m 144 ls []) := by
                  intro fl
                  induction fl with
                  | zero => intro  hzb hfl; exact absurd hfl (Nat.not_lt_zero _)
                  | succ fl ih144 =>
                    intro  hzb hfl144 H locs hB ls hl
                    refine lv_aload_n hx hb dL_registers_144 rfl (lv_at hl 3 rfl) ?_
                    refine lv_iconst (v := 0) hx hb dL_registers_145 (by decide) ?_
                    refine lv_iconst (v := 0) hx hb dL_registers_146 (by decide) ?_
                    refine lv_iconst (v := 1) hx hb dL_registers_147 (by decide) ?_
                    refine lv_iconst (v := 2) hx hb dL_registers_148 (by decide) ?_
                    refine zWi zm_L_69 hF hB (w_rk_add l D ka kb bd na L mo an pl ho le sz9 re9 kp st N9 j 0 1 2 (hd6) (hB9) (by decide) (by decide) (by decide) (by exact hsm.1)) rfl ⟨Nat.le_of_ble_eq_true rfl, Nat.le_of_ble_eq_true rfl⟩ rfl hl.1 (Nat.le_of_ble_eq_true rfl) ⟨Nat.le_refl _, Nat.le_refl _⟩ dL_registers_149 ?_
                    clear hB
                    try clear locs
                    try clear H
                    intro r144 u144 H locs hp hB
                    obtain ⟨N_144, j_144⟩ := u144
                    have hp144 : r144 = 1 ∧ (∀ k9, k9 < 25 → N_144 k9 = upN N9 2 (sumV false (N9 0) (N9 1)) k9) ∧ bB (jbb j_144) := hp
                    have hr144 := hp144.1
                    have hN144 := hp144.2.1
                    have hb144 := hp144.2.2
                    have f149_0 : N_144 0 = (N9 0) := (hN144 0 (by decide)).trans (upN_ne (by decide))
                    have f149_1 : N_144 1 = (N9 1) := (hN144 1 (by decide)).trans (upN_ne (by decide))
                    have f149_2 : N_144 2 = (sumV false (N9 0) (N9 1)) := (hN144 2 (by decide)).trans (upN_eq.trans (rfl))
                    have d149 : ∀ i, i < 6 → 0 < (N_144 i).2.2.2.2.toInt := fun i hi => by
                      by_cases e : i = 2
                      · rw [e, f149_2]; exact sumV_d hsm.1 (hd6 0 (by decide)) (hd6 1 (by decide))
                      · rw [hN144 i (by omega), upN_ne e]; exact hd6 i hi
                    have e149 : ∀ i, i < 6 → N_144 (8 + i) = N (8 + i) := fun i hi => (hN144 (8 + i) (by omega)).trans ((upN_ne (by omega)).trans (he9 i hi))
                    replace hB : zB D A s ([] ++ OW ka bd na (L, mo, an, pl, ho, le, sz9, re9, kp, st, N_144, j_144)) H locs := hB
                    refine lv_iconst (v := 1) hx hb dL_registers_152 (by decide) ?_
                    refine lv_icmp_ne (tgt := 198) hx hb dL_registers_153 (by decide) (fun h153 => ?_) (fun h153 => ?_)
                    · skip
                      exact absurd hr144 h153
                    · skip
                      refine lv_aload_n hx hb dL_registers_156 rfl (lv_at hl 3 rfl) ?_
                      refine lv_iconst (v := 1) hx hb dL_registers_157 (by decide) ?_
                      refine lv_iconst (v := 2) hx hb dL_registers_158 (by decide) ?_
                      refine lv_iconst (v := 1) hx hb dL_registers_159 (by decide) ?_
                      refine lv_iconst (v := 3) hx hb dL_registers_160 (by decide) ?_
                      refine zWi zm_L_69 hF hB (w_rk_sub l D ka kb bd na L mo an pl ho le sz9 re9 kp st N_144 j_144 2 1 3 (d149) (hb144) (by decide) (by decide) (by decide) (by rw [f149_2, f149_1]; exact hsm.2.1)) rfl ⟨Nat.le_of_ble_eq_true rfl, Nat.le_of_ble_eq_true rfl⟩ rfl hl.1 (Nat.le_of_ble_eq_true rfl) ⟨Nat.le_refl _, Nat.le_refl _⟩ dL_registers_161 ?_
                      clear hB
                      try clear locs
                      try clear H
                      intro r145 u145 H locs hp hB
                      obtain ⟨N_145, j_145⟩ := u145
                      have hp145 : r145 = 1 ∧ (∀ k9, k9 < 25 → N_145 k9 = upN N_144 3 (sumV true (N_144 2) (N_144 1)) k9) ∧ bB (jbb j_145) := hp
                      have hr145 := hp145.1
                      have hN145 := hp145.2.1
                      have hb145 := hp145.2.2
                      have f161_0 : N_145 0 = (N9 0) := (hN145 0 (by decide)).trans ((upN_ne (by decide)).trans f149_0)
                      have f161_1 : N_145 1 = (N9 1) := (hN145 1 (by decide)).trans ((upN_ne (by decide)).trans f149_1)
                      have f161_2 : N_145 2 = (sumV false (N9 0) (N9 1)) := (hN145 2 (by decide)).trans ((upN_ne (by decide)).trans f149_2)
                      have f161_3 : N_145 3 = (N9 0) := (hN145 3 (by decide)).trans (upN_eq.trans (by rw [f149_2, f149_1]; exact hsm.2.2.1))
                      have d161 : ∀ i, i < 6 → 0 < (N_145 i).2.2.2.2.toInt := fun i hi => by
                        by_cases e : i = 3
                        · rw [e, f161_3]; exact hd6 0 (by decide)
                        · rw [hN145 i (by omega), upN_ne e]; exact d149 i hi
                      have e161 : ∀ i, i < 6 → N_145 (8 + i) = N (8 + i) := fun i hi => (hN145 (8 + i) (by omega)).trans ((upN_ne (by omega)).trans (e149 i hi))
                      replace hB : zB D A s ([] ++ OW ka bd na (L, mo, an, pl, ho, le, sz9, re9, kp, st, N_145, j_145)) H locs := hB
                      refine lv_iconst (v := 1) hx hb dL_registers_164 (by decide) ?_
                      refine lv_icmp_ne (tgt := 198) hx hb dL_registers_165 (by decide) (fun h165 => ?_) (fun h165 => ?_)
                      · skip
                        exact absurd hr145 h165
                      · skip
                        refine lv_aload_n hx hb dL_registers_168 rfl (lv_at hl 3 rfl) ?_
                        refine lv_iconst (v := 0) hx hb dL_registers_169 (by decide) ?_
                        refine lv_iconst (v := 3) hx hb dL_registers_170 (by decide) ?_
                        refine zWs9 zm_L_72 hF hB (c_L_same l D ka kb bd na L mo an pl ho le sz9 re9 kp st N_145 j_145 0 3 (by decide) (by decide) (f161_0.trans f161_3.symm)) rfl ⟨Nat.le_of_ble_eq_true rfl, Nat.le_of_ble_eq_true rfl⟩ rfl hl.1 (Nat.le_of_ble_eq_true rfl) ⟨Nat.le_refl _, Nat.le_refl _⟩ dL_registers_171 ?_
                        clear hB
                        try clear locs
                        try clear H
                        intro r146 u146 H locs hp hB
                        obtain rfl : r146 = (1 : Int32) := hp
                        replace hB : zB D A s ([] ++ OW ka bd na (L, mo, an, pl, ho, le, sz9, re9, kp, st, N_145, j_145)) H locs := hB
                        refine lv_if_eq (tgt := 198) hx hb dL_registers_174 (by decide) (fun h174 => ?_) (fun h174 => ?_)
                        · skip
                          exact absurd h174 (by decide)
                        · skip
                          refine lv_aload_n hx hb dL_registers_177 rfl (lv_at hl 3 rfl) ?_
                          refine lv_iconst (v := 1) hx hb dL_registers_178 (by decide) ?_
                          refine lv_iconst (v := 2) hx hb dL_registers_179 (by decide) ?_
                          refine lv_iconst (v := 0) hx hb dL_registers_180 (by decide) ?_
                          refine lv_iconst (v := 3) hx hb dL_registers_181 (by decide) ?_
                          refine zWi zm_L_69 hF hB (w_rk_sub l D ka kb bd na L mo an pl ho le sz9 re9 kp st N_145 j_145 2 0 3 (d161) (hb145) (by decide) (by decide) (by decide) (by rw [f161_2, f161_0]; exact hsm.2.2.2.1)) rfl ⟨Nat.le_of_ble_eq_true rfl, Nat.le_of_ble_eq_true rfl⟩ rfl hl.1 (Nat.le_of_ble_eq_true rfl) ⟨Nat.le_refl _, Nat.le_refl _⟩ dL_registers_182 ?_
                          clear hB
                          try clear locs
                          try clear H
                          intro r147 u147 H locs hp hB
                          obtain ⟨N_147, j_147⟩ := u147
                          have hp147 : r147 = 1 ∧ (∀ k9, k9 < 25 → N_147 k9 = upN N_145 3 (sumV true (N_145 2) (N_145 0)) k9) ∧ bB (jbb j_147) := hp
                          have hr147 := hp147.1
                          have hN147 := hp147.2.1
                          have hb147 := hp147.2.2
                          have f182_0 : N_147 0 = (N9 0) := (hN147 0 (by decide)).trans ((upN_ne (by decide)).trans f161_0)
                          have f182_1 : N_147 1 = (N9 1) := (hN147 1 (by decide)).trans ((upN_ne (by decide)).trans f161_1)
                          have f182_2 : N_147 2 = (sumV false (N9 0) (N9 1)) := (hN147 2 (by decide)).trans ((upN_ne (by decide)).trans f161_2)
                          have f182_3 : N_147 3 = (N9 1) := (hN147 3 (by decide)).trans (upN_eq.trans (by rw [f161_2, f161_0]; exact hsm.2.2.2.2))
                          have d182 : ∀ i, i < 6 → 0 < (N_147 i).2.2.2.2.toInt := fun i hi => by
                            by_cases e : i = 3
                            · rw [e, f182_3]; exact hd6 1 (by decide)
                            · rw [hN147 i (by omega), upN_ne e]; exact d161 i hi
                          have e182 : ∀ i, i < 6 → N_147 (8 + i) = N (8 + i) := fun i hi => (hN147 (8 + i) (by omega)).trans ((upN_ne (by omega)).trans (e161 i hi))
                          replace hB : zB D A s ([] ++ OW ka bd na (L, mo, an, pl, ho, le, sz9, re9, kp, st, N_147, j_147)) H locs := hB
                          refine lv_iconst (v := 1) hx hb dL_registers_185 (by decide) ?_
                          refine lv_icmp_ne (tgt := 198) hx hb dL_registers_186 (by decide) (fun h186 => ?_) (fun h186 => ?_)
                          · skip
                            exact absurd hr147 h186
                          · skip
                            refine lv_aload_n hx hb dL_registers_189 rfl (lv_at hl 3 rfl) ?_
                            refine lv_iconst (v := 1) hx hb dL_registers_190 (by decide) ?_
                            refine lv_iconst (v := 3) hx hb dL_registers_191 (by decide) ?_
                            refine zWs9 zm_L_72 hF hB (c_L_same l D ka kb bd na L mo an pl ho le sz9 re9 kp st N_147 j_147 1 3 (by decide) (by decide) (f182_1.trans f182_3.symm)) rfl ⟨Nat.le_of_ble_eq_true rfl, Nat.le_of_ble_eq_true rfl⟩ rfl hl.1 (Nat.le_of_ble_eq_true rfl) ⟨Nat.le_refl _, Nat.le_refl _⟩ dL_registers_192 ?_
                            clear hB
                            try clear locs
                            try clear H
                            intro r148 u148 H locs hp hB
                            obtain rfl : r148 = (1 : Int32) := hp
                            replace hB : zB D A s ([] ++ OW ka bd na (L, mo, an, pl, ho, le, sz9, re9, kp, st, N_147, j_147)) H locs := hB
                            refine lv_if_ne (tgt := 200) hx hb dL_registers_195 (by decide) (fun h195 => ?_) (fun h195 => ?_)
                            · skip
                              refine lv_aload_n hx hb dL_registers_200 rfl (lv_at hl 3 rfl) ?_
                              refine lv_iconst (v := 2) hx hb dL_registers_201 (by decide) ?_
                              refine lv_iconst (v := 0) hx hb dL_registers_202 (by decide) ?_
                              refine lv_iconst (v := 1) hx hb dL_registers_203 (by decide) ?_
                              refine lv_iconst (v := 2) hx hb dL_registers_204 (by decide) ?_
                              refine zWi zm_L_69 hF hB (w_rk_mul l D ka kb bd na L mo an pl ho le sz9 re9 kp st N_147 j_147 0 1 2 (d182) (hb147) (by decide) (by decide) (by decide) (by rw [f182_0, f182_1]; exact hpm.1)) rfl ⟨Nat.le_of_ble_eq_true rfl, Nat.le_of_ble_eq_true rfl⟩ rfl hl.1 (Nat.le_of_ble_eq_true rfl) ⟨Nat.le_refl _, Nat.le_refl _⟩ dL_registers_205 ?_
                              clear hB
                              try clear locs
                              try clear H
                              intro r149 u149 H locs hp hB
                              obtain ⟨N_149, j_149⟩ := u149
                              have hp149 : r149 = 1 ∧ (∀ k9, k9 < 25 → N_149 k9 = upN N_147 2 (prodV (N_147 0) (N_147 1)) k9) ∧ bB (jbb j_149) := hp
                              have hr149 := hp149.1
                              have hN149 := hp149.2.1
                              have hb149 := hp149.2.2
                              have f205_0 : N_149 0 = (N9 0) := (hN149 0 (by decide)).trans ((upN_ne (by decide)).trans f182_0)
                              have f205_1 : N_149 1 = (N9 1) := (hN149 1 (by decide)).trans ((upN_ne (by decide)).trans f182_1)
                              have f205_3 : N_149 3 = (N9 1) := (hN149 3 (by decide)).trans ((upN_ne (by decide)).trans f182_3)
                              have f205_2 : N_149 2 = (prodV (N9 0) (N9 1)) := (hN149 2 (by decide)).trans (upN_eq.trans (by rw [f182_0, f182_1]))
                              have d205 : ∀ i, i < 6 → 0 < (N_149 i).2.2.2.2.toInt := fun i hi => by
                                by_cases e : i = 2
                                · rw [e, f205_2]; exact prodV_d hpm.1 (hd6 0 (by decide)) (hd6 1 (by decide))
                                · rw [hN149 i (by omega), upN_ne e]; exact d182 i hi
                              have e205 : ∀ i, i < 6 → N_149 (8 + i) = N (8 + i) := fun i hi => (hN149 (8 + i) (by omega)).trans ((upN_ne (by omega)).trans (e182 i hi))
                              replace hB : zB D A s ([] ++ OW ka bd na (L, mo, an, pl, ho, le, sz9, re9, kp, st, N_149, j_149)) H locs := hB
                              refine lv_iconst (v := 1) hx hb dL_registers_208 (by decide) ?_
                              refine lv_icmp_ne (tgt := 267) hx hb dL_registers_209 (by decide) (fun h209 => ?_) (fun h209 => ?_)
                              · skip
                                exact absurd hr149 h209
                              · skip
                                refine lv_aload_n hx hb dL_registers_212 rfl (lv_at hl 3 rfl) ?_
                                refine lv_iconst (v := 2) hx hb dL_registers_213 (by decide) ?_
                                refine lv_iconst (v := 1) hx hb dL_registers_214 (by decide) ?_
                                refine lv_iconst (v := 0) hx hb dL_registers_215 (by decide) ?_
                                refine lv_iconst (v := 3) hx hb dL_registers_216 (by decide) ?_
                                refine zWi zm_L_69 hF hB (w_rk_mul l D ka kb bd na L mo an pl ho le sz9 re9 kp st N_149 j_149 1 0 3 (d205) (hb149) (by decide) (by decide) (by decide) (by rw [f205_1, f205_0]; exact hpm.2.1)) rfl ⟨Nat.le_of_ble_eq_true rfl, Nat.le_of_ble_eq_true rfl⟩ rfl hl.1 (Nat.le_of_ble_eq_true rfl) ⟨Nat.le_refl _, Nat.le_refl _⟩ dL_registers_217 ?_
                                clear hB
                                try clear locs
                                try clear H
                                intro r150 u150 H locs hp hB
                                obtain ⟨N_150, j_150⟩ := u150
                                have hp150 : r150 = 1 ∧ (∀ k9, k9 < 25 → N_150 k9 = upN N_149 3 (prodV (N_149 1) (N_149 0)) k9) ∧ bB (jbb j_150) := hp
                                have hr150 := hp150.1
                                have hN150 := hp150.2.1
                                have hb150 := hp150.2.2
                                have f217_0 : N_150 0 = (N9 0) := (hN150 0 (by decide)).trans ((upN_ne (by decide)).trans f205_0)
                                have f217_1 : N_150 1 = (N9 1) := (hN150 1 (by decide)).trans ((upN_ne (by decide)).trans f205_1)
                                have f217_2 : N_150 2 = (prodV (N9 0) (N9 1)) := (hN150 2 (by decide)).trans ((upN_ne (by decide)).trans f205_2)
                                have f217_3 : N_150 3 = (prodV (N9 0) (N9 1)) := (hN150 3 (by decide)).trans (upN_eq.trans (by rw [f205_1, f205_0]; exact hpm.2.2.1.symm))
                                have d217 : ∀ i, i < 6 → 0 < (N_150 i).2.2.2.2.toInt := fun i hi => by
                                  by_cases e : i = 3
                                  · rw [e, f217_3]; exact prodV_d hpm.1 (hd6 0 (by decide)) (hd6 1 (by decide))
                                  · rw [hN150 i (by omega), upN_ne e]; exact d205 i hi
                                have e217 : ∀ i, i < 6 → N_150 (8 + i) = N (8 + i) := fun i hi => (hN150 (8 + i) (by omega)).trans ((upN_ne (by omega)).trans (e205 i hi))
                                replace hB : zB D A s ([] ++ OW ka bd na (L, mo, an, pl, ho, le, sz9, re9, kp, st, N_150, j_150)) H locs := hB
                                refine lv_iconst (v := 1) hx hb dL_registers_220 (by decide) ?_
                                refine lv_icmp_ne (tgt := 267) hx hb dL_registers_221 (by decide) (fun h221 => ?_) (fun h221 => ?_)
                                · skip
                                  exact absurd hr150 h221
                                · skip
                                  refine lv_aload_n hx hb dL_registers_224 rfl (lv_at hl 3 rfl) ?_
                                  refine lv_iconst (v := 2) hx hb dL_registers_225 (by decide) ?_
                                  refine lv_iconst (v := 3) hx hb dL_registers_226 (by decide) ?_
                                  refine zWs9 zm_L_72 hF hB (c_L_same l D ka kb bd na L mo an pl ho le sz9 re9 kp st N_150 j_150 2 3 (by decide) (by decide) (f217_2.trans f217_3.symm)) rfl ⟨Nat.le_of_ble_eq_true rfl, Nat.le_of_ble_eq_true rfl⟩ rfl hl.1 (Nat.le_of_ble_eq_true rfl) ⟨Nat.le_refl _, Nat.le_refl _⟩ dL_registers_227 ?_
                                  clear hB
                                  try clear locs
                                  try clear H
                                  intro r151 u151 H locs hp hB
                                  obtain rfl : r151 = (1 : Int32) := hp
                                  replace hB : zB D A s ([] ++ OW ka bd na (L, mo, an, pl, ho, le, sz9, re9, kp, st, N_150, j_150)) H locs := hB
                                  refine lv_if_eq (tgt := 267) hx hb dL_registers_230 (by decide) (fun h230 => ?_) (fun h230 => ?_)
                                  · skip
                                    exact absurd h230 (by decide)
                                  · skip
                                    refine lv_aload_n hx hb dL_registers_233 rfl (lv_at hl 3 rfl) ?_
                                    refine lv_iconst (v := 3) hx hb dL_registers_234 (by decide) ?_
                                    refine lv_iconst (v := 2) hx hb dL_registers_235 (by decide) ?_
                                    refine lv_iconst (v := 1) hx hb dL_registers_236 (by decide) ?_
                                    refine lv_iconst (v := 4) hx hb dL_registers_237 (by decide) ?_
                                    refine zWi zm_L_69 hF hB (w_rk_div l D ka kb bd na L mo an pl ho le sz9 re9 kp st N_150 j_150 2 1 4 (d217) (hb150) (by decide) (by decide) (by decide) (by rw [f217_2, f217_1]; exact (hpm.2.2.2.2.2 hzb).1) (by rw [f217_1]; exact hzb)) rfl ⟨Nat.le_of_ble_eq_true rfl, Nat.le_of_ble_eq_true rfl⟩ rfl hl.1 (Nat.le_of_ble_eq_true rfl) ⟨Nat.le_refl _, Nat.le_refl _⟩ dL_registers_238 ?_
                                    clear hB
                                    try clear locs
                                    try clear H
                                    intro r152 u152 H locs hp hB
                                    obtain ⟨N_152, j_152⟩ := u152
                                    have hp152 : r152 = 1 ∧ (∀ k9, k9 < 25 → N_152 k9 = upN N_150 4 (quoV (N_150 2) (N_150 1)) k9) ∧ bB (jbb j_152) := hp
                                    have hr152 := hp152.1
                                    have hN152 := hp152.2.1
                                    have hb152 := hp152.2.2
                                    have f238_0 : N_152 0 = (N9 0) := (hN152 0 (by decide)).trans ((upN_ne (by decide)).trans f217_0)
                                    have f238_1 : N_152 1 = (N9 1) := (hN152 1 (by decide)).trans ((upN_ne (by decide)).trans f217_1)
                                    have f238_2 : N_152 2 = (prodV (N9 0) (N9 1)) := (hN152 2 (by decide)).trans ((upN_ne (by decide)).trans f217_2)
                                    have f238_3 : N_152 3 = (prodV (N9 0) (N9 1)) := (hN152 3 (by decide)).trans ((upN_ne (by decide)).trans f217_3)
                                    have f238_4 : N_152 4 = (N9 0) := (hN152 4 (by decide)).trans (upN_eq.trans (by rw [f217_2, f217_1]; exact (hpm.2.2.2.2.2 hzb).2))
                                    have d238 : ∀ i, i < 6 → 0 < (N_152 i).2.2.2.2.toInt := fun i hi => by
                                      by_cases e : i = 4
                                      · rw [e, f238_4]; exact hd6 0 (by decide)
                                      · rw [hN152 i (by omega), upN_ne e]; exact d217 i hi
                                    have e238 : ∀ i, i < 6 → N_152 (8 + i) = N (8 + i) := fun i hi => (hN152 (8 + i) (by omega)).trans ((upN_ne (by omega)).trans (e217 i hi))
                                    replace hB : zB D A s ([] ++ OW ka bd na (L, mo, an, pl, ho, le, sz9, re9, kp, st, N_152, j_152)) H locs := hB
                                    refine lv_iload_n hx hb dL_registers_241 rfl (lv_at hl 0 rfl) ?_
                                    refine lv_if_eq (tgt := 250) hx hb dL_registers_242 (by decide) (fun h242 => ?_) (fun h242 => ?_)
                                    · skip
                                      refine lv_iconst (v := 1) hx hb dL_registers_250 (by decide) ?_
                                      refine lv_icmp_ne (tgt := 267) hx hb dL_registers_251 (by decide) (fun h251 => ?_) (fun h251 => ?_)
                                      · skip
                                        exact absurd hr152 h251
                                      · skip
                                        refine lv_iload_n hx hb dL_registers_254 rfl (lv_at hl 0 rfl) ?_
                                        refine lv_if_ne (tgt := 269) hx hb dL_registers_255 (by decide) (fun h255 => ?_) (fun h255 => ?_)
                                        · skip
                                          exact absurd (by decide) h255
                                        · skip
                                          refine lv_aload_n hx hb dL_registers_258 rfl (lv_at hl 3 rfl) ?_
                                          refine lv_iconst (v := 0) hx hb dL_registers_259 (by decide) ?_
                                          refine lv_iconst (v := 4) hx hb dL_registers_260 (by decide) ?_
                                          refine zWs9 zm_L_72 hF hB (c_L_same l D ka kb bd na L mo an pl ho le sz9 re9 kp st N_152 j_152 0 4 (by decide) (by decide) (f238_0.trans f238_4.symm)) rfl ⟨Nat.le_of_ble_eq_true rfl, Nat.le_of_ble_eq_true rfl⟩ rfl hl.1 (Nat.le_of_ble_eq_true rfl) ⟨Nat.le_refl _, Nat.le_refl _⟩ dL_registers_261 ?_
                                          clear hB
                                          try clear locs
                                          try clear H
                                          intro r153 u153 H locs hp hB
                                          obtain rfl : r153 = (1 : Int32) := hp
                                          replace hB : zB D A s ([] ++ OW ka bd na (L, mo, an, pl, ho, le, sz9, re9, kp, st, N_152, j_152)) H locs := hB
                                          refine lv_if_ne (tgt := 269) hx hb dL_registers_264 (by decide) (fun h264 => ?_) (fun h264 => ?_)
                                          · skip
                                            refine lv_aload_n hx hb dL_registers_269 rfl (lv_at hl 3 rfl) ?_
                                            refine lv_iconst (v := 0) hx hb dL_registers_270 (by decide) ?_
                                            refine lv_iconst (v := 1) hx hb dL_registers_271 (by decide) ?_
                                            refine zWi zm_L_75 hF hB (w_compare l D ka kb bd na L mo an pl ho le sz9 re9 kp st N_152 j_152 0 1 (d238) (hb152)) rfl ⟨Nat.le_of_ble_eq_true rfl, Nat.le_of_ble_eq_true rfl⟩ rfl hl.1 (Nat.le_of_ble_eq_true rfl) ⟨Nat.le_refl _, Nat.le_refl _⟩ dL_registers_272 ?_
                                            clear hB
                                            try clear locs
                                            try clear H
                                            intro r154 u154 H locs hp hB
                                            obtain ⟨N_154, j_154⟩ := u154
                                            have hp154 : r154 = cmpV (nI 0) (nI 1) N_152 ∧ (∀ k9, k9 ≠ 6 → N_154 k9 = N_152 k9) ∧ bB (jbb j_154) := hp
                                            have hr154 := hp154.1
                                            have hN154 := hp154.2.1
                                            have hb154 := hp154.2.2
                                            have c1 : r154 = cmpV (nI 0) (nI 1) N9 := hr154.trans (cmpV_cg (by decide) (by decide) f238_0 f238_1)
                                            have d272 : ∀ i, i < 6 → 0 < (N_154 i).2.2.2.2.toInt := fun i hi => by rw [hN154 i (by omega)]; exact d238 i hi
                                            have e272 : ∀ i, i < 6 → N_154 (8 + i) = N (8 + i) := fun i hi => (hN154 (8 + i) (by omega)).trans (e238 i hi)
                                            have f272_0 : N_154 0 = (N9 0) := (hN154 0 (by decide)).trans f238_0
                                            have f272_1 : N_154 1 = (N9 1) := (hN154 1 (by decide)).trans f238_1
                                            have f272_2 : N_154 2 = (prodV (N9 0) (N9 1)) := (hN154 2 (by decide)).trans f238_2
                                            have f272_3 : N_154 3 = (prodV (N9 0) (N9 1)) := (hN154 3 (by decide)).trans f238_3
                                            replace hB : zB D A s ([] ++ OW ka bd na (L, mo, an, pl, ho, le, sz9, re9, kp, st, N_154, j_154)) H locs := hB
                                            refine lv_istore (lv' := [(4, .int r154), (3, .int (0 : Int32)), (2, .int (nI at9)), (1, .ref (kb 1)), (0, .ref (bd 31))]) hx hb dL_registers_275 hl (by decide) rfl ?_
                                            clear hl
                                            clear ls
                                            intro ls hl
                                            refine lv_aload_n hx hb dL_registers_277 rfl (lv_at hl 4 rfl) ?_
                                            refine lv_iconst (v := 1) hx hb dL_registers_278 (by decide) ?_
                                            refine lv_iconst (v := 0) hx hb dL_registers_279 (by decide) ?_
                                            refine zWi zm_L_75 hF hB (w_compare l D ka kb bd na L mo an pl ho le sz9 re9 kp st N_154 j_154 1 0 (d272) (hb154)) rfl ⟨Nat.le_of_ble_eq_true rfl, Nat.le_of_ble_eq_true rfl⟩ rfl hl.1 (Nat.le_of_ble_eq_true rfl) ⟨Nat.le_refl _, Nat.le_refl _⟩ dL_registers_280 ?_
                                            clear hB
                                            try clear locs
                                            try clear H
                                            intro r155 u155 H locs hp hB
                                            obtain ⟨N_155, j_155⟩ := u155
                                            have hp155 : r155 = cmpV (nI 1) (nI 0) N_154 ∧ (∀ k9, k9 ≠ 6 → N_155 k9 = N_154 k9) ∧ bB (jbb j_155) := hp
                                            have hr155 := hp155.1
                                            have hN155 := hp155.2.1
                                            have hb155 := hp155.2.2
                                            have c2 : r155 = cmpV (nI 1) (nI 0) N9 := hr155.trans (cmpV_cg (by decide) (by decide) f272_1 f272_0)
                                            have d280 : ∀ i, i < 6 → 0 < (N_155 i).2.2.2.2.toInt := fun i hi => by rw [hN155 i (by omega)]; exact d272 i hi
                                            have e280 : ∀ i, i < 6 → N_155 (8 + i) = N (8 + i) := fun i hi => (hN155 (8 + i) (by omega)).trans (e272 i hi)
                                            have hcp := cmp_pair hX0 hX1
                                            have f280_2 : N_155 2 = (prodV (N9 0) (N9 1)) := (hN155 2 (by decide)).trans f272_2
                                            have f280_3 : N_155 3 = (prodV (N9 0) (N9 1)) := (hN155 3 (by decide)).trans f272_3
                                            replace hB : zB D A s ([] ++ OW ka bd na (L, mo, an, pl, ho, le, sz9, re9, kp, st, N_155, j_155)) H locs := hB
                                            refine lv_istore (lv' := [(5, .int r155), (4, .int r154), (3, .int (0 : Int32)), (2, .int (nI at9)), (1, .ref (kb 1)), (0, .ref (bd 31))]) hx hb dL_registers_283 hl (by decide) rfl ?_
                                            clear hl
                                            clear ls
                                            intro ls hl
                                            refine lv_iload hx hb dL_registers_285 (lv_at hl 1 rfl) ?_
                                            refine lv_bipush (v := -3) hx hb dL_registers_287 (by decide) ?_
                                            refine lv_icmp_ne (tgt := 307) hx hb dL_registers_289 (by decide) (fun h289 => ?_) (fun h289 => ?_)
                                            · skip
                                              have c3 := hcp.elim (fun e => absurd (c1.trans e.1) h289) (fun e => c2.trans (e.2.trans (congrArg (fun z : Int32 => -z) c1.symm)))
                                              refine lv_iload hx hb dL_registers_307 (lv_at hl 0 rfl) ?_
                                              refine lv_iload hx hb dL_registers_309 (lv_at hl 1 rfl) ?_
                                              refine lv_ineg hx hb dL_registers_311 ?_
                                              refine lv_icmp_ne (tgt := 328) hx hb dL_registers_312 (by decide) (fun h312 => ?_) (fun h312 => ?_)
                                              · skip
                                                exact absurd c3 h312
                                              · skip
                                                refine lv_aload_n hx hb dL_registers_315 rfl (lv_at hl 5 rfl) ?_
                                                refine lv_iconst (v := 2) hx hb dL_registers_316 (by decide) ?_
                                                refine lv_iconst (v := 3) hx hb dL_registers_317 (by decide) ?_
                                                refine zWi zm_L_75 hF hB (w_compare l D ka kb bd na L mo an pl ho le sz9 re9 kp st N_155 j_155 2 3 (d280) (hb155)) rfl ⟨Nat.le_of_ble_eq_true rfl, Nat.le_of_ble_eq_true rfl⟩ rfl hl.1 (Nat.le_of_ble_eq_true rfl) ⟨Nat.le_refl _, Nat.le_refl _⟩ dL_registers_318 ?_
                                                clear hB
                                                try clear locs
                                                try clear H
                                                intro r156 u156 H locs hp hB
                                                obtain ⟨N_156, j_156⟩ := u156
                                                have hp156 : r156 = cmpV (nI 2) (nI 3) N_155 ∧ (∀ k9, k9 ≠ 6 → N_156 k9 = N_155 k9) ∧ bB (jbb j_156) := hp
                                                have hr156 := hp156.1
                                                have hN156 := hp156.2.1
                                                have hb156 := hp156.2.2
                                                have c5 : r156 = 0 := hr156.trans (cmp_same (by decide) (by decide) (f280_2.trans f280_3.symm) (by rw [f280_2]; exact hpm.2.2.2.2.1) (by rw [f280_2]; exact hpm.2.2.2.1) (by decide) (by decide))
                                                have d318 : ∀ i, i < 6 → 0 < (N_156 i).2.2.2.2.toInt := fun i hi => by rw [hN156 i (by omega)]; exact d280 i hi
                                                have e318 : ∀ i, i < 6 → N_156 (8 + i) = N (8 + i) := fun i hi => (hN156 (8 + i) (by omega)).trans (e280 i hi)
                                                replace hB : zB D A s ([] ++ OW ka bd na (L, mo, an, pl, ho, le, sz9, re9, kp, st, N_156, j_156)) H locs := hB
                                                refine lv_if_ne (tgt := 328) hx hb dL_registers_321 (by decide) (fun h321 => ?_) (fun h321 => ?_)
                                                · skip
                                                  exact absurd c5 h321
                                                · skip
                                                  refine lv_iconst (v := 1) hx hb dL_registers_324 (by decide) ?_
                                                  refine lv_goto (tgt := 329) hx hb dL_registers_325 (by decide) ?_
                                                  exact zreti hF hB (N_156, j_156) (⟨rfl, d318, hb156, e318⟩) (rfl) (rfl) dL_registers_329 hQ
                                            · skip
                                              have c4 := hcp.elim (fun e => c2.trans e.2) (fun e => absurd (c1.symm.trans h289) e.1)
                                              refine lv_iload hx hb dL_registers_292 (lv_at hl 0 rfl) ?_
                                              refine lv_bipush (v := -3) hx hb dL_registers_294 (by decide) ?_
                                              refine lv_icmp_ne (tgt := 303) hx hb dL_registers_296 (by decide) (fun h296 => ?_) (fun h296 => ?_)
                                              · skip
                                                exact absurd c4 h296
                                              · skip
                                                refine lv_iconst (v := 1) hx hb dL_registers_299 (by decide) ?_
                                                refine lv_goto (tgt := 329) hx hb dL_registers_300 (by decide) ?_
                                                exact zreti hF hB (N_155, j_155) (⟨rfl, d280, hb155, e280⟩) (rfl) (rfl) dL_registers_329 hQ
                                          · skip
                                            exact absurd h264 (by decide)
                                    · skip
                                      exact absurd (by decide) h242
                            · skip
                              exact absurd h195 (by decide)
                exact lp144 (0 + 1)  (dB_f.mpr (fun e => h135 e.2.2.2)) (by omega) _ _ (hB) _ (lv_sub hl [0, 1, 2, 3] rfl)
              · skip
                replace h135 := (lg_cmp_eq _ _).mp h135
                refine lv_iconst (v := 1) hx hb dL_registers_138 (by decide) ?_
                refine lv_goto (tgt := 143) hx hb dL_registers_139 (by decide) ?_
                have hzt : zeroN (N9 1) = true := dB_t.mpr ⟨h102, h113, h124, h135⟩
                refine lv_istore_n (lv' := [(3, .int (1 : Int32)), (2, .int (nI at9)), (1, .ref (kb 1)), (0, .ref (bd 31))]) hx hb dL_registers_143 rfl hl (by decide) rfl ?_
                clear hl
                clear ls
                intro ls hl
                refine lv_aload_n hx hb dL_registers_144 rfl (lv_at hl 3 rfl) ?_
                refine lv_iconst (v := 0) hx hb dL_registers_145 (by decide) ?_
                refine lv_iconst (v := 0) hx hb dL_registers_146 (by decide) ?_
                refine lv_iconst (v := 1) hx hb dL_registers_147 (by decide) ?_
                refine lv_iconst (v := 2) hx hb dL_registers_148 (by decide) ?_
                refine zWi zm_L_69 hF hB (w_rk_add l D ka kb bd na L mo an pl ho le sz9 re9 kp st N9 j 0 1 2 (hd6) (hB9) (by decide) (by decide) (by decide) (by exact hsm.1)) rfl ⟨Nat.le_of_ble_eq_true rfl, Nat.le_of_ble_eq_true rfl⟩ rfl hl.1 (Nat.le_of_ble_eq_true rfl) ⟨Nat.le_refl _, Nat.le_refl _⟩ dL_registers_149 ?_
                clear hB
                try clear locs
                try clear H
                intro r157 u157 H locs hp hB
                obtain ⟨N_157, j_157⟩ := u157
                have hp157 : r157 = 1 ∧ (∀ k9, k9 < 25 → N_157 k9 = upN N9 2 (sumV false (N9 0) (N9 1)) k9) ∧ bB (jbb j_157) := hp
                have hr157 := hp157.1
                have hN157 := hp157.2.1
                have hb157 := hp157.2.2
                have f149_0 : N_157 0 = (N9 0) := (hN157 0 (by decide)).trans (upN_ne (by decide))
                have f149_1 : N_157 1 = (N9 1) := (hN157 1 (by decide)).trans (upN_ne (by decide))
                have f149_2 : N_157 2 = (sumV false (N9 0) (N9 1)) := (hN157 2 (by decide)).trans (upN_eq.trans (rfl))
                have d149 : ∀ i, i < 6 → 0 < (N_157 i).2.2.2.2.toInt := fun i hi => by
                  by_cases e : i = 2
                  · rw [e, f149_2]; exact sumV_d hsm.1 (hd6 0 (by decide)) (hd6 1 (by decide))
                  · rw [hN157 i (by omega), upN_ne e]; exact hd6 i hi
                have e149 : ∀ i, i < 6 → N_157 (8 + i) = N (8 + i) := fun i hi => (hN157 (8 + i) (by omega)).trans ((upN_ne (by omega)).trans (he9 i hi))
                replace hB : zB D A s ([] ++ OW ka bd na (L, mo, an, pl, ho, le, sz9, re9, kp, st, N_157, j_157)) H locs := hB
                refine lv_iconst (v := 1) hx hb dL_registers_152 (by decide) ?_
                refine lv_icmp_ne (tgt := 198) hx hb dL_registers_153 (by decide) (fun h153 => ?_) (fun h153 => ?_)
                · skip
                  exact absurd hr157 h153
                · skip
                  refine lv_aload_n hx hb dL_registers_156 rfl (lv_at hl 3 rfl) ?_
                  refine lv_iconst (v := 1) hx hb dL_registers_157 (by decide) ?_
                  refine lv_iconst (v := 2) hx hb dL_registers_158 (by decide) ?_
                  refine lv_iconst (v := 1) hx hb dL_registers_159 (by decide) ?_
                  refine lv_iconst (v := 3) hx hb dL_registers_160 (by decide) ?_
                  refine zWi zm_L_69 hF hB (w_rk_sub l D ka kb bd na L mo an pl ho le sz9 re9 kp st N_157 j_157 2 1 3 (d149) (hb157) (by decide) (by decide) (by decide) (by rw [f149_2, f149_1]; exact hsm.2.1)) rfl ⟨Nat.le_of_ble_eq_true rfl, Nat.le_of_ble_eq_true rfl⟩ rfl hl.1 (Nat.le_of_ble_eq_true rfl) ⟨Nat.le_refl _, Nat.le_refl _⟩ dL_registers_161 ?_
                  clear hB
                  try clear locs
                  try clear H
                  intro r158 u158 H locs hp hB
                  obtain ⟨N_158, j_158⟩ := u158
                  have hp158 : r158 = 1 ∧ (∀ k9, k9 < 25 → N_158 k9 = upN N_157 3 (sumV true (N_157 2) (N_157 1)) k9) ∧ bB (jbb j_158) := hp
                  have hr158 := hp158.1
                  have hN158 := hp158.2.1
                  have hb158 := hp158.2.2
                  have f161_0 : N_158 0 = (N9 0) := (hN158 0 (by decide)).trans ((upN_ne (by decide)).trans f149_0)
                  have f161_1 : N_158 1 = (N9 1) := (hN158 1 (by decide)).trans ((upN_ne (by decide)).trans f149_1)
                  have f161_2 : N_158 2 = (sumV false (N9 0) (N9 1)) := (hN158 2 (by decide)).trans ((upN_ne (by decide)).trans f149_2)
                  have f161_3 : N_158 3 = (N9 0) := (hN158 3 (by decide)).trans (upN_eq.trans (by rw [f149_2, f149_1]; exact hsm.2.2.1))
                  have d161 : ∀ i, i < 6 → 0 < (N_158 i).2.2.2.2.toInt := fun i hi => by
                    by_cases e : i = 3
                    · rw [e, f161_3]; exact hd6 0 (by decide)
                    · rw [hN158 i (by omega), upN_ne e]; exact d149 i hi
                  have e161 : ∀ i, i < 6 → N_158 (8 + i) = N (8 + i) := fun i hi => (hN158 (8 + i) (by omega)).trans ((upN_ne (by omega)).trans (e149 i hi))
                  replace hB : zB D A s ([] ++ OW ka bd na (L, mo, an, pl, ho, le, sz9, re9, kp, st, N_158, j_158)) H locs := hB
                  refine lv_iconst (v := 1) hx hb dL_registers_164 (by decide) ?_
                  refine lv_icmp_ne (tgt := 198) hx hb dL_registers_165 (by decide) (fun h165 => ?_) (fun h165 => ?_)
                  · skip
                    exact absurd hr158 h165
                  · skip
                    refine lv_aload_n hx hb dL_registers_168 rfl (lv_at hl 3 rfl) ?_
                    refine lv_iconst (v := 0) hx hb dL_registers_169 (by decide) ?_
                    refine lv_iconst (v := 3) hx hb dL_registers_170 (by decide) ?_
                    refine zWs9 zm_L_72 hF hB (c_L_same l D ka kb bd na L mo an pl ho le sz9 re9 kp st N_158 j_158 0 3 (by decide) (by decide) (f161_0.trans f161_3.symm)) rfl ⟨Nat.le_of_ble_eq_true rfl, Nat.le_of_ble_eq_true rfl⟩ rfl hl.1 (Nat.le_of_ble_eq_true rfl) ⟨Nat.le_refl _, Nat.le_refl _⟩ dL_registers_171 ?_
                    clear hB
                    try clear locs
                    try clear H
                    intro r159 u159 H locs hp hB
                    obtain rfl : r159 = (1 : Int32) := hp
                    replace hB : zB D A s ([] ++ OW ka bd na (L, mo, an, pl, ho, le, sz9, re9, kp, st, N_158, j_158)) H locs := hB
                    refine lv_if_eq (tgt := 198) hx hb dL_registers_174 (by decide) (fun h174 => ?_) (fun h174 => ?_)
                    · skip
                      exact absurd h174 (by decide)
                    · skip
                      refine lv_aload_n hx hb dL_registers_177 rfl (lv_at hl 3 rfl) ?_
                      refine lv_iconst (v := 1) hx hb dL_registers_178 (by decide) ?_
                      refine lv_iconst (v := 2) hx hb dL_registers_179 (by decide) ?_
                      refine lv_iconst (v := 0) hx hb dL_registers_180 (by decide) ?_
                      refine lv_iconst (v := 3) hx hb dL_registers_181 (by decide) ?_
                      refine zWi zm_L_69 hF hB (w_rk_sub l D ka kb bd na L mo an pl ho le sz9 re9 kp st N_158 j_158 2 0 3 (d161) (hb158) (by decide) (by decide) (by decide) (by rw [f161_2, f161_0]; exact hsm.2.2.2.1)) rfl ⟨Nat.le_of_ble_eq_true rfl, Nat.le_of_ble_eq_true rfl⟩ rfl hl.1 (Nat.le_of_ble_eq_true rfl) ⟨Nat.le_refl _, Nat.le_refl _⟩ dL_registers_182 ?_
                      clear hB
                      try clear locs
                      try clear H
                      intro r160 u160 H locs hp hB
                      obtain ⟨N_160, j_160⟩ := u160
                      have hp160 : r160 = 1 ∧ (∀ k9, k9 < 25 → N_160 k9 = upN N_158 3 (sumV true (N_158 2) (N_158 0)) k9) ∧ bB (jbb j_160) := hp
                      have hr160 := hp160.1
                      have hN160 := hp160.2.1
                      have hb160 := hp160.2.2
                      have f182_0 : N_160 0 = (N9 0) := (hN160 0 (by decide)).trans ((upN_ne (by decide)).trans f161_0)
                      have f182_1 : N_160 1 = (N9 1) := (hN160 1 (by decide)).trans ((upN_ne (by decide)).trans f161_1)
                      have f182_2 : N_160 2 = (sumV false (N9 0) (N9 1)) := (hN160 2 (by decide)).trans ((upN_ne (by decide)).trans f161_2)
                      have f182_3 : N_160 3 = (N9 1) := (hN160 3 (by decide)).trans (upN_eq.trans (by rw [f161_2, f161_0]; exact hsm.2.2.2.2))
                      have d182 : ∀ i, i < 6 → 0 < (N_160 i).2.2.2.2.toInt := fun i hi => by
                        by_cases e : i = 3
                        · rw [e, f182_3]; exact hd6 1 (by decide)
                        · rw [hN160 i (by omega), upN_ne e]; exact d161 i hi
                      have e182 : ∀ i, i < 6 → N_160 (8 + i) = N (8 + i) := fun i hi => (hN160 (8 + i) (by omega)).trans ((upN_ne (by omega)).trans (e161 i hi))
                      replace hB : zB D A s ([] ++ OW ka bd na (L, mo, an, pl, ho, le, sz9, re9, kp, st, N_160, j_160)) H locs := hB
                      refine lv_iconst (v := 1) hx hb dL_registers_185 (by decide) ?_
                      refine lv_icmp_ne (tgt := 198) hx hb dL_registers_186 (by decide) (fun h186 => ?_) (fun h186 => ?_)
                      · skip
                        exact absurd hr160 h186
                      · skip
                        refine lv_aload_n hx hb dL_registers_189 rfl (lv_at hl 3 rfl) ?_
                        refine lv_iconst (v := 1) hx hb dL_registers_190 (by decide) ?_
                        refine lv_iconst (v := 3) hx hb dL_registers_191 (by decide) ?_
                        refine zWs9 zm_L_72 hF hB (c_L_same l D ka kb bd na L mo an pl ho le sz9 re9 kp st N_160 j_160 1 3 (by decide) (by decide) (f182_1.trans f182_3.symm)) rfl ⟨Nat.le_of_ble_eq_true rfl, Nat.le_of_ble_eq_true rfl⟩ rfl hl.1 (Nat.le_of_ble_eq_true rfl) ⟨Nat.le_refl _, Nat.le_refl _⟩ dL_registers_192 ?_
                        clear hB
                        try clear locs
                        try clear H
                        intro r161 u161 H locs hp hB
                        obtain rfl : r161 = (1 : Int32) := hp
                        replace hB : zB D A s ([] ++ OW ka bd na (L, mo, an, pl, ho, le, sz9, re9, kp, st, N_160, j_160)) H locs := hB
                        refine lv_if_ne (tgt := 200) hx hb dL_registers_195 (by decide) (fun h195 => ?_) (fun h195 => ?_)
                        · skip
                          refine lv_aload_n hx hb dL_registers_200 rfl (lv_at hl 3 rfl) ?_
                          refine lv_iconst (v := 2) hx hb dL_registers_201 (by decide) ?_
                          refine lv_iconst (v := 0) hx hb dL_registers_202 (by decide) ?_
                          refine lv_iconst (v := 1) hx hb dL_registers_203 (by decide) ?_
                          refine lv_iconst (v := 2) hx hb dL_registers_204 (by decide) ?_
                          refine zWi zm_L_69 hF hB (w_rk_mul l D ka kb bd na L mo an pl ho le sz9 re9 kp st N_160 j_160 0 1 2 (d182) (hb160) (by decide) (by decide) (by decide) (by rw [f182_0, f182_1]; exact hpm.1)) rfl ⟨Nat.le_of_ble_eq_true rfl, Nat.le_of_ble_eq_true rfl⟩ rfl hl.1 (Nat.le_of_ble_eq_true rfl) ⟨Nat.le_refl _, Nat.le_refl _⟩ dL_registers_205 ?_
                          clear hB
                          try clear locs
                          try clear H
                          intro r162 u162 H locs hp hB
                          obtain ⟨N_162, j_162⟩ := u162
                          have hp162 : r162 = 1 ∧ (∀ k9, k9 < 25 → N_162 k9 = upN N_160 2 (prodV (N_160 0) (N_160 1)) k9) ∧ bB (jbb j_162) := hp
                          have hr162 := hp162.1
                          have hN162 := hp162.2.1
                          have hb162 := hp162.2.2
                          have f205_0 : N_162 0 = (N9 0) := (hN162 0 (by decide)).trans ((upN_ne (by decide)).trans f182_0)
                          have f205_1 : N_162 1 = (N9 1) := (hN162 1 (by decide)).trans ((upN_ne (by decide)).trans f182_1)
                          have f205_3 : N_162 3 = (N9 1) := (hN162 3 (by decide)).trans ((upN_ne (by decide)).trans f182_3)
                          have f205_2 : N_162 2 = (prodV (N9 0) (N9 1)) := (hN162 2 (by decide)).trans (upN_eq.trans (by rw [f182_0, f182_1]))
                          have d205 : ∀ i, i < 6 → 0 < (N_162 i).2.2.2.2.toInt := fun i hi => by
                            by_cases e : i = 2
                            · rw [e, f205_2]; exact prodV_d hpm.1 (hd6 0 (by decide)) (hd6 1 (by decide))
                            · rw [hN162 i (by omega), upN_ne e]; exact d182 i hi
                          have e205 : ∀ i, i < 6 → N_162 (8 + i) = N (8 + i) := fun i hi => (hN162 (8 + i) (by omega)).trans ((upN_ne (by omega)).trans (e182 i hi))
                          replace hB : zB D A s ([] ++ OW ka bd na (L, mo, an, pl, ho, le, sz9, re9, kp, st, N_162, j_162)) H locs := hB
                          refine lv_iconst (v := 1) hx hb dL_registers_208 (by decide) ?_
                          refine lv_icmp_ne (tgt := 267) hx hb dL_registers_209 (by decide) (fun h209 => ?_) (fun h209 => ?_)
                          · skip
                            exact absurd hr162 h209
                          · skip
                            refine lv_aload_n hx hb dL_registers_212 rfl (lv_at hl 3 rfl) ?_
                            refine lv_iconst (v := 2) hx hb dL_registers_213 (by decide) ?_
                            refine lv_iconst (v := 1) hx hb dL_registers_214 (by decide) ?_
                            refine lv_iconst (v := 0) hx hb dL_registers_215 (by decide) ?_
                            refine lv_iconst (v := 3) hx hb dL_registers_216 (by decide) ?_
                            refine zWi zm_L_69 hF hB (w_rk_mul l D ka kb bd na L mo an pl ho le sz9 re9 kp st N_162 j_162 1 0 3 (d205) (hb162) (by decide) (by decide) (by decide) (by rw [f205_1, f205_0]; exact hpm.2.1)) rfl ⟨Nat.le_of_ble_eq_true rfl, Nat.le_of_ble_eq_true rfl⟩ rfl hl.1 (Nat.le_of_ble_eq_true rfl) ⟨Nat.le_refl _, Nat.le_refl _⟩ dL_registers_217 ?_
                            clear hB
                            try clear locs
                            try clear H
                            intro r163 u163 H locs hp hB
                            obtain ⟨N_163, j_163⟩ := u163
                            have hp163 : r163 = 1 ∧ (∀ k9, k9 < 25 → N_163 k9 = upN N_162 3 (prodV (N_162 1) (N_162 0)) k9) ∧ bB (jbb j_163) := hp
                            have hr163 := hp163.1
                            have hN163 := hp163.2.1
                            have hb163 := hp163.2.2
                            have f217_0 : N_163 0 = (N9 0) := (hN163 0 (by decide)).trans ((upN_ne (by decide)).trans f205_0)
                            have f217_1 : N_163 1 = (N9 1) := (hN163 1 (by decide)).trans ((upN_ne (by decide)).trans f205_1)
                            have f217_2 : N_163 2 = (prodV (N9 0) (N9 1)) := (hN163 2 (by decide)).trans ((upN_ne (by decide)).trans f205_2)
                            have f217_3 : N_163 3 = (prodV (N9 0) (N9 1)) := (hN163 3 (by decide)).trans (upN_eq.trans (by rw [f205_1, f205_0]; exact hpm.2.2.1.symm))
                            have d217 : ∀ i, i < 6 → 0 < (N_163 i).2.2.2.2.toInt := fun i hi => by
                              by_cases e : i = 3
                              · rw [e, f217_3]; exact prodV_d hpm.1 (hd6 0 (by decide)) (hd6 1 (by decide))
                              · rw [hN163 i (by omega), upN_ne e]; exact d205 i hi
                            have e217 : ∀ i, i < 6 → N_163 (8 + i) = N (8 + i) := fun i hi => (hN163 (8 + i) (by omega)).trans ((upN_ne (by omega)).trans (e205 i hi))
                            replace hB : zB D A s ([] ++ OW ka bd na (L, mo, an, pl, ho, le, sz9, re9, kp, st, N_163, j_163)) H locs := hB
                            refine lv_iconst (v := 1) hx hb dL_registers_220 (by decide) ?_
                            refine lv_icmp_ne (tgt := 267) hx hb dL_registers_221 (by decide) (fun h221 => ?_) (fun h221 => ?_)
                            · skip
                              exact absurd hr163 h221
                            · skip
                              refine lv_aload_n hx hb dL_registers_224 rfl (lv_at hl 3 rfl) ?_
                              refine lv_iconst (v := 2) hx hb dL_registers_225 (by decide) ?_
                              refine lv_iconst (v := 3) hx hb dL_registers_226 (by decide) ?_
                              refine zWs9 zm_L_72 hF hB (c_L_same l D ka kb bd na L mo an pl ho le sz9 re9 kp st N_163 j_163 2 3 (by decide) (by decide) (f217_2.trans f217_3.symm)) rfl ⟨Nat.le_of_ble_eq_true rfl, Nat.le_of_ble_eq_true rfl⟩ rfl hl.1 (Nat.le_of_ble_eq_true rfl) ⟨Nat.le_refl _, Nat.le_refl _⟩ dL_registers_227 ?_
                              clear hB
                              try clear locs
                              try clear H
                              intro r164 u164 H locs hp hB
                              obtain rfl : r164 = (1 : Int32) := hp
                              replace hB : zB D A s ([] ++ OW ka bd na (L, mo, an, pl, ho, le, sz9, re9, kp, st, N_163, j_163)) H locs := hB
                              refine lv_if_eq (tgt := 267) hx hb dL_registers_230 (by decide) (fun h230 => ?_) (fun h230 => ?_)
                              · skip
                                exact absurd h230 (by decide)
                              · skip
                                refine lv_aload_n hx hb dL_registers_233 rfl (lv_at hl 3 rfl) ?_
                                refine lv_iconst (v := 3) hx hb dL_registers_234 (by decide) ?_
                                refine lv_iconst (v := 2) hx hb dL_registers_235 (by decide) ?_
                                refine lv_iconst (v := 1) hx hb dL_registers_236 (by decide) ?_
                                refine lv_iconst (v := 4) hx hb dL_registers_237 (by decide) ?_
                                refine zWi zm_L_69 hF hB (w_rk_zero l D ka kb bd na L mo an pl ho le sz9 re9 kp st N_163 j_163 2 1 4 (d217) (hb163) (by decide) (by decide) (by decide) (by rw [f217_1]; exact hzt)) rfl ⟨Nat.le_of_ble_eq_true rfl, Nat.le_of_ble_eq_true rfl⟩ rfl hl.1 (Nat.le_of_ble_eq_true rfl) ⟨Nat.le_refl _, Nat.le_refl _⟩ dL_registers_238 ?_
                                clear hB
                                try clear locs
                                try clear H
                                intro r165 u165 H locs hp hB
                                obtain ⟨N_165, j_165⟩ := u165
                                have hp165 : r165 = -6 ∧ (∀ k9, k9 < 25 → N_165 k9 = N_163 k9) ∧ bB (jbb j_165) := hp
                                have hr165 := hp165.1
                                have hN165 := hp165.2.1
                                have hb165 := hp165.2.2
                                have f238_0 : N_165 0 = (N9 0) := (hN165 0 (by decide)).trans f217_0
                                have f238_1 : N_165 1 = (N9 1) := (hN165 1 (by decide)).trans f217_1
                                have f238_2 : N_165 2 = (prodV (N9 0) (N9 1)) := (hN165 2 (by decide)).trans f217_2
                                have f238_3 : N_165 3 = (prodV (N9 0) (N9 1)) := (hN165 3 (by decide)).trans f217_3
                                have d238 : ∀ i, i < 6 → 0 < (N_165 i).2.2.2.2.toInt := fun i hi => by rw [hN165 i (by omega)]; exact d217 i hi
                                have e238 : ∀ i, i < 6 → N_165 (8 + i) = N (8 + i) := fun i hi => (hN165 (8 + i) (by omega)).trans (e217 i hi)
                                replace hB : zB D A s ([] ++ OW ka bd na (L, mo, an, pl, ho, le, sz9, re9, kp, st, N_165, j_165)) H locs := hB
                                refine lv_iload_n hx hb dL_registers_241 rfl (lv_at hl 0 rfl) ?_
                                refine lv_if_eq (tgt := 250) hx hb dL_registers_242 (by decide) (fun h242 => ?_) (fun h242 => ?_)
                                · skip
                                  exact absurd h242 (by decide)
                                · skip
                                  refine lv_bipush (v := -6) hx hb dL_registers_245 (by decide) ?_
                                  refine lv_goto (tgt := 251) hx hb dL_registers_247 (by decide) ?_
                                  refine lv_icmp_ne (tgt := 267) hx hb dL_registers_251 (by decide) (fun h251 => ?_) (fun h251 => ?_)
                                  · skip
                                    exact absurd hr165 h251
                                  · skip
                                    refine lv_iload_n hx hb dL_registers_254 rfl (lv_at hl 0 rfl) ?_
                                    refine lv_if_ne (tgt := 269) hx hb dL_registers_255 (by decide) (fun h255 => ?_) (fun h255 => ?_)
                                    · skip
                                      refine lv_aload_n hx hb dL_registers_269 rfl (lv_at hl 3 rfl) ?_
                                      refine lv_iconst (v := 0) hx hb dL_registers_270 (by decide) ?_
                                      refine lv_iconst (v := 1) hx hb dL_registers_271 (by decide) ?_
                                      refine zWi zm_L_75 hF hB (w_compare l D ka kb bd na L mo an pl ho le sz9 re9 kp st N_165 j_165 0 1 (d238) (hb165)) rfl ⟨Nat.le_of_ble_eq_true rfl, Nat.le_of_ble_eq_true rfl⟩ rfl hl.1 (Nat.le_of_ble_eq_true rfl) ⟨Nat.le_refl _, Nat.le_refl _⟩ dL_registers_272 ?_
                                      clear hB
                                      try clear locs
                                      try clear H
                                      intro r166 u166 H locs hp hB
                                      obtain ⟨N_166, j_166⟩ := u166
                                      have hp166 : r166 = cmpV (nI 0) (nI 1) N_165 ∧ (∀ k9, k9 ≠ 6 → N_166 k9 = N_165 k9) ∧ bB (jbb j_166) := hp
                                      have hr166 := hp166.1
                                      have hN166 := hp166.2.1
                                      have hb166 := hp166.2.2
                                      have c1 : r166 = cmpV (nI 0) (nI 1) N9 := hr166.trans (cmpV_cg (by decide) (by decide) f238_0 f238_1)
                                      have d272 : ∀ i, i < 6 → 0 < (N_166 i).2.2.2.2.toInt := fun i hi => by rw [hN166 i (by omega)]; exact d238 i hi
                                      have e272 : ∀ i, i < 6 → N_166 (8 + i) = N (8 + i) := fun i hi => (hN166 (8 + i) (by omega)).trans (e238 i hi)
                                      have f272_0 : N_166 0 = (N9 0) := (hN166 0 (by decide)).trans f238_0
                                      have f272_1 : N_166 1 = (N9 1) := (hN166 1 (by decide)).trans f238_1
                                      have f272_2 : N_166 2 = (prodV (N9 0) (N9 1)) := (hN166 2 (by decide)).trans f238_2
                                      have f272_3 : N_166 3 = (prodV (N9 0) (N9 1)) := (hN166 3 (by decide)).trans f238_3
                                      replace hB : zB D A s ([] ++ OW ka bd na (L, mo, an, pl, ho, le, sz9, re9, kp, st, N_166, j_166)) H locs := hB
                                      refine lv_istore (lv' := [(4, .int r166), (3, .int (1 : Int32)), (2, .int (nI at9)), (1, .ref (kb 1)), (0, .ref (bd 31))]) hx hb dL_registers_275 hl (by decide) rfl ?_
                                      clear hl
                                      clear ls
                                      intro ls hl
                                      refine lv_aload_n hx hb dL_registers_277 rfl (lv_at hl 4 rfl) ?_
                                      refine lv_iconst (v := 1) hx hb dL_registers_278 (by decide) ?_
                                      refine lv_iconst (v := 0) hx hb dL_registers_279 (by decide) ?_
                                      refine zWi zm_L_75 hF hB (w_compare l D ka kb bd na L mo an pl ho le sz9 re9 kp st N_166 j_166 1 0 (d272) (hb166)) rfl ⟨Nat.le_of_ble_eq_true rfl, Nat.le_of_ble_eq_true rfl⟩ rfl hl.1 (Nat.le_of_ble_eq_true rfl) ⟨Nat.le_refl _, Nat.le_refl _⟩ dL_registers_280 ?_
                                      clear hB
                                      try clear locs
                                      try clear H
                                      intro r167 u167 H locs hp hB
                                      obtain ⟨N_167, j_167⟩ := u167
                                      have hp167 : r167 = cmpV (nI 1) (nI 0) N_166 ∧ (∀ k9, k9 ≠ 6 → N_167 k9 = N_166 k9) ∧ bB (jbb j_167) := hp
                                      have hr167 := hp167.1
                                      have hN167 := hp167.2.1
                                      have hb167 := hp167.2.2
                                      have c2 : r167 = cmpV (nI 1) (nI 0) N9 := hr167.trans (cmpV_cg (by decide) (by decide) f272_1 f272_0)
                                      have d280 : ∀ i, i < 6 → 0 < (N_167 i).2.2.2.2.toInt := fun i hi => by rw [hN167 i (by omega)]; exact d272 i hi
                                      have e280 : ∀ i, i < 6 → N_167 (8 + i) = N (8 + i) := fun i hi => (hN167 (8 + i) (by omega)).trans (e272 i hi)
                                      have hcp := cmp_pair hX0 hX1
                                      have f280_2 : N_167 2 = (prodV (N9 0) (N9 1)) := (hN167 2 (by decide)).trans f272_2
                                      have f280_3 : N_167 3 = (prodV (N9 0) (N9 1)) := (hN167 3 (by decide)).trans f272_3
                                      replace hB : zB D A s ([] ++ OW ka bd na (L, mo, an, pl, ho, le, sz9, re9, kp, st, N_167, j_167)) H locs := hB
                                      refine lv_istore (lv' := [(5, .int r167), (4, .int r166), (3, .int (1 : Int32)), (2, .int (nI at9)), (1, .ref (kb 1)), (0, .ref (bd 31))]) hx hb dL_registers_283 hl (by decide) rfl ?_
                                      clear hl
                                      clear ls
                                      intro ls hl
                                      refine lv_iload hx hb dL_registers_285 (lv_at hl 1 rfl) ?_
                                      refine lv_bipush (v := -3) hx hb dL_registers_287 (by decide) ?_
                                      refine lv_icmp_ne (tgt := 307) hx hb dL_registers_289 (by decide) (fun h289 => ?_) (fun h289 => ?_)
                                      · skip
                                        have c3 := hcp.elim (fun e => absurd (c1.trans e.1) h289) (fun e => c2.trans (e.2.trans (congrArg (fun z : Int32 => -z) c1.symm)))
                                        refine lv_iload hx hb dL_registers_307 (lv_at hl 0 rfl) ?_
                                        refine lv_iload hx hb dL_registers_309 (lv_at hl 1 rfl) ?_
                                        refine lv_ineg hx hb dL_registers_311 ?_
                                        refine lv_icmp_ne (tgt := 328) hx hb dL_registers_312 (by decide) (fun h312 => ?_) (fun h312 => ?_)
                                        · skip
                                          exact absurd c3 h312
                                        · skip
                                          refine lv_aload_n hx hb dL_registers_315 rfl (lv_at hl 5 rfl) ?_
                                          refine lv_iconst (v := 2) hx hb dL_registers_316 (by decide) ?_
                                          refine lv_iconst (v := 3) hx hb dL_registers_317 (by decide) ?_
                                          refine zWi zm_L_75 hF hB (w_compare l D ka kb bd na L mo an pl ho le sz9 re9 kp st N_167 j_167 2 3 (d280) (hb167)) rfl ⟨Nat.le_of_ble_eq_true rfl, Nat.le_of_ble_eq_true rfl⟩ rfl hl.1 (Nat.le_of_ble_eq_true rfl) ⟨Nat.le_refl _, Nat.le_refl _⟩ dL_registers_318 ?_
                                          clear hB
                                          try clear locs
                                          try clear H
                                          intro r168 u168 H locs hp hB
                                          obtain ⟨N_168, j_168⟩ := u168
                                          have hp168 : r168 = cmpV (nI 2) (nI 3) N_167 ∧ (∀ k9, k9 ≠ 6 → N_168 k9 = N_167 k9) ∧ bB (jbb j_168) := hp
                                          have hr168 := hp168.1
                                          have hN168 := hp168.2.1
                                          have hb168 := hp168.2.2
                                          have c5 : r168 = 0 := hr168.trans (cmp_same (by decide) (by decide) (f280_2.trans f280_3.symm) (by rw [f280_2]; exact hpm.2.2.2.2.1) (by rw [f280_2]; exact hpm.2.2.2.1) (by decide) (by decide))
                                          have d318 : ∀ i, i < 6 → 0 < (N_168 i).2.2.2.2.toInt := fun i hi => by rw [hN168 i (by omega)]; exact d280 i hi
                                          have e318 : ∀ i, i < 6 → N_168 (8 + i) = N (8 + i) := fun i hi => (hN168 (8 + i) (by omega)).trans (e280 i hi)
                                          replace hB : zB D A s ([] ++ OW ka bd na (L, mo, an, pl, ho, le, sz9, re9, kp, st, N_168, j_168)) H locs := hB
                                          refine lv_if_ne (tgt := 328) hx hb dL_registers_321 (by decide) (fun h321 => ?_) (fun h321 => ?_)
                                          · skip
                                            exact absurd c5 h321
                                          · skip
                                            refine lv_iconst (v := 1) hx hb dL_registers_324 (by decide) ?_
                                            refine lv_goto (tgt := 329) hx hb dL_registers_325 (by decide) ?_
                                            exact zreti hF hB (N_168, j_168) (⟨rfl, d318, hb168, e318⟩) (rfl) (rfl) dL_registers_329 hQ
                                      · skip
                                        have c4 := hcp.elim (fun e => c2.trans e.2) (fun e => absurd (c1.symm.trans h289) e.1)
                                        refine lv_iload hx hb dL_registers_292 (lv_at hl 0 rfl) ?_
                                        refine lv_bipush (v := -3) hx hb dL_registers_294 (by decide) ?_
                                        refine lv_icmp_ne (tgt := 303) hx hb dL_registers_296 (by decide) (fun h296 => ?_) (fun h296 => ?_)
                                        · skip
                                          exact absurd c4 h296
                                        · skip
                                          refine lv_iconst (v := 1) hx hb dL_registers_299 (by decide) ?_
                                          refine lv_goto (tgt := 329) hx hb dL_registers_300 (by decide) ?_
                                          exact zreti hF hB (N_167, j_167) (⟨rfl, d280, hb167, e280⟩) (rfl) (rfl) dL_registers_329 hQ
                                    · skip
                                      exact absurd h255 (by decide)
                        · skip
                          exact absurd h195 (by decide)
      · skip
        have hk2 : k9 < 2 := by have := mt (nI_leI (a := 2) (b := k9) (by decide) (by omega)).mpr h4; omega
        refine lv_aload_n hx hb dL_registers_7 rfl (lv_at hl 2 rfl) ?_
        refine lv_iload_n hx hb dL_registers_8 rfl (lv_at hl 1 rfl) ?_
        refine lv_iload_n hx hb dL_registers_9 rfl (lv_at hl 0 rfl) ?_
        refine lv_iadd hx hb dL_registers_10 ?_
        refine ztopi (y := nI (at9 + k9)) (nI_add at9 k9) ?_
        refine zSi zm_L_26 hF hB (c_L_cell l D ka kb (at9 + k9) (hL) (by omega)) [] rfl (by decide) [] (fun _ => rfl) rfl rfl ⟨Nat.le_of_ble_eq_true rfl, Nat.le_of_ble_eq_true rfl⟩ rfl hl.1 (Nat.le_of_ble_eq_true rfl) ⟨Nat.le_refl _, Nat.le_refl _⟩ dL_registers_11 ?_
        clear hB
        try clear locs
        try clear H
        intro r169 u169 H locs hp hB
        obtain ⟨u9169, rfl⟩ : ∃ z, z = u169 := ⟨_, rfl⟩
        have hp169 : True := hp
        have HPP := hp169
        replace hB : zB D A s ([] ++ OW ka bd na (L, mo, an, pl, ho, le, sz9, re9, kp, st, N9, j)) H locs := hB
        refine lv_istore (lv' := [(4, .int r169), (3, .int (nI k9)), (2, .int (nI at9)), (1, .ref (kb 1)), (0, .ref (bd 31))]) hx hb dL_registers_14 hl (by decide) rfl ?_
        clear hl
        clear ls
        intro ls hl
        refine lv_aload_n hx hb dL_registers_16 rfl (lv_at hl 4 rfl) ?_
        refine lv_iload_n hx hb dL_registers_17 rfl (lv_at hl 1 rfl) ?_
        refine lv_iload hx hb dL_registers_18 (lv_at hl 0 rfl) ?_
        refine lv_bipush (v := 99) hx hb dL_registers_20 (by decide) ?_
        refine zSi zm_L_30 hF hB (c_L_up l D ka kb r169 99 (by decide) (by decide)) [] rfl (by decide) [] (fun _ => rfl) rfl rfl ⟨Nat.le_of_ble_eq_true rfl, Nat.le_of_ble_eq_true rfl⟩ rfl hl.1 (Nat.le_of_ble_eq_true rfl) ⟨Nat.le_refl _, Nat.le_refl _⟩ dL_registers_22 ?_
        clear hB
        try clear locs
        try clear H
        intro r170 u170 H locs hp hB
        obtain ⟨u9170, rfl⟩ : ∃ z, z = u170 := ⟨_, rfl⟩
        have hp170 : ∃ k9, k9 < 99 ∧ r170 = nI k9 := hp
        have HPP := hp170
        have up22 := HPP
        replace hB : zB D A s ([] ++ OW ka bd na (L, mo, an, pl, ho, le, sz9, re9, kp, st, N9, j)) H locs := hB
        refine lv_bipush (v := 49) hx hb dL_registers_25 (by decide) ?_
        refine lv_isub hx hb dL_registers_27 ?_
        refine lv_iload hx hb dL_registers_28 (lv_at hl 0 rfl) ?_
        refine lv_bipush (v := 7) hx hb dL_registers_30 (by decide) ?_
        refine lv_ishr hx hb dL_registers_32 ?_
        refine lv_bipush (v := 99) hx hb dL_registers_33 (by decide) ?_
        refine zSi zm_L_30 hF hB (c_L_up l D ka kb (r169 >>> ((7 : Int32) &&& 31)) 99 (by decide) (by decide)) [] rfl (by decide) [] (fun _ => rfl) rfl rfl ⟨Nat.le_of_ble_eq_true rfl, Nat.le_of_ble_eq_true rfl⟩ rfl hl.1 (Nat.le_of_ble_eq_true rfl) ⟨Nat.le_refl _, Nat.le_refl _⟩ dL_registers_35 ?_
        clear hB
        try clear locs
        try clear H
        intro r171 u171 H locs hp hB
        obtain ⟨u9171, rfl⟩ : ∃ z, z = u171 := ⟨_, rfl⟩
        have hp171 : ∃ k9, k9 < 99 ∧ r171 = nI k9 := hp
        have HPP := hp171
        have up35 := HPP
        replace hB : zB D A s ([] ++ OW ka bd na (L, mo, an, pl, ho, le, sz9, re9, kp, st, N9, j)) H locs := hB
        refine lv_bipush (v := 49) hx hb dL_registers_38 (by decide) ?_
        refine lv_isub hx hb dL_registers_40 ?_
        refine lv_iload hx hb dL_registers_41 (lv_at hl 0 rfl) ?_
        refine lv_bipush (v := 14) hx hb dL_registers_43 (by decide) ?_
        refine lv_ishr hx hb dL_registers_45 ?_
        refine lv_bipush (v := 19) hx hb dL_registers_46 (by decide) ?_
        refine zSi zm_L_30 hF hB (c_L_up l D ka kb (r169 >>> ((14 : Int32) &&& 31)) 19 (by decide) (by decide)) [] rfl (by decide) [] (fun _ => rfl) rfl rfl ⟨Nat.le_of_ble_eq_true rfl, Nat.le_of_ble_eq_true rfl⟩ rfl hl.1 (Nat.le_of_ble_eq_true rfl) ⟨Nat.le_refl _, Nat.le_refl _⟩ dL_registers_48 ?_
        clear hB
        try clear locs
        try clear H
        intro r172 u172 H locs hp hB
        obtain ⟨u9172, rfl⟩ : ∃ z, z = u172 := ⟨_, rfl⟩
        have hp172 : ∃ k9, k9 < 19 ∧ r172 = nI k9 := hp
        have HPP := hp172
        have up48 := HPP
        replace hB : zB D A s ([] ++ OW ka bd na (L, mo, an, pl, ho, le, sz9, re9, kp, st, N9, j)) H locs := hB
        refine lv_bipush (v := 9) hx hb dL_registers_51 (by decide) ?_
        refine lv_isub hx hb dL_registers_53 ?_
        refine lv_iload hx hb dL_registers_54 (lv_at hl 0 rfl) ?_
        refine lv_bipush (v := 19) hx hb dL_registers_56 (by decide) ?_
        refine lv_ishr hx hb dL_registers_58 ?_
        refine lv_bipush (v := 19) hx hb dL_registers_59 (by decide) ?_
        refine zSi zm_L_30 hF hB (c_L_up l D ka kb (r169 >>> ((19 : Int32) &&& 31)) 19 (by decide) (by decide)) [] rfl (by decide) [] (fun _ => rfl) rfl rfl ⟨Nat.le_of_ble_eq_true rfl, Nat.le_of_ble_eq_true rfl⟩ rfl hl.1 (Nat.le_of_ble_eq_true rfl) ⟨Nat.le_refl _, Nat.le_refl _⟩ dL_registers_61 ?_
        clear hB
        try clear locs
        try clear H
        intro r173 u173 H locs hp hB
        obtain ⟨u9173, rfl⟩ : ∃ z, z = u173 := ⟨_, rfl⟩
        have hp173 : ∃ k9, k9 < 19 ∧ r173 = nI k9 := hp
        have HPP := hp173
        have up61 := HPP
        replace hB : zB D A s ([] ++ OW ka bd na (L, mo, an, pl, ho, le, sz9, re9, kp, st, N9, j)) H locs := hB
        refine lv_bipush (v := 9) hx hb dL_registers_64 (by decide) ?_
        refine lv_isub hx hb dL_registers_66 ?_
        refine lv_iconst (v := 1) hx hb dL_registers_67 (by decide) ?_
        refine lv_iload hx hb dL_registers_68 (lv_at hl 0 rfl) ?_
        refine lv_bipush (v := 24) hx hb dL_registers_70 (by decide) ?_
        refine lv_ishr hx hb dL_registers_72 ?_
        refine lv_bipush (v := 30) hx hb dL_registers_73 (by decide) ?_
        refine zSi zm_L_30 hF hB (c_L_up l D ka kb (r169 >>> ((24 : Int32) &&& 31)) 30 (by decide) (by decide)) [] rfl (by decide) [] (fun _ => rfl) rfl rfl ⟨Nat.le_of_ble_eq_true rfl, Nat.le_of_ble_eq_true rfl⟩ rfl hl.1 (Nat.le_of_ble_eq_true rfl) ⟨Nat.le_refl _, Nat.le_refl _⟩ dL_registers_75 ?_
        clear hB
        try clear locs
        try clear H
        intro r174 u174 H locs hp hB
        obtain ⟨u9174, rfl⟩ : ∃ z, z = u174 := ⟨_, rfl⟩
        have hp174 : ∃ k9, k9 < 30 ∧ r174 = nI k9 := hp
        have HPP := hp174
        have up75 := HPP
        replace hB : zB D A s ([] ++ OW ka bd na (L, mo, an, pl, ho, le, sz9, re9, kp, st, N9, j)) H locs := hB
        refine lv_iadd hx hb dL_registers_78 ?_
        have q22 : (r170 - (49 : Int32)).toInt = r170.toInt - 49 := i_ups up22 (by decide) (by decide)
        have w22 := i_up up22 (by decide)
        have q35 : (r171 - (49 : Int32)).toInt = r171.toInt - 49 := i_ups up35 (by decide) (by decide)
        have w35 := i_up up35 (by decide)
        have q48 : (r172 - (9 : Int32)).toInt = r172.toInt - 9 := i_ups up48 (by decide) (by decide)
        have w48 := i_up up48 (by decide)
        have q61 : (r173 - (9 : Int32)).toInt = r173.toInt - 9 := i_ups up61 (by decide) (by decide)
        have w61 := i_up up61 (by decide)
        have q75 : ((1 : Int32) + r174).toInt = 1 + r174.toInt := i_upa up75 (by decide)
        have w75 := i_up up75 (by decide)
        have hrv : rgX (lowN (r170 - (49 : Int32)).toInt64 (r171 - (49 : Int32)).toInt64 (r172 - (9 : Int32)).toInt64 (r173 - (9 : Int32)).toInt64 ((1 : Int32) + r174).toInt64) := rg_put (by omega) (by omega) (by omega) (by omega) (by omega)
        refine zWi zm_L_65 hF hB (w_put l D ka kb bd na L mo an pl ho le sz9 re9 kp st N9 j k9 (r170 - (49 : Int32)) (r171 - (49 : Int32)) (r172 - (9 : Int32)) (r173 - (9 : Int32)) ((1 : Int32) + r174) (by omega) ((i32_le_i _ _).mpr (by rw [show (1 : Int32).toInt = 1 from rfl]; omega))) rfl ⟨Nat.le_of_ble_eq_true rfl, Nat.le_of_ble_eq_true rfl⟩ rfl hl.1 (Nat.le_of_ble_eq_true rfl) ⟨Nat.le_refl _, Nat.le_refl _⟩ dL_registers_79 ?_
        clear hB
        try clear locs
        try clear H
        intro r175 u175 H locs hp hB
        obtain rfl : r175 = (1 : Int32) := hp
        replace hB : zB D A s ([] ++ OW ka bd na (L, mo, an, pl, ho, le, sz9, re9, kp, st, upN N9 k9 (lowN (r170 - (49 : Int32)).toInt64 (r171 - (49 : Int32)).toInt64 (r172 - (9 : Int32)).toInt64 (r173 - (9 : Int32)).toInt64 ((1 : Int32) + r174).toInt64), j)) H locs := hB
        refine lv_iconst (v := 1) hx hb dL_registers_82 (by decide) ?_
        refine lv_icmp_eq (tgt := 88) hx hb dL_registers_83 (by decide) (fun h83 => ?_) (fun h83 => ?_)
        · skip
          refine lv_iinc (v := nI (k9 + 1)) (lv' := [(3, .int (nI (k9 + 1))), (4, .int r169), (2, .int (nI at9)), (1, .ref (kb 1)), (0, .ref (bd 31))]) hx hb dL_registers_88 hl (k := 1) rfl (nI_1 _) (by decide) rfl ?_
          clear hl
          clear ls
          intro ls hl
          refine lv_goto (tgt := 2) hx hb dL_registers_91 (by decide) ?_
          exact ih2 (k9 + 1) (upN N9 k9 (lowN (r170 - (49 : Int32)).toInt64 (r171 - (49 : Int32)).toInt64 (r172 - (9 : Int32)).toInt64 (r173 - (9 : Int32)).toInt64 ((1 : Int32) + r174).toInt64)) (by omega) (rg_step hrg hrv) (d_step hd9 hrv.d) (fun i hi => (upN_ne (by omega)).trans (he9 i hi)) (by omega) _ _ (hB) _ (lv_sub hl [0, 2, 3, 4] rfl)
        · skip
          exact absurd (by decide) h83
  exact lp2 (2 - 0 + 1) 0 N (by decide) (fun i h => absurd h (Nat.not_lt_zero i)) (hd6) (fun _ _ => rfl) (by omega) _ _ (hB) _ (lv_sub hl [0, 3, 2, 1] rfl)
