theorem tr0_d {L : Nat} {mo an pl ho ga lg : Nat → Int32} {N N2 : Nat → N5} {m a : Int32} (hok : okL L mo an pl) (hoh : okH ho) (hs : sU ga lg) (hd : ∀ i, i < 6 → 0 < (N (8 + i)).2.2.2.2.toInt)
    (h1 : ∀ k9, k9 ≠ 21 → k9 ≠ 22 → k9 ≠ 8 + (2 * 0 + 0) → k9 ≠ 8 + (2 * 0 + 1) → (k9 = 14 + 0 → 0 = 0) → N2 k9 = N k9) (h2 : ∀ b, b < 2 → N2 (8 + (2 * 0 + b)) = rdT (nI 0) m a L mo an pl ho ga lg b) : ∀ i, i < 6 → 0 < (N2 (8 + i)).2.2.2.2.toInt := fun i hi => by
  by_cases e : i < 2
  · have h3 := h2 i e
    rw [show 8 + (2 * 0 + i) = 8 + i by omega] at h3
    rw [h3]
    exact (rd_0 hok hoh hs e).1.1
  · rw [h1 (8 + i) (by omega) (by omega) (by omega) (by omega) (fun _ => rfl)]
    exact hd i hi
theorem tr0_t {L : Nat} {mo an pl ho ga lg : Nat → Int32} {N : Nat → N5} {m a : Int32} (h2 : ∀ b, b < 2 → N (8 + (2 * 0 + b)) = rdT (nI 0) m a L mo an pl ho ga lg b) : trK9 L mo an pl ho ga lg N (fun _ => 0) (fun _ => 0) 1 :=
  ⟨fun b hb => ⟨m, a, by have h3 := h2 b hb; rw [show 8 + (2 * 0 + b) = 8 + b by omega] at h3; exact h3⟩, fun i h1 h2 => absurd h2 (by omega)⟩
theorem tr1_c {L : Nat} {mo an pl ho ga lg : Nat → Int32} {N N2 : Nat → N5} (h : trK9 L mo an pl ho ga lg N (fun _ => 0) (fun _ => 0) 1) (e : ∀ i, 8 ≤ i → i < 10 → N2 i = N i) : trK9 L mo an pl ho ga lg N2 (fun _ => 0) (fun _ => 0) 1 :=
  ⟨fun b hb => by obtain ⟨m, a, q⟩ := h.1 b hb; exact ⟨m, a, (e _ (by omega) (by omega)).trans q⟩, fun i h1 h2 => absurd h2 (by omega)⟩
theorem pmK {L : Nat} {mo an pl ho ga lg : Nat → Int32} {N : Nat → N5} {pm pa : Nat → Int32} (h : trN L mo an pl ho ga lg N pm pa) {k : Nat} (h1 : 1 ≤ k) (h3 : k < 3) : (1 ≤ (pm k).toInt ∧ (pm k).toInt ≤ 99) ∧ aN (pa k) < 12 := by
  have h2 := h.1.2.2 (k - 1) (by omega)
  rw [show k - 1 + 1 = k by omega] at h2
  exact h2

set_option maxHeartbeats 4000000 in
set_option maxRecDepth 100000 in
theorem c_L_trials (l : Launch) (D : va_G) (ka : Nat → ClassId) (kb : Nat → Nat) (bd na : Nat → Nat) (L : Nat) (mo : Nat → Int32) (an : Nat → Int32) (pl : Nat → Int32) (ho : Nat → Int32) (le : Nat → Int32) (sz9 : Int32) (re9 : Int32) (kp : Nat → Bool) (st : Nat → Int32) (N : Nat → N5) (j : JT) (at9 : Nat) (hL : kb 2 ≤ 260) (hat : at9 ≤ 900) (hok : okL L mo an pl) (hoh : okH ho) (hre : 0 ≤ re9.toInt ∧ re9.toInt ≤ 99) (hB9 : bB (jbb j)) (hD8 : ∀ i, i < 6 → 0 < (N (8 + i)).2.2.2.2.toInt) (hS0 : ∀ i, i < 8 → 0 ≤ (st i).toInt) :
    zN l D ka kb yL_trials cL_trials 8 .boolean 9 270 2 8 [.ref (bd 31), .ref (kb 1), .int (nI at9)] (OW ka bd na (L, mo, an, pl, ho, le, sz9, re9, kp, st, N, j)) (fun (r : Int32) (u : (Nat → Bool) × (Nat → Int32) × (Nat → N5) × JT) => r = 1 ∧ bB (jbb u.2.2.2) ∧ (∀ i, i < 8 → 0 ≤ (u.2.1 i).toInt) ∧ (∀ i, i < 6 → 0 < (u.2.2.1 (8 + i)).2.2.2.2.toInt)) (fun (u : (Nat → Bool) × (Nat → Int32) × (Nat → N5) × JT) => OW ka bd na (L, mo, an, pl, ho, le, sz9, re9, u.1, u.2.1, u.2.2.1, u.2.2.2)) := by
  refine zN.mk RL (by decide +kernel) rfl (Nat.le_of_ble_eq_true rfl) ?_
  intro p e s m below meth c A ls args Q hQ hx hb hF hB hl
  replace hl : lv_has ls 8 [(0, .ref (bd 31)), (1, .ref (kb 1)), (2, .int (nI at9))] := hl
  replace hB : zB D A s ([] ++ OW ka bd na (L, mo, an, pl, ho, le, sz9, re9, kp, st, N, j)) s.heap [] := hB
  refine lv_iconst (v := 4) hx hb dL_trials_0 (by decide) ?_
  refine znewi 4 hF hB (by decide) rfl (by decide) (Nat.le_of_ble_eq_true rfl) (Nat.le_of_ble_eq_true rfl) dL_trials_1 ?_
  clear hB
  try clear locs
  try clear H
  intro q101 H locs hB
  replace hB : zB D A s ([(q101, .inl (ka 0, 4, .inl (fun _ => 0)))] ++ OW ka bd na (L, mo, an, pl, ho, le, sz9, re9, kp, st, N, j)) H locs := ⟨va_P.swap hB.1, va_D.swap hB.2.1, hB.2.2⟩
  refine lv_astore_n (lv' := [(3, .ref q101), (0, .ref (bd 31)), (1, .ref (kb 1)), (2, .int (nI at9))]) hx hb dL_trials_3 rfl hl (by decide) rfl ?_
  clear hl
  clear ls
  intro ls hl
  refine lv_iconst (v := 4) hx hb dL_trials_4 (by decide) ?_
  refine znewi 4 hF hB (by decide) rfl (by decide) (Nat.le_of_ble_eq_true rfl) (Nat.le_of_ble_eq_true rfl) dL_trials_5 ?_
  clear hB
  try clear locs
  try clear H
  intro q102 H locs hB
  replace hB : zB D A s ([(q101, .inl (ka 0, 4, .inl (fun _ => 0))), (q102, .inl (ka 0, 4, .inl (fun _ => 0)))] ++ OW ka bd na (L, mo, an, pl, ho, le, sz9, re9, kp, st, N, j)) H locs := ⟨va_P.swap hB.1, va_D.swap hB.2.1, hB.2.2⟩
  refine lv_astore (lv' := [(4, .ref q102), (3, .ref q101), (0, .ref (bd 31)), (1, .ref (kb 1)), (2, .int (nI at9))]) hx hb dL_trials_7 hl (by decide) rfl ?_
  clear hl
  clear ls
  intro ls hl
  refine lv_iconst (v := 0) hx hb dL_trials_9 (by decide) ?_
  refine lv_istore (lv' := [(5, .int (0 : Int32)), (4, .ref q102), (3, .ref q101), (0, .ref (bd 31)), (1, .ref (kb 1)), (2, .int (nI at9))]) hx hb dL_trials_10 hl (by decide) rfl ?_
  clear hl
  clear ls
  intro ls hl
  have lp12 : ∀ (fl : Nat) (k9 : Nat) (G9 : Nat → Int32) (L9 : Nat → Int32) (kp9 : Nat → Bool) (st9 : Nat → Int32) (N9 : Nat → N5) (j9 : JT), (hk9 : k9 ≤ 4) → (hst9 : stK G9 L9 st9 k9) → (hkp9 : 1 ≤ k9 → ∀ i, i < 3 → kp9 i = false) → (hb9 : bB (jbb j9)) → (hNp : ∀ i, i ≠ 34 → N9 i = N i) → 4 - k9 < fl → ∀ (H : Heap) (locs : List Loc), zB D A s ([(q101, .inl (ka 0, 4, .inl G9)), (q102, .inl (ka 0, 4, .inl L9))] ++ OW ka bd na (L, mo, an, pl, ho, le, sz9, re9, kp9, st9, N9, j9)) H locs → ∀ ls : Array Slot, lv_has ls 8 [(5, .int (nI k9)), (4, .ref q102), (3, .ref q101), (2, .int (nI at9)), (1, .ref (kb 1)), (0, .ref (bd 31))] → W p l e (zRm 9 270 2 8) s m args below meth c H locs 2 8 Q (F0 m 12 ls []) := by
    intro fl
    induction fl with
    | zero => intro k9 G9 L9 kp9 st9 N9 j9 hk9 hst9 hkp9 hb9 hNp hfl; exact absurd hfl (Nat.not_lt_zero _)
    | succ fl ih12 =>
      intro k9 G9 L9 kp9 st9 N9 j9 hk9 hst9 hkp9 hb9 hNp hfl12 H locs hB ls hl
      refine lv_iload hx hb dL_trials_12 (lv_at hl 0 rfl) ?_
      refine lv_iconst (v := 4) hx hb dL_trials_14 (by decide) ?_
      refine lv_icmp_ge (tgt := 124) hx hb dL_trials_15 (by decide) (fun h15 => ?_) (fun h15 => ?_)
      · skip
        have hk4 : k9 = 4 := by have := (nI_leI (a := 4) (b := k9) (by decide) (by omega)).mp h15; omega
        subst hk4
        have hkp := hkp9 (by decide)
        have hs := stK_U hst9
        refine lv_aload_n hx hb dL_trials_124 rfl (lv_at hl 5 rfl) ?_
        refine lv_iconst (v := 0) hx hb dL_trials_125 (by decide) ?_
        refine lv_iconst (v := 0) hx hb dL_trials_126 (by decide) ?_
        refine zWi zm_L_42 hF hB (w_found l D ka kb bd na L mo an pl ho le sz9 re9 kp9 st9 N9 j9 (fun _ => 0) (fun _ => 0) 0 0 (fun i hi => by rw [hNp _ (by omega)]; exact hD8 i hi) (fun k h1 h3 e => absurd (e.symm.trans (hkp k h3)) (by decide)) (fun k h1 h3 e => absurd (e.symm.trans (hkp k h3)) (by decide)) (by decide) (by decide) (hb9)) rfl ⟨Nat.le_of_ble_eq_true rfl, Nat.le_of_ble_eq_true rfl⟩ rfl hl.1 (Nat.le_of_ble_eq_true rfl) ⟨Nat.le_of_ble_eq_true rfl, Nat.le_of_ble_eq_true rfl⟩ dL_trials_127 ?_
        clear hB
        try clear locs
        try clear H
        intro r103 u103 H locs hp hB
        obtain ⟨N_103, j_103⟩ := u103
        have hp103 : r103 = (if ktS kp9 3 < 3 then -3 else ubR 0 (gC N9) (fun _ => 0) (fun _ => 0)) ∧ (∀ k9, k9 < 17 → k9 ≠ 6 → N_103 k9 = if r103 = 1 ∧ k9 = 0 then quoV (fnV (nI 0) (gC N9) (fun _ => 0) (fun _ => 0)) (foD (gC N9) (fun _ => 0) (fun _ => 0)) else N9 k9) ∧ bB (jbb j_103) := hp
        have hr103 := hp103.1
        have hN103 := hp103.2.1
        have hb103 := hp103.2.2
        have hz127 : r103 = -3 := hr103.trans (if_pos (by rw [ktS_0 hkp]; decide))
        have n127 : ∀ i, i < 6 → 0 < (N_103 (8 + i)).2.2.2.2.toInt := fun i hi => by
          rw [hN103 (8 + i) (by omega) (by omega), if_neg (fun e => by rw [hz127] at e; exact absurd e.1 (by decide)), hNp _ (by omega)]
          exact hD8 i hi
        replace hB : zB D A s ([(q101, .inl (ka 0, 4, .inl G9)), (q102, .inl (ka 0, 4, .inl L9))] ++ OW ka bd na (L, mo, an, pl, ho, le, sz9, re9, kp9, st9, N_103, j_103)) H locs := hB
        refine lv_bipush (v := -3) hx hb dL_trials_130 (by decide) ?_
        refine lv_icmp_ne (tgt := 158) hx hb dL_trials_132 (by decide) (fun h132 => ?_) (fun h132 => ?_)
        · skip
          exact absurd hz127 h132
        · skip
          refine lv_aload_n hx hb dL_trials_135 rfl (lv_at hl 5 rfl) ?_
          refine lv_iconst (v := 0) hx hb dL_trials_136 (by decide) ?_
          refine lv_iconst (v := 0) hx hb dL_trials_137 (by decide) ?_
          refine lv_iconst (v := 0) hx hb dL_trials_138 (by decide) ?_
          refine zWi zm_L_45 hF hB (w_trial l D ka kb bd na L mo an pl ho le sz9 re9 kp9 st9 N_103 j_103 G9 L9 0 (0 : Int32) 0 (by first | assumption | omega | decide) (by first | assumption | omega | decide) (fun i hi => (hst9.1 i hi).2.2) (fun i hi => (hst9.1 i hi).1) (fun i hi => (hst9.1 i hi).2.1) (by decide) (by decide) (Or.inl rfl) (hb103)) rfl ⟨Nat.le_of_ble_eq_true rfl, Nat.le_of_ble_eq_true rfl⟩ rfl hl.1 (Nat.le_of_ble_eq_true rfl) ⟨Nat.le_of_ble_eq_true rfl, Nat.le_of_ble_eq_true rfl⟩ dL_trials_139 ?_
          clear hB
          try clear locs
          try clear H
          intro r104 u104 H locs hp hB
          obtain ⟨N_104, j_104⟩ := u104
          have hp104 : r104 = ktS (ktB kp9 0) 3 ∧ (∀ k9, k9 ≠ 21 → k9 ≠ 22 → k9 ≠ 8 + (2 * 0 + 0) → k9 ≠ 8 + (2 * 0 + 1) → (k9 = 14 + 0 → 0 = 0) → N_104 k9 = N_103 k9) ∧ (∀ b, b < 2 → N_104 (8 + (2 * 0 + b)) = rdT (nI 0) (0 : Int32) (nI 0) L mo an pl ho G9 L9 b) ∧ (0 ≠ 0 → N_104 (14 + 0) = wyN (0 : Int32).toInt 0) ∧ bB (jbb j_104) := hp
          have hr104 := hp104.1
          have hN104 := hp104.2.1
          have hR104 := hp104.2.2.1
          have hw104 := hp104.2.2.2.1
          have hb104 := hp104.2.2.2.2
          have q139 := ktB_k (kp := kp9) (k := 0) (by decide) (fun i hi => (hkp i hi).trans (decide_eq_false (Nat.not_lt_zero i)).symm)
          have hz139 : r104 = 1 := hr104.trans q139.1
          have t139 := tr0_t hR104
          have n139 := tr0_d hok hoh hs n127 hN104 hR104
          replace hB : zB D A s ([(q101, .inl (ka 0, 4, .inl G9)), (q102, .inl (ka 0, 4, .inl L9))] ++ OW ka bd na (L, mo, an, pl, ho, le, sz9, re9, ktB kp9 0, st9, N_104, j_104)) H locs := hB
          refine lv_iconst (v := 1) hx hb dL_trials_142 (by decide) ?_
          refine lv_icmp_ne (tgt := 158) hx hb dL_trials_143 (by decide) (fun h143 => ?_) (fun h143 => ?_)
          · skip
            exact absurd hz139 h143
          · skip
            refine lv_aload_n hx hb dL_trials_146 rfl (lv_at hl 5 rfl) ?_
            refine lv_iconst (v := 0) hx hb dL_trials_147 (by decide) ?_
            refine lv_iconst (v := 0) hx hb dL_trials_148 (by decide) ?_
            refine lv_iconst (v := 0) hx hb dL_trials_149 (by decide) ?_
            refine zWi zm_L_49 hF hB (w_effect l D ka kb bd na L mo an pl ho le sz9 re9 (ktB kp9 0) st9 N_104 j_104 (fun _ => 0) (fun _ => 0) 0 0 0 (n139) (fun k h1 h3 e => absurd (e.symm.trans ((q139.2 k h3).trans (decide_eq_false (by omega)))) (by decide)) (fun k h1 h3 e => absurd (e.symm.trans ((q139.2 k h3).trans (decide_eq_false (by omega)))) (by decide)) (by decide) (by decide) (by decide) (hb104)) rfl ⟨Nat.le_of_ble_eq_true rfl, Nat.le_of_ble_eq_true rfl⟩ rfl hl.1 (Nat.le_of_ble_eq_true rfl) ⟨Nat.le_of_ble_eq_true rfl, Nat.le_of_ble_eq_true rfl⟩ dL_trials_150 ?_
            clear hB
            try clear locs
            try clear H
            intro r105 u105 H locs hp hB
            obtain ⟨N_105, j_105⟩ := u105
            have hp105 : r105 = (if ¬ ((ktB kp9 0) 0 = true ∧ (ktB kp9 0) (0 + 1) = true) then -3 else if efO (gC N_104) (fun _ => 0) (fun _ => 0) 0 0 = true then -5 else 1) ∧ (∀ k9, k9 < 17 → k9 ≠ 6 → N_105 k9 = if r105 = 1 ∧ k9 = 0 then efV (gC N_104) (fun _ => 0) (fun _ => 0) 0 0 else N_104 k9) ∧ bB (jbb j_105) := hp
            have hr105 := hp105.1
            have hN105 := hp105.2.1
            have hb105 := hp105.2.2
            have hz150 : r105 = -3 := hr105.trans (if_pos (fun e => absurd (e.2.symm.trans ((q139.2 1 (by decide)).trans (decide_eq_false (by omega)))) (by decide)))
            have t150 := tr1_c t139 (fun i h1 h2 => (hN105 i (by omega) (by omega)).trans (if_neg (fun e => by rw [hz150] at e; exact absurd e.1 (by decide))))
            replace hB : zB D A s ([(q101, .inl (ka 0, 4, .inl G9)), (q102, .inl (ka 0, 4, .inl L9))] ++ OW ka bd na (L, mo, an, pl, ho, le, sz9, re9, (ktB kp9 0), st9, N_105, j_105)) H locs := hB
            refine lv_bipush (v := -3) hx hb dL_trials_153 (by decide) ?_
            refine lv_icmp_eq (tgt := 160) hx hb dL_trials_155 (by decide) (fun h155 => ?_) (fun h155 => ?_)
            · skip
              refine lv_iconst (v := 1) hx hb dL_trials_160 (by decide) ?_
              refine lv_istore (lv' := [(5, .int (1 : Int32)), (4, .ref q102), (3, .ref q101), (2, .int (nI at9)), (1, .ref (kb 1)), (0, .ref (bd 31))]) hx hb dL_trials_161 hl (by decide) rfl ?_
              clear hl
              clear ls
              intro ls hl
              have lp163 : ∀ (fl : Nat) (k8 : Nat) (kp8 : Nat → Bool) (N8 : Nat → N5) (j8 : JT) (pm8 : Nat → Int32) (pa8 : Nat → Int32), (hk8 : 1 ≤ k8 ∧ k8 ≤ 3) → (hkp8 : ∀ i, i < 3 → kp8 i = decide (i < k8)) → (ht8 : trK9 L mo an pl ho G9 L9 N8 pm8 pa8 k8) → (hb8 : bB (jbb j8)) → 3 - k8 < fl → ∀ (H : Heap) (locs : List Loc), zB D A s ([(q101, .inl (ka 0, 4, .inl G9)), (q102, .inl (ka 0, 4, .inl L9))] ++ OW ka bd na (L, mo, an, pl, ho, le, sz9, re9, kp8, st9, N8, j8)) H locs → ∀ ls : Array Slot, lv_has ls 8 [(5, .int (nI k8)), (4, .ref q102), (3, .ref q101), (2, .int (nI at9)), (1, .ref (kb 1)), (0, .ref (bd 31))] → W p l e (zRm 9 270 2 8) s m args below meth c H locs 2 8 Q (F0 m 163 ls []) := by
                intro fl
                induction fl with
                | zero => intro k8 kp8 N8 j8 pm8 pa8 hk8 hkp8 ht8 hb8 hfl; exact absurd hfl (Nat.not_lt_zero _)
                | succ fl ih163 =>
                  intro k8 kp8 N8 j8 pm8 pa8 hk8 hkp8 ht8 hb8 hfl163 H locs hB ls hl
                  refine lv_iload hx hb dL_trials_163 (lv_at hl 0 rfl) ?_
                  refine lv_iconst (v := 3) hx hb dL_trials_165 (by decide) ?_
                  refine lv_icmp_ge (tgt := 221) hx hb dL_trials_166 (by decide) (fun h166 => ?_) (fun h166 => ?_)
                  · skip
                    have hk3 : k8 = 3 := by have := (nI_leI (a := 3) (b := k8) (by decide) (by omega)).mp h166; omega
                    subst hk3
                    have htr := trK9_N hok hoh hs ht8
                    have hkt : ∀ i, i < 3 → kp8 i = true := fun i hi => (hkp8 i hi).trans (decide_eq_true hi)
                    refine lv_iconst (v := 0) hx hb dL_trials_221 (by decide) ?_
                    refine lv_istore (lv' := [(5, .int (0 : Int32)), (4, .ref q102), (3, .ref q101), (2, .int (nI at9)), (1, .ref (kb 1)), (0, .ref (bd 31))]) hx hb dL_trials_222 hl (by decide) rfl ?_
                    clear hl
                    clear ls
                    intro ls hl
                    have lp224 : ∀ (fl : Nat) (k7 : Nat) (N7 : Nat → N5) (j7 : JT), (hk7 : k7 ≤ 4) → (hN7 : ∀ i, 8 ≤ i → i < 17 → N7 i = N8 i) → (hb7 : bB (jbb j7)) → 4 - k7 < fl → ∀ (H : Heap) (locs : List Loc), zB D A s ([(q101, .inl (ka 0, 4, .inl G9)), (q102, .inl (ka 0, 4, .inl L9))] ++ OW ka bd na (L, mo, an, pl, ho, le, sz9, re9, kp8, st9, N7, j7)) H locs → ∀ ls : Array Slot, lv_has ls 8 [(5, .int (nI k7)), (4, .ref q102), (3, .ref q101), (2, .int (nI at9)), (1, .ref (kb 1)), (0, .ref (bd 31))] → W p l e (zRm 9 270 2 8) s m args below meth c H locs 2 8 Q (F0 m 224 ls []) := by
                      intro fl
                      induction fl with
                      | zero => intro k7 N7 j7 hk7 hN7 hb7 hfl; exact absurd hfl (Nat.not_lt_zero _)
                      | succ fl ih224 =>
                        intro k7 N7 j7 hk7 hN7 hb7 hfl224 H locs hB ls hl
                        refine lv_iload hx hb dL_trials_224 (lv_at hl 0 rfl) ?_
                        refine lv_iconst (v := 4) hx hb dL_trials_226 (by decide) ?_
                        refine lv_icmp_ge (tgt := 326) hx hb dL_trials_227 (by decide) (fun h227 => ?_) (fun h227 => ?_)
                        · skip
                          have hk7 : k7 = 4 := by have := (nI_leI (a := 4) (b := k7) (by decide) (by omega)).mp h227; omega
                          subst hk7
                          have h7 := trN_cg htr hN7
                          refine lv_aload_n hx hb dL_trials_326 rfl (lv_at hl 2 rfl) ?_
                          refine lv_iconst (v := 0) hx hb dL_trials_327 (by decide) ?_
                          refine ziald hF hB 0 rfl 0 (by decide) (by decide) (by decide) (v := (G9 0)) (rfl) dL_trials_328 ?_
                          refine lv_aload_n hx hb dL_trials_329 rfl (lv_at hl 2 rfl) ?_
                          refine lv_iconst (v := 3) hx hb dL_trials_330 (by decide) ?_
                          refine ziald hF hB 0 rfl 3 (by decide) (by decide) (by decide) (v := (G9 3)) (rfl) dL_trials_331 ?_
                          refine lv_imul hx hb dL_trials_332 ?_
                          refine lv_istore (lv' := [(5, .int ((G9 0) * (G9 3))), (4, .ref q102), (3, .ref q101), (2, .int (nI at9)), (1, .ref (kb 1)), (0, .ref (bd 31))]) hx hb dL_trials_333 hl (by decide) rfl ?_
                          clear hl
                          clear ls
                          intro ls hl
                          refine lv_aload_n hx hb dL_trials_335 rfl (lv_at hl 2 rfl) ?_
                          refine lv_iconst (v := 1) hx hb dL_trials_336 (by decide) ?_
                          refine ziald hF hB 0 rfl 1 (by decide) (by decide) (by decide) (v := (G9 1)) (rfl) dL_trials_337 ?_
                          refine lv_aload_n hx hb dL_trials_338 rfl (lv_at hl 2 rfl) ?_
                          refine lv_iconst (v := 2) hx hb dL_trials_339 (by decide) ?_
                          refine ziald hF hB 0 rfl 2 (by decide) (by decide) (by decide) (v := (G9 2)) (rfl) dL_trials_340 ?_
                          refine lv_imul hx hb dL_trials_341 ?_
                          refine lv_istore (lv' := [(6, .int ((G9 1) * (G9 2))), (5, .int ((G9 0) * (G9 3))), (4, .ref q102), (3, .ref q101), (2, .int (nI at9)), (1, .ref (kb 1)), (0, .ref (bd 31))]) hx hb dL_trials_342 hl (by decide) rfl ?_
                          clear hl
                          clear ls
                          intro ls hl
                          refine lv_iload hx hb dL_trials_344 (lv_at hl 1 rfl) ?_
                          refine lv_iload hx hb dL_trials_346 (lv_at hl 0 rfl) ?_
                          refine lv_icmp_ne (tgt := 385) hx hb dL_trials_348 (by decide) (fun h348 => ?_) (fun h348 => ?_)
                          · skip
                            refine lv_iconst (v := 0) hx hb dL_trials_385 (by decide) ?_
                            refine lv_istore (lv' := [(7, .int (0 : Int32)), (6, .int ((G9 1) * (G9 2))), (5, .int ((G9 0) * (G9 3))), (4, .ref q102), (3, .ref q101), (2, .int (nI at9)), (1, .ref (kb 1)), (0, .ref (bd 31))]) hx hb dL_trials_386 hl (by decide) rfl ?_
                            clear hl
                            clear ls
                            intro ls hl
                            refine lv_iload hx hb dL_trials_388 (lv_at hl 0 rfl) ?_
                            refine lv_if_eq (tgt := 421) hx hb dL_trials_390 (by decide) (fun h390 => ?_) (fun h390 => ?_)
                            · skip
                              have hz4 := nn_f hst9 (Or.inl h348)
                              refine lv_aload_n hx hb dL_trials_421 rfl (lv_at hl 7 rfl) ?_
                              refine lv_iconst (v := 0) hx hb dL_trials_422 (by decide) ?_
                              refine lv_iconst (v := 0) hx hb dL_trials_423 (by decide) ?_
                              refine zWi zm_L_42 hF hB (w_found l D ka kb bd na L mo an pl ho le sz9 re9 kp8 st9 N7 j7 pm8 pa8 0 0 (h7.2.1) (fun k h1 h3 _ => h7.2.2 k h1 h3) (fun k h1 h3 _ => pmK h7 h1 h3) (by decide) (by decide) (hb7)) rfl ⟨Nat.le_of_ble_eq_true rfl, Nat.le_of_ble_eq_true rfl⟩ rfl hl.1 (Nat.le_of_ble_eq_true rfl) ⟨Nat.le_of_ble_eq_true rfl, Nat.le_of_ble_eq_true rfl⟩ dL_trials_424 ?_
                              clear hB
                              try clear locs
                              try clear H
                              intro r106 u106 H locs hp hB
                              obtain ⟨N_106, j_106⟩ := u106
                              have hp106 : r106 = (if ktS kp8 3 < 3 then -3 else ubR 0 (gC N7) pm8 pa8) ∧ (∀ k9, k9 < 17 → k9 ≠ 6 → N_106 k9 = if r106 = 1 ∧ k9 = 0 then quoV (fnV (nI 0) (gC N7) pm8 pa8) (foD (gC N7) pm8 pa8) else N7 k9) ∧ bB (jbb j_106) := hp
                              have hr106 := hp106.1
                              have hN106 := hp106.2.1
                              have hb106 := hp106.2.2
                              have f424 := trN_f hok hoh hs h7 hz4 (q := 0) (by decide)
                              have hz424 : r106 = 1 := hr106.trans ((if_neg (by rw [ktS_3 hkt]; decide)).trans f424.1)
                              have p424 : N_106 0 = plN (pulI 0 L mo an pl ho) := (hN106 0 (by decide) (by decide)).trans ((if_pos ⟨hz424, rfl⟩).trans f424.2)
                              have h424 := trN_cg h7 (N2 := N_106) (fun i h1 h2 => (hN106 i h2 (by omega)).trans (if_neg (fun e => by have := e.2; omega)))
                              replace hB : zB D A s ([(q101, .inl (ka 0, 4, .inl G9)), (q102, .inl (ka 0, 4, .inl L9))] ++ OW ka bd na (L, mo, an, pl, ho, le, sz9, re9, kp8, st9, N_106, j_106)) H locs := hB
                              refine lv_iconst (v := 1) hx hb dL_trials_427 (by decide) ?_
                              refine lv_icmp_ne (tgt := 472) hx hb dL_trials_428 (by decide) (fun h428 => ?_) (fun h428 => ?_)
                              · skip
                                exact absurd hz424 h428
                              · skip
                                refine lv_aload_n hx hb dL_trials_431 rfl (lv_at hl 7 rfl) ?_
                                refine lv_iconst (v := 1) hx hb dL_trials_432 (by decide) ?_
                                refine lv_iconst (v := 1) hx hb dL_trials_433 (by decide) ?_
                                refine zWi zm_L_42 hF hB (w_found l D ka kb bd na L mo an pl ho le sz9 re9 kp8 st9 N_106 j_106 pm8 pa8 1 1 (h424.2.1) (fun k h1 h3 _ => h424.2.2 k h1 h3) (fun k h1 h3 _ => pmK h424 h1 h3) (by decide) (by decide) (hb106)) rfl ⟨Nat.le_of_ble_eq_true rfl, Nat.le_of_ble_eq_true rfl⟩ rfl hl.1 (Nat.le_of_ble_eq_true rfl) ⟨Nat.le_of_ble_eq_true rfl, Nat.le_of_ble_eq_true rfl⟩ dL_trials_434 ?_
                                clear hB
                                try clear locs
                                try clear H
                                intro r107 u107 H locs hp hB
                                obtain ⟨N_107, j_107⟩ := u107
                                have hp107 : r107 = (if ktS kp8 3 < 3 then -3 else ubR 1 (gC N_106) pm8 pa8) ∧ (∀ k9, k9 < 17 → k9 ≠ 6 → N_107 k9 = if r107 = 1 ∧ k9 = 1 then quoV (fnV (nI 1) (gC N_106) pm8 pa8) (foD (gC N_106) pm8 pa8) else N_106 k9) ∧ bB (jbb j_107) := hp
                                have hr107 := hp107.1
                                have hN107 := hp107.2.1
                                have hb107 := hp107.2.2
                                have f434 := trN_f hok hoh hs h424 hz4 (q := 1) (by decide)
                                have hz434 : r107 = 1 := hr107.trans ((if_neg (by rw [ktS_3 hkt]; decide)).trans f434.1)
                                have p434 : N_107 1 = plN (pulI 1 L mo an pl ho) := (hN107 1 (by decide) (by decide)).trans ((if_pos ⟨hz434, rfl⟩).trans f434.2)
                                have p434_0 : N_107 0 = plN (pulI 0 L mo an pl ho) := (hN107 0 (by decide) (by decide)).trans ((if_neg (fun e => absurd e.2 (by decide))).trans p424)
                                have h434 := trN_cg h424 (N2 := N_107) (fun i h1 h2 => (hN107 i h2 (by omega)).trans (if_neg (fun e => by have := e.2; omega)))
                                replace hB : zB D A s ([(q101, .inl (ka 0, 4, .inl G9)), (q102, .inl (ka 0, 4, .inl L9))] ++ OW ka bd na (L, mo, an, pl, ho, le, sz9, re9, kp8, st9, N_107, j_107)) H locs := hB
                                refine lv_iconst (v := 1) hx hb dL_trials_437 (by decide) ?_
                                refine lv_icmp_ne (tgt := 472) hx hb dL_trials_438 (by decide) (fun h438 => ?_) (fun h438 => ?_)
                                · skip
                                  exact absurd hz434 h438
                                · skip
                                  refine lv_aload_n hx hb dL_trials_441 rfl (lv_at hl 7 rfl) ?_
                                  refine lv_iconst (v := 0) hx hb dL_trials_442 (by decide) ?_
                                  refine lv_iconst (v := 0) hx hb dL_trials_443 (by decide) ?_
                                  refine zWs9 zm_L_61 hF hB (c_L_like l D ka kb bd na L mo an pl ho le sz9 re9 kp8 st9 N_107 j_107 0 0 (by first | assumption | omega | decide) (by first | assumption | omega | decide) (by decide) (by decide) (hb107) (p434_0)) rfl ⟨Nat.le_of_ble_eq_true rfl, Nat.le_of_ble_eq_true rfl⟩ rfl hl.1 (Nat.le_of_ble_eq_true rfl) ⟨Nat.le_of_ble_eq_true rfl, Nat.le_of_ble_eq_true rfl⟩ dL_trials_444 ?_
                                  clear hB
                                  try clear locs
                                  try clear H
                                  intro r108 u108 H locs hp hB
                                  obtain ⟨N_108, j_108⟩ := u108
                                  have hp108 : r108 = 1 ∧ (∀ k9, k9 ≠ 6 → k9 ≠ 7 → N_108 k9 = N_107 k9) ∧ bB (jbb j_108) := hp
                                  have hr108 := hp108.1
                                  have hN108 := hp108.2.1
                                  have hb108 := hp108.2.2
                                  have n444 : ∀ i, i < 6 → 0 < (N_108 (8 + i)).2.2.2.2.toInt := fun i hi => by rw [hN108 (8 + i) (by omega) (by omega)]; exact h434.2.1 i hi
                                  have p444 : N_108 1 = plN (pulI 1 L mo an pl ho) := (hN108 1 (by decide) (by decide)).trans p434
                                  have hz444 := hr108
                                  replace hB : zB D A s ([(q101, .inl (ka 0, 4, .inl G9)), (q102, .inl (ka 0, 4, .inl L9))] ++ OW ka bd na (L, mo, an, pl, ho, le, sz9, re9, kp8, st9, N_108, j_108)) H locs := hB
                                  refine lv_if_eq (tgt := 472) hx hb dL_trials_447 (by decide) (fun h447 => ?_) (fun h447 => ?_)
                                  · skip
                                    exact absurd (hz444.symm.trans h447) (by decide)
                                  · skip
                                    refine lv_aload_n hx hb dL_trials_450 rfl (lv_at hl 7 rfl) ?_
                                    refine lv_iconst (v := 1) hx hb dL_trials_451 (by decide) ?_
                                    refine lv_iconst (v := 1) hx hb dL_trials_452 (by decide) ?_
                                    refine zWs9 zm_L_61 hF hB (c_L_like l D ka kb bd na L mo an pl ho le sz9 re9 kp8 st9 N_108 j_108 1 1 (by first | assumption | omega | decide) (by first | assumption | omega | decide) (by decide) (by decide) (hb108) (p444)) rfl ⟨Nat.le_of_ble_eq_true rfl, Nat.le_of_ble_eq_true rfl⟩ rfl hl.1 (Nat.le_of_ble_eq_true rfl) ⟨Nat.le_of_ble_eq_true rfl, Nat.le_of_ble_eq_true rfl⟩ dL_trials_453 ?_
                                    clear hB
                                    try clear locs
                                    try clear H
                                    intro r109 u109 H locs hp hB
                                    obtain ⟨N_109, j_109⟩ := u109
                                    have hp109 : r109 = 1 ∧ (∀ k9, k9 ≠ 6 → k9 ≠ 7 → N_109 k9 = N_108 k9) ∧ bB (jbb j_109) := hp
                                    have hr109 := hp109.1
                                    have hN109 := hp109.2.1
                                    have hb109 := hp109.2.2
                                    have n453 : ∀ i, i < 6 → 0 < (N_109 (8 + i)).2.2.2.2.toInt := fun i hi => by rw [hN109 (8 + i) (by omega) (by omega)]; exact n444 i hi
                                    have hz453 := hr109
                                    replace hB : zB D A s ([(q101, .inl (ka 0, 4, .inl G9)), (q102, .inl (ka 0, 4, .inl L9))] ++ OW ka bd na (L, mo, an, pl, ho, le, sz9, re9, kp8, st9, N_109, j_109)) H locs := hB
                                    refine lv_if_eq (tgt := 472) hx hb dL_trials_456 (by decide) (fun h456 => ?_) (fun h456 => ?_)
                                    · skip
                                      exact absurd (hz453.symm.trans h456) (by decide)
                                    · skip
                                      refine lv_aload_n hx hb dL_trials_459 rfl (lv_at hl 7 rfl) ?_
                                      refine lv_iconst (v := 3) hx hb dL_trials_460 (by decide) ?_
                                      refine zWi zm_L_38 hF hB (w_count l D ka kb bd na L mo an pl ho le sz9 re9 kp8 st9 N_109 j_109 3 (by first | assumption | omega | decide) (by first | assumption | omega | decide) (by first | assumption | omega | decide) (by decide) (hb109)) rfl ⟨Nat.le_of_ble_eq_true rfl, Nat.le_of_ble_eq_true rfl⟩ rfl hl.1 (Nat.le_of_ble_eq_true rfl) ⟨Nat.le_of_ble_eq_true rfl, Nat.le_of_ble_eq_true rfl⟩ dL_trials_461 ?_
                                      clear hB
                                      try clear locs
                                      try clear H
                                      intro r110 u110 H locs hp hB
                                      obtain ⟨N_110, j_110⟩ := u110
                                      have hp110 : r110 = ctK j_109.2.1 sz9 re9 L mo an pl ho kp8 3 ∧ (∀ k9, k9 ≠ 34 → N_110 k9 = N_109 k9) ∧ bB (jbb j_110) := hp
                                      have hr110 := hp110.1
                                      have hN110 := hp110.2.1
                                      have hb110 := hp110.2.2
                                      have n461 : ∀ i, i < 6 → 0 < (N_110 (8 + i)).2.2.2.2.toInt := fun i hi => by rw [hN110 (8 + i) (by omega)]; exact n453 i hi
                                      have hz461 : r110 = 3 := hr110.trans (ktS_3 hkt)
                                      replace hB : zB D A s ([(q101, .inl (ka 0, 4, .inl G9)), (q102, .inl (ka 0, 4, .inl L9))] ++ OW ka bd na (L, mo, an, pl, ho, le, sz9, re9, kp8, st9, N_110, j_110)) H locs := hB
                                      refine lv_iconst (v := 3) hx hb dL_trials_464 (by decide) ?_
                                      refine lv_icmp_ne (tgt := 472) hx hb dL_trials_465 (by decide) (fun h465 => ?_) (fun h465 => ?_)
                                      · skip
                                        exact absurd hz461 h465
                                      · skip
                                        refine lv_iconst (v := 1) hx hb dL_trials_468 (by decide) ?_
                                        refine lv_goto (tgt := 473) hx hb dL_trials_469 (by decide) ?_
                                        replace hB : zB D A s ([] ++ OW ka bd na (L, mo, an, pl, ho, le, sz9, re9, kp8, st9, N_110, j_110)) H locs := zB_drop (zB_drop hB)
                                        exact zreti hF hB (kp8, st9, N_110, j_110) (⟨rfl, hb110, hst9.2, n461⟩) (rfl) (rfl) dL_trials_473 hQ
                            · skip
                              exact absurd (by decide) h390
                          · skip
                            refine lv_iload hx hb dL_trials_351 (lv_at hl 1 rfl) ?_
                            refine lv_if_eq (tgt := 381) hx hb dL_trials_353 (by decide) (fun h353 => ?_) (fun h353 => ?_)
                            · skip
                              refine lv_iconst (v := 1) hx hb dL_trials_381 (by decide) ?_
                              refine lv_goto (tgt := 386) hx hb dL_trials_382 (by decide) ?_
                              refine lv_istore (lv' := [(7, .int (1 : Int32)), (6, .int ((G9 1) * (G9 2))), (5, .int ((G9 0) * (G9 3))), (4, .ref q102), (3, .ref q101), (2, .int (nI at9)), (1, .ref (kb 1)), (0, .ref (bd 31))]) hx hb dL_trials_386 hl (by decide) rfl ?_
                              clear hl
                              clear ls
                              intro ls hl
                              refine lv_iload hx hb dL_trials_388 (lv_at hl 0 rfl) ?_
                              refine lv_if_eq (tgt := 421) hx hb dL_trials_390 (by decide) (fun h390 => ?_) (fun h390 => ?_)
                              · skip
                                exact absurd h390 (by decide)
                              · skip
                                have hz4 := nn_t hst9 h348 (Or.inl h353)
                                refine lv_aload_n hx hb dL_trials_393 rfl (lv_at hl 7 rfl) ?_
                                refine lv_iconst (v := 0) hx hb dL_trials_394 (by decide) ?_
                                refine lv_iconst (v := 0) hx hb dL_trials_395 (by decide) ?_
                                refine zWi zm_L_42 hF hB (w_found l D ka kb bd na L mo an pl ho le sz9 re9 kp8 st9 N7 j7 pm8 pa8 0 0 (h7.2.1) (fun k h1 h3 _ => h7.2.2 k h1 h3) (fun k h1 h3 _ => pmK h7 h1 h3) (by decide) (by decide) (hb7)) rfl ⟨Nat.le_of_ble_eq_true rfl, Nat.le_of_ble_eq_true rfl⟩ rfl hl.1 (Nat.le_of_ble_eq_true rfl) ⟨Nat.le_of_ble_eq_true rfl, Nat.le_of_ble_eq_true rfl⟩ dL_trials_396 ?_
                                clear hB
                                try clear locs
                                try clear H
                                intro r111 u111 H locs hp hB
                                obtain ⟨N_111, j_111⟩ := u111
                                have hp111 : r111 = (if ktS kp8 3 < 3 then -3 else ubR 0 (gC N7) pm8 pa8) ∧ (∀ k9, k9 < 17 → k9 ≠ 6 → N_111 k9 = if r111 = 1 ∧ k9 = 0 then quoV (fnV (nI 0) (gC N7) pm8 pa8) (foD (gC N7) pm8 pa8) else N7 k9) ∧ bB (jbb j_111) := hp
                                have hr111 := hp111.1
                                have hN111 := hp111.2.1
                                have hb111 := hp111.2.2
                                have hz396 : r111 = -6 := hr111.trans ((if_neg (by rw [ktS_3 hkt]; decide)).trans (trN_z hok hoh hs h7 hz4 0))
                                have h396 := trN_cg h7 (N2 := N_111) (fun i h1 h2 => (hN111 i h2 (by omega)).trans (if_neg (fun e => by rw [hz396] at e; exact absurd e.1 (by decide))))
                                replace hB : zB D A s ([(q101, .inl (ka 0, 4, .inl G9)), (q102, .inl (ka 0, 4, .inl L9))] ++ OW ka bd na (L, mo, an, pl, ho, le, sz9, re9, kp8, st9, N_111, j_111)) H locs := hB
                                refine lv_bipush (v := -6) hx hb dL_trials_399 (by decide) ?_
                                refine lv_icmp_ne (tgt := 419) hx hb dL_trials_401 (by decide) (fun h401 => ?_) (fun h401 => ?_)
                                · skip
                                  exact absurd hz396 h401
                                · skip
                                  refine lv_aload_n hx hb dL_trials_404 rfl (lv_at hl 7 rfl) ?_
                                  refine lv_iconst (v := 1) hx hb dL_trials_405 (by decide) ?_
                                  refine lv_iconst (v := 1) hx hb dL_trials_406 (by decide) ?_
                                  refine zWi zm_L_42 hF hB (w_found l D ka kb bd na L mo an pl ho le sz9 re9 kp8 st9 N_111 j_111 pm8 pa8 1 1 (h396.2.1) (fun k h1 h3 _ => h396.2.2 k h1 h3) (fun k h1 h3 _ => pmK h396 h1 h3) (by decide) (by decide) (hb111)) rfl ⟨Nat.le_of_ble_eq_true rfl, Nat.le_of_ble_eq_true rfl⟩ rfl hl.1 (Nat.le_of_ble_eq_true rfl) ⟨Nat.le_of_ble_eq_true rfl, Nat.le_of_ble_eq_true rfl⟩ dL_trials_407 ?_
                                  clear hB
                                  try clear locs
                                  try clear H
                                  intro r112 u112 H locs hp hB
                                  obtain ⟨N_112, j_112⟩ := u112
                                  have hp112 : r112 = (if ktS kp8 3 < 3 then -3 else ubR 1 (gC N_111) pm8 pa8) ∧ (∀ k9, k9 < 17 → k9 ≠ 6 → N_112 k9 = if r112 = 1 ∧ k9 = 1 then quoV (fnV (nI 1) (gC N_111) pm8 pa8) (foD (gC N_111) pm8 pa8) else N_111 k9) ∧ bB (jbb j_112) := hp
                                  have hr112 := hp112.1
                                  have hN112 := hp112.2.1
                                  have hb112 := hp112.2.2
                                  have hz407 : r112 = -6 := hr112.trans ((if_neg (by rw [ktS_3 hkt]; decide)).trans (trN_z hok hoh hs h396 hz4 1))
                                  have h407 := trN_cg h396 (N2 := N_112) (fun i h1 h2 => (hN112 i h2 (by omega)).trans (if_neg (fun e => by rw [hz407] at e; exact absurd e.1 (by decide))))
                                  replace hB : zB D A s ([(q101, .inl (ka 0, 4, .inl G9)), (q102, .inl (ka 0, 4, .inl L9))] ++ OW ka bd na (L, mo, an, pl, ho, le, sz9, re9, kp8, st9, N_112, j_112)) H locs := hB
                                  refine lv_bipush (v := -6) hx hb dL_trials_410 (by decide) ?_
                                  refine lv_icmp_ne (tgt := 419) hx hb dL_trials_412 (by decide) (fun h412 => ?_) (fun h412 => ?_)
                                  · skip
                                    exact absurd hz407 h412
                                  · skip
                                    refine lv_iconst (v := 1) hx hb dL_trials_415 (by decide) ?_
                                    refine lv_goto (tgt := 420) hx hb dL_trials_416 (by decide) ?_
                                    replace hB : zB D A s ([] ++ OW ka bd na (L, mo, an, pl, ho, le, sz9, re9, kp8, st9, N_112, j_112)) H locs := zB_drop (zB_drop hB)
                                    exact zreti hF hB (kp8, st9, N_112, j_112) (⟨rfl, hb112, hst9.2, h407.2.1⟩) (rfl) (rfl) dL_trials_420 hQ
                            · skip
                              refine lv_aload hx hb dL_trials_356 (lv_at hl 2 rfl) ?_
                              refine lv_iconst (v := 0) hx hb dL_trials_358 (by decide) ?_
                              refine ziald hF hB 1 rfl 0 (by decide) (by decide) (by decide) (v := (L9 0)) (rfl) dL_trials_359 ?_
                              refine lv_aload hx hb dL_trials_360 (lv_at hl 2 rfl) ?_
                              refine lv_iconst (v := 3) hx hb dL_trials_362 (by decide) ?_
                              refine ziald hF hB 1 rfl 3 (by decide) (by decide) (by decide) (v := (L9 3)) (rfl) dL_trials_363 ?_
                              refine lv_iadd hx hb dL_trials_364 ?_
                              refine lv_aload hx hb dL_trials_365 (lv_at hl 2 rfl) ?_
                              refine lv_iconst (v := 1) hx hb dL_trials_367 (by decide) ?_
                              refine ziald hF hB 1 rfl 1 (by decide) (by decide) (by decide) (v := (L9 1)) (rfl) dL_trials_368 ?_
                              refine lv_isub hx hb dL_trials_369 ?_
                              refine lv_aload hx hb dL_trials_370 (lv_at hl 2 rfl) ?_
                              refine lv_iconst (v := 2) hx hb dL_trials_372 (by decide) ?_
                              refine ziald hF hB 1 rfl 2 (by decide) (by decide) (by decide) (v := (L9 2)) (rfl) dL_trials_373 ?_
                              refine lv_isub hx hb dL_trials_374 ?_
                              refine lv_bipush (v := 12) hx hb dL_trials_375 (by decide) ?_
                              refine lv_irem hx hb dL_trials_377 (by decide) ?_
                              refine lv_if_ne (tgt := 385) hx hb dL_trials_378 (by decide) (fun h378 => ?_) (fun h378 => ?_)
                              · skip
                                refine lv_iconst (v := 0) hx hb dL_trials_385 (by decide) ?_
                                refine lv_istore (lv' := [(7, .int (0 : Int32)), (6, .int ((G9 1) * (G9 2))), (5, .int ((G9 0) * (G9 3))), (4, .ref q102), (3, .ref q101), (2, .int (nI at9)), (1, .ref (kb 1)), (0, .ref (bd 31))]) hx hb dL_trials_386 hl (by decide) rfl ?_
                                clear hl
                                clear ls
                                intro ls hl
                                refine lv_iload hx hb dL_trials_388 (lv_at hl 0 rfl) ?_
                                refine lv_if_eq (tgt := 421) hx hb dL_trials_390 (by decide) (fun h390 => ?_) (fun h390 => ?_)
                                · skip
                                  have hz4 := nn_f hst9 (Or.inr ⟨h353, h378⟩)
                                  refine lv_aload_n hx hb dL_trials_421 rfl (lv_at hl 7 rfl) ?_
                                  refine lv_iconst (v := 0) hx hb dL_trials_422 (by decide) ?_
                                  refine lv_iconst (v := 0) hx hb dL_trials_423 (by decide) ?_
                                  refine zWi zm_L_42 hF hB (w_found l D ka kb bd na L mo an pl ho le sz9 re9 kp8 st9 N7 j7 pm8 pa8 0 0 (h7.2.1) (fun k h1 h3 _ => h7.2.2 k h1 h3) (fun k h1 h3 _ => pmK h7 h1 h3) (by decide) (by decide) (hb7)) rfl ⟨Nat.le_of_ble_eq_true rfl, Nat.le_of_ble_eq_true rfl⟩ rfl hl.1 (Nat.le_of_ble_eq_true rfl) ⟨Nat.le_of_ble_eq_true rfl, Nat.le_of_ble_eq_true rfl⟩ dL_trials_424 ?_
                                  clear hB
                                  try clear locs
                                  try clear H
                                  intro r113 u113 H locs hp hB
                                  obtain ⟨N_113, j_113⟩ := u113
                                  have hp113 : r113 = (if ktS kp8 3 < 3 then -3 else ubR 0 (gC N7) pm8 pa8) ∧ (∀ k9, k9 < 17 → k9 ≠ 6 → N_113 k9 = if r113 = 1 ∧ k9 = 0 then quoV (fnV (nI 0) (gC N7) pm8 pa8) (foD (gC N7) pm8 pa8) else N7 k9) ∧ bB (jbb j_113) := hp
                                  have hr113 := hp113.1
                                  have hN113 := hp113.2.1
                                  have hb113 := hp113.2.2
                                  have f424 := trN_f hok hoh hs h7 hz4 (q := 0) (by decide)
                                  have hz424 : r113 = 1 := hr113.trans ((if_neg (by rw [ktS_3 hkt]; decide)).trans f424.1)
                                  have p424 : N_113 0 = plN (pulI 0 L mo an pl ho) := (hN113 0 (by decide) (by decide)).trans ((if_pos ⟨hz424, rfl⟩).trans f424.2)
                                  have h424 := trN_cg h7 (N2 := N_113) (fun i h1 h2 => (hN113 i h2 (by omega)).trans (if_neg (fun e => by have := e.2; omega)))
                                  replace hB : zB D A s ([(q101, .inl (ka 0, 4, .inl G9)), (q102, .inl (ka 0, 4, .inl L9))] ++ OW ka bd na (L, mo, an, pl, ho, le, sz9, re9, kp8, st9, N_113, j_113)) H locs := hB
                                  refine lv_iconst (v := 1) hx hb dL_trials_427 (by decide) ?_
                                  refine lv_icmp_ne (tgt := 472) hx hb dL_trials_428 (by decide) (fun h428 => ?_) (fun h428 => ?_)
                                  · skip
                                    exact absurd hz424 h428
                                  · skip
                                    refine lv_aload_n hx hb dL_trials_431 rfl (lv_at hl 7 rfl) ?_
                                    refine lv_iconst (v := 1) hx hb dL_trials_432 (by decide) ?_
                                    refine lv_iconst (v := 1) hx hb dL_trials_433 (by decide) ?_
                                    refine zWi zm_L_42 hF hB (w_found l D ka kb bd na L mo an pl ho le sz9 re9 kp8 st9 N_113 j_113 pm8 pa8 1 1 (h424.2.1) (fun k h1 h3 _ => h424.2.2 k h1 h3) (fun k h1 h3 _ => pmK h424 h1 h3) (by decide) (by decide) (hb113)) rfl ⟨Nat.le_of_ble_eq_true rfl, Nat.le_of_ble_eq_true rfl⟩ rfl hl.1 (Nat.le_of_ble_eq_true rfl) ⟨Nat.le_of_ble_eq_true rfl, Nat.le_of_ble_eq_true rfl⟩ dL_trials_434 ?_
                                    clear hB
                                    try clear locs
                                    try clear H
                                    intro r114 u114 H locs hp hB
                                    obtain ⟨N_114, j_114⟩ := u114
                                    have hp114 : r114 = (if ktS kp8 3 < 3 then -3 else ubR 1 (gC N_113) pm8 pa8) ∧ (∀ k9, k9 < 17 → k9 ≠ 6 → N_114 k9 = if r114 = 1 ∧ k9 = 1 then quoV (fnV (nI 1) (gC N_113) pm8 pa8) (foD (gC N_113) pm8 pa8) else N_113 k9) ∧ bB (jbb j_114) := hp
                                    have hr114 := hp114.1
                                    have hN114 := hp114.2.1
                                    have hb114 := hp114.2.2
                                    have f434 := trN_f hok hoh hs h424 hz4 (q := 1) (by decide)
                                    have hz434 : r114 = 1 := hr114.trans ((if_neg (by rw [ktS_3 hkt]; decide)).trans f434.1)
                                    have p434 : N_114 1 = plN (pulI 1 L mo an pl ho) := (hN114 1 (by decide) (by decide)).trans ((if_pos ⟨hz434, rfl⟩).trans f434.2)
                                    have p434_0 : N_114 0 = plN (pulI 0 L mo an pl ho) := (hN114 0 (by decide) (by decide)).trans ((if_neg (fun e => absurd e.2 (by decide))).trans p424)
                                    have h434 := trN_cg h424 (N2 := N_114) (fun i h1 h2 => (hN114 i h2 (by omega)).trans (if_neg (fun e => by have := e.2; omega)))
                                    replace hB : zB D A s ([(q101, .inl (ka 0, 4, .inl G9)), (q102, .inl (ka 0, 4, .inl L9))] ++ OW ka bd na (L, mo, an, pl, ho, le, sz9, re9, kp8, st9, N_114, j_114)) H locs := hB
                                    refine lv_iconst (v := 1) hx hb dL_trials_437 (by decide) ?_
                                    refine lv_icmp_ne (tgt := 472) hx hb dL_trials_438 (by decide) (fun h438 => ?_) (fun h438 => ?_)
                                    · skip
                                      exact absurd hz434 h438
                                    · skip
                                      refine lv_aload_n hx hb dL_trials_441 rfl (lv_at hl 7 rfl) ?_
                                      refine lv_iconst (v := 0) hx hb dL_trials_442 (by decide) ?_
                                      refine lv_iconst (v := 0) hx hb dL_trials_443 (by decide) ?_
                                      refine zWs9 zm_L_61 hF hB (c_L_like l D ka kb bd na L mo an pl ho le sz9 re9 kp8 st9 N_114 j_114 0 0 (by first | assumption | omega | decide) (by first | assumption | omega | decide) (by decide) (by decide) (hb114) (p434_0)) rfl ⟨Nat.le_of_ble_eq_true rfl, Nat.le_of_ble_eq_true rfl⟩ rfl hl.1 (Nat.le_of_ble_eq_true rfl) ⟨Nat.le_of_ble_eq_true rfl, Nat.le_of_ble_eq_true rfl⟩ dL_trials_444 ?_
                                      clear hB
                                      try clear locs
                                      try clear H
                                      intro r115 u115 H locs hp hB
                                      obtain ⟨N_115, j_115⟩ := u115
                                      have hp115 : r115 = 1 ∧ (∀ k9, k9 ≠ 6 → k9 ≠ 7 → N_115 k9 = N_114 k9) ∧ bB (jbb j_115) := hp
                                      have hr115 := hp115.1
                                      have hN115 := hp115.2.1
                                      have hb115 := hp115.2.2
                                      have n444 : ∀ i, i < 6 → 0 < (N_115 (8 + i)).2.2.2.2.toInt := fun i hi => by rw [hN115 (8 + i) (by omega) (by omega)]; exact h434.2.1 i hi
                                      have p444 : N_115 1 = plN (pulI 1 L mo an pl ho) := (hN115 1 (by decide) (by decide)).trans p434
                                      have hz444 := hr115
                                      replace hB : zB D A s ([(q101, .inl (ka 0, 4, .inl G9)), (q102, .inl (ka 0, 4, .inl L9))] ++ OW ka bd na (L, mo, an, pl, ho, le, sz9, re9, kp8, st9, N_115, j_115)) H locs := hB
                                      refine lv_if_eq (tgt := 472) hx hb dL_trials_447 (by decide) (fun h447 => ?_) (fun h447 => ?_)
                                      · skip
                                        exact absurd (hz444.symm.trans h447) (by decide)
                                      · skip
                                        refine lv_aload_n hx hb dL_trials_450 rfl (lv_at hl 7 rfl) ?_
                                        refine lv_iconst (v := 1) hx hb dL_trials_451 (by decide) ?_
                                        refine lv_iconst (v := 1) hx hb dL_trials_452 (by decide) ?_
                                        refine zWs9 zm_L_61 hF hB (c_L_like l D ka kb bd na L mo an pl ho le sz9 re9 kp8 st9 N_115 j_115 1 1 (by first | assumption | omega | decide) (by first | assumption | omega | decide) (by decide) (by decide) (hb115) (p444)) rfl ⟨Nat.le_of_ble_eq_true rfl, Nat.le_of_ble_eq_true rfl⟩ rfl hl.1 (Nat.le_of_ble_eq_true rfl) ⟨Nat.le_of_ble_eq_true rfl, Nat.le_of_ble_eq_true rfl⟩ dL_trials_453 ?_
                                        clear hB
                                        try clear locs
                                        try clear H
                                        intro r116 u116 H locs hp hB
                                        obtain ⟨N_116, j_116⟩ := u116
                                        have hp116 : r116 = 1 ∧ (∀ k9, k9 ≠ 6 → k9 ≠ 7 → N_116 k9 = N_115 k9) ∧ bB (jbb j_116) := hp
                                        have hr116 := hp116.1
                                        have hN116 := hp116.2.1
                                        have hb116 := hp116.2.2
                                        have n453 : ∀ i, i < 6 → 0 < (N_116 (8 + i)).2.2.2.2.toInt := fun i hi => by rw [hN116 (8 + i) (by omega) (by omega)]; exact n444 i hi
                                        have hz453 := hr116
                                        replace hB : zB D A s ([(q101, .inl (ka 0, 4, .inl G9)), (q102, .inl (ka 0, 4, .inl L9))] ++ OW ka bd na (L, mo, an, pl, ho, le, sz9, re9, kp8, st9, N_116, j_116)) H locs := hB
                                        refine lv_if_eq (tgt := 472) hx hb dL_trials_456 (by decide) (fun h456 => ?_) (fun h456 => ?_)
                                        · skip
                                          exact absurd (hz453.symm.trans h456) (by decide)
                                        · skip
                                          refine lv_aload_n hx hb dL_trials_459 rfl (lv_at hl 7 rfl) ?_
                                          refine lv_iconst (v := 3) hx hb dL_trials_460 (by decide) ?_
                                          refine zWi zm_L_38 hF hB (w_count l D ka kb bd na L mo an pl ho le sz9 re9 kp8 st9 N_116 j_116 3 (by first | assumption | omega | decide) (by first | assumption | omega | decide) (by first | assumption | omega | decide) (by decide) (hb116)) rfl ⟨Nat.le_of_ble_eq_true rfl, Nat.le_of_ble_eq_true rfl⟩ rfl hl.1 (Nat.le_of_ble_eq_true rfl) ⟨Nat.le_of_ble_eq_true rfl, Nat.le_of_ble_eq_true rfl⟩ dL_trials_461 ?_
                                          clear hB
                                          try clear locs
                                          try clear H
                                          intro r117 u117 H locs hp hB
                                          obtain ⟨N_117, j_117⟩ := u117
                                          have hp117 : r117 = ctK j_116.2.1 sz9 re9 L mo an pl ho kp8 3 ∧ (∀ k9, k9 ≠ 34 → N_117 k9 = N_116 k9) ∧ bB (jbb j_117) := hp
                                          have hr117 := hp117.1
                                          have hN117 := hp117.2.1
                                          have hb117 := hp117.2.2
                                          have n461 : ∀ i, i < 6 → 0 < (N_117 (8 + i)).2.2.2.2.toInt := fun i hi => by rw [hN117 (8 + i) (by omega)]; exact n453 i hi
                                          have hz461 : r117 = 3 := hr117.trans (ktS_3 hkt)
                                          replace hB : zB D A s ([(q101, .inl (ka 0, 4, .inl G9)), (q102, .inl (ka 0, 4, .inl L9))] ++ OW ka bd na (L, mo, an, pl, ho, le, sz9, re9, kp8, st9, N_117, j_117)) H locs := hB
                                          refine lv_iconst (v := 3) hx hb dL_trials_464 (by decide) ?_
                                          refine lv_icmp_ne (tgt := 472) hx hb dL_trials_465 (by decide) (fun h465 => ?_) (fun h465 => ?_)
                                          · skip
                                            exact absurd hz461 h465
                                          · skip
                                            refine lv_iconst (v := 1) hx hb dL_trials_468 (by decide) ?_
                                            refine lv_goto (tgt := 473) hx hb dL_trials_469 (by decide) ?_
                                            replace hB : zB D A s ([] ++ OW ka bd na (L, mo, an, pl, ho, le, sz9, re9, kp8, st9, N_117, j_117)) H locs := zB_drop (zB_drop hB)
                                            exact zreti hF hB (kp8, st9, N_117, j_117) (⟨rfl, hb117, hst9.2, n461⟩) (rfl) (rfl) dL_trials_473 hQ
                                · skip
                                  exact absurd (by decide) h390
                              · skip
                                refine lv_iconst (v := 1) hx hb dL_trials_381 (by decide) ?_
                                refine lv_goto (tgt := 386) hx hb dL_trials_382 (by decide) ?_
                                refine lv_istore (lv' := [(7, .int (1 : Int32)), (6, .int ((G9 1) * (G9 2))), (5, .int ((G9 0) * (G9 3))), (4, .ref q102), (3, .ref q101), (2, .int (nI at9)), (1, .ref (kb 1)), (0, .ref (bd 31))]) hx hb dL_trials_386 hl (by decide) rfl ?_
                                clear hl
                                clear ls
                                intro ls hl
                                refine lv_iload hx hb dL_trials_388 (lv_at hl 0 rfl) ?_
                                refine lv_if_eq (tgt := 421) hx hb dL_trials_390 (by decide) (fun h390 => ?_) (fun h390 => ?_)
                                · skip
                                  exact absurd h390 (by decide)
                                · skip
                                  have hz4 := nn_t hst9 h348 (Or.inr h378)
                                  refine lv_aload_n hx hb dL_trials_393 rfl (lv_at hl 7 rfl) ?_
                                  refine lv_iconst (v := 0) hx hb dL_trials_394 (by decide) ?_
                                  refine lv_iconst (v := 0) hx hb dL_trials_395 (by decide) ?_
                                  refine zWi zm_L_42 hF hB (w_found l D ka kb bd na L mo an pl ho le sz9 re9 kp8 st9 N7 j7 pm8 pa8 0 0 (h7.2.1) (fun k h1 h3 _ => h7.2.2 k h1 h3) (fun k h1 h3 _ => pmK h7 h1 h3) (by decide) (by decide) (hb7)) rfl ⟨Nat.le_of_ble_eq_true rfl, Nat.le_of_ble_eq_true rfl⟩ rfl hl.1 (Nat.le_of_ble_eq_true rfl) ⟨Nat.le_of_ble_eq_true rfl, Nat.le_of_ble_eq_true rfl⟩ dL_trials_396 ?_
                                  clear hB
                                  try clear locs
                                  try clear H
                                  intro r118 u118 H locs hp hB
                                  obtain ⟨N_118, j_118⟩ := u118
                                  have hp118 : r118 = (if ktS kp8 3 < 3 then -3 else ubR 0 (gC N7) pm8 pa8) ∧ (∀ k9, k9 < 17 → k9 ≠ 6 → N_118 k9 = if r118 = 1 ∧ k9 = 0 then quoV (fnV (nI 0) (gC N7) pm8 pa8) (foD (gC N7) pm8 pa8) else N7 k9) ∧ bB (jbb j_118) := hp
                                  have hr118 := hp118.1
                                  have hN118 := hp118.2.1
                                  have hb118 := hp118.2.2
                                  have hz396 : r118 = -6 := hr118.trans ((if_neg (by rw [ktS_3 hkt]; decide)).trans (trN_z hok hoh hs h7 hz4 0))
                                  have h396 := trN_cg h7 (N2 := N_118) (fun i h1 h2 => (hN118 i h2 (by omega)).trans (if_neg (fun e => by rw [hz396] at e; exact absurd e.1 (by decide))))
                                  replace hB : zB D A s ([(q101, .inl (ka 0, 4, .inl G9)), (q102, .inl (ka 0, 4, .inl L9))] ++ OW ka bd na (L, mo, an, pl, ho, le, sz9, re9, kp8, st9, N_118, j_118)) H locs := hB
                                  refine lv_bipush (v := -6) hx hb dL_trials_399 (by decide) ?_
                                  refine lv_icmp_ne (tgt := 419) hx hb dL_trials_401 (by decide) (fun h401 => ?_) (fun h401 => ?_)
                                  · skip
                                    exact absurd hz396 h401
                                  · skip
                                    refine lv_aload_n hx hb dL_trials_404 rfl (lv_at hl 7 rfl) ?_
                                    refine lv_iconst (v := 1) hx hb dL_trials_405 (by decide) ?_
                                    refine lv_iconst (v := 1) hx hb dL_trials_406 (by decide) ?_
                                    refine zWi zm_L_42 hF hB (w_found l D ka kb bd na L mo an pl ho le sz9 re9 kp8 st9 N_118 j_118 pm8 pa8 1 1 (h396.2.1) (fun k h1 h3 _ => h396.2.2 k h1 h3) (fun k h1 h3 _ => pmK h396 h1 h3) (by decide) (by decide) (hb118)) rfl ⟨Nat.le_of_ble_eq_true rfl, Nat.le_of_ble_eq_true rfl⟩ rfl hl.1 (Nat.le_of_ble_eq_true rfl) ⟨Nat.le_of_ble_eq_true rfl, Nat.le_of_ble_eq_true rfl⟩ dL_trials_407 ?_
                                    clear hB
                                    try clear locs
                                    try clear H
                                    intro r119 u119 H locs hp hB
                                    obtain ⟨N_119, j_119⟩ := u119
                                    have hp119 : r119 = (if ktS kp8 3 < 3 then -3 else ubR 1 (gC N_118) pm8 pa8) ∧ (∀ k9, k9 < 17 → k9 ≠ 6 → N_119 k9 = if r119 = 1 ∧ k9 = 1 then quoV (fnV (nI 1) (gC N_118) pm8 pa8) (foD (gC N_118) pm8 pa8) else N_118 k9) ∧ bB (jbb j_119) := hp
                                    have hr119 := hp119.1
                                    have hN119 := hp119.2.1
                                    have hb119 := hp119.2.2
                                    have hz407 : r119 = -6 := hr119.trans ((if_neg (by rw [ktS_3 hkt]; decide)).trans (trN_z hok hoh hs h396 hz4 1))
                                    have h407 := trN_cg h396 (N2 := N_119) (fun i h1 h2 => (hN119 i h2 (by omega)).trans (if_neg (fun e => by rw [hz407] at e; exact absurd e.1 (by decide))))
                                    replace hB : zB D A s ([(q101, .inl (ka 0, 4, .inl G9)), (q102, .inl (ka 0, 4, .inl L9))] ++ OW ka bd na (L, mo, an, pl, ho, le, sz9, re9, kp8, st9, N_119, j_119)) H locs := hB
                                    refine lv_bipush (v := -6) hx hb dL_trials_410 (by decide) ?_
                                    refine lv_icmp_ne (tgt := 419) hx hb dL_trials_412 (by decide) (fun h412 => ?_) (fun h412 => ?_)
                                    · skip
                                      exact absurd hz407 h412
                                    · skip
                                      refine lv_iconst (v := 1) hx hb dL_trials_415 (by decide) ?_
                                      refine lv_goto (tgt := 420) hx hb dL_trials_416 (by decide) ?_
                                      replace hB : zB D A s ([] ++ OW ka bd na (L, mo, an, pl, ho, le, sz9, re9, kp8, st9, N_119, j_119)) H locs := zB_drop (zB_drop hB)
                                      exact zreti hF hB (kp8, st9, N_119, j_119) (⟨rfl, hb119, hst9.2, h407.2.1⟩) (rfl) (rfl) dL_trials_420 hQ
                        · skip
                          have hk4 : k7 < 4 := by have := mt (nI_leI (a := 4) (b := k7) (by decide) (by omega)).mpr h227; omega
                          have h7 := trN_cg htr hN7
                          have e7 := trN_e hok hoh hs h7 (k7 % 2) (by omega) (k7 / 2) (by omega)
                          rw [show 2 * (k7 / 2) + k7 % 2 = k7 by omega] at e7
                          have hgk := (hst9.1 k7 hk4).1
                          have hak := (stK_l hst9 hk4).2
                          refine lv_aload_n hx hb dL_trials_230 rfl (lv_at hl 5 rfl) ?_
                          refine lv_iload hx hb dL_trials_231 (lv_at hl 0 rfl) ?_
                          refine lv_iconst (v := 2) hx hb dL_trials_233 (by decide) ?_
                          refine lv_irem hx hb dL_trials_234 (by decide) ?_
                          refine ztopi (y := nI (k7 % 2)) (n4_m k7 hk4) ?_
                          refine lv_iload hx hb dL_trials_235 (lv_at hl 0 rfl) ?_
                          refine lv_iconst (v := 2) hx hb dL_trials_237 (by decide) ?_
                          refine lv_idiv hx hb dL_trials_238 (by decide) ?_
                          refine ztopi (y := nI (k7 / 2)) (n4_d k7 hk4) ?_
                          refine lv_iconst (v := 0) hx hb dL_trials_239 (by decide) ?_
                          refine zWi zm_L_49 hF hB (w_effect l D ka kb bd na L mo an pl ho le sz9 re9 kp8 st9 N7 j7 pm8 pa8 (k7 % 2) (k7 / 2) 0 (h7.2.1) (fun k h1 h3 _ => h7.2.2 k h1 h3) (fun k h1 h3 _ => pmK h7 h1 h3) (by omega) (by omega) (by decide) (hb7)) rfl ⟨Nat.le_of_ble_eq_true rfl, Nat.le_of_ble_eq_true rfl⟩ rfl hl.1 (Nat.le_of_ble_eq_true rfl) ⟨Nat.le_of_ble_eq_true rfl, Nat.le_of_ble_eq_true rfl⟩ dL_trials_240 ?_
                          clear hB
                          try clear locs
                          try clear H
                          intro r120 u120 H locs hp hB
                          obtain ⟨N_120, j_120⟩ := u120
                          have hp120 : r120 = (if ¬ (kp8 0 = true ∧ kp8 ((k7 % 2) + 1) = true) then -3 else if efO (gC N7) pm8 pa8 (k7 % 2) (k7 / 2) = true then -5 else 1) ∧ (∀ k9, k9 < 17 → k9 ≠ 6 → N_120 k9 = if r120 = 1 ∧ k9 = 0 then efV (gC N7) pm8 pa8 (k7 % 2) (k7 / 2) else N7 k9) ∧ bB (jbb j_120) := hp
                          have hr120 := hp120.1
                          have hN120 := hp120.2.1
                          have hb120 := hp120.2.2
                          have hz240 : r120 = 1 := hr120.trans ((if_neg (fun e => e ⟨hkt 0 (by decide), hkt _ (by omega)⟩)).trans (if_neg (by rw [e7.1]; decide)))
                          have n240 : N_120 0 = wyN (G9 k7).toInt (aN (L9 k7)) := (hN120 0 (by decide) (by decide)).trans ((if_pos ⟨hz240, rfl⟩).trans e7.2)
                          replace hB : zB D A s ([(q101, .inl (ka 0, 4, .inl G9)), (q102, .inl (ka 0, 4, .inl L9))] ++ OW ka bd na (L, mo, an, pl, ho, le, sz9, re9, kp8, st9, N_120, j_120)) H locs := hB
                          refine lv_iconst (v := 1) hx hb dL_trials_243 (by decide) ?_
                          refine lv_icmp_ne (tgt := 318) hx hb dL_trials_244 (by decide) (fun h244 => ?_) (fun h244 => ?_)
                          · skip
                            exact absurd hz240 h244
                          · skip
                            refine lv_aload_n hx hb dL_trials_247 rfl (lv_at hl 5 rfl) ?_
                            refine lv_iconst (v := 0) hx hb dL_trials_248 (by decide) ?_
                            refine lv_aload_n hx hb dL_trials_249 rfl (lv_at hl 2 rfl) ?_
                            refine lv_iload hx hb dL_trials_250 (lv_at hl 0 rfl) ?_
                            refine ziald hF hB 0 rfl k7 (rfl) (by omega) (by decide) (v := (G9 k7)) (rfl) dL_trials_252 ?_
                            refine lv_aload hx hb dL_trials_253 (lv_at hl 1 rfl) ?_
                            refine lv_iload hx hb dL_trials_255 (lv_at hl 0 rfl) ?_
                            refine ziald hF hB 1 rfl k7 (rfl) (by omega) (by decide) (v := nI (aN (L9 k7))) ((stK_l hst9 hk4).1) dL_trials_257 ?_
                            refine lv_iconst (v := 0) hx hb dL_trials_258 (by decide) ?_
                            refine zSi zm_L_52 hF hB (c_L_way l D ka kb (aN (L9 k7)) 0 (hak) (by decide)) [] rfl (by decide) [] (fun _ => rfl) rfl rfl ⟨Nat.le_of_ble_eq_true rfl, Nat.le_of_ble_eq_true rfl⟩ rfl hl.1 (Nat.le_of_ble_eq_true rfl) ⟨Nat.le_refl _, Nat.le_refl _⟩ dL_trials_259 ?_
                            clear hB
                            try clear locs
                            try clear H
                            intro r121 u121 H locs hp hB
                            obtain rfl : r121 = (zways.getD (4 * (aN (L9 k7)) + 0) 0) := hp
                            replace hB : zB D A s ([(q101, .inl (ka 0, 4, .inl G9)), (q102, .inl (ka 0, 4, .inl L9))] ++ OW ka bd na (L, mo, an, pl, ho, le, sz9, re9, kp8, st9, N_120, j_120)) H locs := hB
                            refine lv_imul hx hb dL_trials_262 ?_
                            refine lv_i2l (v := ((G9 k7) * (zways.getD (4 * (aN (L9 k7)) + 0) 0)).toInt64) hx hb dL_trials_263 rfl ?_
                            refine lv_aload_n hx hb dL_trials_264 rfl (lv_at hl 2 rfl) ?_
                            refine lv_iload hx hb dL_trials_265 (lv_at hl 0 rfl) ?_
                            refine ziald hF hB 0 rfl k7 (rfl) (by omega) (by decide) (v := (G9 k7)) (rfl) dL_trials_267 ?_
                            refine lv_aload hx hb dL_trials_268 (lv_at hl 1 rfl) ?_
                            refine lv_iload hx hb dL_trials_270 (lv_at hl 0 rfl) ?_
                            refine ziald hF hB 1 rfl k7 (rfl) (by omega) (by decide) (v := nI (aN (L9 k7))) ((stK_l hst9 hk4).1) dL_trials_272 ?_
                            refine lv_iconst (v := 1) hx hb dL_trials_273 (by decide) ?_
                            refine zSi zm_L_52 hF hB (c_L_way l D ka kb (aN (L9 k7)) 1 (hak) (by decide)) [] rfl (by decide) [] (fun _ => rfl) rfl rfl ⟨Nat.le_of_ble_eq_true rfl, Nat.le_of_ble_eq_true rfl⟩ rfl hl.1 (Nat.le_of_ble_eq_true rfl) ⟨Nat.le_refl _, Nat.le_refl _⟩ dL_trials_274 ?_
                            clear hB
                            try clear locs
                            try clear H
                            intro r122 u122 H locs hp hB
                            obtain rfl : r122 = (zways.getD (4 * (aN (L9 k7)) + 1) 0) := hp
                            replace hB : zB D A s ([(q101, .inl (ka 0, 4, .inl G9)), (q102, .inl (ka 0, 4, .inl L9))] ++ OW ka bd na (L, mo, an, pl, ho, le, sz9, re9, kp8, st9, N_120, j_120)) H locs := hB
                            refine lv_imul hx hb dL_trials_277 ?_
                            refine lv_i2l (v := ((G9 k7) * (zways.getD (4 * (aN (L9 k7)) + 1) 0)).toInt64) hx hb dL_trials_278 rfl ?_
                            refine lv_aload_n hx hb dL_trials_279 rfl (lv_at hl 2 rfl) ?_
                            refine lv_iload hx hb dL_trials_280 (lv_at hl 0 rfl) ?_
                            refine ziald hF hB 0 rfl k7 (rfl) (by omega) (by decide) (v := (G9 k7)) (rfl) dL_trials_282 ?_
                            refine lv_aload hx hb dL_trials_283 (lv_at hl 1 rfl) ?_
                            refine lv_iload hx hb dL_trials_285 (lv_at hl 0 rfl) ?_
                            refine ziald hF hB 1 rfl k7 (rfl) (by omega) (by decide) (v := nI (aN (L9 k7))) ((stK_l hst9 hk4).1) dL_trials_287 ?_
                            refine lv_iconst (v := 2) hx hb dL_trials_288 (by decide) ?_
                            refine zSi zm_L_52 hF hB (c_L_way l D ka kb (aN (L9 k7)) 2 (hak) (by decide)) [] rfl (by decide) [] (fun _ => rfl) rfl rfl ⟨Nat.le_of_ble_eq_true rfl, Nat.le_of_ble_eq_true rfl⟩ rfl hl.1 (Nat.le_of_ble_eq_true rfl) ⟨Nat.le_refl _, Nat.le_refl _⟩ dL_trials_289 ?_
                            clear hB
                            try clear locs
                            try clear H
                            intro r123 u123 H locs hp hB
                            obtain rfl : r123 = (zways.getD (4 * (aN (L9 k7)) + 2) 0) := hp
                            replace hB : zB D A s ([(q101, .inl (ka 0, 4, .inl G9)), (q102, .inl (ka 0, 4, .inl L9))] ++ OW ka bd na (L, mo, an, pl, ho, le, sz9, re9, kp8, st9, N_120, j_120)) H locs := hB
                            refine lv_imul hx hb dL_trials_292 ?_
                            refine lv_i2l (v := ((G9 k7) * (zways.getD (4 * (aN (L9 k7)) + 2) 0)).toInt64) hx hb dL_trials_293 rfl ?_
                            refine lv_aload_n hx hb dL_trials_294 rfl (lv_at hl 2 rfl) ?_
                            refine lv_iload hx hb dL_trials_295 (lv_at hl 0 rfl) ?_
                            refine ziald hF hB 0 rfl k7 (rfl) (by omega) (by decide) (v := (G9 k7)) (rfl) dL_trials_297 ?_
                            refine lv_aload hx hb dL_trials_298 (lv_at hl 1 rfl) ?_
                            refine lv_iload hx hb dL_trials_300 (lv_at hl 0 rfl) ?_
                            refine ziald hF hB 1 rfl k7 (rfl) (by omega) (by decide) (v := nI (aN (L9 k7))) ((stK_l hst9 hk4).1) dL_trials_302 ?_
                            refine lv_iconst (v := 3) hx hb dL_trials_303 (by decide) ?_
                            refine zSi16 zm_L_52 hF hB (c_L_way l D ka kb (aN (L9 k7)) 3 (hak) (by decide)) [] rfl (by decide) [] (fun _ => rfl) rfl rfl ⟨Nat.le_of_ble_eq_true rfl, Nat.le_of_ble_eq_true rfl⟩ rfl hl.1 (Nat.le_of_ble_eq_true rfl) ⟨Nat.le_refl _, Nat.le_refl _⟩ dL_trials_304 ?_
                            clear hB
                            try clear locs
                            try clear H
                            intro r124 u124 H locs hp hB
                            obtain rfl : r124 = (zways.getD (4 * (aN (L9 k7)) + 3) 0) := hp
                            replace hB : zB D A s ([(q101, .inl (ka 0, 4, .inl G9)), (q102, .inl (ka 0, 4, .inl L9))] ++ OW ka bd na (L, mo, an, pl, ho, le, sz9, re9, kp8, st9, N_120, j_120)) H locs := hB
                            refine lv_imul hx hb dL_trials_307 ?_
                            refine lv_i2l (v := ((G9 k7) * (zways.getD (4 * (aN (L9 k7)) + 3) 0)).toInt64) hx hb dL_trials_308 rfl ?_
                            refine zldc2 (v := (2 : Int64)) ww_11_19 hF dL_trials_309 ?_
                            refine zWs9 zm_L_57 hF hB (c_L_is l D ka kb bd na L mo an pl ho le sz9 re9 kp8 st9 N_120 j_120 0 (((G9 k7) * (zways.getD (4 * (aN (L9 k7)) + 0) 0)).toInt64) (((G9 k7) * (zways.getD (4 * (aN (L9 k7)) + 1) 0)).toInt64) (((G9 k7) * (zways.getD (4 * (aN (L9 k7)) + 2) 0)).toInt64) (((G9 k7) * (zways.getD (4 * (aN (L9 k7)) + 3) 0)).toInt64) (2 : Int64) (by decide) (by have := (gw_1 hgk hak (w := 0) (by decide)).2; omega) (by have := (gw_1 hgk hak (w := 1) (by decide)).2; omega) (by have := (gw_1 hgk hak (w := 2) (by decide)).2; omega) (by have := (gw_1 hgk hak (w := 3) (by decide)).2; omega) (by decide) (by decide) (n240.trans (gw_N hgk hak))) rfl ⟨Nat.le_of_ble_eq_true rfl, Nat.le_of_ble_eq_true rfl⟩ rfl hl.1 (Nat.le_of_ble_eq_true rfl) ⟨Nat.le_of_ble_eq_true rfl, Nat.le_of_ble_eq_true rfl⟩ dL_trials_312 ?_
                            clear hB
                            try clear locs
                            try clear H
                            intro r125 u125 H locs hp hB
                            obtain rfl : r125 = (1 : Int32) := hp
                            replace hB : zB D A s ([(q101, .inl (ka 0, 4, .inl G9)), (q102, .inl (ka 0, 4, .inl L9))] ++ OW ka bd na (L, mo, an, pl, ho, le, sz9, re9, kp8, st9, N_120, j_120)) H locs := hB
                            refine lv_if_ne (tgt := 320) hx hb dL_trials_315 (by decide) (fun h315 => ?_) (fun h315 => ?_)
                            · skip
                              refine lv_iinc (v := nI (k7 + 1)) (lv' := [(5, .int (nI (k7 + 1))), (4, .ref q102), (3, .ref q101), (2, .int (nI at9)), (1, .ref (kb 1)), (0, .ref (bd 31))]) hx hb dL_trials_320 hl (k := 0) rfl (nI_1 _) (by decide) rfl ?_
                              clear hl
                              clear ls
                              intro ls hl
                              refine lv_goto (tgt := 224) hx hb dL_trials_323 (by decide) ?_
                              exact ih224 (k7 + 1) N_120 j_120 (by omega) (fun i h1 h2 => (hN120 i h2 (by omega)).trans ((if_neg (fun e => by have := e.2; omega)).trans (hN7 i h1 h2))) (hb120) (by omega) _ _ (hB) _ (lv_sub hl [0, 1, 2, 3, 4, 5] rfl)
                            · skip
                              exact absurd h315 (by decide)
                    exact lp224 (4 - 0 + 1) 0 N8 j8 (by decide) (fun _ _ _ => rfl) (hb8) (by omega) _ _ (hB) _ (lv_sub hl [0, 1, 2, 3, 4, 5] rfl)
                  · skip
                    have hk3 : k8 < 3 := by have := mt (nI_leI (a := 3) (b := k8) (by decide) (by omega)).mpr h166; omega
                    refine lv_aload_n hx hb dL_trials_169 rfl (lv_at hl 4 rfl) ?_
                    refine lv_iload_n hx hb dL_trials_170 rfl (lv_at hl 3 rfl) ?_
                    refine lv_iconst (v := 3) hx hb dL_trials_171 (by decide) ?_
                    refine lv_iadd hx hb dL_trials_172 ?_
                    refine ztopi (y := nI (at9 + 3)) (nI_add at9 3) ?_
                    refine lv_iload hx hb dL_trials_173 (lv_at hl 0 rfl) ?_
                    refine lv_iadd hx hb dL_trials_175 ?_
                    refine ztopi (y := nI ((at9 + 3) + k8)) (nI_add (at9 + 3) k8) ?_
                    refine zSi zm_L_26 hF hB (c_L_cell l D ka kb ((at9 + 3) + k8) (hL) (by omega)) [] rfl (by decide) [] (fun _ => rfl) rfl rfl ⟨Nat.le_of_ble_eq_true rfl, Nat.le_of_ble_eq_true rfl⟩ rfl hl.1 (Nat.le_of_ble_eq_true rfl) ⟨Nat.le_refl _, Nat.le_refl _⟩ dL_trials_176 ?_
                    clear hB
                    try clear locs
                    try clear H
                    intro r126 u126 H locs hp hB
                    obtain ⟨u9126, rfl⟩ : ∃ z, z = u126 := ⟨_, rfl⟩
                    have hp126 : True := hp
                    have HPP := hp126
                    replace hB : zB D A s ([(q101, .inl (ka 0, 4, .inl G9)), (q102, .inl (ka 0, 4, .inl L9))] ++ OW ka bd na (L, mo, an, pl, ho, le, sz9, re9, kp8, st9, N8, j8)) H locs := hB
                    refine lv_istore (lv' := [(6, .int r126), (5, .int (nI k8)), (4, .ref q102), (3, .ref q101), (2, .int (nI at9)), (1, .ref (kb 1)), (0, .ref (bd 31))]) hx hb dL_trials_179 hl (by decide) rfl ?_
                    clear hl
                    clear ls
                    intro ls hl
                    refine lv_aload_n hx hb dL_trials_181 rfl (lv_at hl 6 rfl) ?_
                    refine lv_iload hx hb dL_trials_182 (lv_at hl 1 rfl) ?_
                    refine lv_iconst (v := 1) hx hb dL_trials_184 (by decide) ?_
                    refine lv_iload hx hb dL_trials_185 (lv_at hl 0 rfl) ?_
                    refine lv_bipush (v := 99) hx hb dL_trials_187 (by decide) ?_
                    refine zSi zm_L_30 hF hB (c_L_up l D ka kb r126 99 (by decide) (by decide)) [] rfl (by decide) [] (fun _ => rfl) rfl rfl ⟨Nat.le_of_ble_eq_true rfl, Nat.le_of_ble_eq_true rfl⟩ rfl hl.1 (Nat.le_of_ble_eq_true rfl) ⟨Nat.le_refl _, Nat.le_refl _⟩ dL_trials_189 ?_
                    clear hB
                    try clear locs
                    try clear H
                    intro r127 u127 H locs hp hB
                    obtain ⟨u9127, rfl⟩ : ∃ z, z = u127 := ⟨_, rfl⟩
                    have hp127 : ∃ k9, k9 < 99 ∧ r127 = nI k9 := hp
                    have HPP := hp127
                    have up189 := HPP
                    replace hB : zB D A s ([(q101, .inl (ka 0, 4, .inl G9)), (q102, .inl (ka 0, 4, .inl L9))] ++ OW ka bd na (L, mo, an, pl, ho, le, sz9, re9, kp8, st9, N8, j8)) H locs := hB
                    refine lv_iadd hx hb dL_trials_192 ?_
                    refine lv_iload hx hb dL_trials_193 (lv_at hl 0 rfl) ?_
                    refine lv_bipush (v := 7) hx hb dL_trials_195 (by decide) ?_
                    refine lv_ishr hx hb dL_trials_197 ?_
                    refine lv_bipush (v := 12) hx hb dL_trials_198 (by decide) ?_
                    refine zSi zm_L_30 hF hB (c_L_up l D ka kb (r126 >>> ((7 : Int32) &&& 31)) 12 (by decide) (by decide)) [] rfl (by decide) [] (fun _ => rfl) rfl rfl ⟨Nat.le_of_ble_eq_true rfl, Nat.le_of_ble_eq_true rfl⟩ rfl hl.1 (Nat.le_of_ble_eq_true rfl) ⟨Nat.le_refl _, Nat.le_refl _⟩ dL_trials_200 ?_
                    clear hB
                    try clear locs
                    try clear H
                    intro r128 u128 H locs hp hB
                    obtain ⟨u9128, rfl⟩ : ∃ z, z = u128 := ⟨_, rfl⟩
                    have hp128 : ∃ k9, k9 < 12 ∧ r128 = nI k9 := hp
                    have HPP := hp128
                    replace hB : zB D A s ([(q101, .inl (ka 0, 4, .inl G9)), (q102, .inl (ka 0, 4, .inl L9))] ++ OW ka bd na (L, mo, an, pl, ho, le, sz9, re9, kp8, st9, N8, j8)) H locs := hB
                    obtain ⟨a9, ha9, rfl⟩ := HPP
                    have q189 : ((1 : Int32) + r127).toInt = 1 + _ := i_upa up189 (by decide)
                    have w189 := i_up up189 (by decide)
                    refine zWi zm_L_45 hF hB (w_trial l D ka kb bd na L mo an pl ho le sz9 re9 kp8 st9 N8 j8 G9 L9 k8 ((1 : Int32) + r127) a9 (by first | assumption | omega | decide) (by first | assumption | omega | decide) (fun i hi => (hst9.1 i hi).2.2) (fun i hi => (hst9.1 i hi).1) (fun i hi => (hst9.1 i hi).2.1) (hk3) (ha9) (Or.inr (by omega)) (hb8)) rfl ⟨Nat.le_of_ble_eq_true rfl, Nat.le_of_ble_eq_true rfl⟩ rfl hl.1 (Nat.le_of_ble_eq_true rfl) ⟨Nat.le_of_ble_eq_true rfl, Nat.le_of_ble_eq_true rfl⟩ dL_trials_203 ?_
                    clear hB
                    try clear locs
                    try clear H
                    intro r129 u129 H locs hp hB
                    obtain ⟨N_129, j_129⟩ := u129
                    have hp129 : r129 = ktS (ktB kp8 k8) 3 ∧ (∀ k9, k9 ≠ 21 → k9 ≠ 22 → k9 ≠ 8 + (2 * k8 + 0) → k9 ≠ 8 + (2 * k8 + 1) → (k9 = 14 + k8 → k8 = 0) → N_129 k9 = N8 k9) ∧ (∀ b, b < 2 → N_129 (8 + (2 * k8 + b)) = rdT (nI k8) ((1 : Int32) + r127) (nI a9) L mo an pl ho G9 L9 b) ∧ (k8 ≠ 0 → N_129 (14 + k8) = wyN ((1 : Int32) + r127).toInt a9) ∧ bB (jbb j_129) := hp
                    have hr129 := hp129.1
                    have hN129 := hp129.2.1
                    have hR129 := hp129.2.2.1
                    have hw129 := hp129.2.2.2.1
                    have hb129 := hp129.2.2.2.2
                    have q203 := ktB_k (kp := kp8) (k := k8) hk3 hkp8
                    have hz203 : r129 = nI (k8 + 1) := hr129.trans q203.1
                    have t203 := trK9_s ht8 ⟨hk8.1, hk3⟩ (m := ((1 : Int32) + r127)) (by omega) ha9 hN129 hR129 hw129
                    replace hB : zB D A s ([(q101, .inl (ka 0, 4, .inl G9)), (q102, .inl (ka 0, 4, .inl L9))] ++ OW ka bd na (L, mo, an, pl, ho, le, sz9, re9, ktB kp8 k8, st9, N_129, j_129)) H locs := hB
                    refine lv_iload hx hb dL_trials_206 (lv_at hl 1 rfl) ?_
                    refine lv_iconst (v := 1) hx hb dL_trials_208 (by decide) ?_
                    refine lv_iadd hx hb dL_trials_209 ?_
                    refine ztopi (y := nI (k8 + 1)) (nI_add k8 1) ?_
                    refine lv_icmp_eq (tgt := 215) hx hb dL_trials_210 (by decide) (fun h210 => ?_) (fun h210 => ?_)
                    · skip
                      refine lv_iinc (v := nI (k8 + 1)) (lv' := [(5, .int (nI (k8 + 1))), (6, .int r126), (4, .ref q102), (3, .ref q101), (2, .int (nI at9)), (1, .ref (kb 1)), (0, .ref (bd 31))]) hx hb dL_trials_215 hl (k := 1) rfl (nI_1 _) (by decide) rfl ?_
                      clear hl
                      clear ls
                      intro ls hl
                      refine lv_goto (tgt := 163) hx hb dL_trials_218 (by decide) ?_
                      exact ih163 (k8 + 1) (ktB kp8 k8) N_129 j_129 (upd pm8 k8 ((1 : Int32) + r127)) (upd pa8 k8 (nI a9)) (by omega) (q203.2) (t203) (hb129) (by omega) _ _ (hB) _ (lv_sub hl [0, 2, 3, 4, 5, 6] rfl)
                    · skip
                      exact absurd hz203 h210
              exact lp163 (3 - 1 + 1) 1 (ktB kp9 0) N_105 j_105 (fun _ => 0) (fun _ => 0) (by decide) (q139.2) (t150) (hb105) (by omega) _ _ (hB) _ (lv_sub hl [0, 1, 2, 3, 4, 5] rfl)
            · skip
              exact absurd hz150 h155
      · skip
        have hk4 : k9 < 4 := by have := mt (nI_leI (a := 4) (b := k9) (by decide) (by omega)).mpr h15; omega
        refine lv_aload_n hx hb dL_trials_18 rfl (lv_at hl 4 rfl) ?_
        refine lv_iload_n hx hb dL_trials_19 rfl (lv_at hl 3 rfl) ?_
        refine lv_iload hx hb dL_trials_20 (lv_at hl 0 rfl) ?_
        refine lv_iadd hx hb dL_trials_22 ?_
        refine ztopi (y := nI (at9 + k9)) (nI_add at9 k9) ?_
        refine zSi zm_L_26 hF hB (c_L_cell l D ka kb (at9 + k9) (hL) (by omega)) [] rfl (by decide) [] (fun _ => rfl) rfl rfl ⟨Nat.le_of_ble_eq_true rfl, Nat.le_of_ble_eq_true rfl⟩ rfl hl.1 (Nat.le_of_ble_eq_true rfl) ⟨Nat.le_refl _, Nat.le_refl _⟩ dL_trials_23 ?_
        clear hB
        try clear locs
        try clear H
        intro r130 u130 H locs hp hB
        obtain ⟨u9130, rfl⟩ : ∃ z, z = u130 := ⟨_, rfl⟩
        have hp130 : True := hp
        have HPP := hp130
        replace hB : zB D A s ([(q101, .inl (ka 0, 4, .inl G9)), (q102, .inl (ka 0, 4, .inl L9))] ++ OW ka bd na (L, mo, an, pl, ho, le, sz9, re9, kp9, st9, N9, j9)) H locs := hB
        refine lv_istore (lv' := [(6, .int r130), (5, .int (nI k9)), (4, .ref q102), (3, .ref q101), (2, .int (nI at9)), (1, .ref (kb 1)), (0, .ref (bd 31))]) hx hb dL_trials_26 hl (by decide) rfl ?_
        clear hl
        clear ls
        intro ls hl
        refine lv_aload_n hx hb dL_trials_28 rfl (lv_at hl 3 rfl) ?_
        refine lv_iload hx hb dL_trials_29 (lv_at hl 1 rfl) ?_
        refine lv_iload hx hb dL_trials_31 (lv_at hl 0 rfl) ?_
        refine lv_bipush (v := 10) hx hb dL_trials_33 (by decide) ?_
        refine zSi zm_L_30 hF hB (c_L_up l D ka kb r130 10 (by decide) (by decide)) [] rfl (by decide) [] (fun _ => rfl) rfl rfl ⟨Nat.le_of_ble_eq_true rfl, Nat.le_of_ble_eq_true rfl⟩ rfl hl.1 (Nat.le_of_ble_eq_true rfl) ⟨Nat.le_refl _, Nat.le_refl _⟩ dL_trials_35 ?_
        clear hB
        try clear locs
        try clear H
        intro r131 u131 H locs hp hB
        obtain ⟨u9131, rfl⟩ : ∃ z, z = u131 := ⟨_, rfl⟩
        have hp131 : ∃ k9, k9 < 10 ∧ r131 = nI k9 := hp
        have HPP := hp131
        have up35 := HPP
        replace hB : zB D A s ([(q101, .inl (ka 0, 4, .inl G9)), (q102, .inl (ka 0, 4, .inl L9))] ++ OW ka bd na (L, mo, an, pl, ho, le, sz9, re9, kp9, st9, N9, j9)) H locs := hB
        refine ziast hF hB 0 rfl k9 (rfl) (by omega) (by decide) dL_trials_38 ?_
        clear hB
        try clear locs
        try clear H
        intro H locs hB
        replace hB : zB D A s ([(q101, .inl (ka 0, 4, .inl (upd G9 k9 r131))), (q102, .inl (ka 0, 4, .inl L9))] ++ OW ka bd na (L, mo, an, pl, ho, le, sz9, re9, kp9, st9, N9, j9)) H locs := hB
        refine lv_aload hx hb dL_trials_39 (lv_at hl 2 rfl) ?_
        refine lv_iload hx hb dL_trials_41 (lv_at hl 1 rfl) ?_
        refine lv_iload hx hb dL_trials_43 (lv_at hl 0 rfl) ?_
        refine lv_iconst (v := 4) hx hb dL_trials_45 (by decide) ?_
        refine lv_ishr hx hb dL_trials_46 ?_
        refine lv_iconst (v := 3) hx hb dL_trials_47 (by decide) ?_
        refine lv_iand hx hb dL_trials_48 ?_
        refine lv_if_ne (tgt := 56) hx hb dL_trials_49 (by decide) (fun h49 => ?_) (fun h49 => ?_)
        · skip
          refine lv_iload hx hb dL_trials_56 (lv_at hl 0 rfl) ?_
          refine lv_bipush (v := 6) hx hb dL_trials_58 (by decide) ?_
          refine lv_ishr hx hb dL_trials_60 ?_
          refine lv_bipush (v := 12) hx hb dL_trials_61 (by decide) ?_
          refine zSi zm_L_30 hF hB (c_L_up l D ka kb (r130 >>> ((6 : Int32) &&& 31)) 12 (by decide) (by decide)) [] rfl (by decide) [] (fun _ => rfl) rfl rfl ⟨Nat.le_of_ble_eq_true rfl, Nat.le_of_ble_eq_true rfl⟩ rfl hl.1 (Nat.le_of_ble_eq_true rfl) ⟨Nat.le_refl _, Nat.le_refl _⟩ dL_trials_63 ?_
          clear hB
          try clear locs
          try clear H
          intro r132 u132 H locs hp hB
          obtain ⟨u9132, rfl⟩ : ∃ z, z = u132 := ⟨_, rfl⟩
          have hp132 : ∃ k9, k9 < 12 ∧ r132 = nI k9 := hp
          have HPP := hp132
          have up63 := HPP
          replace hB : zB D A s ([(q101, .inl (ka 0, 4, .inl (upd G9 k9 r131))), (q102, .inl (ka 0, 4, .inl L9))] ++ OW ka bd na (L, mo, an, pl, ho, le, sz9, re9, kp9, st9, N9, j9)) H locs := hB
          refine ziast hF hB 1 rfl k9 (rfl) (by omega) (by decide) dL_trials_66 ?_
          clear hB
          try clear locs
          try clear H
          intro H locs hB
          replace hB : zB D A s ([(q101, .inl (ka 0, 4, .inl (upd G9 k9 r131))), (q102, .inl (ka 0, 4, .inl (upd L9 k9 r132)))] ++ OW ka bd na (L, mo, an, pl, ho, le, sz9, re9, kp9, st9, N9, j9)) H locs := hB
          refine lv_aload_n hx hb dL_trials_67 rfl (lv_at hl 6 rfl) ?_
          refine lv_iload hx hb dL_trials_68 (lv_at hl 1 rfl) ?_
          refine lv_iconst (v := 2) hx hb dL_trials_70 (by decide) ?_
          refine lv_idiv hx hb dL_trials_71 (by decide) ?_
          refine ztopi (y := nI (k9 / 2)) (n4_d k9 hk4) ?_
          refine lv_iload hx hb dL_trials_72 (lv_at hl 1 rfl) ?_
          refine lv_iconst (v := 2) hx hb dL_trials_74 (by decide) ?_
          refine lv_irem hx hb dL_trials_75 (by decide) ?_
          refine ztopi (y := nI (k9 % 2)) (n4_m k9 hk4) ?_
          refine lv_iconst (v := 0) hx hb dL_trials_76 (by decide) ?_
          refine lv_aload_n hx hb dL_trials_77 rfl (lv_at hl 3 rfl) ?_
          refine lv_iload hx hb dL_trials_78 (lv_at hl 1 rfl) ?_
          refine ziald hF hB 0 rfl k9 (rfl) (by omega) (by decide) (v := r131) (upd_eq _ _ _) dL_trials_80 ?_
          refine zWi zm_L_34 hF hB (w_bearing l D ka kb bd na L mo an pl ho le sz9 re9 kp9 st9 N9 j9 (k9 / 2) (k9 % 2) 0 r131 (by first | assumption | omega | decide) (by first | assumption | omega | decide) (by first | assumption | omega | decide) (Or.inl (by have := i_up up35 (by decide); omega))) rfl ⟨Nat.le_of_ble_eq_true rfl, Nat.le_of_ble_eq_true rfl⟩ rfl hl.1 (Nat.le_of_ble_eq_true rfl) ⟨Nat.le_of_ble_eq_true rfl, Nat.le_of_ble_eq_true rfl⟩ dL_trials_81 ?_
          clear hB
          try clear locs
          try clear H
          intro r133 u133 H locs hp hB
          obtain rfl : r133 = st9 (2 * (2 * (k9 / 2) + (k9 % 2)) + 0) := hp
          replace hB : zB D A s ([(q101, .inl (ka 0, 4, .inl (upd G9 k9 r131))), (q102, .inl (ka 0, 4, .inl (upd L9 k9 r132)))] ++ OW ka bd na (L, mo, an, pl, ho, le, sz9, re9, fgB kp9 3, upd st9 (2 * (2 * (k9 / 2) + (k9 % 2)) + 0) r131, N9, j9)) H locs := hB
          refine lv_if_lt (tgt := 116) hx hb dL_trials_84 (by decide) (fun h84 => ?_) (fun h84 => ?_)
          · skip
            exact absurd ((i32_lt_i _ _).mp h84) (by rw [show (0 : Int32).toInt = 0 from rfl]; have := hst9.2 (2 * (2 * (k9 / 2) + k9 % 2) + 0) (by omega); omega)
          · skip
            refine lv_aload_n hx hb dL_trials_87 rfl (lv_at hl 6 rfl) ?_
            refine lv_iload hx hb dL_trials_88 (lv_at hl 1 rfl) ?_
            refine lv_iconst (v := 2) hx hb dL_trials_90 (by decide) ?_
            refine lv_idiv hx hb dL_trials_91 (by decide) ?_
            refine ztopi (y := nI (k9 / 2)) (n4_d k9 hk4) ?_
            refine lv_iload hx hb dL_trials_92 (lv_at hl 1 rfl) ?_
            refine lv_iconst (v := 2) hx hb dL_trials_94 (by decide) ?_
            refine lv_irem hx hb dL_trials_95 (by decide) ?_
            refine ztopi (y := nI (k9 % 2)) (n4_m k9 hk4) ?_
            refine lv_iconst (v := 1) hx hb dL_trials_96 (by decide) ?_
            refine lv_aload hx hb dL_trials_97 (lv_at hl 2 rfl) ?_
            refine lv_iload hx hb dL_trials_99 (lv_at hl 1 rfl) ?_
            refine ziald hF hB 1 rfl k9 (rfl) (by omega) (by decide) (v := r132) (upd_eq _ _ _) dL_trials_101 ?_
            refine zWi zm_L_34 hF hB (w_bearing l D ka kb bd na L mo an pl ho le sz9 re9 (fgB kp9 3) (upd st9 (2 * (2 * (k9 / 2) + (k9 % 2)) + 0) r131) N9 j9 (k9 / 2) (k9 % 2) 1 r132 (by first | assumption | omega | decide) (by first | assumption | omega | decide) (by first | assumption | omega | decide) (Or.inr (by have := i_up up63 (by decide); omega))) rfl ⟨Nat.le_of_ble_eq_true rfl, Nat.le_of_ble_eq_true rfl⟩ rfl hl.1 (Nat.le_of_ble_eq_true rfl) ⟨Nat.le_of_ble_eq_true rfl, Nat.le_of_ble_eq_true rfl⟩ dL_trials_102 ?_
            clear hB
            try clear locs
            try clear H
            intro r134 u134 H locs hp hB
            obtain rfl : r134 = (upd st9 (2 * (2 * (k9 / 2) + (k9 % 2)) + 0) r131) (2 * (2 * (k9 / 2) + (k9 % 2)) + 1) := hp
            replace hB : zB D A s ([(q101, .inl (ka 0, 4, .inl (upd G9 k9 r131))), (q102, .inl (ka 0, 4, .inl (upd L9 k9 r132)))] ++ OW ka bd na (L, mo, an, pl, ho, le, sz9, re9, fgB (fgB kp9 3) 3, upd (upd st9 (2 * (2 * (k9 / 2) + (k9 % 2)) + 0) r131) (2 * (2 * (k9 / 2) + (k9 % 2)) + 1) r132, N9, j9)) H locs := hB
            refine lv_if_lt (tgt := 116) hx hb dL_trials_105 (by decide) (fun h105 => ?_) (fun h105 => ?_)
            · skip
              exact absurd ((i32_lt_i _ _).mp h105) (by rw [show (0 : Int32).toInt = 0 from rfl, upd_ne _ _ _ (by omega)]; have := hst9.2 (2 * (2 * (k9 / 2) + k9 % 2) + 1) (by omega); omega)
            · skip
              refine lv_aload_n hx hb dL_trials_108 rfl (lv_at hl 6 rfl) ?_
              refine lv_iconst (v := 3) hx hb dL_trials_109 (by decide) ?_
              refine zWi zm_L_38 hF hB (w_count l D ka kb bd na L mo an pl ho le sz9 re9 (fgB (fgB kp9 3) 3) (upd (upd st9 (2 * (2 * (k9 / 2) + (k9 % 2)) + 0) r131) (2 * (2 * (k9 / 2) + (k9 % 2)) + 1) r132) N9 j9 3 (by first | assumption | omega | decide) (by first | assumption | omega | decide) (by first | assumption | omega | decide) (by decide) (hb9)) rfl ⟨Nat.le_of_ble_eq_true rfl, Nat.le_of_ble_eq_true rfl⟩ rfl hl.1 (Nat.le_of_ble_eq_true rfl) ⟨Nat.le_of_ble_eq_true rfl, Nat.le_of_ble_eq_true rfl⟩ dL_trials_110 ?_
              clear hB
              try clear locs
              try clear H
              intro r135 u135 H locs hp hB
              obtain ⟨N_135, j_135⟩ := u135
              have hp135 : r135 = ctK j9.2.1 sz9 re9 L mo an pl ho (fgB (fgB kp9 3) 3) 3 ∧ (∀ k9, k9 ≠ 34 → N_135 k9 = N9 k9) ∧ bB (jbb j_135) := hp
              have hr135 := hp135.1
              have hN135 := hp135.2.1
              have hb135 := hp135.2.2
              have hz110 : r135 = 0 := hr135.trans (ktS_fg _)
              replace hB : zB D A s ([(q101, .inl (ka 0, 4, .inl (upd G9 k9 r131))), (q102, .inl (ka 0, 4, .inl (upd L9 k9 r132)))] ++ OW ka bd na (L, mo, an, pl, ho, le, sz9, re9, (fgB (fgB kp9 3) 3), (upd (upd st9 (2 * (2 * (k9 / 2) + (k9 % 2)) + 0) r131) (2 * (2 * (k9 / 2) + (k9 % 2)) + 1) r132), N_135, j_135)) H locs := hB
              refine lv_if_eq (tgt := 118) hx hb dL_trials_113 (by decide) (fun h113 => ?_) (fun h113 => ?_)
              · skip
                refine lv_iinc (v := nI (k9 + 1)) (lv' := [(5, .int (nI (k9 + 1))), (6, .int r130), (4, .ref q102), (3, .ref q101), (2, .int (nI at9)), (1, .ref (kb 1)), (0, .ref (bd 31))]) hx hb dL_trials_118 hl (k := 1) rfl (nI_1 _) (by decide) rfl ?_
                clear hl
                clear ls
                intro ls hl
                refine lv_goto (tgt := 12) hx hb dL_trials_121 (by decide) ?_
                exact ih12 (k9 + 1) (upd G9 k9 r131) (upd L9 k9 r132) (fgB (fgB kp9 3) 3) (upd (upd st9 (2 * (2 * (k9 / 2) + (k9 % 2)) + 0) r131) (2 * (2 * (k9 / 2) + (k9 % 2)) + 1) r132) N_135 j_135 (by omega) (stK_s hst9 (by have := i_up up35 (by decide); omega) up63) (fun _ => fg_all _) (hb135) (fun i hi => (hN135 i hi).trans (hNp i hi)) (by omega) _ _ (hB) _ (lv_sub hl [0, 2, 3, 4, 5, 6] rfl)
              · skip
                exact absurd hz110 h113
        · skip
          refine lv_iconst (v := 0) hx hb dL_trials_52 (by decide) ?_
          refine lv_goto (tgt := 66) hx hb dL_trials_53 (by decide) ?_
          refine ziast hF hB 1 rfl k9 (rfl) (by omega) (by decide) dL_trials_66 ?_
          clear hB
          try clear locs
          try clear H
          intro H locs hB
          replace hB : zB D A s ([(q101, .inl (ka 0, 4, .inl (upd G9 k9 r131))), (q102, .inl (ka 0, 4, .inl (upd L9 k9 (0 : Int32))))] ++ OW ka bd na (L, mo, an, pl, ho, le, sz9, re9, kp9, st9, N9, j9)) H locs := hB
          refine lv_aload_n hx hb dL_trials_67 rfl (lv_at hl 6 rfl) ?_
          refine lv_iload hx hb dL_trials_68 (lv_at hl 1 rfl) ?_
          refine lv_iconst (v := 2) hx hb dL_trials_70 (by decide) ?_
          refine lv_idiv hx hb dL_trials_71 (by decide) ?_
          refine ztopi (y := nI (k9 / 2)) (n4_d k9 hk4) ?_
          refine lv_iload hx hb dL_trials_72 (lv_at hl 1 rfl) ?_
          refine lv_iconst (v := 2) hx hb dL_trials_74 (by decide) ?_
          refine lv_irem hx hb dL_trials_75 (by decide) ?_
          refine ztopi (y := nI (k9 % 2)) (n4_m k9 hk4) ?_
          refine lv_iconst (v := 0) hx hb dL_trials_76 (by decide) ?_
          refine lv_aload_n hx hb dL_trials_77 rfl (lv_at hl 3 rfl) ?_
          refine lv_iload hx hb dL_trials_78 (lv_at hl 1 rfl) ?_
          refine ziald hF hB 0 rfl k9 (rfl) (by omega) (by decide) (v := r131) (upd_eq _ _ _) dL_trials_80 ?_
          refine zWi zm_L_34 hF hB (w_bearing l D ka kb bd na L mo an pl ho le sz9 re9 kp9 st9 N9 j9 (k9 / 2) (k9 % 2) 0 r131 (by first | assumption | omega | decide) (by first | assumption | omega | decide) (by first | assumption | omega | decide) (Or.inl (by have := i_up up35 (by decide); omega))) rfl ⟨Nat.le_of_ble_eq_true rfl, Nat.le_of_ble_eq_true rfl⟩ rfl hl.1 (Nat.le_of_ble_eq_true rfl) ⟨Nat.le_of_ble_eq_true rfl, Nat.le_of_ble_eq_true rfl⟩ dL_trials_81 ?_
          clear hB
          try clear locs
          try clear H
          intro r136 u136 H locs hp hB
          obtain rfl : r136 = st9 (2 * (2 * (k9 / 2) + (k9 % 2)) + 0) := hp
          replace hB : zB D A s ([(q101, .inl (ka 0, 4, .inl (upd G9 k9 r131))), (q102, .inl (ka 0, 4, .inl (upd L9 k9 (0 : Int32))))] ++ OW ka bd na (L, mo, an, pl, ho, le, sz9, re9, fgB kp9 3, upd st9 (2 * (2 * (k9 / 2) + (k9 % 2)) + 0) r131, N9, j9)) H locs := hB
          refine lv_if_lt (tgt := 116) hx hb dL_trials_84 (by decide) (fun h84 => ?_) (fun h84 => ?_)
          · skip
            exact absurd ((i32_lt_i _ _).mp h84) (by rw [show (0 : Int32).toInt = 0 from rfl]; have := hst9.2 (2 * (2 * (k9 / 2) + k9 % 2) + 0) (by omega); omega)
          · skip
            refine lv_aload_n hx hb dL_trials_87 rfl (lv_at hl 6 rfl) ?_
            refine lv_iload hx hb dL_trials_88 (lv_at hl 1 rfl) ?_
            refine lv_iconst (v := 2) hx hb dL_trials_90 (by decide) ?_
            refine lv_idiv hx hb dL_trials_91 (by decide) ?_
            refine ztopi (y := nI (k9 / 2)) (n4_d k9 hk4) ?_
            refine lv_iload hx hb dL_trials_92 (lv_at hl 1 rfl) ?_
            refine lv_iconst (v := 2) hx hb dL_trials_94 (by decide) ?_
            refine lv_irem hx hb dL_trials_95 (by decide) ?_
            refine ztopi (y := nI (k9 % 2)) (n4_m k9 hk4) ?_
            refine lv_iconst (v := 1) hx hb dL_trials_96 (by decide) ?_
            refine lv_aload hx hb dL_trials_97 (lv_at hl 2 rfl) ?_
            refine lv_iload hx hb dL_trials_99 (lv_at hl 1 rfl) ?_
            refine ziald hF hB 1 rfl k9 (rfl) (by omega) (by decide) (v := (0 : Int32)) (upd_eq _ _ _) dL_trials_101 ?_
            refine zWi zm_L_34 hF hB (w_bearing l D ka kb bd na L mo an pl ho le sz9 re9 (fgB kp9 3) (upd st9 (2 * (2 * (k9 / 2) + (k9 % 2)) + 0) r131) N9 j9 (k9 / 2) (k9 % 2) 1 (0 : Int32) (by first | assumption | omega | decide) (by first | assumption | omega | decide) (by first | assumption | omega | decide) (Or.inl (by decide))) rfl ⟨Nat.le_of_ble_eq_true rfl, Nat.le_of_ble_eq_true rfl⟩ rfl hl.1 (Nat.le_of_ble_eq_true rfl) ⟨Nat.le_of_ble_eq_true rfl, Nat.le_of_ble_eq_true rfl⟩ dL_trials_102 ?_
            clear hB
            try clear locs
            try clear H
            intro r137 u137 H locs hp hB
            obtain rfl : r137 = (upd st9 (2 * (2 * (k9 / 2) + (k9 % 2)) + 0) r131) (2 * (2 * (k9 / 2) + (k9 % 2)) + 1) := hp
            replace hB : zB D A s ([(q101, .inl (ka 0, 4, .inl (upd G9 k9 r131))), (q102, .inl (ka 0, 4, .inl (upd L9 k9 (0 : Int32))))] ++ OW ka bd na (L, mo, an, pl, ho, le, sz9, re9, fgB (fgB kp9 3) 3, upd (upd st9 (2 * (2 * (k9 / 2) + (k9 % 2)) + 0) r131) (2 * (2 * (k9 / 2) + (k9 % 2)) + 1) (0 : Int32), N9, j9)) H locs := hB
            refine lv_if_lt (tgt := 116) hx hb dL_trials_105 (by decide) (fun h105 => ?_) (fun h105 => ?_)
            · skip
              exact absurd ((i32_lt_i _ _).mp h105) (by rw [show (0 : Int32).toInt = 0 from rfl, upd_ne _ _ _ (by omega)]; have := hst9.2 (2 * (2 * (k9 / 2) + k9 % 2) + 1) (by omega); omega)
            · skip
              refine lv_aload_n hx hb dL_trials_108 rfl (lv_at hl 6 rfl) ?_
              refine lv_iconst (v := 3) hx hb dL_trials_109 (by decide) ?_
              refine zWi zm_L_38 hF hB (w_count l D ka kb bd na L mo an pl ho le sz9 re9 (fgB (fgB kp9 3) 3) (upd (upd st9 (2 * (2 * (k9 / 2) + (k9 % 2)) + 0) r131) (2 * (2 * (k9 / 2) + (k9 % 2)) + 1) (0 : Int32)) N9 j9 3 (by first | assumption | omega | decide) (by first | assumption | omega | decide) (by first | assumption | omega | decide) (by decide) (hb9)) rfl ⟨Nat.le_of_ble_eq_true rfl, Nat.le_of_ble_eq_true rfl⟩ rfl hl.1 (Nat.le_of_ble_eq_true rfl) ⟨Nat.le_of_ble_eq_true rfl, Nat.le_of_ble_eq_true rfl⟩ dL_trials_110 ?_
              clear hB
              try clear locs
              try clear H
              intro r138 u138 H locs hp hB
              obtain ⟨N_138, j_138⟩ := u138
              have hp138 : r138 = ctK j9.2.1 sz9 re9 L mo an pl ho (fgB (fgB kp9 3) 3) 3 ∧ (∀ k9, k9 ≠ 34 → N_138 k9 = N9 k9) ∧ bB (jbb j_138) := hp
              have hr138 := hp138.1
              have hN138 := hp138.2.1
              have hb138 := hp138.2.2
              have hz110 : r138 = 0 := hr138.trans (ktS_fg _)
              replace hB : zB D A s ([(q101, .inl (ka 0, 4, .inl (upd G9 k9 r131))), (q102, .inl (ka 0, 4, .inl (upd L9 k9 (0 : Int32))))] ++ OW ka bd na (L, mo, an, pl, ho, le, sz9, re9, (fgB (fgB kp9 3) 3), (upd (upd st9 (2 * (2 * (k9 / 2) + (k9 % 2)) + 0) r131) (2 * (2 * (k9 / 2) + (k9 % 2)) + 1) (0 : Int32)), N_138, j_138)) H locs := hB
              refine lv_if_eq (tgt := 118) hx hb dL_trials_113 (by decide) (fun h113 => ?_) (fun h113 => ?_)
              · skip
                refine lv_iinc (v := nI (k9 + 1)) (lv' := [(5, .int (nI (k9 + 1))), (6, .int r130), (4, .ref q102), (3, .ref q101), (2, .int (nI at9)), (1, .ref (kb 1)), (0, .ref (bd 31))]) hx hb dL_trials_118 hl (k := 1) rfl (nI_1 _) (by decide) rfl ?_
                clear hl
                clear ls
                intro ls hl
                refine lv_goto (tgt := 12) hx hb dL_trials_121 (by decide) ?_
                exact ih12 (k9 + 1) (upd G9 k9 r131) (upd L9 k9 (0 : Int32)) (fgB (fgB kp9 3) 3) (upd (upd st9 (2 * (2 * (k9 / 2) + (k9 % 2)) + 0) r131) (2 * (2 * (k9 / 2) + (k9 % 2)) + 1) (0 : Int32)) N_138 j_138 (by omega) (stK_s hst9 (by have := i_up up35 (by decide); omega) ⟨0, by decide, rfl⟩) (fun _ => fg_all _) (hb138) (fun i hi => (hN138 i hi).trans (hNp i hi)) (by omega) _ _ (hB) _ (lv_sub hl [0, 2, 3, 4, 5, 6] rfl)
              · skip
                exact absurd hz110 h113
  exact lp12 (4 - 0 + 1) 0 (fun _ => 0) (fun _ => 0) kp st N j (by decide) (⟨fun i h => absurd h (Nat.not_lt_zero i), hS0⟩) (fun h => absurd h (by decide)) (hB9) (fun _ _ => rfl) (by omega) _ _ (hB) _ (lv_sub hl [0, 1, 2, 5, 4, 3] rfl)
