theorem nI_s1 {k : Nat} (h : 1 ≤ k) : nI k - 1 = nI (k - 1) := by
  obtain ⟨j, rfl⟩ : ∃ j, k = j + 1 := ⟨k - 1, by omega⟩
  rw [← nI_1, Nat.add_sub_cancel]
  exact Int32.add_sub_cancel _ _
theorem rng99 {k : Nat} (h : k ≤ 99) : 0 ≤ (nI k).toInt ∧ (nI k).toInt ≤ 99 := by rw [nI_toInt (by omega)]; omega
theorem nI_nn {k : Nat} (h : k < 1000) : 0 ≤ (nI k).toInt := by rw [nI_toInt (by omega)]; omega

set_option maxHeartbeats 8000000 in
set_option maxRecDepth 100000 in
theorem lw_S1 (l : Launch) (D : va_G) (ka : Nat → ClassId) (kb : Nat → Nat) (bd na : Nat → Nat) {p : Program} {e : Env} {s : State} {m : MethodId} {args : Array Value} {below : List Frame} {meth : Method} {c : Code} {A : Nat → Prop} {Q : State → Prop} {rt : Option FieldType} (hF : zF p s m args meth c D ka kb A cL_law RL 23 rt) (hL : kb 2 ≤ 260)
    (L : Nat) (mo : Nat → Int32) (an : Nat → Int32) (pl : Nat → Int32) (ho : Nat → Int32) (le : Nat → Int32) (sz9 : Int32) (re9 : Int32) (kp : Nat → Bool) (st : Nat → Int32) (N : Nat → N5) (j : JT)
    (hd6 : ∀ i, i < 6 → 0 < (N i).2.2.2.2.toInt) (hD8 : ∀ i, i < 6 → 0 < (N (8 + i)).2.2.2.2.toInt) (hB9 : bB (jbb j))
    {H : Heap} {locs : List Loc} (hB : zB D A s ([] ++ OW ka bd na (L, mo, an, pl, ho, le, sz9, re9, kp, st, N, j)) H locs)
    (kk : ∀ (N9 : Nat → N5) (j9 : JT), (∀ i, i < 6 → 0 < (N9 (8 + i)).2.2.2.2.toInt) → (bB (jbb j9)) → ∀ (H : Heap) (locs : List Loc), zB D A s ([] ++ OW ka bd na (L, mo, an, pl, ho, le, sz9, re9, kp, st, N9, j9)) H locs → ∀ ls : Array Slot, lv_has ls 23 [(1, .ref (bd 31)), (0, .ref (kb 1))] → W p l e room_1 s m args below meth c H locs 73 537 Q (F0 m 34 ls []))
    {ls : Array Slot} (hl : lv_has ls 23 [(1, .ref (bd 31)), (0, .ref (kb 1))]) : W p l e room_1 s m args below meth c H locs 73 537 Q (F0 m 8 ls []) := by
  have hx : p.tables.exec = Jvm.exec := hF.1.1
  have hb : c.code = cL_law := hF.1.2.1
  refine lv_iconst (v := 0) hx hb dL_law_8 (by decide) ?_
  refine lv_istore_n (lv' := [(2, .int (0 : Int32)), (1, .ref (bd 31)), (0, .ref (kb 1))]) hx hb dL_law_9 rfl hl (by decide) rfl ?_
  clear hl
  clear ls
  intro ls hl
  have lp10 : ∀ (fl : Nat) (k9 : Nat) (N9 : Nat → N5) (j9 : JT), (hk9 : k9 ≤ 3) → (hd9 : ∀ i, i < 6 → 0 < (N9 i).2.2.2.2.toInt) → (h89 : ∀ i, i < 6 → 0 < (N9 (8 + i)).2.2.2.2.toInt) → (hb9 : bB (jbb j9)) → 3 - k9 < fl → ∀ (H : Heap) (locs : List Loc), zB D A s ([] ++ OW ka bd na (L, mo, an, pl, ho, le, sz9, re9, kp, st, N9, j9)) H locs → ∀ ls : Array Slot, lv_has ls 23 [(2, .int (nI k9)), (1, .ref (bd 31)), (0, .ref (kb 1))] → W p l e room_1 s m args below meth c H locs 73 537 Q (F0 m 10 ls []) := by
    intro fl
    induction fl with
    | zero => intro k9 N9 j9 hk9 hd9 h89 hb9 hfl; exact absurd hfl (Nat.not_lt_zero _)
    | succ fl ih10 =>
      intro k9 N9 j9 hk9 hd9 h89 hb9 hfl10 H locs hB ls hl
      refine lv_iload_n hx hb dL_law_10 rfl (lv_at hl 0 rfl) ?_
      refine lv_iconst (v := 3) hx hb dL_law_11 (by decide) ?_
      refine lv_icmp_ge (tgt := 34) hx hb dL_law_12 (by decide) (fun h12 => ?_) (fun h12 => ?_)
      · skip
        exact kk N9 j9 (h89) (hb9) H locs hB ls (lv_sub hl [1, 2] rfl)
      · skip
        have hk3 : k9 < 3 := by have := mt (nI_leI (a := 3) (b := k9) (by decide) (by omega)).mpr h12; omega
        refine lv_aload_n hx hb dL_law_15 rfl (lv_at hl 1 rfl) ?_
        refine lv_aload_n hx hb dL_law_16 rfl (lv_at hl 2 rfl) ?_
        refine lv_iconst (v := 2) hx hb dL_law_17 (by decide) ?_
        refine lv_iload_n hx hb dL_law_18 rfl (lv_at hl 0 rfl) ?_
        refine lv_imul hx hb dL_law_19 ?_
        refine ztopi (y := nI (2 * k9)) (pk_mul 2 k9) ?_
        refine zWs9 zm_L_79 hF hB (c_L_registers l D ka kb bd na L mo an pl ho le sz9 re9 kp st N9 j9 (2 * k9) (by first | assumption | omega | decide) (by omega) (hd9) (hb9)) rfl ⟨Nat.le_of_ble_eq_true rfl, Nat.le_of_ble_eq_true rfl⟩ rfl hl.1 (Nat.le_of_ble_eq_true rfl) ⟨Nat.le_of_ble_eq_true rfl, Nat.le_of_ble_eq_true rfl⟩ dL_law_20 ?_
        clear hB
        try clear locs
        try clear H
        intro r101 u101 H locs hp hB
        obtain ⟨N_101, j_101⟩ := u101
        have hp101 : r101 = 1 ∧ (∀ i, i < 6 → 0 < (N_101 i).2.2.2.2.toInt) ∧ bB (jbb j_101) ∧ (∀ i, i < 6 → N_101 (8 + i) = N9 (8 + i)) := hp
        have hr101 := hp101.1
        have hd101 := hp101.2.1
        have hb101 := hp101.2.2.1
        have he101 := hp101.2.2.2
        replace hB : zB D A s ([] ++ OW ka bd na (L, mo, an, pl, ho, le, sz9, re9, kp, st, N_101, j_101)) H locs := hB
        refine lv_if_ne (tgt := 28) hx hb dL_law_23 (by decide) (fun h23 => ?_) (fun h23 => ?_)
        · skip
          refine lv_iinc (v := nI (k9 + 1)) (lv' := [(2, .int (nI (k9 + 1))), (1, .ref (bd 31)), (0, .ref (kb 1))]) hx hb dL_law_28 hl (k := 0) rfl (nI_1 _) (by decide) rfl ?_
          clear hl
          clear ls
          intro ls hl
          refine lv_goto (tgt := 10) hx hb dL_law_31 (by decide) ?_
          exact ih10 (k9 + 1) N_101 j_101 (by omega) (hd101) (fun i hi => by rw [he101 i hi]; exact h89 i hi) (hb101) (by omega) _ _ (hB) _ (lv_sub hl [0, 1, 2] rfl)
        · skip
          exact absurd (hr101.symm.trans h23) (by decide)
  exact lp10 (3 - 0 + 1) 0 N j (by decide) (hd6) (hD8) (hB9) (by omega) _ _ (hB) _ (lv_sub hl [0, 1, 2] rfl)

set_option maxHeartbeats 8000000 in
set_option maxRecDepth 100000 in
theorem lw_S2 (l : Launch) (D : va_G) (ka : Nat → ClassId) (kb : Nat → Nat) (bd na : Nat → Nat) {p : Program} {e : Env} {s : State} {m : MethodId} {args : Array Value} {below : List Frame} {meth : Method} {c : Code} {A : Nat → Prop} {Q : State → Prop} {rt : Option FieldType} (hF : zF p s m args meth c D ka kb A cL_law RL 23 rt) (hL : kb 2 ≤ 260)
    (mo : Nat → Int32) (an : Nat → Int32) (pl : Nat → Int32) (ho : Nat → Int32) (le : Nat → Int32) (sz9 : Int32) (re9 : Int32) (kp : Nat → Bool) (st : Nat → Int32) (N : Nat → N5) (j : JT)
    
    {H : Heap} {locs : List Loc} (hB : zB D A s ([] ++ OW ka bd na (0, mo, an, pl, ho, le, sz9, re9, kp, st, N, j)) H locs)
    (kk : ∀ (u9 : Nat) (mo9 : Nat → Int32) (an9 : Nat → Int32) (pl9 : Nat → Int32) (kp9 : Nat → Bool), (u9 < 7) → (okL u9 mo9 an9 pl9) → ∀ (H : Heap) (locs : List Loc), zB D A s ([] ++ OW ka bd na (u9, mo9, an9, pl9, ho, le, sz9, re9, kp9, st, N, j)) H locs → ∀ ls : Array Slot, lv_has ls 23 [(2, .int (nI u9)), (1, .ref (bd 31)), (0, .ref (kb 1))] → W p l e room_1 s m args below meth c H locs 73 537 Q (F0 m 123 ls []))
    {ls : Array Slot} (hl : lv_has ls 23 [(1, .ref (bd 31)), (0, .ref (kb 1))]) : W p l e room_1 s m args below meth c H locs 73 537 Q (F0 m 34 ls []) := by
  have hx : p.tables.exec = Jvm.exec := hF.1.1
  have hb : c.code = cL_law := hF.1.2.1
  refine lv_aload_n hx hb dL_law_34 rfl (lv_at hl 1 rfl) ?_
  refine lv_bipush (v := 6) hx hb dL_law_35 (by decide) ?_
  refine zSi zm_L_26 hF hB (c_L_cell l D ka kb 6 (hL) (by decide)) [] rfl (by decide) [] (fun _ => rfl) rfl rfl ⟨Nat.le_of_ble_eq_true rfl, Nat.le_of_ble_eq_true rfl⟩ rfl hl.1 (Nat.le_of_ble_eq_true rfl) ⟨Nat.le_of_ble_eq_true rfl, Nat.le_of_ble_eq_true rfl⟩ dL_law_37 ?_
  clear hB
  try clear locs
  try clear H
  intro r101 u101 H locs hp hB
  obtain ⟨u9101, rfl⟩ : ∃ z, z = u101 := ⟨_, rfl⟩
  have hp101 : True := hp
  have HPP := hp101
  replace hB : zB D A s ([] ++ OW ka bd na (0, mo, an, pl, ho, le, sz9, re9, kp, st, N, j)) H locs := hB
  refine lv_bipush (v := 7) hx hb dL_law_40 (by decide) ?_
  refine zSi zm_L_30 hF hB (c_L_up l D ka kb r101 7 (by decide) (by decide)) [] rfl (by decide) [] (fun _ => rfl) rfl rfl ⟨Nat.le_of_ble_eq_true rfl, Nat.le_of_ble_eq_true rfl⟩ rfl hl.1 (Nat.le_of_ble_eq_true rfl) ⟨Nat.le_of_ble_eq_true rfl, Nat.le_of_ble_eq_true rfl⟩ dL_law_42 ?_
  clear hB
  try clear locs
  try clear H
  intro r102 u102 H locs hp hB
  obtain ⟨u9102, rfl⟩ : ∃ z, z = u102 := ⟨_, rfl⟩
  have hp102 : ∃ k9, k9 < 7 ∧ r102 = nI k9 := hp
  have HPP := hp102
  replace hB : zB D A s ([] ++ OW ka bd na (0, mo, an, pl, ho, le, sz9, re9, kp, st, N, j)) H locs := hB
  obtain ⟨u9, hu9, rfl⟩ := HPP
  refine lv_istore_n (lv' := [(2, .int (nI u9)), (1, .ref (bd 31)), (0, .ref (kb 1))]) hx hb dL_law_45 rfl hl (by decide) rfl ?_
  clear hl
  clear ls
  intro ls hl
  refine lv_iconst (v := 0) hx hb dL_law_46 (by decide) ?_
  refine lv_istore_n (lv' := [(3, .int (0 : Int32)), (2, .int (nI u9)), (1, .ref (bd 31)), (0, .ref (kb 1))]) hx hb dL_law_47 rfl hl (by decide) rfl ?_
  clear hl
  clear ls
  intro ls hl
  have lp48 : ∀ (fl : Nat) (k9 : Nat) (mo9 : Nat → Int32) (an9 : Nat → Int32) (pl9 : Nat → Int32) (kp9 : Nat → Bool), (hk9 : k9 ≤ u9) → (hok9 : okL k9 mo9 an9 pl9) → u9 - k9 < fl → ∀ (H : Heap) (locs : List Loc), zB D A s ([] ++ OW ka bd na (k9, mo9, an9, pl9, ho, le, sz9, re9, kp9, st, N, j)) H locs → ∀ ls : Array Slot, lv_has ls 23 [(3, .int (nI k9)), (2, .int (nI u9)), (1, .ref (bd 31)), (0, .ref (kb 1))] → W p l e room_1 s m args below meth c H locs 73 537 Q (F0 m 48 ls []) := by
    intro fl
    induction fl with
    | zero => intro k9 mo9 an9 pl9 kp9 hk9 hok9 hfl; exact absurd hfl (Nat.not_lt_zero _)
    | succ fl ih48 =>
      intro k9 mo9 an9 pl9 kp9 hk9 hok9 hfl48 H locs hB ls hl
      refine lv_iload_n hx hb dL_law_48 rfl (lv_at hl 0 rfl) ?_
      refine lv_iload_n hx hb dL_law_49 rfl (lv_at hl 1 rfl) ?_
      refine lv_icmp_ge (tgt := 123) hx hb dL_law_50 (by decide) (fun h50 => ?_) (fun h50 => ?_)
      · skip
        have hku : k9 = u9 := by have := (nI_leI (a := u9) (b := k9) (by omega) (by omega)).mp h50; omega
        rw [hku] at hok9
        replace hB : zB D A s ([] ++ OW ka bd na (u9, mo9, an9, pl9, ho, le, sz9, re9, kp9, st, N, j)) H locs := by rw [hku] at hB; exact hB
        exact kk u9 mo9 an9 pl9 kp9 (hu9) (hok9) H locs hB ls (lv_sub hl [1, 2, 3] rfl)
      · skip
        have hku : k9 < u9 := by have := mt (nI_leI (a := u9) (b := k9) (by omega) (by omega)).mpr h50; omega
        refine lv_aload_n hx hb dL_law_53 rfl (lv_at hl 3 rfl) ?_
        refine lv_bipush (v := 7) hx hb dL_law_54 (by decide) ?_
        refine lv_iload_n hx hb dL_law_56 rfl (lv_at hl 0 rfl) ?_
        refine lv_iadd hx hb dL_law_57 ?_
        refine ztopi (y := nI (7 + k9)) (nI_add 7 k9) ?_
        refine zSi zm_L_26 hF hB (c_L_cell l D ka kb (7 + k9) (hL) (by omega)) [] rfl (by decide) [] (fun _ => rfl) rfl rfl ⟨Nat.le_of_ble_eq_true rfl, Nat.le_of_ble_eq_true rfl⟩ rfl hl.1 (Nat.le_of_ble_eq_true rfl) ⟨Nat.le_of_ble_eq_true rfl, Nat.le_of_ble_eq_true rfl⟩ dL_law_58 ?_
        clear hB
        try clear locs
        try clear H
        intro r103 u103 H locs hp hB
        obtain ⟨u9103, rfl⟩ : ∃ z, z = u103 := ⟨_, rfl⟩
        have hp103 : True := hp
        have HPP := hp103
        replace hB : zB D A s ([] ++ OW ka bd na (k9, mo9, an9, pl9, ho, le, sz9, re9, kp9, st, N, j)) H locs := hB
        refine lv_istore (lv' := [(4, .int r103), (3, .int (nI k9)), (2, .int (nI u9)), (1, .ref (bd 31)), (0, .ref (kb 1))]) hx hb dL_law_61 hl (by decide) rfl ?_
        clear hl
        clear ls
        intro ls hl
        refine lv_aload_n hx hb dL_law_63 rfl (lv_at hl 3 rfl) ?_
        refine lv_iconst (v := 1) hx hb dL_law_64 (by decide) ?_
        refine lv_iload hx hb dL_law_65 (lv_at hl 0 rfl) ?_
        refine lv_iload hx hb dL_law_67 (lv_at hl 0 rfl) ?_
        refine lv_bipush (v := 7) hx hb dL_law_69 (by decide) ?_
        refine lv_ishr hx hb dL_law_71 ?_
        refine lv_iconst (v := 1) hx hb dL_law_72 (by decide) ?_
        refine lv_iand hx hb dL_law_73 ?_
        refine lv_if_ne (tgt := 82) hx hb dL_law_74 (by decide) (fun h74 => ?_) (fun h74 => ?_)
        · skip
          refine lv_bipush (v := 99) hx hb dL_law_82 (by decide) ?_
          refine zSi zm_L_30 hF hB (c_L_up l D ka kb r103 99 (by decide) (by decide)) [] rfl (by decide) [] (fun _ => rfl) rfl rfl ⟨Nat.le_of_ble_eq_true rfl, Nat.le_of_ble_eq_true rfl⟩ rfl hl.1 (Nat.le_of_ble_eq_true rfl) ⟨Nat.le_of_ble_eq_true rfl, Nat.le_of_ble_eq_true rfl⟩ dL_law_84 ?_
          clear hB
          try clear locs
          try clear H
          intro r104 u104 H locs hp hB
          obtain ⟨u9104, rfl⟩ : ∃ z, z = u104 := ⟨_, rfl⟩
          have hp104 : ∃ k9, k9 < 99 ∧ r104 = nI k9 := hp
          have HPP := hp104
          have up84 := HPP
          replace hB : zB D A s ([] ++ OW ka bd na (k9, mo9, an9, pl9, ho, le, sz9, re9, kp9, st, N, j)) H locs := hB
          refine lv_iadd hx hb dL_law_87 ?_
          refine lv_iload hx hb dL_law_88 (lv_at hl 0 rfl) ?_
          refine lv_bipush (v := 8) hx hb dL_law_90 (by decide) ?_
          refine lv_ishr hx hb dL_law_92 ?_
          refine lv_bipush (v := 12) hx hb dL_law_93 (by decide) ?_
          refine zSi zm_L_30 hF hB (c_L_up l D ka kb (r103 >>> ((8 : Int32) &&& 31)) 12 (by decide) (by decide)) [] rfl (by decide) [] (fun _ => rfl) rfl rfl ⟨Nat.le_of_ble_eq_true rfl, Nat.le_of_ble_eq_true rfl⟩ rfl hl.1 (Nat.le_of_ble_eq_true rfl) ⟨Nat.le_of_ble_eq_true rfl, Nat.le_of_ble_eq_true rfl⟩ dL_law_95 ?_
          clear hB
          try clear locs
          try clear H
          intro r105 u105 H locs hp hB
          obtain ⟨u9105, rfl⟩ : ∃ z, z = u105 := ⟨_, rfl⟩
          have hp105 : ∃ k9, k9 < 12 ∧ r105 = nI k9 := hp
          have HPP := hp105
          replace hB : zB D A s ([] ++ OW ka bd na (k9, mo9, an9, pl9, ho, le, sz9, re9, kp9, st, N, j)) H locs := hB
          obtain ⟨a9, ha9, rfl⟩ := HPP
          refine lv_iload hx hb dL_law_98 (lv_at hl 0 rfl) ?_
          refine lv_bipush (v := 12) hx hb dL_law_100 (by decide) ?_
          refine lv_ishr hx hb dL_law_102 ?_
          refine lv_bipush (v := 11) hx hb dL_law_103 (by decide) ?_
          refine zSi zm_L_30 hF hB (c_L_up l D ka kb (r103 >>> ((12 : Int32) &&& 31)) 11 (by decide) (by decide)) [] rfl (by decide) [] (fun _ => rfl) rfl rfl ⟨Nat.le_of_ble_eq_true rfl, Nat.le_of_ble_eq_true rfl⟩ rfl hl.1 (Nat.le_of_ble_eq_true rfl) ⟨Nat.le_of_ble_eq_true rfl, Nat.le_of_ble_eq_true rfl⟩ dL_law_105 ?_
          clear hB
          try clear locs
          try clear H
          intro r106 u106 H locs hp hB
          obtain ⟨u9106, rfl⟩ : ∃ z, z = u106 := ⟨_, rfl⟩
          have hp106 : ∃ k9, k9 < 11 ∧ r106 = nI k9 := hp
          have HPP := hp106
          replace hB : zB D A s ([] ++ OW ka bd na (k9, mo9, an9, pl9, ho, le, sz9, re9, kp9, st, N, j)) H locs := hB
          obtain ⟨q9, hq9, rfl⟩ := HPP
          have q84 : ((1 : Int32) + r104).toInt = 1 + _ := i_upa up84 (by decide)
          have w84 := i_up up84 (by decide)
          refine zWi zm_L_83 hF hB (w_lump l D ka kb bd na k9 mo9 an9 pl9 ho le sz9 re9 kp9 st N j ((1 : Int32) + r104) a9 q9 (by omega) (by omega) (ha9) (hq9)) rfl ⟨Nat.le_of_ble_eq_true rfl, Nat.le_of_ble_eq_true rfl⟩ rfl hl.1 (Nat.le_of_ble_eq_true rfl) ⟨Nat.le_of_ble_eq_true rfl, Nat.le_of_ble_eq_true rfl⟩ dL_law_108 ?_
          clear hB
          try clear locs
          try clear H
          intro r107 u107 H locs hp hB
          obtain rfl : r107 = nI k9 := hp
          replace hB : zB D A s ([] ++ OW ka bd na (k9 + 1, upd mo9 k9 ((1 : Int32) + r104), upd an9 k9 (nI a9), upd pl9 k9 (nI q9), ho, le, sz9, re9, fgB kp9 3, st, N, j)) H locs := hB
          refine lv_iload_n hx hb dL_law_111 rfl (lv_at hl 1 rfl) ?_
          refine lv_icmp_eq (tgt := 117) hx hb dL_law_112 (by decide) (fun h112 => ?_) (fun h112 => ?_)
          · skip
            refine lv_iinc (v := nI (k9 + 1)) (lv' := [(3, .int (nI (k9 + 1))), (4, .int r103), (2, .int (nI u9)), (1, .ref (bd 31)), (0, .ref (kb 1))]) hx hb dL_law_117 hl (k := 1) rfl (nI_1 _) (by decide) rfl ?_
            clear hl
            clear ls
            intro ls hl
            refine lv_goto (tgt := 48) hx hb dL_law_120 (by decide) ?_
            exact ih48 (k9 + 1) (upd mo9 k9 ((1 : Int32) + r104)) (upd an9 k9 (nI a9)) (upd pl9 k9 (nI q9)) (fgB kp9 3) (by omega) (okL_s hok9 (by omega) (by omega) ha9 hq9) (by omega) _ _ (hB) _ (lv_sub hl [0, 2, 3, 4] rfl)
          · skip
            exact absurd rfl h112
        · skip
          refine lv_bipush (v := 9) hx hb dL_law_77 (by decide) ?_
          refine lv_goto (tgt := 84) hx hb dL_law_79 (by decide) ?_
          refine zSi zm_L_30 hF hB (c_L_up l D ka kb r103 9 (by decide) (by decide)) [] rfl (by decide) [] (fun _ => rfl) rfl rfl ⟨Nat.le_of_ble_eq_true rfl, Nat.le_of_ble_eq_true rfl⟩ rfl hl.1 (Nat.le_of_ble_eq_true rfl) ⟨Nat.le_of_ble_eq_true rfl, Nat.le_of_ble_eq_true rfl⟩ dL_law_84 ?_
          clear hB
          try clear locs
          try clear H
          intro r108 u108 H locs hp hB
          obtain ⟨u9108, rfl⟩ : ∃ z, z = u108 := ⟨_, rfl⟩
          have hp108 : ∃ k9, k9 < 9 ∧ r108 = nI k9 := hp
          have HPP := hp108
          have up84 := HPP
          replace hB : zB D A s ([] ++ OW ka bd na (k9, mo9, an9, pl9, ho, le, sz9, re9, kp9, st, N, j)) H locs := hB
          refine lv_iadd hx hb dL_law_87 ?_
          refine lv_iload hx hb dL_law_88 (lv_at hl 0 rfl) ?_
          refine lv_bipush (v := 8) hx hb dL_law_90 (by decide) ?_
          refine lv_ishr hx hb dL_law_92 ?_
          refine lv_bipush (v := 12) hx hb dL_law_93 (by decide) ?_
          refine zSi zm_L_30 hF hB (c_L_up l D ka kb (r103 >>> ((8 : Int32) &&& 31)) 12 (by decide) (by decide)) [] rfl (by decide) [] (fun _ => rfl) rfl rfl ⟨Nat.le_of_ble_eq_true rfl, Nat.le_of_ble_eq_true rfl⟩ rfl hl.1 (Nat.le_of_ble_eq_true rfl) ⟨Nat.le_of_ble_eq_true rfl, Nat.le_of_ble_eq_true rfl⟩ dL_law_95 ?_
          clear hB
          try clear locs
          try clear H
          intro r109 u109 H locs hp hB
          obtain ⟨u9109, rfl⟩ : ∃ z, z = u109 := ⟨_, rfl⟩
          have hp109 : ∃ k9, k9 < 12 ∧ r109 = nI k9 := hp
          have HPP := hp109
          replace hB : zB D A s ([] ++ OW ka bd na (k9, mo9, an9, pl9, ho, le, sz9, re9, kp9, st, N, j)) H locs := hB
          obtain ⟨a9, ha9, rfl⟩ := HPP
          refine lv_iload hx hb dL_law_98 (lv_at hl 0 rfl) ?_
          refine lv_bipush (v := 12) hx hb dL_law_100 (by decide) ?_
          refine lv_ishr hx hb dL_law_102 ?_
          refine lv_bipush (v := 11) hx hb dL_law_103 (by decide) ?_
          refine zSi zm_L_30 hF hB (c_L_up l D ka kb (r103 >>> ((12 : Int32) &&& 31)) 11 (by decide) (by decide)) [] rfl (by decide) [] (fun _ => rfl) rfl rfl ⟨Nat.le_of_ble_eq_true rfl, Nat.le_of_ble_eq_true rfl⟩ rfl hl.1 (Nat.le_of_ble_eq_true rfl) ⟨Nat.le_of_ble_eq_true rfl, Nat.le_of_ble_eq_true rfl⟩ dL_law_105 ?_
          clear hB
          try clear locs
          try clear H
          intro r110 u110 H locs hp hB
          obtain ⟨u9110, rfl⟩ : ∃ z, z = u110 := ⟨_, rfl⟩
          have hp110 : ∃ k9, k9 < 11 ∧ r110 = nI k9 := hp
          have HPP := hp110
          replace hB : zB D A s ([] ++ OW ka bd na (k9, mo9, an9, pl9, ho, le, sz9, re9, kp9, st, N, j)) H locs := hB
          obtain ⟨q9, hq9, rfl⟩ := HPP
          have q84 : ((1 : Int32) + r108).toInt = 1 + _ := i_upa up84 (by decide)
          have w84 := i_up up84 (by decide)
          refine zWi zm_L_83 hF hB (w_lump l D ka kb bd na k9 mo9 an9 pl9 ho le sz9 re9 kp9 st N j ((1 : Int32) + r108) a9 q9 (by omega) (by omega) (ha9) (hq9)) rfl ⟨Nat.le_of_ble_eq_true rfl, Nat.le_of_ble_eq_true rfl⟩ rfl hl.1 (Nat.le_of_ble_eq_true rfl) ⟨Nat.le_of_ble_eq_true rfl, Nat.le_of_ble_eq_true rfl⟩ dL_law_108 ?_
          clear hB
          try clear locs
          try clear H
          intro r111 u111 H locs hp hB
          obtain rfl : r111 = nI k9 := hp
          replace hB : zB D A s ([] ++ OW ka bd na (k9 + 1, upd mo9 k9 ((1 : Int32) + r108), upd an9 k9 (nI a9), upd pl9 k9 (nI q9), ho, le, sz9, re9, fgB kp9 3, st, N, j)) H locs := hB
          refine lv_iload_n hx hb dL_law_111 rfl (lv_at hl 1 rfl) ?_
          refine lv_icmp_eq (tgt := 117) hx hb dL_law_112 (by decide) (fun h112 => ?_) (fun h112 => ?_)
          · skip
            refine lv_iinc (v := nI (k9 + 1)) (lv' := [(3, .int (nI (k9 + 1))), (4, .int r103), (2, .int (nI u9)), (1, .ref (bd 31)), (0, .ref (kb 1))]) hx hb dL_law_117 hl (k := 1) rfl (nI_1 _) (by decide) rfl ?_
            clear hl
            clear ls
            intro ls hl
            refine lv_goto (tgt := 48) hx hb dL_law_120 (by decide) ?_
            exact ih48 (k9 + 1) (upd mo9 k9 ((1 : Int32) + r108)) (upd an9 k9 (nI a9)) (upd pl9 k9 (nI q9)) (fgB kp9 3) (by omega) (okL_s hok9 (by omega) (by omega) ha9 hq9) (by omega) _ _ (hB) _ (lv_sub hl [0, 2, 3, 4] rfl)
          · skip
            exact absurd rfl h112
  exact lp48 (u9 - 0 + 1) 0 mo an pl kp (Nat.zero_le _) (⟨by decide, fun i h => absurd h (Nat.not_lt_zero i)⟩) (by omega) _ _ (hB) _ (lv_sub hl [0, 1, 2, 3] rfl)

set_option maxHeartbeats 8000000 in
set_option maxRecDepth 100000 in
theorem lw_S3 (l : Launch) (D : va_G) (ka : Nat → ClassId) (kb : Nat → Nat) (bd na : Nat → Nat) {p : Program} {e : Env} {s : State} {m : MethodId} {args : Array Value} {below : List Frame} {meth : Method} {c : Code} {A : Nat → Prop} {Q : State → Prop} {rt : Option FieldType} (hF : zF p s m args meth c D ka kb A cL_law RL 23 rt) (hL : kb 2 ≤ 260)
    (L : Nat) (mo : Nat → Int32) (an : Nat → Int32) (pl : Nat → Int32) (ho : Nat → Int32) (le : Nat → Int32) (sz9 : Int32) (re9 : Int32) (kp : Nat → Bool) (st : Nat → Int32) (N : Nat → N5) (j : JT)
    (hu : L < 7) (hok : okL L mo an pl) (hoh : okH ho) (hre : 0 ≤ re9.toInt ∧ re9.toInt ≤ 99) (hB9 : bB (jbb j)) (hD8 : ∀ i, i < 6 → 0 < (N (8 + i)).2.2.2.2.toInt) (hS0 : ∀ i, i < 8 → 0 ≤ (st i).toInt)
    {H : Heap} {locs : List Loc} (hB : zB D A s ([] ++ OW ka bd na (L, mo, an, pl, ho, le, sz9, re9, kp, st, N, j)) H locs)
    (kk : ∀ (mo9 : Nat → Int32) (an9 : Nat → Int32) (pl9 : Nat → Int32) (kp9 : Nat → Bool) (st9 : Nat → Int32) (N9 : Nat → N5) (j9 : JT), (okL L mo9 an9 pl9) → (bB (jbb j9)) → (∀ i, i < 6 → 0 < (N9 (8 + i)).2.2.2.2.toInt) → (∀ i, i < 8 → 0 ≤ (st9 i).toInt) → ∀ (H : Heap) (locs : List Loc), zB D A s ([] ++ OW ka bd na (L, mo9, an9, pl9, ho, le, sz9, re9, kp9, st9, N9, j9)) H locs → ∀ ls : Array Slot, lv_has ls 23 [(1, .ref (bd 31)), (0, .ref (kb 1))] → W p l e room_1 s m args below meth c H locs 75 545 Q (F0 m 306 ls []))
    {ls : Array Slot} (hl : lv_has ls 23 [(2, .int (nI L)), (1, .ref (bd 31)), (0, .ref (kb 1))]) : W p l e room_1 s m args below meth c H locs 73 537 Q (F0 m 123 ls []) := by
  have hx : p.tables.exec = Jvm.exec := hF.1.1
  have hb : c.code = cL_law := hF.1.2.1
  refine lv_aload_n hx hb dL_law_123 rfl (lv_at hl 1 rfl) ?_
  refine lv_aload_n hx hb dL_law_124 rfl (lv_at hl 2 rfl) ?_
  refine lv_bipush (v := 14) hx hb dL_law_125 (by decide) ?_
  refine zWn9 zm_L_86 hF hB (c_L_trials l D ka kb bd na L mo an pl ho le sz9 re9 kp st N j 14 (by first | assumption | omega | decide) (by decide) (hok) (hoh) (hre) (hB9) (hD8) (hS0)) rfl ⟨Nat.le_of_ble_eq_true rfl, Nat.le_of_ble_eq_true rfl⟩ rfl hl.1 (Nat.le_of_ble_eq_true rfl) ⟨Nat.le_of_ble_eq_true rfl, Nat.le_of_ble_eq_true rfl⟩ dL_law_127 ?_
  clear hB
  try clear locs
  try clear H
  intro r101 u101 H locs hp hB
  obtain ⟨kp_101, st_101, N_101, j_101⟩ := u101
  have hp101 : r101 = 1 ∧ bB (jbb j_101) ∧ (∀ i, i < 8 → 0 ≤ (st_101 i).toInt) ∧ (∀ i, i < 6 → 0 < (N_101 (8 + i)).2.2.2.2.toInt) := hp
  have hr101 := hp101.1
  have hb101 := hp101.2.1
  have hs101 := hp101.2.2.1
  have hd101 := hp101.2.2.2
  replace hB : zB D A s ([] ++ OW ka bd na (L, mo, an, pl, ho, le, sz9, re9, kp_101, st_101, N_101, j_101)) H locs := hB
  refine lv_if_ne (tgt := 135) hx hb dL_law_130 (by decide) (fun h130 => ?_) (fun h130 => ?_)
  · skip
    refine lv_aload_n hx hb dL_law_135 rfl (lv_at hl 1 rfl) ?_
    refine lv_iconst (v := 0) hx hb dL_law_136 (by decide) ?_
    refine lv_iconst (v := 0) hx hb dL_law_137 (by decide) ?_
    refine zWl zm_L_23 hF hB (w_pull l D ka kb bd na L mo an pl ho le sz9 re9 kp_101 st_101 N_101 j_101 0 0 (hok) (by first | assumption | omega | decide) (by decide) (by decide) (hb101)) rfl ⟨Nat.le_of_ble_eq_true rfl, Nat.le_of_ble_eq_true rfl⟩ rfl hl.1 (Nat.le_of_ble_eq_true rfl) ⟨Nat.le_of_ble_eq_true rfl, Nat.le_of_ble_eq_true rfl⟩ dL_law_138 ?_
    clear hB
    try clear locs
    try clear H
    intro r102 u102 H locs hp hB
    obtain ⟨N_102, j_102⟩ := u102
    have hp102 : r102 = plV (pulI 0 L mo an pl ho) 0 ∧ (∀ k9, k9 ≠ 6 → k9 ≠ 7 → N_102 k9 = N_101 k9) ∧ bB (jbb j_102) := hp
    have hr102 := hp102.1
    have hN102 := hp102.2.1
    have hb102 := hp102.2.2
    have h8_102 : ∀ i, i < 6 → 0 < (N_102 (8 + i)).2.2.2.2.toInt := fun i hi => by rw [hN102 (8 + i) (by omega) (by omega)]; exact hd101 i hi
    have v138 := hr102
    replace hB : zB D A s ([] ++ OW ka bd na (L, mo, an, pl, ho, le, sz9, re9, kp_101, st_101, N_102, j_102)) H locs := hB
    refine lv_lstore_n (lv' := [(3, .long r102), (2, .int (nI L)), (1, .ref (bd 31)), (0, .ref (kb 1))]) hx hb dL_law_141 rfl hl (by decide) rfl ?_
    clear hl
    clear ls
    intro ls hl
    refine lv_aload_n hx hb dL_law_142 rfl (lv_at hl 2 rfl) ?_
    refine lv_iconst (v := 0) hx hb dL_law_143 (by decide) ?_
    refine lv_iconst (v := 1) hx hb dL_law_144 (by decide) ?_
    refine zWl zm_L_23 hF hB (w_pull l D ka kb bd na L mo an pl ho le sz9 re9 kp_101 st_101 N_102 j_102 0 1 (hok) (by first | assumption | omega | decide) (by decide) (by decide) (hb102)) rfl ⟨Nat.le_of_ble_eq_true rfl, Nat.le_of_ble_eq_true rfl⟩ rfl hl.1 (Nat.le_of_ble_eq_true rfl) ⟨Nat.le_of_ble_eq_true rfl, Nat.le_of_ble_eq_true rfl⟩ dL_law_145 ?_
    clear hB
    try clear locs
    try clear H
    intro r103 u103 H locs hp hB
    obtain ⟨N_103, j_103⟩ := u103
    have hp103 : r103 = plV (pulI 0 L mo an pl ho) 1 ∧ (∀ k9, k9 ≠ 6 → k9 ≠ 7 → N_103 k9 = N_102 k9) ∧ bB (jbb j_103) := hp
    have hr103 := hp103.1
    have hN103 := hp103.2.1
    have hb103 := hp103.2.2
    have h8_103 : ∀ i, i < 6 → 0 < (N_103 (8 + i)).2.2.2.2.toInt := fun i hi => by rw [hN103 (8 + i) (by omega) (by omega)]; exact h8_102 i hi
    have v145 := hr103
    replace hB : zB D A s ([] ++ OW ka bd na (L, mo, an, pl, ho, le, sz9, re9, kp_101, st_101, N_103, j_103)) H locs := hB
    refine lv_lstore (lv' := [(5, .long r103), (3, .long r102), (2, .int (nI L)), (1, .ref (bd 31)), (0, .ref (kb 1))]) hx hb dL_law_148 hl (by decide) rfl ?_
    clear hl
    clear ls
    intro ls hl
    refine lv_aload_n hx hb dL_law_150 rfl (lv_at hl 3 rfl) ?_
    refine lv_iconst (v := 0) hx hb dL_law_151 (by decide) ?_
    refine lv_iconst (v := 4) hx hb dL_law_152 (by decide) ?_
    refine zWl zm_L_23 hF hB (w_pull l D ka kb bd na L mo an pl ho le sz9 re9 kp_101 st_101 N_103 j_103 0 4 (hok) (by first | assumption | omega | decide) (by decide) (by decide) (hb103)) rfl ⟨Nat.le_of_ble_eq_true rfl, Nat.le_of_ble_eq_true rfl⟩ rfl hl.1 (Nat.le_of_ble_eq_true rfl) ⟨Nat.le_of_ble_eq_true rfl, Nat.le_of_ble_eq_true rfl⟩ dL_law_153 ?_
    clear hB
    try clear locs
    try clear H
    intro r104 u104 H locs hp hB
    obtain ⟨N_104, j_104⟩ := u104
    have hp104 : r104 = plV (pulI 0 L mo an pl ho) 4 ∧ (∀ k9, k9 ≠ 6 → k9 ≠ 7 → N_104 k9 = N_103 k9) ∧ bB (jbb j_104) := hp
    have hr104 := hp104.1
    have hN104 := hp104.2.1
    have hb104 := hp104.2.2
    have h8_104 : ∀ i, i < 6 → 0 < (N_104 (8 + i)).2.2.2.2.toInt := fun i hi => by rw [hN104 (8 + i) (by omega) (by omega)]; exact h8_103 i hi
    have v153 := hr104
    replace hB : zB D A s ([] ++ OW ka bd na (L, mo, an, pl, ho, le, sz9, re9, kp_101, st_101, N_104, j_104)) H locs := hB
    refine lv_lstore (lv' := [(7, .long r104), (5, .long r103), (3, .long r102), (2, .int (nI L)), (1, .ref (bd 31)), (0, .ref (kb 1))]) hx hb dL_law_156 hl (by decide) rfl ?_
    clear hl
    clear ls
    intro ls hl
    refine lv_aload_n hx hb dL_law_158 rfl (lv_at hl 5 rfl) ?_
    refine lv_bipush (v := 20) hx hb dL_law_159 (by decide) ?_
    refine zSi zm_L_26 hF hB (c_L_cell l D ka kb 20 (hL) (by decide)) [] rfl (by decide) [] (fun _ => rfl) rfl rfl ⟨Nat.le_of_ble_eq_true rfl, Nat.le_of_ble_eq_true rfl⟩ rfl hl.1 (Nat.le_of_ble_eq_true rfl) ⟨Nat.le_of_ble_eq_true rfl, Nat.le_of_ble_eq_true rfl⟩ dL_law_161 ?_
    clear hB
    try clear locs
    try clear H
    intro r105 u105 H locs hp hB
    obtain ⟨u9105, rfl⟩ : ∃ z, z = u105 := ⟨_, rfl⟩
    have hp105 : True := hp
    have HPP := hp105
    replace hB : zB D A s ([] ++ OW ka bd na (L, mo, an, pl, ho, le, sz9, re9, kp_101, st_101, N_104, j_104)) H locs := hB
    refine lv_istore (lv' := [(9, .int r105), (7, .long r104), (5, .long r103), (3, .long r102), (2, .int (nI L)), (1, .ref (bd 31)), (0, .ref (kb 1))]) hx hb dL_law_164 hl (by decide) rfl ?_
    clear hl
    clear ls
    intro ls hl
    refine lv_iconst (v := 1) hx hb dL_law_166 (by decide) ?_
    refine lv_iload hx hb dL_law_167 (lv_at hl 0 rfl) ?_
    refine lv_bipush (v := 99) hx hb dL_law_169 (by decide) ?_
    refine zSi zm_L_30 hF hB (c_L_up l D ka kb r105 99 (by decide) (by decide)) [] rfl (by decide) [] (fun _ => rfl) rfl rfl ⟨Nat.le_of_ble_eq_true rfl, Nat.le_of_ble_eq_true rfl⟩ rfl hl.1 (Nat.le_of_ble_eq_true rfl) ⟨Nat.le_of_ble_eq_true rfl, Nat.le_of_ble_eq_true rfl⟩ dL_law_171 ?_
    clear hB
    try clear locs
    try clear H
    intro r106 u106 H locs hp hB
    obtain ⟨u9106, rfl⟩ : ∃ z, z = u106 := ⟨_, rfl⟩
    have hp106 : ∃ k9, k9 < 99 ∧ r106 = nI k9 := hp
    have HPP := hp106
    have up171 := HPP
    replace hB : zB D A s ([] ++ OW ka bd na (L, mo, an, pl, ho, le, sz9, re9, kp_101, st_101, N_104, j_104)) H locs := hB
    refine lv_iadd hx hb dL_law_174 ?_
    refine lv_istore (lv' := [(10, .int ((1 : Int32) + r106)), (9, .int r105), (7, .long r104), (5, .long r103), (3, .long r102), (2, .int (nI L)), (1, .ref (bd 31)), (0, .ref (kb 1))]) hx hb dL_law_175 hl (by decide) rfl ?_
    clear hl
    clear ls
    intro ls hl
    refine lv_iload hx hb dL_law_177 (lv_at hl 1 rfl) ?_
    refine lv_bipush (v := 7) hx hb dL_law_179 (by decide) ?_
    refine lv_ishr hx hb dL_law_181 ?_
    refine lv_bipush (v := 12) hx hb dL_law_182 (by decide) ?_
    refine zSi zm_L_30 hF hB (c_L_up l D ka kb (r105 >>> ((7 : Int32) &&& 31)) 12 (by decide) (by decide)) [] rfl (by decide) [] (fun _ => rfl) rfl rfl ⟨Nat.le_of_ble_eq_true rfl, Nat.le_of_ble_eq_true rfl⟩ rfl hl.1 (Nat.le_of_ble_eq_true rfl) ⟨Nat.le_of_ble_eq_true rfl, Nat.le_of_ble_eq_true rfl⟩ dL_law_184 ?_
    clear hB
    try clear locs
    try clear H
    intro r107 u107 H locs hp hB
    obtain ⟨u9107, rfl⟩ : ∃ z, z = u107 := ⟨_, rfl⟩
    have hp107 : ∃ k9, k9 < 12 ∧ r107 = nI k9 := hp
    have HPP := hp107
    replace hB : zB D A s ([] ++ OW ka bd na (L, mo, an, pl, ho, le, sz9, re9, kp_101, st_101, N_104, j_104)) H locs := hB
    obtain ⟨a9, ha9, rfl⟩ := HPP
    refine lv_istore (lv' := [(11, .int (nI a9)), (10, .int ((1 : Int32) + r106)), (9, .int r105), (7, .long r104), (5, .long r103), (3, .long r102), (2, .int (nI L)), (1, .ref (bd 31)), (0, .ref (kb 1))]) hx hb dL_law_187 hl (by decide) rfl ?_
    clear hl
    clear ls
    intro ls hl
    refine lv_iload hx hb dL_law_189 (lv_at hl 2 rfl) ?_
    refine lv_bipush (v := 11) hx hb dL_law_191 (by decide) ?_
    refine lv_ishr hx hb dL_law_193 ?_
    refine lv_bipush (v := 11) hx hb dL_law_194 (by decide) ?_
    refine zSi zm_L_30 hF hB (c_L_up l D ka kb (r105 >>> ((11 : Int32) &&& 31)) 11 (by decide) (by decide)) [] rfl (by decide) [] (fun _ => rfl) rfl rfl ⟨Nat.le_of_ble_eq_true rfl, Nat.le_of_ble_eq_true rfl⟩ rfl hl.1 (Nat.le_of_ble_eq_true rfl) ⟨Nat.le_of_ble_eq_true rfl, Nat.le_of_ble_eq_true rfl⟩ dL_law_196 ?_
    clear hB
    try clear locs
    try clear H
    intro r108 u108 H locs hp hB
    obtain ⟨u9108, rfl⟩ : ∃ z, z = u108 := ⟨_, rfl⟩
    have hp108 : ∃ k9, k9 < 11 ∧ r108 = nI k9 := hp
    have HPP := hp108
    replace hB : zB D A s ([] ++ OW ka bd na (L, mo, an, pl, ho, le, sz9, re9, kp_101, st_101, N_104, j_104)) H locs := hB
    obtain ⟨q9, hq9, rfl⟩ := HPP
    refine lv_istore (lv' := [(12, .int (nI q9)), (11, .int (nI a9)), (10, .int ((1 : Int32) + r106)), (9, .int r105), (7, .long r104), (5, .long r103), (3, .long r102), (2, .int (nI L)), (1, .ref (bd 31)), (0, .ref (kb 1))]) hx hb dL_law_199 hl (by decide) rfl ?_
    clear hl
    clear ls
    intro ls hl
    refine lv_iload_n hx hb dL_law_201 rfl (lv_at hl 7 rfl) ?_
    refine lv_bipush (v := 7) hx hb dL_law_202 (by decide) ?_
    refine lv_icmp_ge (tgt := 306) hx hb dL_law_204 (by decide) (fun h204 => ?_) (fun h204 => ?_)
    · skip
      exact absurd ((nI_leI (a := 7) (b := L) (by decide) (by omega)).mp h204) (by omega)
    · skip
      refine lv_aload_n hx hb dL_law_207 rfl (lv_at hl 8 rfl) ?_
      refine lv_iload hx hb dL_law_208 (lv_at hl 2 rfl) ?_
      refine lv_iload hx hb dL_law_210 (lv_at hl 1 rfl) ?_
      refine lv_iload hx hb dL_law_212 (lv_at hl 0 rfl) ?_
      have q171 : ((1 : Int32) + r106).toInt = 1 + _ := i_upa up171 (by decide)
      have w171 := i_up up171 (by decide)
      have hok1 := okL_s hok (show L < 8 by omega) (m := ((1 : Int32) + r106)) (by omega) ha9 hq9
      have hok2 := okL_s hok1 (show L + 1 < 8 by omega) (m := ((1 : Int32) + r106)) (by omega) (show (a9 + 6) % 12 < 12 by omega) hq9
      refine zWi zm_L_83 hF hB (w_lump l D ka kb bd na L mo an pl ho le sz9 re9 kp_101 st_101 N_104 j_104 ((1 : Int32) + r106) a9 q9 (by omega) (by omega) (ha9) (hq9)) rfl ⟨Nat.le_of_ble_eq_true rfl, Nat.le_of_ble_eq_true rfl⟩ rfl hl.1 (Nat.le_of_ble_eq_true rfl) ⟨Nat.le_of_ble_eq_true rfl, Nat.le_of_ble_eq_true rfl⟩ dL_law_214 ?_
      clear hB
      try clear locs
      try clear H
      intro r109 u109 H locs hp hB
      obtain rfl : r109 = nI L := hp
      replace hB : zB D A s ([] ++ OW ka bd na (L + 1, upd mo L ((1 : Int32) + r106), upd an L (nI a9), upd pl L (nI q9), ho, le, sz9, re9, fgB kp_101 3, st_101, N_104, j_104)) H locs := hB
      refine lv_iload_n hx hb dL_law_217 rfl (lv_at hl 7 rfl) ?_
      refine lv_icmp_ne (tgt := 304) hx hb dL_law_218 (by decide) (fun h218 => ?_) (fun h218 => ?_)
      · skip
        exact (h218 rfl).elim
      · skip
        refine lv_aload_n hx hb dL_law_221 rfl (lv_at hl 8 rfl) ?_
        refine lv_iconst (v := 3) hx hb dL_law_222 (by decide) ?_
        refine zWi zm_L_38 hF hB (w_count l D ka kb bd na (L + 1) (upd mo L ((1 : Int32) + r106)) (upd an L (nI a9)) (upd pl L (nI q9)) ho le sz9 re9 (fgB kp_101 3) st_101 N_104 j_104 3 (hok1) (by first | assumption | omega | decide) (by first | assumption | omega | decide) (by decide) (hb104)) rfl ⟨Nat.le_of_ble_eq_true rfl, Nat.le_of_ble_eq_true rfl⟩ rfl hl.1 (Nat.le_of_ble_eq_true rfl) ⟨Nat.le_of_ble_eq_true rfl, Nat.le_of_ble_eq_true rfl⟩ dL_law_223 ?_
        clear hB
        try clear locs
        try clear H
        intro r110 u110 H locs hp hB
        obtain ⟨N_110, j_110⟩ := u110
        have hp110 : r110 = ctK j_104.2.1 sz9 re9 (L + 1) (upd mo L ((1 : Int32) + r106)) (upd an L (nI a9)) (upd pl L (nI q9)) ho (fgB kp_101 3) 3 ∧ (∀ k9, k9 ≠ 34 → N_110 k9 = N_104 k9) ∧ bB (jbb j_110) := hp
        have hr110 := hp110.1
        have hN110 := hp110.2.1
        have hb110 := hp110.2.2
        have h8_110 : ∀ i, i < 6 → 0 < (N_110 (8 + i)).2.2.2.2.toInt := fun i hi => by rw [hN110 (8 + i) (by omega)]; exact h8_104 i hi
        have hz223 : r110 = 0 := hr110.trans (ktS_fg _)
        replace hB : zB D A s ([] ++ OW ka bd na ((L + 1), (upd mo L ((1 : Int32) + r106)), (upd an L (nI a9)), (upd pl L (nI q9)), ho, le, sz9, re9, (fgB kp_101 3), st_101, N_110, j_110)) H locs := hB
        refine lv_if_ne (tgt := 304) hx hb dL_law_226 (by decide) (fun h226 => ?_) (fun h226 => ?_)
        · skip
          exact absurd hz223 h226
        · skip
          refine lv_aload_n hx hb dL_law_229 rfl (lv_at hl 8 rfl) ?_
          refine lv_iload hx hb dL_law_230 (lv_at hl 2 rfl) ?_
          refine lv_iload hx hb dL_law_232 (lv_at hl 1 rfl) ?_
          refine lv_bipush (v := 6) hx hb dL_law_234 (by decide) ?_
          refine lv_iadd hx hb dL_law_236 ?_
          refine ztopi (y := nI (a9 + 6)) (nI_add a9 6) ?_
          refine lv_bipush (v := 12) hx hb dL_law_237 (by decide) ?_
          refine lv_irem hx hb dL_law_239 (by decide) ?_
          refine ztopi (y := nI ((a9 + 6) % 12)) (half_m a9 ha9) ?_
          refine lv_iload hx hb dL_law_240 (lv_at hl 0 rfl) ?_
          refine zWi zm_L_83 hF hB (w_lump l D ka kb bd na (L + 1) (upd mo L ((1 : Int32) + r106)) (upd an L (nI a9)) (upd pl L (nI q9)) ho le sz9 re9 (fgB kp_101 3) st_101 N_110 j_110 ((1 : Int32) + r106) ((a9 + 6) % 12) q9 (by omega) (by omega) (by omega) (hq9)) rfl ⟨Nat.le_of_ble_eq_true rfl, Nat.le_of_ble_eq_true rfl⟩ rfl hl.1 (Nat.le_of_ble_eq_true rfl) ⟨Nat.le_of_ble_eq_true rfl, Nat.le_of_ble_eq_true rfl⟩ dL_law_242 ?_
          clear hB
          try clear locs
          try clear H
          intro r111 u111 H locs hp hB
          obtain rfl : r111 = nI (L + 1) := hp
          replace hB : zB D A s ([] ++ OW ka bd na ((L + 1) + 1, upd (upd mo L ((1 : Int32) + r106)) (L + 1) ((1 : Int32) + r106), upd (upd an L (nI a9)) (L + 1) (nI ((a9 + 6) % 12)), upd (upd pl L (nI q9)) (L + 1) (nI q9), ho, le, sz9, re9, fgB (fgB kp_101 3) 3, st_101, N_110, j_110)) H locs := hB
          refine lv_iload_n hx hb dL_law_245 rfl (lv_at hl 7 rfl) ?_
          refine lv_iconst (v := 1) hx hb dL_law_246 (by decide) ?_
          refine lv_iadd hx hb dL_law_247 ?_
          refine ztopi (y := nI (L + 1)) (nI_add L 1) ?_
          refine lv_icmp_ne (tgt := 304) hx hb dL_law_248 (by decide) (fun h248 => ?_) (fun h248 => ?_)
          · skip
            exact (h248 rfl).elim
          · skip
            refine lv_aload_n hx hb dL_law_251 rfl (lv_at hl 8 rfl) ?_
            refine lv_iconst (v := 0) hx hb dL_law_252 (by decide) ?_
            refine lv_iconst (v := 0) hx hb dL_law_253 (by decide) ?_
            refine zWl zm_L_23 hF hB (w_pull l D ka kb bd na ((L + 1) + 1) (upd (upd mo L ((1 : Int32) + r106)) (L + 1) ((1 : Int32) + r106)) (upd (upd an L (nI a9)) (L + 1) (nI ((a9 + 6) % 12))) (upd (upd pl L (nI q9)) (L + 1) (nI q9)) ho le sz9 re9 (fgB (fgB kp_101 3) 3) st_101 N_110 j_110 0 0 (hok2) (by first | assumption | omega | decide) (by decide) (by decide) (hb110)) rfl ⟨Nat.le_of_ble_eq_true rfl, Nat.le_of_ble_eq_true rfl⟩ rfl hl.1 (Nat.le_of_ble_eq_true rfl) ⟨Nat.le_of_ble_eq_true rfl, Nat.le_of_ble_eq_true rfl⟩ dL_law_254 ?_
            clear hB
            try clear locs
            try clear H
            intro r112 u112 H locs hp hB
            obtain ⟨N_112, j_112⟩ := u112
            have hp112 : r112 = plV (pulI 0 ((L + 1) + 1) (upd (upd mo L ((1 : Int32) + r106)) (L + 1) ((1 : Int32) + r106)) (upd (upd an L (nI a9)) (L + 1) (nI ((a9 + 6) % 12))) (upd (upd pl L (nI q9)) (L + 1) (nI q9)) ho) 0 ∧ (∀ k9, k9 ≠ 6 → k9 ≠ 7 → N_112 k9 = N_110 k9) ∧ bB (jbb j_112) := hp
            have hr112 := hp112.1
            have hN112 := hp112.2.1
            have hb112 := hp112.2.2
            have h8_112 : ∀ i, i < 6 → 0 < (N_112 (8 + i)).2.2.2.2.toInt := fun i hi => by rw [hN112 (8 + i) (by omega) (by omega)]; exact h8_110 i hi
            have v254 := hr112
            replace hB : zB D A s ([] ++ OW ka bd na (((L + 1) + 1), (upd (upd mo L ((1 : Int32) + r106)) (L + 1) ((1 : Int32) + r106)), (upd (upd an L (nI a9)) (L + 1) (nI ((a9 + 6) % 12))), (upd (upd pl L (nI q9)) (L + 1) (nI q9)), ho, le, sz9, re9, (fgB (fgB kp_101 3) 3), st_101, N_112, j_112)) H locs := hB
            refine lv_lload_n hx hb dL_law_257 rfl (lv_at hl 6 rfl) ?_
            refine W.lcmp hx hb dL_law_258 ?_
            refine lv_if_ne (tgt := 304) hx hb dL_law_259 (by decide) (fun h259 => ?_) (fun h259 => ?_)
            · skip
              replace h259 := (fun e9 => h259 ((lg_cmp_eq _ _).mpr e9))
              exact (h259 ((v254.trans (plV_cg (fun k hk => pul_half ha9 hk) (by decide))).trans v138.symm)).elim
            · skip
              replace h259 := (lg_cmp_eq _ _).mp h259
              refine lv_aload_n hx hb dL_law_262 rfl (lv_at hl 8 rfl) ?_
              refine lv_iconst (v := 0) hx hb dL_law_263 (by decide) ?_
              refine lv_iconst (v := 1) hx hb dL_law_264 (by decide) ?_
              refine zWl zm_L_23 hF hB (w_pull l D ka kb bd na ((L + 1) + 1) (upd (upd mo L ((1 : Int32) + r106)) (L + 1) ((1 : Int32) + r106)) (upd (upd an L (nI a9)) (L + 1) (nI ((a9 + 6) % 12))) (upd (upd pl L (nI q9)) (L + 1) (nI q9)) ho le sz9 re9 (fgB (fgB kp_101 3) 3) st_101 N_112 j_112 0 1 (hok2) (by first | assumption | omega | decide) (by decide) (by decide) (hb112)) rfl ⟨Nat.le_of_ble_eq_true rfl, Nat.le_of_ble_eq_true rfl⟩ rfl hl.1 (Nat.le_of_ble_eq_true rfl) ⟨Nat.le_of_ble_eq_true rfl, Nat.le_of_ble_eq_true rfl⟩ dL_law_265 ?_
              clear hB
              try clear locs
              try clear H
              intro r113 u113 H locs hp hB
              obtain ⟨N_113, j_113⟩ := u113
              have hp113 : r113 = plV (pulI 0 ((L + 1) + 1) (upd (upd mo L ((1 : Int32) + r106)) (L + 1) ((1 : Int32) + r106)) (upd (upd an L (nI a9)) (L + 1) (nI ((a9 + 6) % 12))) (upd (upd pl L (nI q9)) (L + 1) (nI q9)) ho) 1 ∧ (∀ k9, k9 ≠ 6 → k9 ≠ 7 → N_113 k9 = N_112 k9) ∧ bB (jbb j_113) := hp
              have hr113 := hp113.1
              have hN113 := hp113.2.1
              have hb113 := hp113.2.2
              have h8_113 : ∀ i, i < 6 → 0 < (N_113 (8 + i)).2.2.2.2.toInt := fun i hi => by rw [hN113 (8 + i) (by omega) (by omega)]; exact h8_112 i hi
              have v265 := hr113
              replace hB : zB D A s ([] ++ OW ka bd na (((L + 1) + 1), (upd (upd mo L ((1 : Int32) + r106)) (L + 1) ((1 : Int32) + r106)), (upd (upd an L (nI a9)) (L + 1) (nI ((a9 + 6) % 12))), (upd (upd pl L (nI q9)) (L + 1) (nI q9)), ho, le, sz9, re9, (fgB (fgB kp_101 3) 3), st_101, N_113, j_113)) H locs := hB
              refine lv_lload hx hb dL_law_268 (lv_at hl 5 rfl) ?_
              refine W.lcmp hx hb dL_law_270 ?_
              refine lv_if_ne (tgt := 304) hx hb dL_law_271 (by decide) (fun h271 => ?_) (fun h271 => ?_)
              · skip
                replace h271 := (fun e9 => h271 ((lg_cmp_eq _ _).mpr e9))
                exact (h271 ((v265.trans (plV_cg (fun k hk => pul_half ha9 hk) (by decide))).trans v145.symm)).elim
              · skip
                replace h271 := (lg_cmp_eq _ _).mp h271
                refine lv_aload_n hx hb dL_law_274 rfl (lv_at hl 8 rfl) ?_
                refine lv_iconst (v := 0) hx hb dL_law_275 (by decide) ?_
                refine lv_iconst (v := 4) hx hb dL_law_276 (by decide) ?_
                refine zWl zm_L_23 hF hB (w_pull l D ka kb bd na ((L + 1) + 1) (upd (upd mo L ((1 : Int32) + r106)) (L + 1) ((1 : Int32) + r106)) (upd (upd an L (nI a9)) (L + 1) (nI ((a9 + 6) % 12))) (upd (upd pl L (nI q9)) (L + 1) (nI q9)) ho le sz9 re9 (fgB (fgB kp_101 3) 3) st_101 N_113 j_113 0 4 (hok2) (by first | assumption | omega | decide) (by decide) (by decide) (hb113)) rfl ⟨Nat.le_of_ble_eq_true rfl, Nat.le_of_ble_eq_true rfl⟩ rfl hl.1 (Nat.le_of_ble_eq_true rfl) ⟨Nat.le_of_ble_eq_true rfl, Nat.le_of_ble_eq_true rfl⟩ dL_law_277 ?_
                clear hB
                try clear locs
                try clear H
                intro r114 u114 H locs hp hB
                obtain ⟨N_114, j_114⟩ := u114
                have hp114 : r114 = plV (pulI 0 ((L + 1) + 1) (upd (upd mo L ((1 : Int32) + r106)) (L + 1) ((1 : Int32) + r106)) (upd (upd an L (nI a9)) (L + 1) (nI ((a9 + 6) % 12))) (upd (upd pl L (nI q9)) (L + 1) (nI q9)) ho) 4 ∧ (∀ k9, k9 ≠ 6 → k9 ≠ 7 → N_114 k9 = N_113 k9) ∧ bB (jbb j_114) := hp
                have hr114 := hp114.1
                have hN114 := hp114.2.1
                have hb114 := hp114.2.2
                have h8_114 : ∀ i, i < 6 → 0 < (N_114 (8 + i)).2.2.2.2.toInt := fun i hi => by rw [hN114 (8 + i) (by omega) (by omega)]; exact h8_113 i hi
                have v277 := hr114
                replace hB : zB D A s ([] ++ OW ka bd na (((L + 1) + 1), (upd (upd mo L ((1 : Int32) + r106)) (L + 1) ((1 : Int32) + r106)), (upd (upd an L (nI a9)) (L + 1) (nI ((a9 + 6) % 12))), (upd (upd pl L (nI q9)) (L + 1) (nI q9)), ho, le, sz9, re9, (fgB (fgB kp_101 3) 3), st_101, N_114, j_114)) H locs := hB
                refine lv_lload hx hb dL_law_280 (lv_at hl 4 rfl) ?_
                refine W.lcmp hx hb dL_law_282 ?_
                refine lv_if_ne (tgt := 304) hx hb dL_law_283 (by decide) (fun h283 => ?_) (fun h283 => ?_)
                · skip
                  replace h283 := (fun e9 => h283 ((lg_cmp_eq _ _).mpr e9))
                  exact (h283 ((v277.trans (plV_cg (fun k hk => pul_half ha9 hk) (by decide))).trans v153.symm)).elim
                · skip
                  replace h283 := (lg_cmp_eq _ _).mp h283
                  refine lv_aload_n hx hb dL_law_286 rfl (lv_at hl 8 rfl) ?_
                  refine zWi zm_L_89 hF hB (w_unlump l D ka kb bd na ((L + 1) + 1) (upd (upd mo L ((1 : Int32) + r106)) (L + 1) ((1 : Int32) + r106)) (upd (upd an L (nI a9)) (L + 1) (nI ((a9 + 6) % 12))) (upd (upd pl L (nI q9)) (L + 1) (nI q9)) ho le sz9 re9 (fgB (fgB kp_101 3) 3) st_101 N_114 j_114 (by omega)) rfl ⟨Nat.le_of_ble_eq_true rfl, Nat.le_of_ble_eq_true rfl⟩ rfl hl.1 (Nat.le_of_ble_eq_true rfl) ⟨Nat.le_of_ble_eq_true rfl, Nat.le_of_ble_eq_true rfl⟩ dL_law_287 ?_
                  clear hB
                  try clear locs
                  try clear H
                  intro r115 u115 H locs hp hB
                  obtain rfl : r115 = nI (((L + 1) + 1) - 1) := hp
                  replace hB : zB D A s ([] ++ OW ka bd na (((L + 1) + 1) - 1, (upd (upd mo L ((1 : Int32) + r106)) (L + 1) ((1 : Int32) + r106)), (upd (upd an L (nI a9)) (L + 1) (nI ((a9 + 6) % 12))), (upd (upd pl L (nI q9)) (L + 1) (nI q9)), ho, le, sz9, re9, fgB (fgB (fgB kp_101 3) 3) 3, st_101, N_114, j_114)) H locs := hB
                  refine lv_iload_n hx hb dL_law_290 rfl (lv_at hl 7 rfl) ?_
                  refine lv_iconst (v := 1) hx hb dL_law_291 (by decide) ?_
                  refine lv_iadd hx hb dL_law_292 ?_
                  refine ztopi (y := nI (L + 1)) (nI_add L 1) ?_
                  refine lv_icmp_ne (tgt := 304) hx hb dL_law_293 (by decide) (fun h293 => ?_) (fun h293 => ?_)
                  · skip
                    exact (h293 rfl).elim
                  · skip
                    refine lv_aload_n hx hb dL_law_296 rfl (lv_at hl 8 rfl) ?_
                    refine zWi zm_L_89 hF hB (w_unlump l D ka kb bd na (((L + 1) + 1) - 1) (upd (upd mo L ((1 : Int32) + r106)) (L + 1) ((1 : Int32) + r106)) (upd (upd an L (nI a9)) (L + 1) (nI ((a9 + 6) % 12))) (upd (upd pl L (nI q9)) (L + 1) (nI q9)) ho le sz9 re9 (fgB (fgB (fgB kp_101 3) 3) 3) st_101 N_114 j_114 (by omega)) rfl ⟨Nat.le_of_ble_eq_true rfl, Nat.le_of_ble_eq_true rfl⟩ rfl hl.1 (Nat.le_of_ble_eq_true rfl) ⟨Nat.le_of_ble_eq_true rfl, Nat.le_of_ble_eq_true rfl⟩ dL_law_297 ?_
                    clear hB
                    try clear locs
                    try clear H
                    intro r116 u116 H locs hp hB
                    obtain rfl : r116 = nI ((((L + 1) + 1) - 1) - 1) := hp
                    replace hB : zB D A s ([] ++ OW ka bd na ((((L + 1) + 1) - 1) - 1, (upd (upd mo L ((1 : Int32) + r106)) (L + 1) ((1 : Int32) + r106)), (upd (upd an L (nI a9)) (L + 1) (nI ((a9 + 6) % 12))), (upd (upd pl L (nI q9)) (L + 1) (nI q9)), ho, le, sz9, re9, fgB (fgB (fgB (fgB kp_101 3) 3) 3) 3, st_101, N_114, j_114)) H locs := hB
                    refine lv_iload_n hx hb dL_law_300 rfl (lv_at hl 7 rfl) ?_
                    refine lv_icmp_eq (tgt := 306) hx hb dL_law_301 (by decide) (fun h301 => ?_) (fun h301 => ?_)
                    · skip
                      replace hB : zB D A s ([] ++ OW ka bd na (L, (upd (upd mo L ((1 : Int32) + r106)) (L + 1) ((1 : Int32) + r106)), (upd (upd an L (nI a9)) (L + 1) (nI ((a9 + 6) % 12))), (upd (upd pl L (nI q9)) (L + 1) (nI q9)), ho, le, sz9, re9, fgB (fgB (fgB (fgB kp_101 3) 3) 3) 3, st_101, N_114, j_114)) H locs := hB
                      exact kk (upd (upd mo L ((1 : Int32) + r106)) (L + 1) ((1 : Int32) + r106)) (upd (upd an L (nI a9)) (L + 1) (nI ((a9 + 6) % 12))) (upd (upd pl L (nI q9)) (L + 1) (nI q9)) (fgB (fgB (fgB (fgB kp_101 3) 3) 3) 3) st_101 N_114 j_114 (okL_le hok2 (by omega)) (hb114) (h8_114) (hs101) H locs hB ls (lv_sub hl [8, 9] rfl)
                    · skip
                      exact absurd rfl h301
  · skip
    exact absurd (hr101.symm.trans h130) (by decide)
