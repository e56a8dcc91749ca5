set_option maxHeartbeats 8000000 in
set_option maxRecDepth 100000 in
theorem lw_S4a (l : Launch) (D : va_G) (ka : Nat → ClassId) (kb : Nat → Nat) (bd na : Nat → Nat) {p : Program} {e : Env} {s : State} {m : MethodId} {args : Array Value} {below : List Frame} {meth : Method} {c : Code} {A : Nat → Prop} {Q : State → Prop} {rt : Option FieldType} (hF : zF p s m args meth c D ka kb A cL_law RL 23 rt) (hL : kb 2 ≤ 260)
    (L : Nat) (mo : Nat → Int32) (an : Nat → Int32) (pl : Nat → Int32) (ho : Nat → Int32) (le : Nat → Int32) (sz9 : Int32) (re9 : Int32) (kp : Nat → Bool) (st : Nat → Int32) (N : Nat → N5) (j : JT) (pp : Nat)
    (hpp : pp < 2) (hPI : PI pp L mo an pl ho le sz9 re9 st N j)
    {H : Heap} {locs : List Loc} (hB : zB D A s ([] ++ OW ka bd na (L, mo, an, pl, ho, le, sz9, re9, kp, st, N, j)) H locs)
    (kk : ∀ (v9 : Nat) (n9 : Nat) (le9 : Nat → Int32) (szv : Int32), (v9 < 20) → (n9 < 3) → (szK szv = true) → (∀ i, pp < i → i < 2 → le9 i = 4095) → ∀ (H : Heap) (locs : List Loc), zB D A s ([] ++ OW ka bd na (L, mo, an, pl, ho, le9, szv, (nI v9), kp, st, N, j)) H locs → ∀ ls : Array Slot, lv_has ls 23 [(16, .int (nI (1 + n9))), (15, .int (nI v9)), (13, .int (nI pp)), (1, .ref (bd 31)), (0, .ref (kb 1))] → W p l e room_1 s m args below meth c H locs 75 545 Q (F0 m 421 ls []))
    {ls : Array Slot} (hl : lv_has ls 23 [(13, .int (nI pp)), (1, .ref (bd 31)), (0, .ref (kb 1))]) : W p l e room_1 s m args below meth c H locs 75 545 Q (F0 m 315 ls []) := by
  have hx : p.tables.exec = Jvm.exec := hF.1.1
  have hb : c.code = cL_law := hF.1.2.1
  obtain ⟨hok, hoh, hre, hszk, hB9, hD8, hS0, hpl⟩ := hPI
  refine lv_aload_n hx hb dL_law_315 rfl (lv_at hl 2 rfl) ?_
  refine lv_bipush (v := 21) hx hb dL_law_316 (by decide) ?_
  refine lv_iload hx hb dL_law_318 (lv_at hl 0 rfl) ?_
  refine lv_iadd hx hb dL_law_320 ?_
  refine ztopi (y := nI (21 + pp)) (nI_add 21 pp) ?_
  refine zSi zm_L_26 hF hB (c_L_cell l D ka kb (21 + pp) (hL) (by omega)) [] rfl (by decide) [] (fun _ => rfl) rfl rfl ⟨Nat.le_of_ble_eq_true rfl, Nat.le_of_ble_eq_true rfl⟩ rfl hl.1 (Nat.le_of_ble_eq_true rfl) ⟨Nat.le_of_ble_eq_true rfl, Nat.le_of_ble_eq_true rfl⟩ dL_law_321 ?_
  clear hB
  try clear locs
  try clear H
  intro r101 u101 H locs hp hB
  obtain ⟨u9101, rfl⟩ : ∃ z, z = u101 := ⟨_, rfl⟩
  have hp101 : True := hp
  have HPP := hp101
  replace hB : zB D A s ([] ++ OW ka bd na (L, mo, an, pl, ho, le, sz9, re9, kp, st, N, j)) H locs := hB
  refine lv_istore (lv' := [(14, .int r101), (13, .int (nI pp)), (1, .ref (bd 31)), (0, .ref (kb 1))]) hx hb dL_law_324 hl (by decide) rfl ?_
  clear hl
  clear ls
  intro ls hl
  refine lv_iload hx hb dL_law_326 (lv_at hl 0 rfl) ?_
  refine lv_bipush (v := 20) hx hb dL_law_328 (by decide) ?_
  refine zSi zm_L_30 hF hB (c_L_up l D ka kb r101 20 (by decide) (by decide)) [] rfl (by decide) [] (fun _ => rfl) rfl rfl ⟨Nat.le_of_ble_eq_true rfl, Nat.le_of_ble_eq_true rfl⟩ rfl hl.1 (Nat.le_of_ble_eq_true rfl) ⟨Nat.le_of_ble_eq_true rfl, Nat.le_of_ble_eq_true rfl⟩ dL_law_330 ?_
  clear hB
  try clear locs
  try clear H
  intro r102 u102 H locs hp hB
  obtain ⟨u9102, rfl⟩ : ∃ z, z = u102 := ⟨_, rfl⟩
  have hp102 : ∃ k9, k9 < 20 ∧ r102 = nI k9 := hp
  have HPP := hp102
  replace hB : zB D A s ([] ++ OW ka bd na (L, mo, an, pl, ho, le, sz9, re9, kp, st, N, j)) H locs := hB
  obtain ⟨v9, hv9, rfl⟩ := HPP
  refine lv_istore (lv' := [(15, .int (nI v9)), (14, .int r101), (13, .int (nI pp)), (1, .ref (bd 31)), (0, .ref (kb 1))]) hx hb dL_law_333 hl (by decide) rfl ?_
  clear hl
  clear ls
  intro ls hl
  refine lv_iconst (v := 1) hx hb dL_law_335 (by decide) ?_
  refine lv_iload hx hb dL_law_336 (lv_at hl 1 rfl) ?_
  refine lv_iconst (v := 5) hx hb dL_law_338 (by decide) ?_
  refine lv_ishr hx hb dL_law_339 ?_
  refine lv_iconst (v := 3) hx hb dL_law_340 (by decide) ?_
  refine zSi zm_L_30 hF hB (c_L_up l D ka kb (r101 >>> ((5 : Int32) &&& 31)) 3 (by decide) (by decide)) [] rfl (by decide) [] (fun _ => rfl) rfl rfl ⟨Nat.le_of_ble_eq_true rfl, Nat.le_of_ble_eq_true rfl⟩ rfl hl.1 (Nat.le_of_ble_eq_true rfl) ⟨Nat.le_of_ble_eq_true rfl, Nat.le_of_ble_eq_true rfl⟩ dL_law_341 ?_
  clear hB
  try clear locs
  try clear H
  intro r103 u103 H locs hp hB
  obtain ⟨u9103, rfl⟩ : ∃ z, z = u103 := ⟨_, rfl⟩
  have hp103 : ∃ k9, k9 < 3 ∧ r103 = nI k9 := hp
  have HPP := hp103
  replace hB : zB D A s ([] ++ OW ka bd na (L, mo, an, pl, ho, le, sz9, re9, kp, st, N, j)) H locs := hB
  obtain ⟨n9, hn9, rfl⟩ := HPP
  refine lv_iadd hx hb dL_law_344 ?_
  refine ztopi (y := nI (1 + n9)) (nI_add 1 n9) ?_
  refine lv_istore (lv' := [(16, .int (nI (1 + n9))), (15, .int (nI v9)), (14, .int r101), (13, .int (nI pp)), (1, .ref (bd 31)), (0, .ref (kb 1))]) hx hb dL_law_345 hl (by decide) rfl ?_
  clear hl
  clear ls
  intro ls hl
  refine lv_aload_n hx hb dL_law_347 rfl (lv_at hl 4 rfl) ?_
  refine lv_iload hx hb dL_law_348 (lv_at hl 1 rfl) ?_
  refine zWi zm_L_93 hF hB (w_limit l D ka kb bd na L mo an pl ho le sz9 re9 kp st N j (nI v9) (rng99 (by omega))) rfl ⟨Nat.le_of_ble_eq_true rfl, Nat.le_of_ble_eq_true rfl⟩ rfl hl.1 (Nat.le_of_ble_eq_true rfl) ⟨Nat.le_of_ble_eq_true rfl, Nat.le_of_ble_eq_true rfl⟩ dL_law_350 ?_
  clear hB
  try clear locs
  try clear H
  intro r104 u104 H locs hp hB
  have e9 : re9 = r104 := hp.symm
  subst e9
  replace hB : zB D A s ([] ++ OW ka bd na (L, mo, an, pl, ho, le, sz9, (nI v9), kp, st, N, j)) H locs := hB
  refine lv_if_lt (tgt := 419) hx hb dL_law_353 (by decide) (fun h353 => ?_) (fun h353 => ?_)
  · skip
    exact absurd ((i32_lt_i _ _).mp h353) (by rw [show (0 : Int32).toInt = 0 from rfl]; omega)
  · skip
    refine lv_aload_n hx hb dL_law_356 rfl (lv_at hl 4 rfl) ?_
    refine lv_iload hx hb dL_law_357 (lv_at hl 3 rfl) ?_
    refine lv_iload hx hb dL_law_359 (lv_at hl 2 rfl) ?_
    refine lv_bipush (v := 8) hx hb dL_law_361 (by decide) ?_
    refine lv_ishr hx hb dL_law_363 ?_
    refine lv_iconst (v := 1) hx hb dL_law_364 (by decide) ?_
    refine lv_iand hx hb dL_law_365 ?_
    refine lv_if_ne (tgt := 375) hx hb dL_law_366 (by decide) (fun h366 => ?_) (fun h366 => ?_)
    · skip
      refine lv_iload hx hb dL_law_375 (lv_at hl 2 rfl) ?_
      refine lv_bipush (v := 9) hx hb dL_law_377 (by decide) ?_
      refine lv_ishr hx hb dL_law_379 ?_
      refine lv_sipush (v := 4096) hx hb dL_law_380 (by decide) ?_
      refine zSi zm_L_30 hF hB (c_L_up l D ka kb (r101 >>> ((9 : Int32) &&& 31)) 4096 (by decide) (by decide)) [] rfl (by decide) [] (fun _ => rfl) rfl rfl ⟨Nat.le_of_ble_eq_true rfl, Nat.le_of_ble_eq_true rfl⟩ rfl hl.1 (Nat.le_of_ble_eq_true rfl) ⟨Nat.le_of_ble_eq_true rfl, Nat.le_of_ble_eq_true rfl⟩ dL_law_383 ?_
      clear hB
      try clear locs
      try clear H
      intro r105 u105 H locs hp hB
      obtain ⟨u9105, rfl⟩ : ∃ z, z = u105 := ⟨_, rfl⟩
      have hp105 : ∃ k9, k9 < 4096 ∧ r105 = nI k9 := hp
      have HPP := hp105
      have up383 := HPP
      replace hB : zB D A s ([] ++ OW ka bd na (L, mo, an, pl, ho, le, sz9, (nI v9), kp, st, N, j)) H locs := hB
      refine zWi zm_L_96 hF hB (w_lawful l D ka kb bd na L mo an pl ho le sz9 (nI v9) kp st N j pp r105 (hpp) (by have := i_up up383 (by decide); omega)) rfl ⟨Nat.le_of_ble_eq_true rfl, Nat.le_of_ble_eq_true rfl⟩ rfl hl.1 (Nat.le_of_ble_eq_true rfl) ⟨Nat.le_of_ble_eq_true rfl, Nat.le_of_ble_eq_true rfl⟩ dL_law_386 ?_
      clear hB
      try clear locs
      try clear H
      intro r106 u106 H locs hp hB
      obtain rfl : r106 = le pp := hp
      replace hB : zB D A s ([] ++ OW ka bd na (L, mo, an, pl, ho, upd le pp r105, sz9, (nI v9), kp, st, N, j)) H locs := hB
      refine lv_sipush (v := 4095) hx hb dL_law_389 (by decide) ?_
      refine lv_icmp_ne (tgt := 419) hx hb dL_law_392 (by decide) (fun h392 => ?_) (fun h392 => ?_)
      · skip
        exact absurd (hpl pp (Nat.le_refl _) hpp).1 h392
      · skip
        refine lv_aload_n hx hb dL_law_395 rfl (lv_at hl 4 rfl) ?_
        refine lv_iconst (v := 2) hx hb dL_law_396 (by decide) ?_
        refine lv_iconst (v := 1) hx hb dL_law_397 (by decide) ?_
        refine lv_iconst (v := 2) hx hb dL_law_398 (by decide) ?_
        refine lv_iload hx hb dL_law_399 (lv_at hl 2 rfl) ?_
        refine lv_bipush (v := 22) hx hb dL_law_401 (by decide) ?_
        refine lv_ishr hx hb dL_law_403 ?_
        refine lv_bipush (v := 8) hx hb dL_law_404 (by decide) ?_
        refine zSi zm_L_30 hF hB (c_L_up l D ka kb (r101 >>> ((22 : Int32) &&& 31)) 8 (by decide) (by decide)) [] rfl (by decide) [] (fun _ => rfl) rfl rfl ⟨Nat.le_of_ble_eq_true rfl, Nat.le_of_ble_eq_true rfl⟩ rfl hl.1 (Nat.le_of_ble_eq_true rfl) ⟨Nat.le_of_ble_eq_true rfl, Nat.le_of_ble_eq_true rfl⟩ dL_law_406 ?_
        clear hB
        try clear locs
        try clear H
        intro r107 u107 H locs hp hB
        obtain ⟨u9107, rfl⟩ : ∃ z, z = u107 := ⟨_, rfl⟩
        have hp107 : ∃ k9, k9 < 8 ∧ r107 = nI k9 := hp
        have HPP := hp107
        replace hB : zB D A s ([] ++ OW ka bd na (L, mo, an, pl, ho, upd le pp r105, sz9, (nI v9), kp, st, N, j)) H locs := hB
        obtain ⟨z9, hz9, rfl⟩ := HPP
        refine lv_iadd hx hb dL_law_409 ?_
        refine ztopi (y := nI (2 + z9)) (nI_add 2 z9) ?_
        refine lv_ishl hx hb dL_law_410 ?_
        refine lv_ior hx hb dL_law_411 ?_
        refine zWi zm_L_99 hF hB (w_sizes l D ka kb bd na L mo an pl ho (upd le pp r105) sz9 (nI v9) kp st N j ((2 : Int32) ||| ((1 : Int32) <<< ((nI (2 + z9)) &&& 31))) (sz_arg hz9)) rfl ⟨Nat.le_of_ble_eq_true rfl, Nat.le_of_ble_eq_true rfl⟩ rfl hl.1 (Nat.le_of_ble_eq_true rfl) ⟨Nat.le_of_ble_eq_true rfl, Nat.le_of_ble_eq_true rfl⟩ dL_law_412 ?_
        clear hB
        try clear locs
        try clear H
        intro r108 u108 H locs hp hB
        have e9 : sz9 = r108 := hp.symm
        subst e9
        replace hB : zB D A s ([] ++ OW ka bd na (L, mo, an, pl, ho, (upd le pp r105), ((2 : Int32) ||| ((1 : Int32) <<< ((nI (2 + z9)) &&& 31))), (nI v9), kp, st, N, j)) H locs := hB
        refine lv_iconst (v := 2) hx hb dL_law_415 (by decide) ?_
        refine lv_icmp_ge (tgt := 421) hx hb dL_law_416 (by decide) (fun h416 => ?_) (fun h416 => ?_)
        · skip
          exact kk v9 n9 (upd le pp r105) ((2 : Int32) ||| ((1 : Int32) <<< ((nI (2 + z9)) &&& 31))) (hv9) (hn9) (sz_arg hz9) (fun i h1 h2 => (upd_ne _ _ _ (by omega)).trans (hpl i (by omega) h2).1) H locs hB ls (lv_sub hl [0, 1, 3, 4, 5] rfl)
        · skip
          exact absurd ((i32_le_i _ _).mpr (by rw [show (2 : Int32).toInt = 2 from rfl]; exact szK_2 hszk)) h416
    · skip
      refine lv_sipush (v := 4095) hx hb dL_law_369 (by decide) ?_
      refine lv_goto (tgt := 386) hx hb dL_law_372 (by decide) ?_
      refine zWi zm_L_96 hF hB (w_lawful l D ka kb bd na L mo an pl ho le sz9 (nI v9) kp st N j pp (4095 : Int32) (hpp) (by decide)) rfl ⟨Nat.le_of_ble_eq_true rfl, Nat.le_of_ble_eq_true rfl⟩ rfl hl.1 (Nat.le_of_ble_eq_true rfl) ⟨Nat.le_of_ble_eq_true rfl, Nat.le_of_ble_eq_true rfl⟩ dL_law_386 ?_
      clear hB
      try clear locs
      try clear H
      intro r109 u109 H locs hp hB
      obtain rfl : r109 = le pp := hp
      replace hB : zB D A s ([] ++ OW ka bd na (L, mo, an, pl, ho, upd le pp (4095 : Int32), sz9, (nI v9), kp, st, N, j)) H locs := hB
      refine lv_sipush (v := 4095) hx hb dL_law_389 (by decide) ?_
      refine lv_icmp_ne (tgt := 419) hx hb dL_law_392 (by decide) (fun h392 => ?_) (fun h392 => ?_)
      · skip
        exact absurd (hpl pp (Nat.le_refl _) hpp).1 h392
      · skip
        refine lv_aload_n hx hb dL_law_395 rfl (lv_at hl 4 rfl) ?_
        refine lv_iconst (v := 2) hx hb dL_law_396 (by decide) ?_
        refine lv_iconst (v := 1) hx hb dL_law_397 (by decide) ?_
        refine lv_iconst (v := 2) hx hb dL_law_398 (by decide) ?_
        refine lv_iload hx hb dL_law_399 (lv_at hl 2 rfl) ?_
        refine lv_bipush (v := 22) hx hb dL_law_401 (by decide) ?_
        refine lv_ishr hx hb dL_law_403 ?_
        refine lv_bipush (v := 8) hx hb dL_law_404 (by decide) ?_
        refine zSi zm_L_30 hF hB (c_L_up l D ka kb (r101 >>> ((22 : Int32) &&& 31)) 8 (by decide) (by decide)) [] rfl (by decide) [] (fun _ => rfl) rfl rfl ⟨Nat.le_of_ble_eq_true rfl, Nat.le_of_ble_eq_true rfl⟩ rfl hl.1 (Nat.le_of_ble_eq_true rfl) ⟨Nat.le_of_ble_eq_true rfl, Nat.le_of_ble_eq_true rfl⟩ dL_law_406 ?_
        clear hB
        try clear locs
        try clear H
        intro r110 u110 H locs hp hB
        obtain ⟨u9110, rfl⟩ : ∃ z, z = u110 := ⟨_, rfl⟩
        have hp110 : ∃ k9, k9 < 8 ∧ r110 = nI k9 := hp
        have HPP := hp110
        replace hB : zB D A s ([] ++ OW ka bd na (L, mo, an, pl, ho, upd le pp (4095 : Int32), sz9, (nI v9), kp, st, N, j)) H locs := hB
        obtain ⟨z9, hz9, rfl⟩ := HPP
        refine lv_iadd hx hb dL_law_409 ?_
        refine ztopi (y := nI (2 + z9)) (nI_add 2 z9) ?_
        refine lv_ishl hx hb dL_law_410 ?_
        refine lv_ior hx hb dL_law_411 ?_
        refine zWi zm_L_99 hF hB (w_sizes l D ka kb bd na L mo an pl ho (upd le pp (4095 : Int32)) sz9 (nI v9) kp st N j ((2 : Int32) ||| ((1 : Int32) <<< ((nI (2 + z9)) &&& 31))) (sz_arg hz9)) rfl ⟨Nat.le_of_ble_eq_true rfl, Nat.le_of_ble_eq_true rfl⟩ rfl hl.1 (Nat.le_of_ble_eq_true rfl) ⟨Nat.le_of_ble_eq_true rfl, Nat.le_of_ble_eq_true rfl⟩ dL_law_412 ?_
        clear hB
        try clear locs
        try clear H
        intro r111 u111 H locs hp hB
        have e9 : sz9 = r111 := hp.symm
        subst e9
        replace hB : zB D A s ([] ++ OW ka bd na (L, mo, an, pl, ho, (upd le pp (4095 : Int32)), ((2 : Int32) ||| ((1 : Int32) <<< ((nI (2 + z9)) &&& 31))), (nI v9), kp, st, N, j)) H locs := hB
        refine lv_iconst (v := 2) hx hb dL_law_415 (by decide) ?_
        refine lv_icmp_ge (tgt := 421) hx hb dL_law_416 (by decide) (fun h416 => ?_) (fun h416 => ?_)
        · skip
          exact kk v9 n9 (upd le pp (4095 : Int32)) ((2 : Int32) ||| ((1 : Int32) <<< ((nI (2 + z9)) &&& 31))) (hv9) (hn9) (sz_arg hz9) (fun i h1 h2 => (upd_ne _ _ _ (by omega)).trans (hpl i (by omega) h2).1) H locs hB ls (lv_sub hl [0, 1, 3, 4, 5] rfl)
        · skip
          exact absurd ((i32_le_i _ _).mpr (by rw [show (2 : Int32).toInt = 2 from rfl]; exact szK_2 hszk)) h416

set_option maxHeartbeats 8000000 in
set_option maxRecDepth 100000 in
theorem lw_S4b (l : Launch) (D : va_G) (ka : Nat → ClassId) (kb : Nat → Nat) (bd na : Nat → Nat) {p : Program} {e : Env} {s : State} {m : MethodId} {args : Array Value} {below : List Frame} {meth : Method} {c : Code} {A : Nat → Prop} {Q : State → Prop} {rt : Option FieldType} (hF : zF p s m args meth c D ka kb A cL_law RL 23 rt) (hL : kb 2 ≤ 260)
    (L : Nat) (mo : Nat → Int32) (an : Nat → Int32) (pl : Nat → Int32) (ho : Nat → Int32) (le : Nat → Int32) (sz9 : Int32) (kp : Nat → Bool) (st : Nat → Int32) (N : Nat → N5) (j : JT) (pp v9 n9 : Nat)
    (hpp : pp < 2) (hv9 : v9 < 20) (hn9 : n9 < 3) (hok : okL L mo an pl) (hoh : okH ho) (hB9 : bB (jbb j)) (hszk : szK sz9 = true) (hD8 : ∀ i, i < 6 → 0 < (N (8 + i)).2.2.2.2.toInt) (hz : ∀ i, i < 12 → ho (12 * pp + i) = 0)
    {H : Heap} {locs : List Loc} (hB : zB D A s ([] ++ OW ka bd na (L, mo, an, pl, ho, le, sz9, (nI v9), kp, st, N, j)) H locs)
    (kkN : ∀ (N9 : Nat → N5) (j9 : JT), (∀ i, i < 6 → 0 < (N9 (8 + i)).2.2.2.2.toInt) → (bB (jbb j9)) → ∀ (H : Heap) (locs : List Loc), zB D A s ([] ++ OW ka bd na (L, mo, an, pl, ho, le, sz9, (nI v9), kp, st, N9, j9)) H locs → ∀ ls : Array Slot, lv_has ls 23 [(19, .int (0 : Int32)), (18, .int (-1 : Int32)), (16, .int (nI (1 + n9))), (13, .int (nI pp)), (1, .ref (bd 31)), (0, .ref (kb 1))] → W p l e room_1 s m args below meth c H locs 75 545 Q (F0 m 592 ls []))
    (kkS : ∀ (s9 : List Nat) (r19 : Int32) (kp9 : Nat → Bool) (N9 : Nat → N5) (j9 : JT), (DR pp L mo an pl ho le sz9 (nI v9).toInt s9) → (s9.length ≤ 4) → (∀ k, k < 12 → (lgX r19 k = 1 ↔ ∃ c, c ∈ s9.reverse ∧ c / 10 = k)) → (∀ i, i < 6 → 0 < (N9 (8 + i)).2.2.2.2.toInt) → (bB (jbb j9)) → ∀ (H : Heap) (locs : List Loc), zB D A s ([] ++ OW ka bd na (L, mo, an, pl, hoQ pp ho s9.reverse, le, sz9, (nI v9), kp9, st, N9, j9)) H locs → ∀ ls : Array Slot, lv_has ls 23 [(19, .int r19), (18, .int (nI s9.length)), (16, .int (nI (1 + n9))), (13, .int (nI pp)), (1, .ref (bd 31)), (0, .ref (kb 1))] → W p l e room_1 s m args below meth c H locs 75 545 Q (F0 m 592 ls []))
    {ls : Array Slot} (hl : lv_has ls 23 [(16, .int (nI (1 + n9))), (15, .int (nI v9)), (13, .int (nI pp)), (1, .ref (bd 31)), (0, .ref (kb 1))]) : W p l e room_1 s m args below meth c H locs 75 545 Q (F0 m 421 ls []) := by
  have hx : p.tables.exec = Jvm.exec := hF.1.1
  have hb : c.code = cL_law := hF.1.2.1
  have hPB : ∀ k, k < 4 → _ := fun k hk => pulI_B hpp hok hoh hk
  refine lv_aload_n hx hb dL_law_421 rfl (lv_at hl 3 rfl) ?_
  refine lv_iload hx hb dL_law_422 (lv_at hl 2 rfl) ?_
  refine zWi zm_L_102 hF hB (w_quiet l D ka kb bd na L mo an pl ho le sz9 (nI v9) kp st N j pp (by first | assumption | omega | decide) (by first | assumption | omega | decide) (rng99 (by omega)) (hpp) (hB9)) rfl ⟨Nat.le_of_ble_eq_true rfl, Nat.le_of_ble_eq_true rfl⟩ rfl hl.1 (Nat.le_of_ble_eq_true rfl) ⟨Nat.le_of_ble_eq_true rfl, Nat.le_of_ble_eq_true rfl⟩ dL_law_424 ?_
  clear hB
  try clear locs
  try clear H
  intro r101 u101 H locs hp hB
  obtain ⟨N_101, j_101⟩ := u101
  have hp101 : r101 = bI (quB (pulI pp L mo an pl ho) (nI v9).toInt) ∧ (∀ k9, k9 ≠ 34 → N_101 k9 = N k9) ∧ bB (jbb j_101) := hp
  have hr101 := hp101.1
  have hN101 := hp101.2.1
  have hb101 := hp101.2.2
  have h8_101 : ∀ i, i < 6 → 0 < (N_101 (8 + i)).2.2.2.2.toInt := fun i hi => by rw [hN101 (8 + i) (by omega)]; exact hD8 i hi
  replace hB : zB D A s ([] ++ OW ka bd na (L, mo, an, pl, ho, le, sz9, (nI v9), kp, st, N_101, j_101)) H locs := hB
  refine lv_istore (lv' := [(17, .int r101), (16, .int (nI (1 + n9))), (15, .int (nI v9)), (13, .int (nI pp)), (1, .ref (bd 31)), (0, .ref (kb 1))]) hx hb dL_law_427 hl (by decide) rfl ?_
  clear hl
  clear ls
  intro ls hl
  refine lv_aload_n hx hb dL_law_429 rfl (lv_at hl 4 rfl) ?_
  refine lv_iload hx hb dL_law_430 (lv_at hl 3 rfl) ?_
  refine lv_iload hx hb dL_law_432 (lv_at hl 1 rfl) ?_
  refine lv_iconst (v := 0) hx hb dL_law_434 (by decide) ?_
  refine zWi zm_L_105 hF hB (w_fewest l D ka kb bd na L mo an pl ho le sz9 (nI v9) kp st N_101 j_101 pp (1 + n9) 0 (hok) (hoh) (rng99 (by omega)) (hb101) (hszk) (hpp) (by omega) (by decide)) rfl ⟨Nat.le_of_ble_eq_true rfl, Nat.le_of_ble_eq_true rfl⟩ rfl hl.1 (Nat.le_of_ble_eq_true rfl) ⟨Nat.le_of_ble_eq_true rfl, Nat.le_of_ble_eq_true rfl⟩ dL_law_435 ?_
  clear hB
  try clear locs
  try clear H
  intro r102 u102 H locs hp hB
  obtain ⟨N_102, j_102⟩ := u102
  have hp102 : r102 = fwA 0 (seS (fun n b => srR (okC sz9 pp le ho) (lkU (pulI pp L mo an pl ho) (nI v9).toInt) n 1 [] b) ((1 + n9) + 1) ((-1 : Int32), (jbb j_101).2)) ∧ (∀ k9, (k9 < 34 ∨ 38 < k9) → N_102 k9 = N_101 k9) ∧ bB (jbb j_102) := hp
  have hr102 := hp102.1
  have hN102 := hp102.2.1
  have hb102 := hp102.2.2
  have h8_102 : ∀ i, i < 6 → 0 < (N_102 (8 + i)).2.2.2.2.toInt := fun i hi => by rw [hN102 (8 + i) (Or.inl (by omega))]; exact h8_101 i hi
  replace hB : zB D A s ([] ++ OW ka bd na (L, mo, an, pl, ho, le, sz9, (nI v9), kp, st, N_102, j_102)) H locs := hB
  rcases fw_min (P := pulI pp L mo an pl ho) (li := (nI v9).toInt) (ok := okC sz9 pp le ho) (jbb j_101).2 (1 + n9 + 1) (by omega) with ⟨e1, e2⟩ | ⟨mm, m1, m2, m3, m4⟩
  · skip
    obtain rfl : r102 = -1 := hr102.trans e1
    have hq0 : quB (pulI pp L mo an pl ho) (nI v9).toInt = false := by
      cases e : quB (pulI pp L mo an pl ho) (nI v9).toInt
      · rfl
      · exact absurd (Qt_0.mpr e) (e2 0 (by omega))
    obtain rfl : r101 = 0 := hr101.trans (by rw [hq0]; rfl)
    replace hB : zB D A s ([] ++ OW ka bd na (L, mo, an, pl, ho, le, sz9, (nI v9), kp, st, N_102, j_102)) H locs := hB
    refine lv_istore (lv' := [(18, .int (-1 : Int32)), (17, .int (0 : Int32)), (16, .int (nI (1 + n9))), (15, .int (nI v9)), (13, .int (nI pp)), (1, .ref (bd 31)), (0, .ref (kb 1))]) hx hb dL_law_438 hl (by decide) rfl ?_
    clear hl
    clear ls
    intro ls hl
    refine lv_aload_n hx hb dL_law_440 rfl (lv_at hl 5 rfl) ?_
    refine lv_iload hx hb dL_law_441 (lv_at hl 4 rfl) ?_
    refine lv_iload hx hb dL_law_443 (lv_at hl 2 rfl) ?_
    refine lv_iconst (v := 1) hx hb dL_law_445 (by decide) ?_
    refine zWi zm_L_105 hF hB (w_fewest l D ka kb bd na L mo an pl ho le sz9 (nI v9) kp st N_102 j_102 pp (1 + n9) 1 (hok) (hoh) (rng99 (by omega)) (hb102) (hszk) (hpp) (by omega) (by decide)) rfl ⟨Nat.le_of_ble_eq_true rfl, Nat.le_of_ble_eq_true rfl⟩ rfl hl.1 (Nat.le_of_ble_eq_true rfl) ⟨Nat.le_of_ble_eq_true rfl, Nat.le_of_ble_eq_true rfl⟩ dL_law_446 ?_
    clear hB
    try clear locs
    try clear H
    intro r103 u103 H locs hp hB
    obtain ⟨N_103, j_103⟩ := u103
    have hp103 : r103 = fwA 1 (seS (fun n b => srR (okC sz9 pp le ho) (lkU (pulI pp L mo an pl ho) (nI v9).toInt) n 1 [] b) ((1 + n9) + 1) ((-1 : Int32), (jbb j_102).2)) ∧ (∀ k9, (k9 < 34 ∨ 38 < k9) → N_103 k9 = N_102 k9) ∧ bB (jbb j_103) := hp
    have hr103 := hp103.1
    have hN103 := hp103.2.1
    have hb103 := hp103.2.2
    have h8_103 : ∀ i, i < 6 → 0 < (N_103 (8 + i)).2.2.2.2.toInt := fun i hi => by rw [hN103 (8 + i) (Or.inl (by omega))]; exact h8_102 i hi
    replace hB : zB D A s ([] ++ OW ka bd na (L, mo, an, pl, ho, le, sz9, (nI v9), kp, st, N_103, j_103)) H locs := hB
    obtain rfl : r103 = 0 := hr103.trans (fwA1_m1 (fw_none (by omega) e2 _))
    replace hB : zB D A s ([] ++ OW ka bd na (L, mo, an, pl, ho, le, sz9, (nI v9), kp, st, N_103, j_103)) H locs := hB
    refine lv_istore (lv' := [(19, .int (0 : Int32)), (18, .int (-1 : Int32)), (17, .int (0 : Int32)), (16, .int (nI (1 + n9))), (15, .int (nI v9)), (13, .int (nI pp)), (1, .ref (bd 31)), (0, .ref (kb 1))]) hx hb dL_law_449 hl (by decide) rfl ?_
    clear hl
    clear ls
    intro ls hl
    refine lv_aload_n hx hb dL_law_451 rfl (lv_at hl 6 rfl) ?_
    refine lv_iload hx hb dL_law_452 (lv_at hl 4 rfl) ?_
    refine lv_iconst (v := 5) hx hb dL_law_454 (by decide) ?_
    refine lv_iadd hx hb dL_law_455 ?_
    refine ztopi (y := nI (v9 + 5)) (nI_add v9 5) ?_
    refine zWi zm_L_93 hF hB (w_limit l D ka kb bd na L mo an pl ho le sz9 (nI v9) kp st N_103 j_103 (nI (v9 + 5)) (rng99 (by omega))) rfl ⟨Nat.le_of_ble_eq_true rfl, Nat.le_of_ble_eq_true rfl⟩ rfl hl.1 (Nat.le_of_ble_eq_true rfl) ⟨Nat.le_of_ble_eq_true rfl, Nat.le_of_ble_eq_true rfl⟩ dL_law_456 ?_
    clear hB
    try clear locs
    try clear H
    intro r104 u104 H locs hp hB
    obtain rfl : r104 = (nI v9) := hp
    replace hB : zB D A s ([] ++ OW ka bd na (L, mo, an, pl, ho, le, sz9, (nI (v9 + 5)), kp, st, N_103, j_103)) H locs := hB
    refine lv_iload hx hb dL_law_459 (lv_at hl 4 rfl) ?_
    refine lv_icmp_ne (tgt := 508) hx hb dL_law_461 (by decide) (fun h461 => ?_) (fun h461 => ?_)
    · skip
      exact (h461 rfl).elim
    · skip
      refine lv_iload hx hb dL_law_464 (lv_at hl 1 rfl) ?_
      refine lv_if_lt (tgt := 495) hx hb dL_law_466 (by decide) (fun h466 => ?_) (fun h466 => ?_)
      · skip
        refine lv_aload_n hx hb dL_law_495 rfl (lv_at hl 6 rfl) ?_
        refine lv_iload hx hb dL_law_496 (lv_at hl 4 rfl) ?_
        refine zWi zm_L_93 hF hB (w_limit l D ka kb bd na L mo an pl ho le sz9 (nI (v9 + 5)) kp st N_103 j_103 (nI v9) (rng99 (by omega))) rfl ⟨Nat.le_of_ble_eq_true rfl, Nat.le_of_ble_eq_true rfl⟩ rfl hl.1 (Nat.le_of_ble_eq_true rfl) ⟨Nat.le_of_ble_eq_true rfl, Nat.le_of_ble_eq_true rfl⟩ dL_law_498 ?_
        clear hB
        try clear locs
        try clear H
        intro r105 u105 H locs hp hB
        obtain rfl : r105 = (nI (v9 + 5)) := hp
        replace hB : zB D A s ([] ++ OW ka bd na (L, mo, an, pl, ho, le, sz9, (nI v9), kp, st, N_103, j_103)) H locs := hB
        refine lv_iload hx hb dL_law_501 (lv_at hl 4 rfl) ?_
        refine lv_iconst (v := 5) hx hb dL_law_503 (by decide) ?_
        refine lv_iadd hx hb dL_law_504 ?_
        refine ztopi (y := nI (v9 + 5)) (nI_add v9 5) ?_
        refine lv_icmp_eq (tgt := 510) hx hb dL_law_505 (by decide) (fun h505 => ?_) (fun h505 => ?_)
        · skip
          refine lv_iload hx hb dL_law_510 (lv_at hl 1 rfl) ?_
          refine lv_iconst (v := -1) hx hb dL_law_512 (by decide) ?_
          refine lv_icmp_lt (tgt := 590) hx hb dL_law_513 (by decide) (fun h513 => ?_) (fun h513 => ?_)
          · skip
            exact absurd h513 (by decide)
          · skip
            refine lv_iload hx hb dL_law_516 (lv_at hl 1 rfl) ?_
            refine lv_iload hx hb dL_law_518 (lv_at hl 3 rfl) ?_
            refine lv_icmp_gt (tgt := 590) hx hb dL_law_520 (by decide) (fun h520 => ?_) (fun h520 => ?_)
            · skip
              exact absurd ((i32_lt_i _ _).mp h520) (by rw [show (-1 : Int32).toInt = -1 from rfl]; have := nI_nn (k := 1 + n9) (by omega); omega)
            · skip
              refine lv_iload hx hb dL_law_523 (lv_at hl 2 rfl) ?_
              refine lv_iconst (v := 1) hx hb dL_law_525 (by decide) ?_
              refine lv_icmp_ne (tgt := 533) hx hb dL_law_526 (by decide) (fun h526 => ?_) (fun h526 => ?_)
              · skip
                refine lv_iconst (v := 0) hx hb dL_law_533 (by decide) ?_
                refine lv_iload hx hb dL_law_534 (lv_at hl 1 rfl) ?_
                refine lv_if_ne (tgt := 543) hx hb dL_law_536 (by decide) (fun h536 => ?_) (fun h536 => ?_)
                · skip
                  refine lv_iconst (v := 0) hx hb dL_law_543 (by decide) ?_
                  refine lv_icmp_ne (tgt := 590) hx hb dL_law_544 (by decide) (fun h544 => ?_) (fun h544 => ?_)
                  · skip
                    exact absurd rfl h544
                  · skip
                    refine lv_iload hx hb dL_law_547 (lv_at hl 1 rfl) ?_
                    refine lv_if_le (tgt := 567) hx hb dL_law_549 (by decide) (fun h549 => ?_) (fun h549 => ?_)
                    · skip
                      refine lv_aload_n hx hb dL_law_567 rfl (lv_at hl 6 rfl) ?_
                      refine lv_iload hx hb dL_law_568 (lv_at hl 5 rfl) ?_
                      refine lv_iload hx hb dL_law_570 (lv_at hl 3 rfl) ?_
                      refine zWi zm_L_108 hF hB (w_drillAll l D ka kb bd na L mo an pl ho le sz9 (nI v9) kp st N_103 j_103 pp (1 + n9) (hok) (hoh) (rng99 (by omega)) (hb103) (hszk) (hpp) (by omega)) rfl ⟨Nat.le_of_ble_eq_true rfl, Nat.le_of_ble_eq_true rfl⟩ rfl hl.1 (Nat.le_of_ble_eq_true rfl) ⟨Nat.le_of_ble_eq_true rfl, Nat.le_of_ble_eq_true rfl⟩ dL_law_572 ?_
                      clear hB
                      try clear locs
                      try clear H
                      intro r106 u106 H locs hp hB
                      obtain ⟨N_106, j_106⟩ := u106
                      have hp106 : r106 = (if (seS (fun n b => srR (okC sz9 pp le ho) (lkU (pulI pp L mo an pl ho) (nI v9).toInt) n 1 [] b) ((1 + n9) + 1) ((-1 : Int32), (jbb j_103).2)).1 = -1 then (-3 : Int32) else (seS (fun n b => srR (okC sz9 pp le ho) (lkU (pulI pp L mo an pl ho) (nI v9).toInt) n 1 [] b) ((1 + n9) + 1) ((-1 : Int32), (jbb j_103).2)).1) ∧ (∀ k9, (k9 < 34 ∨ 38 < k9) → N_106 k9 = N_103 k9) ∧ bB (jbb j_106) := hp
                      have hr106 := hp106.1
                      have hN106 := hp106.2.1
                      have hb106 := hp106.2.2
                      have h8_106 : ∀ i, i < 6 → 0 < (N_106 (8 + i)).2.2.2.2.toInt := fun i hi => by rw [hN106 (8 + i) (Or.inl (by omega))]; exact h8_103 i hi
                      replace hB : zB D A s ([] ++ OW ka bd na (L, mo, an, pl, dhS pp (seS (fun n b => srR (okC sz9 pp le ho) (lkU (pulI pp L mo an pl ho) (nI v9).toInt) n 1 [] b) ((1 + n9) + 1) ((-1 : Int32), (jbb j_103).2)) (aN (seS (fun n b => srR (okC sz9 pp le ho) (lkU (pulI pp L mo an pl ho) (nI v9).toInt) n 1 [] b) ((1 + n9) + 1) ((-1 : Int32), (jbb j_103).2)).1) ho, le, sz9, (nI v9), if 0 < aN (seS (fun n b => srR (okC sz9 pp le ho) (lkU (pulI pp L mo an pl ho) (nI v9).toInt) n 1 [] b) ((1 + n9) + 1) ((-1 : Int32), (jbb j_103).2)).1 then fgB kp 3 else kp, st, N_106, j_106)) H locs := hB
                      have hd1 := fw_none (P := pulI pp L mo an pl ho) (li := (nI v9).toInt) (ok := okC sz9 pp le ho) (k := 1 + n9 + 1) (by omega) e2 (jbb j_103).2
                      obtain rfl : r106 = -3 := hr106.trans (if_pos hd1)
                      rw [hd1] at hB
                      replace hB : zB D A s ([] ++ OW ka bd na (L, mo, an, pl, ho, le, sz9, (nI v9), kp, st, N_106, j_106)) H locs := hB
                      refine lv_iload hx hb dL_law_575 (lv_at hl 1 rfl) ?_
                      refine lv_if_ge (tgt := 585) hx hb dL_law_577 (by decide) (fun h577 => ?_) (fun h577 => ?_)
                      · skip
                        exact absurd h577 (by decide)
                      · skip
                        refine lv_bipush (v := -3) hx hb dL_law_580 (by decide) ?_
                        refine lv_goto (tgt := 587) hx hb dL_law_582 (by decide) ?_
                        refine lv_icmp_eq (tgt := 592) hx hb dL_law_587 (by decide) (fun h587 => ?_) (fun h587 => ?_)
                        · skip
                          exact kkN N_106 j_106 (h8_106) (hb106) H locs hB ls (lv_sub hl [0, 1, 3, 5, 6, 7] rfl)
                        · skip
                          exact absurd (by decide) h587
                    · skip
                      exact absurd (by decide) h549
                · skip
                  exact absurd h536 (by decide)
              · skip
                exact absurd h526 (by decide)
        · skip
          exact absurd rfl h505
      · skip
        exact absurd (by decide) h466
  · skip
    obtain rfl : r102 = nI mm := hr102.trans m2
    replace hB : zB D A s ([] ++ OW ka bd na (L, mo, an, pl, ho, le, sz9, (nI v9), kp, st, N_102, j_102)) H locs := hB
    refine lv_istore (lv' := [(18, .int (nI mm)), (17, .int r101), (16, .int (nI (1 + n9))), (15, .int (nI v9)), (13, .int (nI pp)), (1, .ref (bd 31)), (0, .ref (kb 1))]) hx hb dL_law_438 hl (by decide) rfl ?_
    clear hl
    clear ls
    intro ls hl
    refine lv_aload_n hx hb dL_law_440 rfl (lv_at hl 5 rfl) ?_
    refine lv_iload hx hb dL_law_441 (lv_at hl 4 rfl) ?_
    refine lv_iload hx hb dL_law_443 (lv_at hl 2 rfl) ?_
    refine lv_iconst (v := 1) hx hb dL_law_445 (by decide) ?_
    refine zWi zm_L_105 hF hB (w_fewest l D ka kb bd na L mo an pl ho le sz9 (nI v9) kp st N_102 j_102 pp (1 + n9) 1 (hok) (hoh) (rng99 (by omega)) (hb102) (hszk) (hpp) (by omega) (by decide)) rfl ⟨Nat.le_of_ble_eq_true rfl, Nat.le_of_ble_eq_true rfl⟩ rfl hl.1 (Nat.le_of_ble_eq_true rfl) ⟨Nat.le_of_ble_eq_true rfl, Nat.le_of_ble_eq_true rfl⟩ dL_law_446 ?_
    clear hB
    try clear locs
    try clear H
    intro r107 u107 H locs hp hB
    obtain ⟨N_107, j_107⟩ := u107
    have hp107 : r107 = fwA 1 (seS (fun n b => srR (okC sz9 pp le ho) (lkU (pulI pp L mo an pl ho) (nI v9).toInt) n 1 [] b) ((1 + n9) + 1) ((-1 : Int32), (jbb j_102).2)) ∧ (∀ k9, (k9 < 34 ∨ 38 < k9) → N_107 k9 = N_102 k9) ∧ bB (jbb j_107) := hp
    have hr107 := hp107.1
    have hN107 := hp107.2.1
    have hb107 := hp107.2.2
    have h8_107 : ∀ i, i < 6 → 0 < (N_107 (8 + i)).2.2.2.2.toInt := fun i hi => by rw [hN107 (8 + i) (Or.inl (by omega))]; exact h8_102 i hi
    replace hB : zB D A s ([] ++ OW ka bd na (L, mo, an, pl, ho, le, sz9, (nI v9), kp, st, N_107, j_107)) H locs := hB
    have h19 := hr107
    refine lv_istore (lv' := [(19, .int r107), (18, .int (nI mm)), (17, .int r101), (16, .int (nI (1 + n9))), (15, .int (nI v9)), (13, .int (nI pp)), (1, .ref (bd 31)), (0, .ref (kb 1))]) hx hb dL_law_449 hl (by decide) rfl ?_
    clear hl
    clear ls
    intro ls hl
    refine lv_aload_n hx hb dL_law_451 rfl (lv_at hl 6 rfl) ?_
    refine lv_iload hx hb dL_law_452 (lv_at hl 4 rfl) ?_
    refine lv_iconst (v := 5) hx hb dL_law_454 (by decide) ?_
    refine lv_iadd hx hb dL_law_455 ?_
    refine ztopi (y := nI (v9 + 5)) (nI_add v9 5) ?_
    refine zWi zm_L_93 hF hB (w_limit l D ka kb bd na L mo an pl ho le sz9 (nI v9) kp st N_107 j_107 (nI (v9 + 5)) (rng99 (by omega))) rfl ⟨Nat.le_of_ble_eq_true rfl, Nat.le_of_ble_eq_true rfl⟩ rfl hl.1 (Nat.le_of_ble_eq_true rfl) ⟨Nat.le_of_ble_eq_true rfl, Nat.le_of_ble_eq_true rfl⟩ dL_law_456 ?_
    clear hB
    try clear locs
    try clear H
    intro r108 u108 H locs hp hB
    obtain rfl : r108 = (nI v9) := hp
    replace hB : zB D A s ([] ++ OW ka bd na (L, mo, an, pl, ho, le, sz9, (nI (v9 + 5)), kp, st, N_107, j_107)) H locs := hB
    refine lv_iload hx hb dL_law_459 (lv_at hl 4 rfl) ?_
    refine lv_icmp_ne (tgt := 508) hx hb dL_law_461 (by decide) (fun h461 => ?_) (fun h461 => ?_)
    · skip
      exact (h461 rfl).elim
    · skip
      refine lv_iload hx hb dL_law_464 (lv_at hl 1 rfl) ?_
      refine lv_if_lt (tgt := 495) hx hb dL_law_466 (by decide) (fun h466 => ?_) (fun h466 => ?_)
      · skip
        exact absurd ((i32_lt_i _ _).mp h466) (by rw [show (0 : Int32).toInt = 0 from rfl]; have := nI_nn (k := mm) (by omega); omega)
      · skip
        refine lv_aload_n hx hb dL_law_469 rfl (lv_at hl 6 rfl) ?_
        refine lv_iload hx hb dL_law_470 (lv_at hl 5 rfl) ?_
        refine lv_iload hx hb dL_law_472 (lv_at hl 3 rfl) ?_
        refine lv_iconst (v := 0) hx hb dL_law_474 (by decide) ?_
        refine zWi zm_L_105 hF hB (w_fewest l D ka kb bd na L mo an pl ho le sz9 (nI (v9 + 5)) kp st N_107 j_107 pp (1 + n9) 0 (hok) (hoh) (rng99 (by omega)) (hb107) (hszk) (hpp) (by omega) (by decide)) rfl ⟨Nat.le_of_ble_eq_true rfl, Nat.le_of_ble_eq_true rfl⟩ rfl hl.1 (Nat.le_of_ble_eq_true rfl) ⟨Nat.le_of_ble_eq_true rfl, Nat.le_of_ble_eq_true rfl⟩ dL_law_475 ?_
        clear hB
        try clear locs
        try clear H
        intro r109 u109 H locs hp hB
        obtain ⟨N_109, j_109⟩ := u109
        have hp109 : r109 = fwA 0 (seS (fun n b => srR (okC sz9 pp le ho) (lkU (pulI pp L mo an pl ho) (nI (v9 + 5)).toInt) n 1 [] b) ((1 + n9) + 1) ((-1 : Int32), (jbb j_107).2)) ∧ (∀ k9, (k9 < 34 ∨ 38 < k9) → N_109 k9 = N_107 k9) ∧ bB (jbb j_109) := hp
        have hr109 := hp109.1
        have hN109 := hp109.2.1
        have hb109 := hp109.2.2
        have h8_109 : ∀ i, i < 6 → 0 < (N_109 (8 + i)).2.2.2.2.toInt := fun i hi => by rw [hN109 (8 + i) (Or.inl (by omega))]; exact h8_107 i hi
        replace hB : zB D A s ([] ++ OW ka bd na (L, mo, an, pl, ho, le, sz9, (nI (v9 + 5)), kp, st, N_109, j_109)) H locs := hB
        obtain ⟨ma, hma, ema⟩ := fw_le (P := pulI pp L mo an pl ho) (li := (nI (v9 + 5)).toInt) (ok := okC sz9 pp le ho) (k := 1 + n9 + 1) (by omega) m1 (Qt_mono hPB (by omega) (rng99 (by omega)).1 (by rw [nI_toInt (by omega), nI_toInt (by omega)]; omega) m3) (jbb j_107).2
        obtain rfl : r109 = nI ma := hr109.trans ema
        replace hB : zB D A s ([] ++ OW ka bd na (L, mo, an, pl, ho, le, sz9, (nI (v9 + 5)), kp, st, N_109, j_109)) H locs := hB
        refine lv_if_lt (tgt := 508) hx hb dL_law_478 (by decide) (fun h478 => ?_) (fun h478 => ?_)
        · skip
          exact absurd ((i32_lt_i _ _).mp h478) (by rw [show (0 : Int32).toInt = 0 from rfl]; have := nI_nn (k := ma) (by omega); omega)
        · skip
          refine lv_aload_n hx hb dL_law_481 rfl (lv_at hl 6 rfl) ?_
          refine lv_iload hx hb dL_law_482 (lv_at hl 5 rfl) ?_
          refine lv_iload hx hb dL_law_484 (lv_at hl 3 rfl) ?_
          refine lv_iconst (v := 0) hx hb dL_law_486 (by decide) ?_
          refine zWi zm_L_105 hF hB (w_fewest l D ka kb bd na L mo an pl ho le sz9 (nI (v9 + 5)) kp st N_109 j_109 pp (1 + n9) 0 (hok) (hoh) (rng99 (by omega)) (hb109) (hszk) (hpp) (by omega) (by decide)) rfl ⟨Nat.le_of_ble_eq_true rfl, Nat.le_of_ble_eq_true rfl⟩ rfl hl.1 (Nat.le_of_ble_eq_true rfl) ⟨Nat.le_of_ble_eq_true rfl, Nat.le_of_ble_eq_true rfl⟩ dL_law_487 ?_
          clear hB
          try clear locs
          try clear H
          intro r110 u110 H locs hp hB
          obtain ⟨N_110, j_110⟩ := u110
          have hp110 : r110 = fwA 0 (seS (fun n b => srR (okC sz9 pp le ho) (lkU (pulI pp L mo an pl ho) (nI (v9 + 5)).toInt) n 1 [] b) ((1 + n9) + 1) ((-1 : Int32), (jbb j_109).2)) ∧ (∀ k9, (k9 < 34 ∨ 38 < k9) → N_110 k9 = N_109 k9) ∧ bB (jbb j_110) := hp
          have hr110 := hp110.1
          have hN110 := hp110.2.1
          have hb110 := hp110.2.2
          have h8_110 : ∀ i, i < 6 → 0 < (N_110 (8 + i)).2.2.2.2.toInt := fun i hi => by rw [hN110 (8 + i) (Or.inl (by omega))]; exact h8_109 i hi
          replace hB : zB D A s ([] ++ OW ka bd na (L, mo, an, pl, ho, le, sz9, (nI (v9 + 5)), kp, st, N_110, j_110)) H locs := hB
          obtain ⟨mb, hmb, emb⟩ := fw_le (P := pulI pp L mo an pl ho) (li := (nI (v9 + 5)).toInt) (ok := okC sz9 pp le ho) (k := 1 + n9 + 1) (by omega) m1 (Qt_mono hPB (by omega) (rng99 (by omega)).1 (by rw [nI_toInt (by omega), nI_toInt (by omega)]; omega) m3) (jbb j_109).2
          obtain rfl : r110 = nI mb := hr110.trans emb
          replace hB : zB D A s ([] ++ OW ka bd na (L, mo, an, pl, ho, le, sz9, (nI (v9 + 5)), kp, st, N_110, j_110)) H locs := hB
          refine lv_iload hx hb dL_law_490 (lv_at hl 1 rfl) ?_
          refine lv_icmp_gt (tgt := 508) hx hb dL_law_492 (by decide) (fun h492 => ?_) (fun h492 => ?_)
          · skip
            exact absurd ((i32_lt_i _ _).mp h492) (by rw [nI_toInt (by omega), nI_toInt (by omega)]; omega)
          · skip
            refine lv_aload_n hx hb dL_law_495 rfl (lv_at hl 6 rfl) ?_
            refine lv_iload hx hb dL_law_496 (lv_at hl 4 rfl) ?_
            refine zWi zm_L_93 hF hB (w_limit l D ka kb bd na L mo an pl ho le sz9 (nI (v9 + 5)) kp st N_110 j_110 (nI v9) (rng99 (by omega))) rfl ⟨Nat.le_of_ble_eq_true rfl, Nat.le_of_ble_eq_true rfl⟩ rfl hl.1 (Nat.le_of_ble_eq_true rfl) ⟨Nat.le_of_ble_eq_true rfl, Nat.le_of_ble_eq_true rfl⟩ dL_law_498 ?_
            clear hB
            try clear locs
            try clear H
            intro r111 u111 H locs hp hB
            obtain rfl : r111 = (nI (v9 + 5)) := hp
            replace hB : zB D A s ([] ++ OW ka bd na (L, mo, an, pl, ho, le, sz9, (nI v9), kp, st, N_110, j_110)) H locs := hB
            refine lv_iload hx hb dL_law_501 (lv_at hl 4 rfl) ?_
            refine lv_iconst (v := 5) hx hb dL_law_503 (by decide) ?_
            refine lv_iadd hx hb dL_law_504 ?_
            refine ztopi (y := nI (v9 + 5)) (nI_add v9 5) ?_
            refine lv_icmp_eq (tgt := 510) hx hb dL_law_505 (by decide) (fun h505 => ?_) (fun h505 => ?_)
            · skip
              refine lv_iload hx hb dL_law_510 (lv_at hl 1 rfl) ?_
              refine lv_iconst (v := -1) hx hb dL_law_512 (by decide) ?_
              refine lv_icmp_lt (tgt := 590) hx hb dL_law_513 (by decide) (fun h513 => ?_) (fun h513 => ?_)
              · skip
                exact absurd ((i32_lt_i _ _).mp h513) (by rw [show (-1 : Int32).toInt = -1 from rfl]; have := nI_nn (k := mm) (by omega); omega)
              · skip
                refine lv_iload hx hb dL_law_516 (lv_at hl 1 rfl) ?_
                refine lv_iload hx hb dL_law_518 (lv_at hl 3 rfl) ?_
                refine lv_icmp_gt (tgt := 590) hx hb dL_law_520 (by decide) (fun h520 => ?_) (fun h520 => ?_)
                · skip
                  exact absurd ((i32_lt_i _ _).mp h520) (by rw [nI_toInt (by omega), nI_toInt (by omega)]; omega)
                · skip
                  refine lv_iload hx hb dL_law_523 (lv_at hl 2 rfl) ?_
                  refine lv_iconst (v := 1) hx hb dL_law_525 (by decide) ?_
                  refine lv_icmp_ne (tgt := 533) hx hb dL_law_526 (by decide) (fun h526 => ?_) (fun h526 => ?_)
                  · skip
                    refine lv_iconst (v := 0) hx hb dL_law_533 (by decide) ?_
                    refine lv_iload hx hb dL_law_534 (lv_at hl 1 rfl) ?_
                    refine lv_if_ne (tgt := 543) hx hb dL_law_536 (by decide) (fun h536 => ?_) (fun h536 => ?_)
                    · skip
                      refine lv_iconst (v := 0) hx hb dL_law_543 (by decide) ?_
                      refine lv_icmp_ne (tgt := 590) hx hb dL_law_544 (by decide) (fun h544 => ?_) (fun h544 => ?_)
                      · skip
                        exact absurd rfl h544
                      · skip
                        refine lv_iload hx hb dL_law_547 (lv_at hl 1 rfl) ?_
                        refine lv_if_le (tgt := 567) hx hb dL_law_549 (by decide) (fun h549 => ?_) (fun h549 => ?_)
                        · skip
                          exact absurd ((i32_le_i _ _).mp h549) (by rw [show (0 : Int32).toInt = 0 from rfl, nI_toInt (by omega)]; have : mm ≠ 0 := fun e => h536 (by rw [e]; rfl); omega)
                        · skip
                          have hm1 : 1 ≤ mm := Nat.pos_of_ne_zero (fun e => h536 (by rw [e]; rfl))
                          refine lv_aload_n hx hb dL_law_552 rfl (lv_at hl 6 rfl) ?_
                          refine lv_iload hx hb dL_law_553 (lv_at hl 5 rfl) ?_
                          refine lv_iload hx hb dL_law_555 (lv_at hl 1 rfl) ?_
                          refine lv_iconst (v := 1) hx hb dL_law_557 (by decide) ?_
                          refine lv_isub hx hb dL_law_558 ?_
                          refine ztopi (y := nI (mm - 1)) (nI_s1 hm1) ?_
                          refine lv_iconst (v := 0) hx hb dL_law_559 (by decide) ?_
                          refine zWi zm_L_105 hF hB (w_fewest l D ka kb bd na L mo an pl ho le sz9 (nI v9) kp st N_110 j_110 pp (mm - 1) 0 (hok) (hoh) (rng99 (by omega)) (hb110) (hszk) (hpp) (by omega) (by decide)) rfl ⟨Nat.le_of_ble_eq_true rfl, Nat.le_of_ble_eq_true rfl⟩ rfl hl.1 (Nat.le_of_ble_eq_true rfl) ⟨Nat.le_of_ble_eq_true rfl, Nat.le_of_ble_eq_true rfl⟩ dL_law_560 ?_
                          clear hB
                          try clear locs
                          try clear H
                          intro r112 u112 H locs hp hB
                          obtain ⟨N_112, j_112⟩ := u112
                          have hp112 : r112 = fwA 0 (seS (fun n b => srR (okC sz9 pp le ho) (lkU (pulI pp L mo an pl ho) (nI v9).toInt) n 1 [] b) ((mm - 1) + 1) ((-1 : Int32), (jbb j_110).2)) ∧ (∀ k9, (k9 < 34 ∨ 38 < k9) → N_112 k9 = N_110 k9) ∧ bB (jbb j_112) := hp
                          have hr112 := hp112.1
                          have hN112 := hp112.2.1
                          have hb112 := hp112.2.2
                          have h8_112 : ∀ i, i < 6 → 0 < (N_112 (8 + i)).2.2.2.2.toInt := fun i hi => by rw [hN112 (8 + i) (Or.inl (by omega))]; exact h8_110 i hi
                          replace hB : zB D A s ([] ++ OW ka bd na (L, mo, an, pl, ho, le, sz9, (nI v9), kp, st, N_112, j_112)) H locs := hB
                          obtain rfl : r112 = -1 := hr112.trans (fw_none (by omega) (fun n hn => m4 n (by omega)) _)
                          replace hB : zB D A s ([] ++ OW ka bd na (L, mo, an, pl, ho, le, sz9, (nI v9), kp, st, N_112, j_112)) H locs := hB
                          refine lv_iconst (v := -1) hx hb dL_law_563 (by decide) ?_
                          refine lv_icmp_ne (tgt := 590) hx hb dL_law_564 (by decide) (fun h564 => ?_) (fun h564 => ?_)
                          · skip
                            exact absurd rfl h564
                          · skip
                            refine lv_aload_n hx hb dL_law_567 rfl (lv_at hl 6 rfl) ?_
                            refine lv_iload hx hb dL_law_568 (lv_at hl 5 rfl) ?_
                            refine lv_iload hx hb dL_law_570 (lv_at hl 3 rfl) ?_
                            refine zWi zm_L_108 hF hB (w_drillAll l D ka kb bd na L mo an pl ho le sz9 (nI v9) kp st N_112 j_112 pp (1 + n9) (hok) (hoh) (rng99 (by omega)) (hb112) (hszk) (hpp) (by omega)) rfl ⟨Nat.le_of_ble_eq_true rfl, Nat.le_of_ble_eq_true rfl⟩ rfl hl.1 (Nat.le_of_ble_eq_true rfl) ⟨Nat.le_of_ble_eq_true rfl, Nat.le_of_ble_eq_true rfl⟩ dL_law_572 ?_
                            clear hB
                            try clear locs
                            try clear H
                            intro r113 u113 H locs hp hB
                            obtain ⟨N_113, j_113⟩ := u113
                            have hp113 : r113 = (if (seS (fun n b => srR (okC sz9 pp le ho) (lkU (pulI pp L mo an pl ho) (nI v9).toInt) n 1 [] b) ((1 + n9) + 1) ((-1 : Int32), (jbb j_112).2)).1 = -1 then (-3 : Int32) else (seS (fun n b => srR (okC sz9 pp le ho) (lkU (pulI pp L mo an pl ho) (nI v9).toInt) n 1 [] b) ((1 + n9) + 1) ((-1 : Int32), (jbb j_112).2)).1) ∧ (∀ k9, (k9 < 34 ∨ 38 < k9) → N_113 k9 = N_112 k9) ∧ bB (jbb j_113) := hp
                            have hr113 := hp113.1
                            have hN113 := hp113.2.1
                            have hb113 := hp113.2.2
                            have h8_113 : ∀ i, i < 6 → 0 < (N_113 (8 + i)).2.2.2.2.toInt := fun i hi => by rw [hN113 (8 + i) (Or.inl (by omega))]; exact h8_112 i hi
                            replace hB : zB D A s ([] ++ OW ka bd na (L, mo, an, pl, dhS pp (seS (fun n b => srR (okC sz9 pp le ho) (lkU (pulI pp L mo an pl ho) (nI v9).toInt) n 1 [] b) ((1 + n9) + 1) ((-1 : Int32), (jbb j_112).2)) (aN (seS (fun n b => srR (okC sz9 pp le ho) (lkU (pulI pp L mo an pl ho) (nI v9).toInt) n 1 [] b) ((1 + n9) + 1) ((-1 : Int32), (jbb j_112).2)).1) ho, le, sz9, (nI v9), if 0 < aN (seS (fun n b => srR (okC sz9 pp le ho) (lkU (pulI pp L mo an pl ho) (nI v9).toInt) n 1 [] b) ((1 + n9) + 1) ((-1 : Int32), (jbb j_112).2)).1 then fgB kp 3 else kp, st, N_113, j_113)) H locs := hB
                            have hd1 := fw_some (P := pulI pp L mo an pl ho) (li := (nI v9).toInt) (ok := okC sz9 pp le ho) (k := 1 + n9 + 1) (by omega) m1 m3 m4 (jbb j_112).2
                            obtain rfl : r113 = nI mm := hr113.trans ((if_neg (by rw [hd1]; exact nI_m1 (by omega))).trans hd1)
                            obtain ⟨s9, s1, s2, s3, s4, s5⟩ := fw_drill (k := 1 + n9 + 1) (by omega) m1 m3 m4 (jbb j_102).2 (jbb j_112).2
                            rw [s4, hd1] at hB
                            replace hB : zB D A s ([] ++ OW ka bd na (L, mo, an, pl, hoQ pp ho s9.reverse, le, sz9, (nI v9), (if 0 < aN (nI mm) then fgB kp 3 else kp), st, N_113, j_113)) H locs := hB
                            refine lv_iload hx hb dL_law_575 (lv_at hl 1 rfl) ?_
                            refine lv_if_ge (tgt := 585) hx hb dL_law_577 (by decide) (fun h577 => ?_) (fun h577 => ?_)
                            · skip
                              refine lv_iload hx hb dL_law_585 (lv_at hl 1 rfl) ?_
                              refine lv_icmp_eq (tgt := 592) hx hb dL_law_587 (by decide) (fun h587 => ?_) (fun h587 => ?_)
                              · skip
                                have hDR : DR pp L mo an pl ho le sz9 (nI v9).toInt s9 := ⟨s1, s3, fun n hn => m4 n (by omega)⟩
                                have hbits : ∀ k, k < 12 → (lgX r107 k = 1 ↔ ∃ c, c ∈ s9.reverse ∧ c / 10 = k) := fun k hk => by rw [h19]; exact s5 k hk
                                exact kkS s9 r107 (if 0 < aN (nI mm) then fgB kp 3 else kp) N_113 j_113 (hDR) (by omega) (hbits) (h8_113) (hb113) H locs hB ls (by rw [s2]; exact lv_sub hl [0, 1, 3, 5, 6, 7] rfl)
                              · skip
                                exact absurd rfl h587
                            · skip
                              exact absurd ((i32_le_i _ _).mpr (by rw [show (0 : Int32).toInt = 0 from rfl]; exact nI_nn (by omega))) h577
                    · skip
                      have hm0 : mm = 0 := nI_inj (by omega) (by decide) h536
                      exact absurd (hr101.trans (by rw [Qt_0.mp (by rw [hm0] at m3; exact m3)]; rfl)) h526
                  · skip
                    refine lv_iconst (v := 1) hx hb dL_law_529 (by decide) ?_
                    refine lv_goto (tgt := 534) hx hb dL_law_530 (by decide) ?_
                    refine lv_iload hx hb dL_law_534 (lv_at hl 1 rfl) ?_
                    refine lv_if_ne (tgt := 543) hx hb dL_law_536 (by decide) (fun h536 => ?_) (fun h536 => ?_)
                    · skip
                      cases e : quB (pulI pp L mo an pl ho) (nI v9).toInt
                      · rw [e] at hr101; exact absurd (hr101.symm.trans h526) (by decide)
                      · exact absurd (Qt_0.mpr e) (m4 0 (Nat.pos_of_ne_zero (fun e9 => h536 (by rw [e9]; rfl))))
                    · skip
                      refine lv_iconst (v := 1) hx hb dL_law_539 (by decide) ?_
                      refine lv_goto (tgt := 544) hx hb dL_law_540 (by decide) ?_
                      refine lv_icmp_ne (tgt := 590) hx hb dL_law_544 (by decide) (fun h544 => ?_) (fun h544 => ?_)
                      · skip
                        exact absurd rfl h544
                      · skip
                        refine lv_iload hx hb dL_law_547 (lv_at hl 1 rfl) ?_
                        refine lv_if_le (tgt := 567) hx hb dL_law_549 (by decide) (fun h549 => ?_) (fun h549 => ?_)
                        · skip
                          refine lv_aload_n hx hb dL_law_567 rfl (lv_at hl 6 rfl) ?_
                          refine lv_iload hx hb dL_law_568 (lv_at hl 5 rfl) ?_
                          refine lv_iload hx hb dL_law_570 (lv_at hl 3 rfl) ?_
                          refine zWi zm_L_108 hF hB (w_drillAll l D ka kb bd na L mo an pl ho le sz9 (nI v9) kp st N_110 j_110 pp (1 + n9) (hok) (hoh) (rng99 (by omega)) (hb110) (hszk) (hpp) (by omega)) rfl ⟨Nat.le_of_ble_eq_true rfl, Nat.le_of_ble_eq_true rfl⟩ rfl hl.1 (Nat.le_of_ble_eq_true rfl) ⟨Nat.le_of_ble_eq_true rfl, Nat.le_of_ble_eq_true rfl⟩ dL_law_572 ?_
                          clear hB
                          try clear locs
                          try clear H
                          intro r114 u114 H locs hp hB
                          obtain ⟨N_114, j_114⟩ := u114
                          have hp114 : r114 = (if (seS (fun n b => srR (okC sz9 pp le ho) (lkU (pulI pp L mo an pl ho) (nI v9).toInt) n 1 [] b) ((1 + n9) + 1) ((-1 : Int32), (jbb j_110).2)).1 = -1 then (-3 : Int32) else (seS (fun n b => srR (okC sz9 pp le ho) (lkU (pulI pp L mo an pl ho) (nI v9).toInt) n 1 [] b) ((1 + n9) + 1) ((-1 : Int32), (jbb j_110).2)).1) ∧ (∀ k9, (k9 < 34 ∨ 38 < k9) → N_114 k9 = N_110 k9) ∧ bB (jbb j_114) := hp
                          have hr114 := hp114.1
                          have hN114 := hp114.2.1
                          have hb114 := hp114.2.2
                          have h8_114 : ∀ i, i < 6 → 0 < (N_114 (8 + i)).2.2.2.2.toInt := fun i hi => by rw [hN114 (8 + i) (Or.inl (by omega))]; exact h8_110 i hi
                          replace hB : zB D A s ([] ++ OW ka bd na (L, mo, an, pl, dhS pp (seS (fun n b => srR (okC sz9 pp le ho) (lkU (pulI pp L mo an pl ho) (nI v9).toInt) n 1 [] b) ((1 + n9) + 1) ((-1 : Int32), (jbb j_110).2)) (aN (seS (fun n b => srR (okC sz9 pp le ho) (lkU (pulI pp L mo an pl ho) (nI v9).toInt) n 1 [] b) ((1 + n9) + 1) ((-1 : Int32), (jbb j_110).2)).1) ho, le, sz9, (nI v9), if 0 < aN (seS (fun n b => srR (okC sz9 pp le ho) (lkU (pulI pp L mo an pl ho) (nI v9).toInt) n 1 [] b) ((1 + n9) + 1) ((-1 : Int32), (jbb j_110).2)).1 then fgB kp 3 else kp, st, N_114, j_114)) H locs := hB
                          have hd1 := fw_some (P := pulI pp L mo an pl ho) (li := (nI v9).toInt) (ok := okC sz9 pp le ho) (k := 1 + n9 + 1) (by omega) m1 m3 m4 (jbb j_110).2
                          obtain rfl : r114 = nI mm := hr114.trans ((if_neg (by rw [hd1]; exact nI_m1 (by omega))).trans hd1)
                          obtain ⟨s9, s1, s2, s3, s4, s5⟩ := fw_drill (k := 1 + n9 + 1) (by omega) m1 m3 m4 (jbb j_102).2 (jbb j_110).2
                          rw [s4, hd1] at hB
                          replace hB : zB D A s ([] ++ OW ka bd na (L, mo, an, pl, hoQ pp ho s9.reverse, le, sz9, (nI v9), (if 0 < aN (nI mm) then fgB kp 3 else kp), st, N_114, j_114)) H locs := hB
                          refine lv_iload hx hb dL_law_575 (lv_at hl 1 rfl) ?_
                          refine lv_if_ge (tgt := 585) hx hb dL_law_577 (by decide) (fun h577 => ?_) (fun h577 => ?_)
                          · skip
                            refine lv_iload hx hb dL_law_585 (lv_at hl 1 rfl) ?_
                            refine lv_icmp_eq (tgt := 592) hx hb dL_law_587 (by decide) (fun h587 => ?_) (fun h587 => ?_)
                            · skip
                              have hDR : DR pp L mo an pl ho le sz9 (nI v9).toInt s9 := ⟨s1, s3, fun n hn => m4 n (by omega)⟩
                              have hbits : ∀ k, k < 12 → (lgX r107 k = 1 ↔ ∃ c, c ∈ s9.reverse ∧ c / 10 = k) := fun k hk => by rw [h19]; exact s5 k hk
                              exact kkS s9 r107 (if 0 < aN (nI mm) then fgB kp 3 else kp) N_114 j_114 (hDR) (by omega) (hbits) (h8_114) (hb114) H locs hB ls (by rw [s2]; exact lv_sub hl [0, 1, 3, 5, 6, 7] rfl)
                            · skip
                              exact absurd rfl h587
                          · skip
                            exact absurd ((i32_le_i _ _).mpr (by rw [show (0 : Int32).toInt = 0 from rfl]; exact nI_nn (by omega))) h577
                        · skip
                          exact absurd (by rw [h536]; decide) h549
            · skip
              exact absurd rfl h505

set_option maxHeartbeats 8000000 in
set_option maxRecDepth 100000 in
theorem lw_S4n (l : Launch) (D : va_G) (ka : Nat → ClassId) (kb : Nat → Nat) (bd na : Nat → Nat) {p : Program} {e : Env} {s : State} {m : MethodId} {args : Array Value} {below : List Frame} {meth : Method} {c : Code} {A : Nat → Prop} {Q : State → Prop} {rt : Option FieldType} (hF : zF p s m args meth c D ka kb A cL_law RL 23 rt) (hL : kb 2 ≤ 260)
    (L : Nat) (mo : Nat → Int32) (an : Nat → Int32) (pl : Nat → Int32) (ho : Nat → Int32) (le : Nat → Int32) (sz9 : Int32) (kp : Nat → Bool) (st : Nat → Int32) (N : Nat → N5) (j : JT) (pp v9 n9 : Nat)
    (hpp : pp < 2) (hv9 : v9 < 20) (hn9 : n9 < 3) (hok : okL L mo an pl) (hoh : okH ho) (hszk : szK sz9 = true) (hz : ∀ i, i < 12 → ho (12 * pp + i) = 0) (hD8 : ∀ i, i < 6 → 0 < (N (8 + i)).2.2.2.2.toInt) (hB9 : bB (jbb j))
    {H : Heap} {locs : List Loc} (hB : zB D A s ([] ++ OW ka bd na (L, mo, an, pl, ho, le, sz9, (nI v9), kp, st, N, j)) H locs)
    (kk : ∀ (kp9 : Nat → Bool) (N9 : Nat → N5) (j9 : JT), (∀ i, i < 6 → 0 < (N9 (8 + i)).2.2.2.2.toInt) → (bB (jbb j9)) → ∀ (H : Heap) (locs : List Loc), zB D A s ([] ++ OW ka bd na (L, mo, an, pl, ho, le, sz9, (nI v9), kp9, st, N9, j9)) H locs → ∀ ls : Array Slot, lv_has ls 23 [(13, .int (nI pp)), (1, .ref (bd 31)), (0, .ref (kb 1))] → W p l e room_1 s m args below meth c H locs 75 545 Q (F0 m 800 ls []))
    {ls : Array Slot} (hl : lv_has ls 23 [(19, .int (0 : Int32)), (18, .int (-1 : Int32)), (16, .int (nI (1 + n9))), (13, .int (nI pp)), (1, .ref (bd 31)), (0, .ref (kb 1))]) : W p l e room_1 s m args below meth c H locs 75 545 Q (F0 m 592 ls []) := by
  have hx : p.tables.exec = Jvm.exec := hF.1.1
  have hb : c.code = cL_law := hF.1.2.1
  refine lv_iconst (v := 0) hx hb dL_law_592 (by decide) ?_
  refine lv_istore (lv' := [(20, .int (0 : Int32)), (19, .int (0 : Int32)), (18, .int (-1 : Int32)), (16, .int (nI (1 + n9))), (13, .int (nI pp)), (1, .ref (bd 31)), (0, .ref (kb 1))]) hx hb dL_law_593 hl (by decide) rfl ?_
  clear hl
  clear ls
  intro ls hl
  refine lv_iconst (v := 0) hx hb dL_law_595 (by decide) ?_
  refine lv_istore (lv' := [(21, .int (0 : Int32)), (20, .int (0 : Int32)), (19, .int (0 : Int32)), (18, .int (-1 : Int32)), (16, .int (nI (1 + n9))), (13, .int (nI pp)), (1, .ref (bd 31)), (0, .ref (kb 1))]) hx hb dL_law_596 hl (by decide) rfl ?_
  clear hl
  clear ls
  intro ls hl
  have lp598 : ∀ (fl : Nat) (k9 : Nat), (hk9 : k9 ≤ 12) → 12 - k9 < fl → ∀ (H : Heap) (locs : List Loc), zB D A s ([] ++ OW ka bd na (L, mo, an, pl, ho, le, sz9, (nI v9), kp, st, N, j)) H locs → ∀ ls : Array Slot, lv_has ls 23 [(21, .int (nI k9)), (20, .int (0 : Int32)), (19, .int (0 : Int32)), (18, .int (-1 : Int32)), (16, .int (nI (1 + n9))), (13, .int (nI pp)), (1, .ref (bd 31)), (0, .ref (kb 1))] → W p l e room_1 s m args below meth c H locs 75 545 Q (F0 m 598 ls []) := by
    intro fl
    induction fl with
    | zero => intro k9 hk9 hfl; exact absurd hfl (Nat.not_lt_zero _)
    | succ fl ih598 =>
      intro k9 hk9 hfl598 H locs hB ls hl
      refine lv_iload hx hb dL_law_598 (lv_at hl 0 rfl) ?_
      refine lv_bipush (v := 12) hx hb dL_law_600 (by decide) ?_
      refine lv_icmp_ge (tgt := 667) hx hb dL_law_602 (by decide) (fun h602 => ?_) (fun h602 => ?_)
      · skip
        refine lv_iload hx hb dL_law_667 (lv_at hl 1 rfl) ?_
        refine lv_iload hx hb dL_law_669 (lv_at hl 3 rfl) ?_
        refine lv_if_ge (tgt := 678) hx hb dL_law_671 (by decide) (fun h671 => ?_) (fun h671 => ?_)
        · skip
          exact absurd h671 (by decide)
        · skip
          refine lv_iconst (v := 0) hx hb dL_law_674 (by decide) ?_
          refine lv_goto (tgt := 680) hx hb dL_law_675 (by decide) ?_
          refine lv_icmp_ne (tgt := 723) hx hb dL_law_680 (by decide) (fun h680 => ?_) (fun h680 => ?_)
          · skip
            exact absurd rfl h680
          · skip
            refine lv_aload_n hx hb dL_law_683 rfl (lv_at hl 6 rfl) ?_
            refine lv_iconst (v := 1) hx hb dL_law_684 (by decide) ?_
            refine lv_iload hx hb dL_law_685 (lv_at hl 5 rfl) ?_
            refine lv_iadd hx hb dL_law_687 ?_
            refine ztopi (y := nI (1 + pp)) (nI_add 1 pp) ?_
            refine zWi zm_L_38 hF hB (w_count l D ka kb bd na L mo an pl ho le sz9 (nI v9) kp st N j (1 + pp) (hok) (by first | assumption | omega | decide) (rng99 (by omega)) (by omega) (hB9)) rfl ⟨Nat.le_of_ble_eq_true rfl, Nat.le_of_ble_eq_true rfl⟩ rfl hl.1 (Nat.le_of_ble_eq_true rfl) ⟨Nat.le_of_ble_eq_true rfl, Nat.le_of_ble_eq_true rfl⟩ dL_law_688 ?_
            clear hB
            try clear locs
            try clear H
            intro r101 u101 H locs hp hB
            obtain ⟨N_101, j_101⟩ := u101
            have hp101 : r101 = ctK j.2.1 sz9 (nI v9) L mo an pl ho kp (1 + pp) ∧ (∀ k9, k9 ≠ 34 → N_101 k9 = N k9) ∧ bB (jbb j_101) := hp
            have hr101 := hp101.1
            have hN101 := hp101.2.1
            have hb101 := hp101.2.2
            have h8_101 : ∀ i, i < 6 → 0 < (N_101 (8 + i)).2.2.2.2.toInt := fun i hi => by rw [hN101 (8 + i) (by omega)]; exact hD8 i hi
            have hz688 : r101 = 0 := hr101.trans ((ctK_p hpp).trans (by rw [hcnt_z hz 12 (by decide)]; rfl))
            replace hB : zB D A s ([] ++ OW ka bd na (L, mo, an, pl, ho, le, sz9, (nI v9), kp, st, N_101, j_101)) H locs := hB
            refine lv_iload hx hb dL_law_691 (lv_at hl 1 rfl) ?_
            refine lv_icmp_ne (tgt := 723) hx hb dL_law_693 (by decide) (fun h693 => ?_) (fun h693 => ?_)
            · skip
              exact absurd hz688 h693
            · skip
              refine lv_iload hx hb dL_law_696 (lv_at hl 3 rfl) ?_
              refine lv_if_lt (tgt := 725) hx hb dL_law_698 (by decide) (fun h698 => ?_) (fun h698 => ?_)
              · skip
                refine lv_iconst (v := 0) hx hb dL_law_725 (by decide) ?_
                refine lv_istore (lv' := [(21, .int (0 : Int32)), (20, .int (0 : Int32)), (19, .int (0 : Int32)), (18, .int (-1 : Int32)), (16, .int (nI (1 + n9))), (13, .int (nI pp)), (1, .ref (bd 31)), (0, .ref (kb 1))]) hx hb dL_law_726 hl (by decide) rfl ?_
                clear hl
                clear ls
                intro ls hl
                refine lv_iload hx hb dL_law_728 (lv_at hl 0 rfl) ?_
                refine lv_bipush (v := 12) hx hb dL_law_730 (by decide) ?_
                refine lv_icmp_ge (tgt := 800) hx hb dL_law_732 (by decide) (fun h732 => ?_) (fun h732 => ?_)
                · skip
                  exact absurd h732 (by decide)
                · skip
                  refine lv_iload hx hb dL_law_735 (lv_at hl 3 rfl) ?_
                  refine lv_if_le (tgt := 800) hx hb dL_law_737 (by decide) (fun h737 => ?_) (fun h737 => ?_)
                  · skip
                    exact kk kp N_101 j_101 (h8_101) (hb101) H locs hB ls (lv_sub hl [5, 6, 7] rfl)
                  · skip
                    exact absurd (by decide) h737
              · skip
                exact absurd (by decide) h698
      · skip
        have hk12 : k9 < 12 := by have := mt (nI_leI (a := 12) (b := k9) (by decide) (by omega)).mpr h602; omega
        refine lv_iload hx hb dL_law_605 (lv_at hl 2 rfl) ?_
        refine lv_iload hx hb dL_law_607 (lv_at hl 0 rfl) ?_
        refine lv_ishr hx hb dL_law_609 ?_
        refine lv_iconst (v := 1) hx hb dL_law_610 (by decide) ?_
        refine lv_iand hx hb dL_law_611 ?_
        refine lv_iconst (v := 1) hx hb dL_law_612 (by decide) ?_
        refine lv_icmp_ne (tgt := 620) hx hb dL_law_613 (by decide) (fun h613 => ?_) (fun h613 => ?_)
        · skip
          refine lv_iconst (v := 0) hx hb dL_law_620 (by decide) ?_
          refine lv_istore (lv' := [(22, .int (0 : Int32)), (21, .int (nI k9)), (20, .int (0 : Int32)), (19, .int (0 : Int32)), (18, .int (-1 : Int32)), (16, .int (nI (1 + n9))), (13, .int (nI pp)), (1, .ref (bd 31)), (0, .ref (kb 1))]) hx hb dL_law_621 hl (by decide) rfl ?_
          clear hl
          clear ls
          intro ls hl
          refine lv_iload hx hb dL_law_623 (lv_at hl 2 rfl) ?_
          refine lv_iload hx hb dL_law_625 (lv_at hl 0 rfl) ?_
          refine lv_if_eq (tgt := 634) hx hb dL_law_627 (by decide) (fun h627 => ?_) (fun h627 => ?_)
          · skip
            refine lv_iconst (v := 0) hx hb dL_law_634 (by decide) ?_
            refine lv_iadd hx hb dL_law_635 ?_
            refine ztopi (y := (0 : Int32)) (by decide) ?_
            refine lv_istore (lv' := [(20, .int (0 : Int32)), (22, .int (0 : Int32)), (21, .int (nI k9)), (19, .int (0 : Int32)), (18, .int (-1 : Int32)), (16, .int (nI (1 + n9))), (13, .int (nI pp)), (1, .ref (bd 31)), (0, .ref (kb 1))]) hx hb dL_law_636 hl (by decide) rfl ?_
            clear hl
            clear ls
            intro ls hl
            refine lv_iload hx hb dL_law_638 (lv_at hl 1 rfl) ?_
            refine lv_aload_n hx hb dL_law_640 rfl (lv_at hl 7 rfl) ?_
            refine lv_iload hx hb dL_law_641 (lv_at hl 6 rfl) ?_
            refine lv_iload hx hb dL_law_643 (lv_at hl 2 rfl) ?_
            refine zWi zm_L_111 hF hB (w_hole l D ka kb bd na L mo an pl ho le sz9 (nI v9) kp st N j pp k9 (hpp) (hk12)) rfl ⟨Nat.le_of_ble_eq_true rfl, Nat.le_of_ble_eq_true rfl⟩ rfl hl.1 (Nat.le_of_ble_eq_true rfl) ⟨Nat.le_of_ble_eq_true rfl, Nat.le_of_ble_eq_true rfl⟩ dL_law_645 ?_
            clear hB
            try clear locs
            try clear H
            intro r102 u102 H locs hp hB
            obtain rfl : r102 = ho (12 * pp + k9) := hp
            replace hB : zB D A s ([] ++ OW ka bd na (L, mo, an, pl, ho, le, sz9, (nI v9), kp, st, N, j)) H locs := hB
            refine lv_if_le (tgt := 655) hx hb dL_law_648 (by decide) (fun h648 => ?_) (fun h648 => ?_)
            · skip
              refine lv_iconst (v := 0) hx hb dL_law_655 (by decide) ?_
              refine lv_icmp_eq (tgt := 661) hx hb dL_law_656 (by decide) (fun h656 => ?_) (fun h656 => ?_)
              · skip
                refine lv_iinc (v := nI (k9 + 1)) (lv' := [(21, .int (nI (k9 + 1))), (20, .int (0 : Int32)), (22, .int (0 : Int32)), (19, .int (0 : Int32)), (18, .int (-1 : Int32)), (16, .int (nI (1 + n9))), (13, .int (nI pp)), (1, .ref (bd 31)), (0, .ref (kb 1))]) hx hb dL_law_661 hl (k := 2) rfl (nI_1 _) (by decide) rfl ?_
                clear hl
                clear ls
                intro ls hl
                refine lv_goto (tgt := 598) hx hb dL_law_664 (by decide) ?_
                exact ih598 (k9 + 1) (by omega) (by omega) _ _ (hB) _ (lv_sub hl [0, 1, 3, 4, 5, 6, 7, 8] rfl)
              · skip
                exact absurd (by decide) h656
            · skip
              exact absurd (by rw [hz k9 hk12]; decide) h648
          · skip
            exact absurd (by decide) h627
        · skip
          exact absurd h613 (lgX_0 k9 hk12)
  exact lp598 (12 - 0 + 1) 0 (by decide) (by omega) _ _ (hB) _ (lv_sub hl [0, 1, 2, 3, 4, 5, 6, 7] rfl)

set_option maxHeartbeats 8000000 in
set_option maxRecDepth 100000 in
theorem lw_S4s (l : Launch) (D : va_G) (ka : Nat → ClassId) (kb : Nat → Nat) (bd na : Nat → Nat) {p : Program} {e : Env} {s : State} {m : MethodId} {args : Array Value} {below : List Frame} {meth : Method} {c : Code} {A : Nat → Prop} {Q : State → Prop} {rt : Option FieldType} (hF : zF p s m args meth c D ka kb A cL_law RL 23 rt) (hL : kb 2 ≤ 260)
    (L : Nat) (mo : Nat → Int32) (an : Nat → Int32) (pl : Nat → Int32) (ho : Nat → Int32) (le : Nat → Int32) (sz9 : Int32) (kp : Nat → Bool) (st : Nat → Int32) (N : Nat → N5) (j : JT) (pp v9 n9 : Nat) (s9 : List Nat) (r19 : Int32)
    (hpp : pp < 2) (hv9 : v9 < 20) (hn9 : n9 < 3) (hok : okL L mo an pl) (hoh : okH ho) (hszk : szK sz9 = true) (hz : ∀ i, i < 12 → ho (12 * pp + i) = 0) (hD8 : ∀ i, i < 6 → 0 < (N (8 + i)).2.2.2.2.toInt) (hB9 : bB (jbb j)) (hDR : DR pp L mo an pl ho le sz9 (nI v9).toInt s9) (hs4 : s9.length ≤ 4) (hbits : ∀ k, k < 12 → (lgX r19 k = 1 ↔ ∃ c, c ∈ s9.reverse ∧ c / 10 = k))
    {H : Heap} {locs : List Loc} (hB : zB D A s ([] ++ OW ka bd na (L, mo, an, pl, hoQ pp ho s9.reverse, le, sz9, (nI v9), kp, st, N, j)) H locs)
    (kk : ∀ (N9 : Nat → N5) (j9 : JT), (∀ i, i < 6 → 0 < (N9 (8 + i)).2.2.2.2.toInt) → (bB (jbb j9)) → ∀ (H : Heap) (locs : List Loc), zB D A s ([] ++ OW ka bd na (L, mo, an, pl, hoQ pp ho s9.reverse, le, sz9, (nI v9), kp, st, N9, j9)) H locs → ∀ ls : Array Slot, lv_has ls 23 [(20, .int (nI s9.length)), (18, .int (nI s9.length)), (16, .int (nI (1 + n9))), (13, .int (nI pp)), (1, .ref (bd 31)), (0, .ref (kb 1))] → W p l e room_1 s m args below meth c H locs 75 545 Q (F0 m 725 ls []))
    {ls : Array Slot} (hl : lv_has ls 23 [(19, .int r19), (18, .int (nI s9.length)), (16, .int (nI (1 + n9))), (13, .int (nI pp)), (1, .ref (bd 31)), (0, .ref (kb 1))]) : W p l e room_1 s m args below meth c H locs 75 545 Q (F0 m 592 ls []) := by
  have hx : p.tables.exec = Jvm.exec := hF.1.1
  have hb : c.code = cL_law := hF.1.2.1
  refine lv_iconst (v := 0) hx hb dL_law_592 (by decide) ?_
  refine lv_istore (lv' := [(20, .int (0 : Int32)), (19, .int r19), (18, .int (nI s9.length)), (16, .int (nI (1 + n9))), (13, .int (nI pp)), (1, .ref (bd 31)), (0, .ref (kb 1))]) hx hb dL_law_593 hl (by decide) rfl ?_
  clear hl
  clear ls
  intro ls hl
  refine lv_iconst (v := 0) hx hb dL_law_595 (by decide) ?_
  refine lv_istore (lv' := [(21, .int (0 : Int32)), (20, .int (0 : Int32)), (19, .int r19), (18, .int (nI s9.length)), (16, .int (nI (1 + n9))), (13, .int (nI pp)), (1, .ref (bd 31)), (0, .ref (kb 1))]) hx hb dL_law_596 hl (by decide) rfl ?_
  clear hl
  clear ls
  intro ls hl
  have lp598 : ∀ (fl : Nat) (k9 : Nat) (mc : Nat), (hk9 : k9 ≤ 12) → (hmc : mc = hcnt pp (hoQ pp ho s9.reverse) k9) → 12 - k9 < fl → ∀ (H : Heap) (locs : List Loc), zB D A s ([] ++ OW ka bd na (L, mo, an, pl, hoQ pp ho s9.reverse, le, sz9, (nI v9), kp, st, N, j)) H locs → ∀ ls : Array Slot, lv_has ls 23 [(21, .int (nI k9)), (20, .int (nI mc)), (19, .int r19), (18, .int (nI s9.length)), (16, .int (nI (1 + n9))), (13, .int (nI pp)), (1, .ref (bd 31)), (0, .ref (kb 1))] → W p l e room_1 s m args below meth c H locs 75 545 Q (F0 m 598 ls []) := by
    intro fl
    induction fl with
    | zero => intro k9 mc hk9 hmc hfl; exact absurd hfl (Nat.not_lt_zero _)
    | succ fl ih598 =>
      intro k9 mc hk9 hmc hfl598 H locs hB ls hl
      refine lv_iload hx hb dL_law_598 (lv_at hl 0 rfl) ?_
      refine lv_bipush (v := 12) hx hb dL_law_600 (by decide) ?_
      refine lv_icmp_ge (tgt := 667) hx hb dL_law_602 (by decide) (fun h602 => ?_) (fun h602 => ?_)
      · skip
        have hk12 : k9 = 12 := by have := (nI_leI (a := 12) (b := k9) (by decide) (by omega)).mp h602; omega
        rw [hk12] at hmc
        have hml : mc = s9.length := hmc.trans (hDR.cnt hszk hz)
        refine lv_iload hx hb dL_law_667 (lv_at hl 1 rfl) ?_
        refine lv_iload hx hb dL_law_669 (lv_at hl 3 rfl) ?_
        refine lv_if_ge (tgt := 678) hx hb dL_law_671 (by decide) (fun h671 => ?_) (fun h671 => ?_)
        · skip
          refine lv_iload hx hb dL_law_678 (lv_at hl 3 rfl) ?_
          refine lv_icmp_ne (tgt := 723) hx hb dL_law_680 (by decide) (fun h680 => ?_) (fun h680 => ?_)
          · skip
            exact absurd (congrArg nI hml) h680
          · skip
            refine lv_aload_n hx hb dL_law_683 rfl (lv_at hl 6 rfl) ?_
            refine lv_iconst (v := 1) hx hb dL_law_684 (by decide) ?_
            refine lv_iload hx hb dL_law_685 (lv_at hl 5 rfl) ?_
            refine lv_iadd hx hb dL_law_687 ?_
            refine ztopi (y := nI (1 + pp)) (nI_add 1 pp) ?_
            refine zWi zm_L_38 hF hB (w_count l D ka kb bd na L mo an pl (hoQ pp ho s9.reverse) le sz9 (nI v9) kp st N j (1 + pp) (hok) (okH_q hoh _) (rng99 (by omega)) (by omega) (hB9)) rfl ⟨Nat.le_of_ble_eq_true rfl, Nat.le_of_ble_eq_true rfl⟩ rfl hl.1 (Nat.le_of_ble_eq_true rfl) ⟨Nat.le_of_ble_eq_true rfl, Nat.le_of_ble_eq_true rfl⟩ dL_law_688 ?_
            clear hB
            try clear locs
            try clear H
            intro r101 u101 H locs hp hB
            obtain ⟨N_101, j_101⟩ := u101
            have hp101 : r101 = ctK j.2.1 sz9 (nI v9) L mo an pl (hoQ pp ho s9.reverse) kp (1 + pp) ∧ (∀ k9, k9 ≠ 34 → N_101 k9 = N k9) ∧ bB (jbb j_101) := hp
            have hr101 := hp101.1
            have hN101 := hp101.2.1
            have hb101 := hp101.2.2
            have h8_101 : ∀ i, i < 6 → 0 < (N_101 (8 + i)).2.2.2.2.toInt := fun i hi => by rw [hN101 (8 + i) (by omega)]; exact hD8 i hi
            have hz688 : r101 = nI mc := hr101.trans ((ctK_p hpp).trans (congrArg nI hmc.symm))
            replace hB : zB D A s ([] ++ OW ka bd na (L, mo, an, pl, (hoQ pp ho s9.reverse), le, sz9, (nI v9), kp, st, N_101, j_101)) H locs := hB
            refine lv_iload hx hb dL_law_691 (lv_at hl 1 rfl) ?_
            refine lv_icmp_ne (tgt := 723) hx hb dL_law_693 (by decide) (fun h693 => ?_) (fun h693 => ?_)
            · skip
              exact absurd hz688 h693
            · skip
              refine lv_iload hx hb dL_law_696 (lv_at hl 3 rfl) ?_
              refine lv_if_lt (tgt := 725) hx hb dL_law_698 (by decide) (fun h698 => ?_) (fun h698 => ?_)
              · skip
                exact absurd ((i32_lt_i _ _).mp h698) (by rw [show (0 : Int32).toInt = 0 from rfl]; have := nI_nn (k := s9.length) (by omega); omega)
              · skip
                refine lv_aload_n hx hb dL_law_701 rfl (lv_at hl 6 rfl) ?_
                refine lv_iload hx hb dL_law_702 (lv_at hl 5 rfl) ?_
                refine zWi zm_L_102 hF hB (w_quiet l D ka kb bd na L mo an pl (hoQ pp ho s9.reverse) le sz9 (nI v9) kp st N_101 j_101 pp (hok) (okH_q hoh _) (rng99 (by omega)) (hpp) (hb101)) rfl ⟨Nat.le_of_ble_eq_true rfl, Nat.le_of_ble_eq_true rfl⟩ rfl hl.1 (Nat.le_of_ble_eq_true rfl) ⟨Nat.le_of_ble_eq_true rfl, Nat.le_of_ble_eq_true rfl⟩ dL_law_704 ?_
                clear hB
                try clear locs
                try clear H
                intro r102 u102 H locs hp hB
                obtain ⟨N_102, j_102⟩ := u102
                have hp102 : r102 = bI (quB (pulI pp L mo an pl (hoQ pp ho s9.reverse)) (nI v9).toInt) ∧ (∀ k9, k9 ≠ 34 → N_102 k9 = N_101 k9) ∧ bB (jbb j_102) := hp
                have hr102 := hp102.1
                have hN102 := hp102.2.1
                have hb102 := hp102.2.2
                have h8_102 : ∀ i, i < 6 → 0 < (N_102 (8 + i)).2.2.2.2.toInt := fun i hi => by rw [hN102 (8 + i) (by omega)]; exact h8_101 i hi
                have hz704 : r102 = 1 := hr102.trans (by rw [hDR.pul hz, hDR.2.1]; rfl)
                replace hB : zB D A s ([] ++ OW ka bd na (L, mo, an, pl, (hoQ pp ho s9.reverse), le, sz9, (nI v9), kp, st, N_102, j_102)) H locs := hB
                refine lv_iconst (v := 1) hx hb dL_law_707 (by decide) ?_
                refine lv_icmp_ne (tgt := 723) hx hb dL_law_708 (by decide) (fun h708 => ?_) (fun h708 => ?_)
                · skip
                  exact absurd hz704 h708
                · skip
                  refine lv_aload_n hx hb dL_law_711 rfl (lv_at hl 6 rfl) ?_
                  refine lv_iload hx hb dL_law_712 (lv_at hl 5 rfl) ?_
                  refine lv_iload hx hb dL_law_714 (lv_at hl 4 rfl) ?_
                  refine lv_iconst (v := 0) hx hb dL_law_716 (by decide) ?_
                  refine zWi zm_L_105 hF hB (w_fewest l D ka kb bd na L mo an pl (hoQ pp ho s9.reverse) le sz9 (nI v9) kp st N_102 j_102 pp (1 + n9) 0 (hok) (okH_q hoh _) (rng99 (by omega)) (hb102) (hszk) (hpp) (by omega) (by decide)) rfl ⟨Nat.le_of_ble_eq_true rfl, Nat.le_of_ble_eq_true rfl⟩ rfl hl.1 (Nat.le_of_ble_eq_true rfl) ⟨Nat.le_of_ble_eq_true rfl, Nat.le_of_ble_eq_true rfl⟩ dL_law_717 ?_
                  clear hB
                  try clear locs
                  try clear H
                  intro r103 u103 H locs hp hB
                  obtain ⟨N_103, j_103⟩ := u103
                  have hp103 : r103 = fwA 0 (seS (fun n b => srR (okC sz9 pp le (hoQ pp ho s9.reverse)) (lkU (pulI pp L mo an pl (hoQ pp ho s9.reverse)) (nI v9).toInt) n 1 [] b) ((1 + n9) + 1) ((-1 : Int32), (jbb j_102).2)) ∧ (∀ k9, (k9 < 34 ∨ 38 < k9) → N_103 k9 = N_102 k9) ∧ bB (jbb j_103) := hp
                  have hr103 := hp103.1
                  have hN103 := hp103.2.1
                  have hb103 := hp103.2.2
                  have h8_103 : ∀ i, i < 6 → 0 < (N_103 (8 + i)).2.2.2.2.toInt := fun i hi => by rw [hN103 (8 + i) (Or.inl (by omega))]; exact h8_102 i hi
                  have hz717 : r103 = nI 0 := hr103.trans (fw_some (by omega) (by omega) (Qt_0.mpr (by rw [hDR.pul hz]; exact hDR.2.1)) (fun n hn => absurd hn (Nat.not_lt_zero n)) _)
                  replace hB : zB D A s ([] ++ OW ka bd na (L, mo, an, pl, (hoQ pp ho s9.reverse), le, sz9, (nI v9), kp, st, N_103, j_103)) H locs := hB
                  refine lv_if_eq (tgt := 725) hx hb dL_law_720 (by decide) (fun h720 => ?_) (fun h720 => ?_)
                  · skip
                    exact kk N_103 j_103 (h8_103) (hb103) H locs hB ls (by rw [← hml]; rw [← hml] at hl; exact lv_sub hl [1, 3, 4, 5, 6, 7] rfl)
                  · skip
                    exact absurd hz717 h720
        · skip
          exact absurd ((i32_le_i _ _).mpr (by rw [show (0 : Int32).toInt = 0 from rfl]; exact nI_nn (by omega))) h671
      · skip
        have hk12 : k9 < 12 := by have := mt (nI_leI (a := 12) (b := k9) (by decide) (by omega)).mpr h602; omega
        refine lv_iload hx hb dL_law_605 (lv_at hl 2 rfl) ?_
        refine lv_iload hx hb dL_law_607 (lv_at hl 0 rfl) ?_
        refine lv_ishr hx hb dL_law_609 ?_
        refine lv_iconst (v := 1) hx hb dL_law_610 (by decide) ?_
        refine lv_iand hx hb dL_law_611 ?_
        refine lv_iconst (v := 1) hx hb dL_law_612 (by decide) ?_
        refine lv_icmp_ne (tgt := 620) hx hb dL_law_613 (by decide) (fun h613 => ?_) (fun h613 => ?_)
        · skip
          have hp0 : ¬ 0 < ((hoQ pp ho s9.reverse) (12 * pp + k9)).toInt := fun e => h613 ((hbits k9 hk12).mpr ((hDR.pos hszk hz hk12).mp e))
          refine lv_iconst (v := 0) hx hb dL_law_620 (by decide) ?_
          refine lv_istore (lv' := [(22, .int (0 : Int32)), (21, .int (nI k9)), (20, .int (nI mc)), (19, .int r19), (18, .int (nI s9.length)), (16, .int (nI (1 + n9))), (13, .int (nI pp)), (1, .ref (bd 31)), (0, .ref (kb 1))]) hx hb dL_law_621 hl (by decide) rfl ?_
          clear hl
          clear ls
          intro ls hl
          refine lv_iload hx hb dL_law_623 (lv_at hl 2 rfl) ?_
          refine lv_iload hx hb dL_law_625 (lv_at hl 0 rfl) ?_
          refine lv_if_eq (tgt := 634) hx hb dL_law_627 (by decide) (fun h627 => ?_) (fun h627 => ?_)
          · skip
            refine lv_iconst (v := 0) hx hb dL_law_634 (by decide) ?_
            refine lv_iadd hx hb dL_law_635 ?_
            refine ztopi (y := nI (mc + 0)) (nI_add mc 0) ?_
            refine lv_istore (lv' := [(20, .int (nI (mc + 0))), (22, .int (0 : Int32)), (21, .int (nI k9)), (19, .int r19), (18, .int (nI s9.length)), (16, .int (nI (1 + n9))), (13, .int (nI pp)), (1, .ref (bd 31)), (0, .ref (kb 1))]) hx hb dL_law_636 hl (by decide) rfl ?_
            clear hl
            clear ls
            intro ls hl
            refine lv_iload hx hb dL_law_638 (lv_at hl 1 rfl) ?_
            refine lv_aload_n hx hb dL_law_640 rfl (lv_at hl 7 rfl) ?_
            refine lv_iload hx hb dL_law_641 (lv_at hl 6 rfl) ?_
            refine lv_iload hx hb dL_law_643 (lv_at hl 2 rfl) ?_
            refine zWi zm_L_111 hF hB (w_hole l D ka kb bd na L mo an pl (hoQ pp ho s9.reverse) le sz9 (nI v9) kp st N j pp k9 (hpp) (hk12)) rfl ⟨Nat.le_of_ble_eq_true rfl, Nat.le_of_ble_eq_true rfl⟩ rfl hl.1 (Nat.le_of_ble_eq_true rfl) ⟨Nat.le_of_ble_eq_true rfl, Nat.le_of_ble_eq_true rfl⟩ dL_law_645 ?_
            clear hB
            try clear locs
            try clear H
            intro r104 u104 H locs hp hB
            obtain rfl : r104 = (hoQ pp ho s9.reverse) (12 * pp + k9) := hp
            replace hB : zB D A s ([] ++ OW ka bd na (L, mo, an, pl, (hoQ pp ho s9.reverse), le, sz9, (nI v9), kp, st, N, j)) H locs := hB
            refine lv_if_le (tgt := 655) hx hb dL_law_648 (by decide) (fun h648 => ?_) (fun h648 => ?_)
            · skip
              refine lv_iconst (v := 0) hx hb dL_law_655 (by decide) ?_
              refine lv_icmp_eq (tgt := 661) hx hb dL_law_656 (by decide) (fun h656 => ?_) (fun h656 => ?_)
              · skip
                refine lv_iinc (v := nI (k9 + 1)) (lv' := [(21, .int (nI (k9 + 1))), (20, .int (nI (mc + 0))), (22, .int (0 : Int32)), (19, .int r19), (18, .int (nI s9.length)), (16, .int (nI (1 + n9))), (13, .int (nI pp)), (1, .ref (bd 31)), (0, .ref (kb 1))]) hx hb dL_law_661 hl (k := 2) rfl (nI_1 _) (by decide) rfl ?_
                clear hl
                clear ls
                intro ls hl
                refine lv_goto (tgt := 598) hx hb dL_law_664 (by decide) ?_
                exact ih598 (k9 + 1) (mc + 0) (by omega) (by show _ = hcnt pp (hoQ pp ho s9.reverse) k9 + (if 0 < ((hoQ pp ho s9.reverse) (12 * pp + k9)).toInt then 1 else 0); rw [if_neg hp0, hmc]) (by omega) _ _ (hB) _ (lv_sub hl [0, 1, 3, 4, 5, 6, 7, 8] rfl)
              · skip
                exact absurd (by decide) h656
            · skip
              exact absurd ((i32_le_i _ _).mpr (by rw [show (0 : Int32).toInt = 0 from rfl]; omega)) h648
          · skip
            exact absurd (by decide) h627
        · skip
          have hp1 : 0 < ((hoQ pp ho s9.reverse) (12 * pp + k9)).toInt := (hDR.pos hszk hz hk12).mpr ((hbits k9 hk12).mp h613)
          refine lv_iconst (v := 1) hx hb dL_law_616 (by decide) ?_
          refine lv_goto (tgt := 621) hx hb dL_law_617 (by decide) ?_
          refine lv_istore (lv' := [(22, .int (1 : Int32)), (21, .int (nI k9)), (20, .int (nI mc)), (19, .int r19), (18, .int (nI s9.length)), (16, .int (nI (1 + n9))), (13, .int (nI pp)), (1, .ref (bd 31)), (0, .ref (kb 1))]) hx hb dL_law_621 hl (by decide) rfl ?_
          clear hl
          clear ls
          intro ls hl
          refine lv_iload hx hb dL_law_623 (lv_at hl 2 rfl) ?_
          refine lv_iload hx hb dL_law_625 (lv_at hl 0 rfl) ?_
          refine lv_if_eq (tgt := 634) hx hb dL_law_627 (by decide) (fun h627 => ?_) (fun h627 => ?_)
          · skip
            exact absurd h627 (by decide)
          · skip
            refine lv_iconst (v := 1) hx hb dL_law_630 (by decide) ?_
            refine lv_goto (tgt := 635) hx hb dL_law_631 (by decide) ?_
            refine lv_iadd hx hb dL_law_635 ?_
            refine ztopi (y := nI (mc + 1)) (nI_add mc 1) ?_
            refine lv_istore (lv' := [(20, .int (nI (mc + 1))), (22, .int (1 : Int32)), (21, .int (nI k9)), (19, .int r19), (18, .int (nI s9.length)), (16, .int (nI (1 + n9))), (13, .int (nI pp)), (1, .ref (bd 31)), (0, .ref (kb 1))]) hx hb dL_law_636 hl (by decide) rfl ?_
            clear hl
            clear ls
            intro ls hl
            refine lv_iload hx hb dL_law_638 (lv_at hl 1 rfl) ?_
            refine lv_aload_n hx hb dL_law_640 rfl (lv_at hl 7 rfl) ?_
            refine lv_iload hx hb dL_law_641 (lv_at hl 6 rfl) ?_
            refine lv_iload hx hb dL_law_643 (lv_at hl 2 rfl) ?_
            refine zWi zm_L_111 hF hB (w_hole l D ka kb bd na L mo an pl (hoQ pp ho s9.reverse) le sz9 (nI v9) kp st N j pp k9 (hpp) (hk12)) rfl ⟨Nat.le_of_ble_eq_true rfl, Nat.le_of_ble_eq_true rfl⟩ rfl hl.1 (Nat.le_of_ble_eq_true rfl) ⟨Nat.le_of_ble_eq_true rfl, Nat.le_of_ble_eq_true rfl⟩ dL_law_645 ?_
            clear hB
            try clear locs
            try clear H
            intro r105 u105 H locs hp hB
            obtain rfl : r105 = (hoQ pp ho s9.reverse) (12 * pp + k9) := hp
            replace hB : zB D A s ([] ++ OW ka bd na (L, mo, an, pl, (hoQ pp ho s9.reverse), le, sz9, (nI v9), kp, st, N, j)) H locs := hB
            refine lv_if_le (tgt := 655) hx hb dL_law_648 (by decide) (fun h648 => ?_) (fun h648 => ?_)
            · skip
              exact absurd ((i32_le_i _ _).mp h648) (by rw [show (0 : Int32).toInt = 0 from rfl]; omega)
            · skip
              refine lv_iconst (v := 1) hx hb dL_law_651 (by decide) ?_
              refine lv_goto (tgt := 656) hx hb dL_law_652 (by decide) ?_
              refine lv_icmp_eq (tgt := 661) hx hb dL_law_656 (by decide) (fun h656 => ?_) (fun h656 => ?_)
              · skip
                refine lv_iinc (v := nI (k9 + 1)) (lv' := [(21, .int (nI (k9 + 1))), (20, .int (nI (mc + 1))), (22, .int (1 : Int32)), (19, .int r19), (18, .int (nI s9.length)), (16, .int (nI (1 + n9))), (13, .int (nI pp)), (1, .ref (bd 31)), (0, .ref (kb 1))]) hx hb dL_law_661 hl (k := 2) rfl (nI_1 _) (by decide) rfl ?_
                clear hl
                clear ls
                intro ls hl
                refine lv_goto (tgt := 598) hx hb dL_law_664 (by decide) ?_
                exact ih598 (k9 + 1) (mc + 1) (by omega) (by show _ = hcnt pp (hoQ pp ho s9.reverse) k9 + (if 0 < ((hoQ pp ho s9.reverse) (12 * pp + k9)).toInt then 1 else 0); rw [if_pos hp1, hmc]) (by omega) _ _ (hB) _ (lv_sub hl [0, 1, 3, 4, 5, 6, 7, 8] rfl)
              · skip
                exact absurd (by decide) h656
  exact lp598 (12 - 0 + 1) 0 0 (by decide) (rfl) (by omega) _ _ (hB) _ (lv_sub hl [0, 1, 2, 3, 4, 5, 6, 7] rfl)

set_option maxHeartbeats 8000000 in
set_option maxRecDepth 100000 in
theorem lw_S4f (l : Launch) (D : va_G) (ka : Nat → ClassId) (kb : Nat → Nat) (bd na : Nat → Nat) {p : Program} {e : Env} {s : State} {m : MethodId} {args : Array Value} {below : List Frame} {meth : Method} {c : Code} {A : Nat → Prop} {Q : State → Prop} {rt : Option FieldType} (hF : zF p s m args meth c D ka kb A cL_law RL 23 rt) (hL : kb 2 ≤ 260)
    (L : Nat) (mo : Nat → Int32) (an : Nat → Int32) (pl : Nat → Int32) (ho : Nat → Int32) (le : Nat → Int32) (sz9 : Int32) (kp : Nat → Bool) (st : Nat → Int32) (N : Nat → N5) (j : JT) (pp v9 n9 : Nat) (s9 : List Nat)
    (hpp : pp < 2) (hv9 : v9 < 20) (hn9 : n9 < 3) (hok : okL L mo an pl) (hoh : okH ho) (hszk : szK sz9 = true) (hz : ∀ i, i < 12 → ho (12 * pp + i) = 0) (hD8 : ∀ i, i < 6 → 0 < (N (8 + i)).2.2.2.2.toInt) (hB9 : bB (jbb j)) (hDR : DR pp L mo an pl ho le sz9 (nI v9).toInt s9) (hs4 : s9.length ≤ 4)
    {H : Heap} {locs : List Loc} (hB : zB D A s ([] ++ OW ka bd na (L, mo, an, pl, hoQ pp ho s9.reverse, le, sz9, (nI v9), kp, st, N, j)) H locs)
    (kk : ∀ (kp9 : Nat → Bool) (N9 : Nat → N5) (j9 : JT), (∀ i, i < 6 → 0 < (N9 (8 + i)).2.2.2.2.toInt) → (bB (jbb j9)) → ∀ (H : Heap) (locs : List Loc), zB D A s ([] ++ OW ka bd na (L, mo, an, pl, hoQ pp ho s9.reverse, le, sz9, (nI v9), kp9, st, N9, j9)) H locs → ∀ ls : Array Slot, lv_has ls 23 [(13, .int (nI pp)), (1, .ref (bd 31)), (0, .ref (kb 1))] → W p l e room_1 s m args below meth c H locs 75 545 Q (F0 m 800 ls []))
    {ls : Array Slot} (hl : lv_has ls 23 [(20, .int (nI s9.length)), (18, .int (nI s9.length)), (16, .int (nI (1 + n9))), (13, .int (nI pp)), (1, .ref (bd 31)), (0, .ref (kb 1))]) : W p l e room_1 s m args below meth c H locs 75 545 Q (F0 m 725 ls []) := by
  have hx : p.tables.exec = Jvm.exec := hF.1.1
  have hb : c.code = cL_law := hF.1.2.1
  refine lv_iconst (v := 0) hx hb dL_law_725 (by decide) ?_
  refine lv_istore (lv' := [(21, .int (0 : Int32)), (20, .int (nI s9.length)), (18, .int (nI s9.length)), (16, .int (nI (1 + n9))), (13, .int (nI pp)), (1, .ref (bd 31)), (0, .ref (kb 1))]) hx hb dL_law_726 hl (by decide) rfl ?_
  clear hl
  clear ls
  intro ls hl
  have lp728 : ∀ (fl : Nat) (k9 : Nat) (kp9 : Nat → Bool) (N9 : Nat → N5) (j9 : JT), (hk9 : k9 ≤ 12) → (h89 : ∀ i, i < 6 → 0 < (N9 (8 + i)).2.2.2.2.toInt) → (hb9 : bB (jbb j9)) → 12 - k9 < fl → ∀ (H : Heap) (locs : List Loc), zB D A s ([] ++ OW ka bd na (L, mo, an, pl, hoQ pp ho s9.reverse, le, sz9, (nI v9), kp9, st, N9, j9)) H locs → ∀ ls : Array Slot, lv_has ls 23 [(21, .int (nI k9)), (20, .int (nI s9.length)), (18, .int (nI s9.length)), (16, .int (nI (1 + n9))), (13, .int (nI pp)), (1, .ref (bd 31)), (0, .ref (kb 1))] → W p l e room_1 s m args below meth c H locs 75 545 Q (F0 m 728 ls []) := by
    intro fl
    induction fl with
    | zero => intro k9 kp9 N9 j9 hk9 h89 hb9 hfl; exact absurd hfl (Nat.not_lt_zero _)
    | succ fl ih728 =>
      intro k9 kp9 N9 j9 hk9 h89 hb9 hfl728 H locs hB ls hl
      refine lv_iload hx hb dL_law_728 (lv_at hl 0 rfl) ?_
      refine lv_bipush (v := 12) hx hb dL_law_730 (by decide) ?_
      refine lv_icmp_ge (tgt := 800) hx hb dL_law_732 (by decide) (fun h732 => ?_) (fun h732 => ?_)
      · skip
        exact kk kp9 N9 j9 (h89) (hb9) H locs hB ls (lv_sub hl [4, 5, 6] rfl)
      · skip
        have hk12 : k9 < 12 := by have := mt (nI_leI (a := 12) (b := k9) (by decide) (by omega)).mpr h732; omega
        refine lv_iload hx hb dL_law_735 (lv_at hl 2 rfl) ?_
        refine lv_if_le (tgt := 800) hx hb dL_law_737 (by decide) (fun h737 => ?_) (fun h737 => ?_)
        · skip
          exact kk kp9 N9 j9 (h89) (hb9) H locs hB ls (lv_sub hl [4, 5, 6] rfl)
        · skip
          refine lv_aload_n hx hb dL_law_740 rfl (lv_at hl 5 rfl) ?_
          refine lv_iload hx hb dL_law_741 (lv_at hl 4 rfl) ?_
          refine lv_iload hx hb dL_law_743 (lv_at hl 0 rfl) ?_
          refine zWi zm_L_111 hF hB (w_hole l D ka kb bd na L mo an pl (hoQ pp ho s9.reverse) le sz9 (nI v9) kp9 st N9 j9 pp k9 (hpp) (hk12)) rfl ⟨Nat.le_of_ble_eq_true rfl, Nat.le_of_ble_eq_true rfl⟩ rfl hl.1 (Nat.le_of_ble_eq_true rfl) ⟨Nat.le_of_ble_eq_true rfl, Nat.le_of_ble_eq_true rfl⟩ dL_law_745 ?_
          clear hB
          try clear locs
          try clear H
          intro r101 u101 H locs hp hB
          obtain rfl : r101 = (hoQ pp ho s9.reverse) (12 * pp + k9) := hp
          replace hB : zB D A s ([] ++ OW ka bd na (L, mo, an, pl, (hoQ pp ho s9.reverse), le, sz9, (nI v9), kp9, st, N9, j9)) H locs := hB
          refine lv_istore (lv' := [(22, .int ((hoQ pp ho s9.reverse) (12 * pp + k9))), (21, .int (nI k9)), (20, .int (nI s9.length)), (18, .int (nI s9.length)), (16, .int (nI (1 + n9))), (13, .int (nI pp)), (1, .ref (bd 31)), (0, .ref (kb 1))]) hx hb dL_law_748 hl (by decide) rfl ?_
          clear hl
          clear ls
          intro ls hl
          refine lv_iload hx hb dL_law_750 (lv_at hl 0 rfl) ?_
          refine lv_if_le (tgt := 794) hx hb dL_law_752 (by decide) (fun h752 => ?_) (fun h752 => ?_)
          · skip
            refine lv_iinc (v := nI (k9 + 1)) (lv' := [(21, .int (nI (k9 + 1))), (22, .int ((hoQ pp ho s9.reverse) (12 * pp + k9))), (20, .int (nI s9.length)), (18, .int (nI s9.length)), (16, .int (nI (1 + n9))), (13, .int (nI pp)), (1, .ref (bd 31)), (0, .ref (kb 1))]) hx hb dL_law_794 hl (k := 1) rfl (nI_1 _) (by decide) rfl ?_
            clear hl
            clear ls
            intro ls hl
            refine lv_goto (tgt := 728) hx hb dL_law_797 (by decide) ?_
            exact ih728 (k9 + 1) kp9 N9 j9 (by omega) (h89) (hb9) (by omega) _ _ (hB) _ (lv_sub hl [0, 2, 3, 4, 5, 6, 7] rfl)
          · skip
            have hp1 : 0 < ((hoQ pp ho s9.reverse) (12 * pp + k9)).toInt := by have := mt (i32_le_i _ _).mpr h752; rw [show (0 : Int32).toInt = 0 from rfl] at this; omega
            refine lv_aload_n hx hb dL_law_755 rfl (lv_at hl 6 rfl) ?_
            refine lv_iload hx hb dL_law_756 (lv_at hl 5 rfl) ?_
            refine lv_iload hx hb dL_law_758 (lv_at hl 1 rfl) ?_
            refine zWi zm_L_114 hF hB (w_fill l D ka kb bd na L mo an pl (hoQ pp ho s9.reverse) le sz9 (nI v9) kp9 st N9 j9 pp k9 (hpp) (hk12) (fun e => by rw [e] at hp1; exact absurd hp1 (by decide))) rfl ⟨Nat.le_of_ble_eq_true rfl, Nat.le_of_ble_eq_true rfl⟩ rfl hl.1 (Nat.le_of_ble_eq_true rfl) ⟨Nat.le_of_ble_eq_true rfl, Nat.le_of_ble_eq_true rfl⟩ dL_law_760 ?_
            clear hB
            try clear locs
            try clear H
            intro r102 u102 H locs hp hB
            obtain rfl : r102 = (hoQ pp ho s9.reverse) (12 * pp + k9) := hp
            replace hB : zB D A s ([] ++ OW ka bd na (L, mo, an, pl, upd (hoQ pp ho s9.reverse) (12 * pp + k9) 0, le, sz9, (nI v9), fgB kp9 3, st, N9, j9)) H locs := hB
            refine lv_iload hx hb dL_law_763 (lv_at hl 0 rfl) ?_
            refine lv_icmp_ne (tgt := 792) hx hb dL_law_765 (by decide) (fun h765 => ?_) (fun h765 => ?_)
            · skip
              exact (h765 rfl).elim
            · skip
              refine lv_aload_n hx hb dL_law_768 rfl (lv_at hl 6 rfl) ?_
              refine lv_iload hx hb dL_law_769 (lv_at hl 5 rfl) ?_
              refine zWi zm_L_102 hF hB (w_quiet l D ka kb bd na L mo an pl (upd (hoQ pp ho s9.reverse) (12 * pp + k9) 0) le sz9 (nI v9) (fgB kp9 3) st N9 j9 pp (hok) (okH_0 (okH_q hoh _) _) (rng99 (by omega)) (hpp) (hb9)) rfl ⟨Nat.le_of_ble_eq_true rfl, Nat.le_of_ble_eq_true rfl⟩ rfl hl.1 (Nat.le_of_ble_eq_true rfl) ⟨Nat.le_of_ble_eq_true rfl, Nat.le_of_ble_eq_true rfl⟩ dL_law_771 ?_
              clear hB
              try clear locs
              try clear H
              intro r103 u103 H locs hp hB
              obtain ⟨N_103, j_103⟩ := u103
              have hp103 : r103 = bI (quB (pulI pp L mo an pl (upd (hoQ pp ho s9.reverse) (12 * pp + k9) 0)) (nI v9).toInt) ∧ (∀ k9, k9 ≠ 34 → N_103 k9 = N9 k9) ∧ bB (jbb j_103) := hp
              have hr103 := hp103.1
              have hN103 := hp103.2.1
              have hb103 := hp103.2.2
              have h8_103 : ∀ i, i < 6 → 0 < (N_103 (8 + i)).2.2.2.2.toInt := fun i hi => by rw [hN103 (8 + i) (by omega)]; exact h89 i hi
              have hz771 : r103 = 0 := hr103.trans (by rw [(hDR.rm hszk hz hk12 hp1).1]; rfl)
              replace hB : zB D A s ([] ++ OW ka bd na (L, mo, an, pl, (upd (hoQ pp ho s9.reverse) (12 * pp + k9) 0), le, sz9, (nI v9), (fgB kp9 3), st, N_103, j_103)) H locs := hB
              refine lv_if_ne (tgt := 792) hx hb dL_law_774 (by decide) (fun h774 => ?_) (fun h774 => ?_)
              · skip
                exact absurd hz771 h774
              · skip
                refine lv_aload_n hx hb dL_law_777 rfl (lv_at hl 6 rfl) ?_
                refine lv_iload hx hb dL_law_778 (lv_at hl 5 rfl) ?_
                refine lv_iload hx hb dL_law_780 (lv_at hl 1 rfl) ?_
                refine lv_iload hx hb dL_law_782 (lv_at hl 0 rfl) ?_
                refine zWi zm_L_117 hF hB (w_drill l D ka kb bd na L mo an pl (upd (hoQ pp ho s9.reverse) (12 * pp + k9) 0) le sz9 (nI v9) (fgB kp9 3) st N_103 j_103 pp k9 ((hoQ pp ho s9.reverse) (12 * pp + k9)) (okH_0 (okH_q hoh _) _) (hpp) (hk12) (⟨by omega, (okH_q hoh _ _ (by omega)).2⟩) ((hDR.rm hszk hz hk12 hp1).2)) rfl ⟨Nat.le_of_ble_eq_true rfl, Nat.le_of_ble_eq_true rfl⟩ rfl hl.1 (Nat.le_of_ble_eq_true rfl) ⟨Nat.le_of_ble_eq_true rfl, Nat.le_of_ble_eq_true rfl⟩ dL_law_784 ?_
                clear hB
                try clear locs
                try clear H
                intro r104 u104 H locs hp hB
                obtain rfl : r104 = nI (hcnt pp (upd (upd (hoQ pp ho s9.reverse) (12 * pp + k9) 0) (12 * pp + k9) ((hoQ pp ho s9.reverse) (12 * pp + k9))) 12) := hp
                replace hB : zB D A s ([] ++ OW ka bd na (L, mo, an, pl, upd (upd (hoQ pp ho s9.reverse) (12 * pp + k9) 0) (12 * pp + k9) ((hoQ pp ho s9.reverse) (12 * pp + k9)), le, sz9, (nI v9), fgB (fgB kp9 3) 3, st, N_103, j_103)) H locs := hB
                rw [upd_back] at hB
                replace hB : zB D A s ([] ++ OW ka bd na (L, mo, an, pl, hoQ pp ho s9.reverse, le, sz9, (nI v9), fgB (fgB kp9 3) 3, st, N_103, j_103)) H locs := hB
                refine lv_iload hx hb dL_law_787 (lv_at hl 2 rfl) ?_
                refine lv_icmp_eq (tgt := 794) hx hb dL_law_789 (by decide) (fun h789 => ?_) (fun h789 => ?_)
                · skip
                  refine lv_iinc (v := nI (k9 + 1)) (lv' := [(21, .int (nI (k9 + 1))), (22, .int ((hoQ pp ho s9.reverse) (12 * pp + k9))), (20, .int (nI s9.length)), (18, .int (nI s9.length)), (16, .int (nI (1 + n9))), (13, .int (nI pp)), (1, .ref (bd 31)), (0, .ref (kb 1))]) hx hb dL_law_794 hl (k := 1) rfl (nI_1 _) (by decide) rfl ?_
                  clear hl
                  clear ls
                  intro ls hl
                  refine lv_goto (tgt := 728) hx hb dL_law_797 (by decide) ?_
                  exact ih728 (k9 + 1) (fgB (fgB kp9 3) 3) N_103 j_103 (by omega) (h8_103) (hb103) (by omega) _ _ (hB) _ (lv_sub hl [0, 2, 3, 4, 5, 6, 7] rfl)
                · skip
                  exact absurd (by rw [upd_back, hDR.cnt hszk hz]) h789
  exact lp728 (12 - 0 + 1) 0 kp N j (by decide) (hD8) (hB9) (by omega) _ _ (hB) _ (lv_sub hl [0, 1, 2, 3, 4, 5, 6] rfl)
