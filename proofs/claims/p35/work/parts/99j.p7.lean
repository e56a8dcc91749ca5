set_option maxHeartbeats 8000000 in
set_option maxRecDepth 100000 in
theorem lw_planes (l : Launch) (D : va_G) (ka : Nat → ClassId) (kb : Nat → Nat) (bd na : Nat → Nat) {p : Program} {e : Env} {s : State} {m : MethodId} {args : Array Value} {below : List Frame} {meth : Method} {c : Code} {A : Nat → Prop} {Q : State → Prop} {rt : Option FieldType} (hF : zF p s m args meth c D ka kb A cL_law RL 23 rt) (hL : kb 2 ≤ 260)
    (kk : ∀ (L : Nat) (mo : Nat → Int32) (an : Nat → Int32) (pl : Nat → Int32) (ho : Nat → Int32) (le : Nat → Int32) (sz9 : Int32) (re9 : Int32) (kp : Nat → Bool) (st : Nat → Int32) (N : Nat → N5) (j : JT), PI 2 L mo an pl ho le sz9 re9 st N j → ∀ (H : Heap) (locs : List Loc), zB D A s ([] ++ OW ka bd na (L, mo, an, pl, ho, le, sz9, re9, kp, st, N, j)) H locs → ∀ ls : Array Slot, lv_has ls 23 [(1, .ref (bd 31)), (0, .ref (kb 1))] → W p l e room_1 s m args below meth c H locs 75 545 Q (F0 m 806 ls [])) :
    ∀ (n pp : Nat), n + pp = 2 → ∀ (L : Nat) (mo : Nat → Int32) (an : Nat → Int32) (pl : Nat → Int32) (ho : Nat → Int32) (le : Nat → Int32) (sz9 : Int32) (re9 : Int32) (kp : Nat → Bool) (st : Nat → Int32) (N : Nat → N5) (j : JT), PI pp L mo an pl ho le sz9 re9 st N j → ∀ (H : Heap) (locs : List Loc), zB D A s ([] ++ OW ka bd na (L, mo, an, pl, ho, le, sz9, re9, kp, st, N, j)) H locs → ∀ ls : Array Slot, lv_has ls 23 [(13, .int (nI pp)), (1, .ref (bd 31)), (0, .ref (kb 1))] → W p l e room_1 s m args below meth c H locs 75 545 Q (F0 m 309 ls []) := by
  have hx : p.tables.exec = Jvm.exec := hF.1.1
  have hb : c.code = cL_law := hF.1.2.1
  intro n
  induction n with
  | zero =>
    intro pp hn L mo an pl ho le sz9 re9 kp st N j hPI H locs hB ls hl
    obtain rfl : pp = 2 := by omega
    refine lv_iload hx hb dL_law_309 (lv_at hl 0 rfl) ?_
    refine lv_iconst (v := 2) hx hb dL_law_311 (by decide) ?_
    refine lv_icmp_ge (tgt := 806) hx hb dL_law_312 (by decide) (fun h1 => ?_) (fun h1 => ?_)
    · exact kk L mo an pl ho le sz9 re9 kp st N j hPI H locs hB ls (lv_sub hl [1, 2] rfl)
    · exact absurd (by decide) h1
  | succ n ih =>
    intro pp hn L mo an pl ho le sz9 re9 kp st N j hPI H locs hB ls hl
    have hpp : pp < 2 := by omega
    refine lv_iload hx hb dL_law_309 (lv_at hl 0 rfl) ?_
    refine lv_iconst (v := 2) hx hb dL_law_311 (by decide) ?_
    refine lv_icmp_ge (tgt := 806) hx hb dL_law_312 (by decide) (fun h1 => ?_) (fun h1 => ?_)
    · exact absurd ((nI_leI (a := 2) (b := pp) (by decide) (by omega)).mp h1) (by omega)
    have fin : ∀ (ho2 le2 : Nat → Int32) (szv : Int32) (v9 : Nat) (kp2 : Nat → Bool) (N2 : Nat → N5) (j2 : JT), v9 < 20 → szK szv = true → okH ho2 → (∀ i, pp < i → i < 2 → le2 i = 4095 ∧ ∀ k, k < 12 → ho2 (12 * i + k) = 0) → (∀ i, i < 6 → 0 < (N2 (8 + i)).2.2.2.2.toInt) → bB (jbb j2) → ∀ (H : Heap) (locs : List Loc), zB D A s ([] ++ OW ka bd na (L, mo, an, pl, ho2, le2, szv, (nI v9), kp2, st, N2, j2)) H locs → ∀ ls : Array Slot, lv_has ls 23 [(13, .int (nI pp)), (1, .ref (bd 31)), (0, .ref (kb 1))] → W p l e room_1 s m args below meth c H locs 75 545 Q (F0 m 800 ls []) := by
      intro ho2 le2 szv v9 kp2 N2 j2 hv9 hsz hoh2 hz2 hd2 hb2 H locs hB ls hl
      refine lv_iinc (v := nI (pp + 1)) (lv' := [(13, .int (nI (pp + 1))), (1, .ref (bd 31)), (0, .ref (kb 1))]) hx hb dL_law_800 hl (k := 0) rfl (nI_1 _) (by decide) rfl (fun ls hl => ?_)
      refine lv_goto (tgt := 309) hx hb dL_law_803 (by decide) ?_
      exact ih (pp + 1) (by omega) L mo an pl ho2 le2 szv (nI v9) kp2 st N2 j2 ⟨hPI.1, hoh2, rng99 (by omega), hsz, hb2, hd2, hPI.2.2.2.2.2.2.1, fun i h2 h3 => hz2 i (by omega) h3⟩ H locs hB ls hl
    refine lw_S4a l D ka kb bd na hF hL L mo an pl ho le sz9 re9 kp st N j pp hpp hPI hB ?_ hl
    intro v9 n9 le9 szv hv9 hn9 hszk hle H locs hB ls hl
    obtain ⟨hok, hoh, _, _, hB9, hD8, hS0, hpl⟩ := hPI
    have hz := (hpl pp (Nat.le_refl _) hpp).2
    refine lw_S4b l D ka kb bd na hF hL L mo an pl ho le9 szv kp st N j pp v9 n9 hpp hv9 hn9 hok hoh hB9 hszk hD8 hz hB ?_ ?_ hl
    · intro N9 j9 hd9 hb9 H locs hB ls hl
      refine lw_S4n l D ka kb bd na hF hL L mo an pl ho le9 szv kp st N9 j9 pp v9 n9 hpp hv9 hn9 hok hoh hszk hz hd9 hb9 hB ?_ hl
      intro kp2 N2 j2 hd2 hb2 H locs hB ls hl
      exact fin ho le9 szv v9 kp2 N2 j2 hv9 hszk hoh (fun i h2 h3 => ⟨hle i h2 h3, (hpl i (by omega) h3).2⟩) hd2 hb2 H locs hB ls hl
    · intro s9 r19 kp9 N9 j9 hDR hs4 hbits hd9 hb9 H locs hB ls hl
      refine lw_S4s l D ka kb bd na hF hL L mo an pl ho le9 szv kp9 st N9 j9 pp v9 n9 s9 r19 hpp hv9 hn9 hok hoh hszk hz hd9 hb9 hDR hs4 hbits hB ?_ hl
      intro N8 j8 hd8 hb8 H locs hB ls hl
      refine lw_S4f l D ka kb bd na hF hL L mo an pl ho le9 szv kp9 st N8 j8 pp v9 n9 s9 hpp hv9 hn9 hok hoh hszk hz hd8 hb8 hDR hs4 hB ?_ hl
      intro kp2 N2 j2 hd2 hb2 H locs hB ls hl
      refine fin (hoQ pp ho s9.reverse) le9 szv v9 kp2 N2 j2 hv9 hszk (okH_q hoh _) (fun i h2 h3 => ⟨hle i h2 h3, fun k hk => ?_⟩) hd2 hb2 H locs hB ls hl
      rw [hoQ_ne _ (fun q hq e9 => by have := (hDR.lt hszk q hq).1; omega)]
      exact (hpl i (by omega) h3).2 k hk

set_option maxHeartbeats 8000000 in
set_option maxRecDepth 100000 in
theorem lw_S5 (l : Launch) (D : va_G) (ka : Nat → ClassId) (kb : Nat → Nat) (bd na : Nat → Nat) {p : Program} {e : Env} {s : State} {m : MethodId} {args : Array Value} {below : List Frame} {meth : Method} {c : Code} {A : Nat → Prop} {Q : State → Prop} {rt : Option FieldType} (hF : zF p s m args meth c D ka kb A cL_law RL 23 rt) (hL : kb 2 ≤ 260)
    (L : Nat) (mo : Nat → Int32) (an : Nat → Int32) (pl : Nat → Int32) (ho : Nat → Int32) (le : Nat → Int32) (sz9 : Int32) (re9 : Int32) (kp : Nat → Bool) (st : Nat → Int32) (N : Nat → N5) (j : JT)
    (hPI : PI 2 L mo an pl ho le sz9 re9 st N j)
    {H : Heap} {locs : List Loc} (hB : zB D A s ([] ++ OW ka bd na (L, mo, an, pl, ho, le, sz9, re9, kp, st, N, j)) H locs)
    (kk : ∀ (ws : va_W) (H : Heap) (locs : List Loc), zB D A s ws H locs → ∀ ls : Array Slot, W p l e room_1 s m args below meth c H locs 77 553 Q (F0 m 813 ls [.int 1]))
    {ls : Array Slot} (hl : lv_has ls 23 [(1, .ref (bd 31)), (0, .ref (kb 1))]) : W p l e room_1 s m args below meth c H locs 75 545 Q (F0 m 806 ls []) := by
  have hx : p.tables.exec = Jvm.exec := hF.1.1
  have hb : c.code = cL_law := hF.1.2.1
  obtain ⟨hok, hoh, hre, hszk, hB9, hD8, hS0, hpl⟩ := hPI
  refine lv_aload_n hx hb dL_law_806 rfl (lv_at hl 0 rfl) ?_
  refine lv_aload_n hx hb dL_law_807 rfl (lv_at hl 1 rfl) ?_
  refine lv_bipush (v := 24) hx hb dL_law_808 (by decide) ?_
  refine zWn9 zm_L_86 hF hB (c_L_trials l D ka kb bd na L mo an pl ho le sz9 re9 kp st N j 24 (by first | assumption | omega | decide) (by decide) (hok) (hoh) (hre) (hB9) (hD8) (hS0)) rfl ⟨Nat.le_of_ble_eq_true rfl, Nat.le_of_ble_eq_true rfl⟩ rfl hl.1 (Nat.le_of_ble_eq_true rfl) ⟨Nat.le_of_ble_eq_true rfl, Nat.le_of_ble_eq_true rfl⟩ dL_law_810 ?_
  clear hB
  try clear locs
  try clear H
  intro r101 u101 H locs hp hB
  obtain ⟨kp_101, st_101, N_101, j_101⟩ := u101
  have hp101 : r101 = 1 ∧ bB (jbb j_101) ∧ (∀ i, i < 8 → 0 ≤ (st_101 i).toInt) ∧ (∀ i, i < 6 → 0 < (N_101 (8 + i)).2.2.2.2.toInt) := hp
  have hr101 := hp101.1
  have hb101 := hp101.2.1
  have hs101 := hp101.2.2.1
  have hd101 := hp101.2.2.2
  replace hB : zB D A s ([] ++ OW ka bd na (L, mo, an, pl, ho, le, sz9, re9, kp_101, st_101, N_101, j_101)) H locs := hB
  obtain rfl : r101 = 1 := hr101
  exact kk _ H locs hB ls
