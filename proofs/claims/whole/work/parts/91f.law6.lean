set_option maxHeartbeats 4000000 in
set_option maxRecDepth 100000 in
theorem lwc_pull (l : Launch) (D : va_G) (ka : Nat → ClassId) (kb : Nat → Nat) (bd na ad : Nat → Nat) (q sb L9 : Nat) (xs : Nat → Int32) {p : Program} {e : Env} {s : State} {m : MethodId} {args : Array Value} {below : List Frame} {meth : Method} {c : Code} {A : Nat → Prop} {Q : State → Prop} {rt : Option FieldType} (hF : zF p s m args meth c D ka kb A cL_law RL 4 rt) (hX : va_X sb L9 xs s s.heap) (hsb : sb < s.heap.size) (hAb : ¬ A sb) (i : Nat) (hi : i + 7 ≤ L9) (hL9 : L9 ≤ 3584) {ws : va_W} {H : Heap} {locs : List Loc} (hI : LI ka bd na ad q ws) (hB : zB D A s ws H locs)
    (kk : ∀ (ws : va_W) (H : Heap) (locs : List Loc), LI ka bd na ad q ws → zB D A s ws H locs → ∀ ls : Array Slot, lv_has ls 4 [(3, .int (nI i)), (2, .ref q), (1, .ref (bd 31)), (0, .ref sb)] → W p l e room_1 s m args below meth c H locs 92 1052 Q (F0 m 1359 ls [])) {ls : Array Slot} (hl : lv_has ls 4 [(3, .int (nI i)), (2, .ref q), (1, .ref (bd 31)), (0, .ref sb)]) : W p l e room_1 s m args below meth c H locs 92 1052 Q (F0 m 658 ls []) := by
  have hx : p.tables.exec = Jvm.exec := hF.1.1
  have hb : c.code = cL_law := hF.1.2.1
  obtain ⟨L, mo, an, pl, ho, le, sz, la, sz9, re9, N, o1, o2, o3, st, kp, cnt, opb, rch, wnt, bb, zs, sa7, ss7, dn, up9, rw9, o, tr, bm, b0, b1, it, as9, nu, pu, ga, lg, pm, pa, sa8, ss8, ba, bz, rfl, ha, hbb, hc, hn, hk, hi9⟩ := hI
  have hok := ha.1
  have hoh := ha.2.1
  have hre := ha.2.2.1
  have hszk := ha.2.2.2.1
  have hsz := ha.2.2.2.2
  have hB9 := hc.1
  have hb01 := hc.2
  have hd6 : ∀ k, k < 6 → 0 < (N k).2.2.2.2.toInt := fun k h => by rw [hn.2.1 k h]; exact hn.1 k (by omega)
  replace hB : zB D A s ([((bd 31), .inr (7, [.ref (bd 0), .ref (bd 1), .ref (na 6), .ref (na 7), .ref (bd 2), .ref (bd 3), .ref (bd 4), .ref (bd 5), .ref (bd 6)])), ((bd 0), .inr (2, [.int (bI o1), .ref (na 25), .ref (na 26), .ref (na 27)])), ((bd 1), .inl (ka 3, 6, .inr (.inr (.inr (.inr (nR na 0)))))), ((bd 2), .inr (3, [.int (nI L), .ref (bd 7), .ref (bd 8), .ref (bd 9), .ref (bd 10), .ref (bd 11), .int sz9, .int re9])), ((bd 7), .inl (ka 0, 8, .inl mo)), ((bd 8), .inl (ka 0, 8, .inl an)), ((bd 9), .inl (ka 0, 8, .inl pl)), ((bd 10), .inl (ka 0, 24, .inl ho)), ((bd 11), .inl (ka 0, 2, .inl le)), ((bd 3), .inr (0, [.ref (bd 12), .ref (bd 13), .ref (bd 14), .ref (bd 15), .ref (bd 16), .ref (bd 17), .ref (na 21), .ref (na 22), .ref (na 23), .ref (na 24)])), ((bd 12), .inr (2, [.int (bI o2), .ref (na 28), .ref (na 29), .ref (na 30)])), ((bd 13), .inl (ka 0, 8, .inl st)), ((bd 14), .inl (ka 2, 3, .inl (kI kp))), ((bd 15), .inl (ka 3, 6, .inr (.inr (.inr (.inr (nR na 8)))))), ((bd 16), .inl (ka 3, 3, .inr (.inr (.inr (.inr (nR na 14)))))), ((bd 17), .inl (ka 3, 4, .inr (.inr (.inr (.inr (nR na 17)))))), ((bd 4), .inr (4, [.ref (bd 18), .ref (bd 19), .int cnt, .int opb, .int rch, .int wnt, .ref (bd 20), .ref (bd 21), .ref (bd 22), .int bb.1, .ref (bd 23), .ref (bd 24), .long (Int64.ofInt bb.2.1), .long (Int64.ofInt bb.2.2.1)])), ((bd 18), .inr (2, [.int (bI o3), .ref (na 31), .ref (na 32), .ref (na 33)])), ((bd 19), .inl (ka 0, 3, .inl zs)), ((bd 20), .inl (ka 3, 5, .inr (.inr (.inr (.inr (nR na 34)))))), ((bd 21), .inl (ka 0, 4, .inl sa7)), ((bd 22), .inl (ka 0, 4, .inl ss7)), ((bd 23), .inl (ka 0, 4, .inl bb.2.2.2.1)), ((bd 24), .inl (ka 0, 4, .inl bb.2.2.2.2)), ((bd 5), .inr (6, [.int dn, .int up9, .ref (na 39), .ref (na 40)])), ((bd 6), .inr (5, [.ref (bd 25), .ref (bd 30), .int la])), ((bd 25), .inl (ka 4, 4, .inr (.inr (.inr (.inr (nB bd)))))), ((bd 26), .inl (ka 1, 40, .inr (.inl (rw9 0)))), ((bd 27), .inl (ka 1, 40, .inr (.inl (rw9 1)))), ((bd 28), .inl (ka 1, 40, .inr (.inl (rw9 2)))), ((bd 29), .inl (ka 1, 40, .inr (.inl (rw9 3)))), ((bd 30), .inl (ka 0, 4, .inl sz)), (q, .inr (8, mX ad (bI o) la (nI L) sz9 re9 tr bm (Int64.ofInt b0) (Int64.ofInt b1))), ((ad 0), .inl (ka 0, 4, .inl sz)), ((ad 1), .inl (ka 1, 160, .inr (.inl it))), ((ad 2), .inl (ka 1, 40, .inr (.inl as9))), ((ad 3), .inl (ka 1, 200, .inr (.inl nu))), ((ad 4), .inl (ka 0, 8, .inl mo)), ((ad 5), .inl (ka 0, 8, .inl an)), ((ad 6), .inl (ka 0, 8, .inl pl)), ((ad 7), .inl (ka 0, 24, .inl ho)), ((ad 8), .inl (ka 0, 2, .inl le)), ((ad 9), .inl (ka 1, 4, .inr (.inl pu))), ((ad 10), .inl (ka 0, 4, .inl ga)), ((ad 11), .inl (ka 0, 4, .inl lg)), ((ad 12), .inl (ka 0, 3, .inl pm)), ((ad 13), .inl (ka 0, 3, .inl pa)), ((ad 14), .inl (ka 0, 4, .inl sa8)), ((ad 15), .inl (ka 0, 4, .inl ss8)), ((ad 16), .inl (ka 0, 4, .inl ba)), ((ad 17), .inl (ka 0, 4, .inl bz))] ++ nP na N) H locs := hB
  refine lv_aload_n hx hb dL_law_658 rfl (lv_at hl 2 rfl) ?_
  refine lv_aload_n hx hb dL_law_659 rfl (lv_at hl 3 rfl) ?_
  refine lv_iload_n hx hb dL_law_660 rfl (lv_at hl 0 rfl) ?_
  refine lv_iconst (v := 1) hx hb dL_law_661 (by decide) ?_
  refine lv_iadd hx hb dL_law_662 ?_
  refine ztopi (y := nI (i + 1)) (nI_add i 1) ?_
  refine zscr hF hX hsb hAb hB (k := (i + 1)) (by omega) (by omega) dL_law_663 ?_
  refine lv_aload_n hx hb dL_law_664 rfl (lv_at hl 3 rfl) ?_
  refine lv_iload_n hx hb dL_law_665 rfl (lv_at hl 0 rfl) ?_
  refine lv_iconst (v := 2) hx hb dL_law_666 (by decide) ?_
  refine lv_iadd hx hb dL_law_667 ?_
  refine ztopi (y := nI (i + 2)) (nI_add i 2) ?_
  refine zscr hF hX hsb hAb hB (k := (i + 2)) (by omega) (by omega) dL_law_668 ?_
  refine zVl zm_L_72 hF hB (c_X7_pull l D ka kb bd na o1 sz9 re9 L mo an pl ho N (xs (i + 1)) (xs (i + 2)) (hok) (hoh)) ([0, 1, 3, 4, 5, 6, 7] ++ npr 51) (zsel_pool rfl rfl) (va_nd_pool rfl rfl) ([(bd 31), (bd 0), (bd 2), (bd 7), (bd 8), (bd 9), (bd 10)] ++ nA na) (fun _ => zad_pool rfl) (zad_pool rfl) 0 7 rfl rfl rfl ⟨Nat.le_of_ble_eq_true rfl, Nat.le_of_ble_eq_true rfl⟩ rfl hl.1 (Nat.le_of_ble_eq_true rfl) ⟨Nat.le_of_ble_eq_true rfl, Nat.le_of_ble_eq_true rfl⟩ dL_law_669 ?_
  clear hB
  try clear locs
  try clear H
  intro r1 u1 H locs hp hB
  obtain ⟨N91, o91⟩ := u1
  have hp1 : r1 = (if plK (xs (i + 1)) (xs (i + 2)) = true then plV (pulI (aN (xs (i + 1))) L mo an pl ho) (aN (xs (i + 2))) else lMin - (-2 : Int32).toInt64) ∧ (∀ k9, k9 ≠ 6 → k9 ≠ 7 → N91 k9 = N k9) := hp
  have HPP := hp1
  replace hB : zB D A s ([((bd 31), .inr (7, [.ref (bd 0), .ref (bd 1), .ref (na 6), .ref (na 7), .ref (bd 2), .ref (bd 3), .ref (bd 4), .ref (bd 5), .ref (bd 6)])), ((bd 0), .inr (2, [.int (bI o91), .ref (na 25), .ref (na 26), .ref (na 27)])), ((bd 1), .inl (ka 3, 6, .inr (.inr (.inr (.inr (nR na 0)))))), ((bd 2), .inr (3, [.int (nI L), .ref (bd 7), .ref (bd 8), .ref (bd 9), .ref (bd 10), .ref (bd 11), .int sz9, .int re9])), ((bd 7), .inl (ka 0, 8, .inl mo)), ((bd 8), .inl (ka 0, 8, .inl an)), ((bd 9), .inl (ka 0, 8, .inl pl)), ((bd 10), .inl (ka 0, 24, .inl ho)), ((bd 11), .inl (ka 0, 2, .inl le)), ((bd 3), .inr (0, [.ref (bd 12), .ref (bd 13), .ref (bd 14), .ref (bd 15), .ref (bd 16), .ref (bd 17), .ref (na 21), .ref (na 22), .ref (na 23), .ref (na 24)])), ((bd 12), .inr (2, [.int (bI o2), .ref (na 28), .ref (na 29), .ref (na 30)])), ((bd 13), .inl (ka 0, 8, .inl st)), ((bd 14), .inl (ka 2, 3, .inl (kI kp))), ((bd 15), .inl (ka 3, 6, .inr (.inr (.inr (.inr (nR na 8)))))), ((bd 16), .inl (ka 3, 3, .inr (.inr (.inr (.inr (nR na 14)))))), ((bd 17), .inl (ka 3, 4, .inr (.inr (.inr (.inr (nR na 17)))))), ((bd 4), .inr (4, [.ref (bd 18), .ref (bd 19), .int cnt, .int opb, .int rch, .int wnt, .ref (bd 20), .ref (bd 21), .ref (bd 22), .int bb.1, .ref (bd 23), .ref (bd 24), .long (Int64.ofInt bb.2.1), .long (Int64.ofInt bb.2.2.1)])), ((bd 18), .inr (2, [.int (bI o3), .ref (na 31), .ref (na 32), .ref (na 33)])), ((bd 19), .inl (ka 0, 3, .inl zs)), ((bd 20), .inl (ka 3, 5, .inr (.inr (.inr (.inr (nR na 34)))))), ((bd 21), .inl (ka 0, 4, .inl sa7)), ((bd 22), .inl (ka 0, 4, .inl ss7)), ((bd 23), .inl (ka 0, 4, .inl bb.2.2.2.1)), ((bd 24), .inl (ka 0, 4, .inl bb.2.2.2.2)), ((bd 5), .inr (6, [.int dn, .int up9, .ref (na 39), .ref (na 40)])), ((bd 6), .inr (5, [.ref (bd 25), .ref (bd 30), .int la])), ((bd 25), .inl (ka 4, 4, .inr (.inr (.inr (.inr (nB bd)))))), ((bd 26), .inl (ka 1, 40, .inr (.inl (rw9 0)))), ((bd 27), .inl (ka 1, 40, .inr (.inl (rw9 1)))), ((bd 28), .inl (ka 1, 40, .inr (.inl (rw9 2)))), ((bd 29), .inl (ka 1, 40, .inr (.inl (rw9 3)))), ((bd 30), .inl (ka 0, 4, .inl sz)), (q, .inr (8, mX ad (bI o) la (nI L) sz9 re9 tr bm (Int64.ofInt b0) (Int64.ofInt b1))), ((ad 0), .inl (ka 0, 4, .inl sz)), ((ad 1), .inl (ka 1, 160, .inr (.inl it))), ((ad 2), .inl (ka 1, 40, .inr (.inl as9))), ((ad 3), .inl (ka 1, 200, .inr (.inl nu))), ((ad 4), .inl (ka 0, 8, .inl mo)), ((ad 5), .inl (ka 0, 8, .inl an)), ((ad 6), .inl (ka 0, 8, .inl pl)), ((ad 7), .inl (ka 0, 24, .inl ho)), ((ad 8), .inl (ka 0, 2, .inl le)), ((ad 9), .inl (ka 1, 4, .inr (.inl pu))), ((ad 10), .inl (ka 0, 4, .inl ga)), ((ad 11), .inl (ka 0, 4, .inl lg)), ((ad 12), .inl (ka 0, 3, .inl pm)), ((ad 13), .inl (ka 0, 3, .inl pa)), ((ad 14), .inl (ka 0, 4, .inl sa8)), ((ad 15), .inl (ka 0, 4, .inl ss8)), ((ad 16), .inl (ka 0, 4, .inl ba)), ((ad 17), .inl (ka 0, 4, .inl bz))] ++ nP na N91) H locs := zB_pool hB rfl rfl rfl rfl
  have h7 := HPP
  refine lv_aload_n hx hb dL_law_672 rfl (lv_at hl 1 rfl) ?_
  refine lv_aload_n hx hb dL_law_673 rfl (lv_at hl 3 rfl) ?_
  refine lv_iload_n hx hb dL_law_674 rfl (lv_at hl 0 rfl) ?_
  refine lv_iconst (v := 1) hx hb dL_law_675 (by decide) ?_
  refine lv_iadd hx hb dL_law_676 ?_
  refine ztopi (y := nI (i + 1)) (nI_add i 1) ?_
  refine zscr hF hX hsb hAb hB (k := (i + 1)) (by omega) (by omega) dL_law_677 ?_
  refine lv_aload_n hx hb dL_law_678 rfl (lv_at hl 3 rfl) ?_
  refine lv_iload_n hx hb dL_law_679 rfl (lv_at hl 0 rfl) ?_
  refine lv_iconst (v := 2) hx hb dL_law_680 (by decide) ?_
  refine lv_iadd hx hb dL_law_681 ?_
  refine ztopi (y := nI (i + 2)) (nI_add i 2) ?_
  refine zscr hF hX hsb hAb hB (k := (i + 2)) (by omega) (by omega) dL_law_682 ?_
  refine zVl zm_L_75 hF hB (c_X8_pull l D ka kb q ad o (la, (nI L), sz9, re9, tr, bm, (Int64.ofInt b0), (Int64.ofInt b1)) pu (xs (i + 1)) (xs (i + 2)) L mo an pl ho nu (rfl) (hok) (hoh)) [32, 42, 37, 38, 39, 40, 36] rfl (by decide) [q, (ad 9), (ad 4), (ad 5), (ad 6), (ad 7), (ad 3)] (fun _ => rfl) rfl 32 8 rfl rfl rfl ⟨Nat.le_of_ble_eq_true rfl, Nat.le_of_ble_eq_true rfl⟩ rfl hl.1 (Nat.le_of_ble_eq_true rfl) ⟨Nat.le_of_ble_eq_true rfl, Nat.le_of_ble_eq_true rfl⟩ dL_law_683 ?_
  clear hB
  try clear locs
  try clear H
  intro r2 u2 H locs hp hB
  obtain ⟨pu22, nu22⟩ := u2
  have hp2 : r2 = (if plK (xs (i + 1)) (xs (i + 2)) = true then plV (pulI (aN (xs (i + 1))) L mo an pl ho) (aN (xs (i + 2))) else lMin - (-2 : Int32).toInt64) ∧ keepN [29] nu nu22 := hp
  have HPP := hp2
  replace hB : zB D A s ([((bd 31), .inr (7, [.ref (bd 0), .ref (bd 1), .ref (na 6), .ref (na 7), .ref (bd 2), .ref (bd 3), .ref (bd 4), .ref (bd 5), .ref (bd 6)])), ((bd 0), .inr (2, [.int (bI o91), .ref (na 25), .ref (na 26), .ref (na 27)])), ((bd 1), .inl (ka 3, 6, .inr (.inr (.inr (.inr (nR na 0)))))), ((bd 2), .inr (3, [.int (nI L), .ref (bd 7), .ref (bd 8), .ref (bd 9), .ref (bd 10), .ref (bd 11), .int sz9, .int re9])), ((bd 7), .inl (ka 0, 8, .inl mo)), ((bd 8), .inl (ka 0, 8, .inl an)), ((bd 9), .inl (ka 0, 8, .inl pl)), ((bd 10), .inl (ka 0, 24, .inl ho)), ((bd 11), .inl (ka 0, 2, .inl le)), ((bd 3), .inr (0, [.ref (bd 12), .ref (bd 13), .ref (bd 14), .ref (bd 15), .ref (bd 16), .ref (bd 17), .ref (na 21), .ref (na 22), .ref (na 23), .ref (na 24)])), ((bd 12), .inr (2, [.int (bI o2), .ref (na 28), .ref (na 29), .ref (na 30)])), ((bd 13), .inl (ka 0, 8, .inl st)), ((bd 14), .inl (ka 2, 3, .inl (kI kp))), ((bd 15), .inl (ka 3, 6, .inr (.inr (.inr (.inr (nR na 8)))))), ((bd 16), .inl (ka 3, 3, .inr (.inr (.inr (.inr (nR na 14)))))), ((bd 17), .inl (ka 3, 4, .inr (.inr (.inr (.inr (nR na 17)))))), ((bd 4), .inr (4, [.ref (bd 18), .ref (bd 19), .int cnt, .int opb, .int rch, .int wnt, .ref (bd 20), .ref (bd 21), .ref (bd 22), .int bb.1, .ref (bd 23), .ref (bd 24), .long (Int64.ofInt bb.2.1), .long (Int64.ofInt bb.2.2.1)])), ((bd 18), .inr (2, [.int (bI o3), .ref (na 31), .ref (na 32), .ref (na 33)])), ((bd 19), .inl (ka 0, 3, .inl zs)), ((bd 20), .inl (ka 3, 5, .inr (.inr (.inr (.inr (nR na 34)))))), ((bd 21), .inl (ka 0, 4, .inl sa7)), ((bd 22), .inl (ka 0, 4, .inl ss7)), ((bd 23), .inl (ka 0, 4, .inl bb.2.2.2.1)), ((bd 24), .inl (ka 0, 4, .inl bb.2.2.2.2)), ((bd 5), .inr (6, [.int dn, .int up9, .ref (na 39), .ref (na 40)])), ((bd 6), .inr (5, [.ref (bd 25), .ref (bd 30), .int la])), ((bd 25), .inl (ka 4, 4, .inr (.inr (.inr (.inr (nB bd)))))), ((bd 26), .inl (ka 1, 40, .inr (.inl (rw9 0)))), ((bd 27), .inl (ka 1, 40, .inr (.inl (rw9 1)))), ((bd 28), .inl (ka 1, 40, .inr (.inl (rw9 2)))), ((bd 29), .inl (ka 1, 40, .inr (.inl (rw9 3)))), ((bd 30), .inl (ka 0, 4, .inl sz)), (q, .inr (8, mX ad (bI o) la (nI L) sz9 re9 tr bm (Int64.ofInt b0) (Int64.ofInt b1))), ((ad 0), .inl (ka 0, 4, .inl sz)), ((ad 1), .inl (ka 1, 160, .inr (.inl it))), ((ad 2), .inl (ka 1, 40, .inr (.inl as9))), ((ad 3), .inl (ka 1, 200, .inr (.inl nu22))), ((ad 4), .inl (ka 0, 8, .inl mo)), ((ad 5), .inl (ka 0, 8, .inl an)), ((ad 6), .inl (ka 0, 8, .inl pl)), ((ad 7), .inl (ka 0, 24, .inl ho)), ((ad 8), .inl (ka 0, 2, .inl le)), ((ad 9), .inl (ka 1, 4, .inr (.inl pu22))), ((ad 10), .inl (ka 0, 4, .inl ga)), ((ad 11), .inl (ka 0, 4, .inl lg)), ((ad 12), .inl (ka 0, 3, .inl pm)), ((ad 13), .inl (ka 0, 3, .inl pa)), ((ad 14), .inl (ka 0, 4, .inl sa8)), ((ad 15), .inl (ka 0, 4, .inl ss8)), ((ad 16), .inl (ka 0, 4, .inl ba)), ((ad 17), .inl (ka 0, 4, .inl bz))] ++ nP na N91) H locs := hB
  have h8 := HPP
  refine W.lcmp hx hb dL_law_686 ?_
  refine lv_if_eq (tgt := 1359) hx hb dL_law_687 (by decide) (fun h687 => ?_) (fun h687 => ?_)
  · skip
    replace h687 := (lg_cmp_eq _ _).mp h687
    have hn9 := hn.keep (N' := N91) (nu' := nu22) (fun k h => h7.2 k (by omega) (by omega)) (fun j h => h7.2 (8 + j) (by omega) (by omega)) (keep29 h8.2)
    have hk9 := hk.keep (N' := N91) (fun k h1 h2 => h7.2 (14 + k) (by omega) (by omega))
    refine kk _ H locs ?_ hB ls (lv_sub hl [0, 1, 2, 3] rfl)
    exact ⟨L, mo, an, pl, ho, le, sz, la, sz9, re9, N91, o91, o2, o3, st, kp, cnt, opb, rch, wnt, bb, zs, sa7, ss7, dn, up9, rw9, o, tr, bm, b0, b1, it, as9, nu22, pu22, ga, lg, pm, pa, sa8, ss8, ba, bz, rfl, ha, hbb, hc, hn9, hk9, hi9⟩
  · skip
    replace h687 := (fun e9 => h687 ((lg_cmp_eq _ _).mpr e9))
    exact absurd (h7.1.trans h8.1.symm) h687

set_option maxHeartbeats 4000000 in
set_option maxRecDepth 100000 in
theorem lwc_quiet (l : Launch) (D : va_G) (ka : Nat → ClassId) (kb : Nat → Nat) (bd na ad : Nat → Nat) (q sb L9 : Nat) (xs : Nat → Int32) {p : Program} {e : Env} {s : State} {m : MethodId} {args : Array Value} {below : List Frame} {meth : Method} {c : Code} {A : Nat → Prop} {Q : State → Prop} {rt : Option FieldType} (hF : zF p s m args meth c D ka kb A cL_law RL 4 rt) (hX : va_X sb L9 xs s s.heap) (hsb : sb < s.heap.size) (hAb : ¬ A sb) (i : Nat) (hi : i + 7 ≤ L9) (hL9 : L9 ≤ 3584) {ws : va_W} {H : Heap} {locs : List Loc} (hI : LI ka bd na ad q ws) (hB : zB D A s ws H locs)
    (kk : ∀ (ws : va_W) (H : Heap) (locs : List Loc), LI ka bd na ad q ws → zB D A s ws H locs → ∀ ls : Array Slot, lv_has ls 4 [(3, .int (nI i)), (2, .ref q), (1, .ref (bd 31)), (0, .ref sb)] → W p l e room_1 s m args below meth c H locs 92 1052 Q (F0 m 1359 ls [])) {ls : Array Slot} (hl : lv_has ls 4 [(3, .int (nI i)), (2, .ref q), (1, .ref (bd 31)), (0, .ref sb)]) : W p l e room_1 s m args below meth c H locs 92 1052 Q (F0 m 692 ls []) := by
  have hx : p.tables.exec = Jvm.exec := hF.1.1
  have hb : c.code = cL_law := hF.1.2.1
  obtain ⟨L, mo, an, pl, ho, le, sz, la, sz9, re9, N, o1, o2, o3, st, kp, cnt, opb, rch, wnt, bb, zs, sa7, ss7, dn, up9, rw9, o, tr, bm, b0, b1, it, as9, nu, pu, ga, lg, pm, pa, sa8, ss8, ba, bz, rfl, ha, hbb, hc, hn, hk, hi9⟩ := hI
  have hok := ha.1
  have hoh := ha.2.1
  have hre := ha.2.2.1
  have hszk := ha.2.2.2.1
  have hsz := ha.2.2.2.2
  have hB9 := hc.1
  have hb01 := hc.2
  have hd6 : ∀ k, k < 6 → 0 < (N k).2.2.2.2.toInt := fun k h => by rw [hn.2.1 k h]; exact hn.1 k (by omega)
  replace hB : zB D A s ([((bd 31), .inr (7, [.ref (bd 0), .ref (bd 1), .ref (na 6), .ref (na 7), .ref (bd 2), .ref (bd 3), .ref (bd 4), .ref (bd 5), .ref (bd 6)])), ((bd 0), .inr (2, [.int (bI o1), .ref (na 25), .ref (na 26), .ref (na 27)])), ((bd 1), .inl (ka 3, 6, .inr (.inr (.inr (.inr (nR na 0)))))), ((bd 2), .inr (3, [.int (nI L), .ref (bd 7), .ref (bd 8), .ref (bd 9), .ref (bd 10), .ref (bd 11), .int sz9, .int re9])), ((bd 7), .inl (ka 0, 8, .inl mo)), ((bd 8), .inl (ka 0, 8, .inl an)), ((bd 9), .inl (ka 0, 8, .inl pl)), ((bd 10), .inl (ka 0, 24, .inl ho)), ((bd 11), .inl (ka 0, 2, .inl le)), ((bd 3), .inr (0, [.ref (bd 12), .ref (bd 13), .ref (bd 14), .ref (bd 15), .ref (bd 16), .ref (bd 17), .ref (na 21), .ref (na 22), .ref (na 23), .ref (na 24)])), ((bd 12), .inr (2, [.int (bI o2), .ref (na 28), .ref (na 29), .ref (na 30)])), ((bd 13), .inl (ka 0, 8, .inl st)), ((bd 14), .inl (ka 2, 3, .inl (kI kp))), ((bd 15), .inl (ka 3, 6, .inr (.inr (.inr (.inr (nR na 8)))))), ((bd 16), .inl (ka 3, 3, .inr (.inr (.inr (.inr (nR na 14)))))), ((bd 17), .inl (ka 3, 4, .inr (.inr (.inr (.inr (nR na 17)))))), ((bd 4), .inr (4, [.ref (bd 18), .ref (bd 19), .int cnt, .int opb, .int rch, .int wnt, .ref (bd 20), .ref (bd 21), .ref (bd 22), .int bb.1, .ref (bd 23), .ref (bd 24), .long (Int64.ofInt bb.2.1), .long (Int64.ofInt bb.2.2.1)])), ((bd 18), .inr (2, [.int (bI o3), .ref (na 31), .ref (na 32), .ref (na 33)])), ((bd 19), .inl (ka 0, 3, .inl zs)), ((bd 20), .inl (ka 3, 5, .inr (.inr (.inr (.inr (nR na 34)))))), ((bd 21), .inl (ka 0, 4, .inl sa7)), ((bd 22), .inl (ka 0, 4, .inl ss7)), ((bd 23), .inl (ka 0, 4, .inl bb.2.2.2.1)), ((bd 24), .inl (ka 0, 4, .inl bb.2.2.2.2)), ((bd 5), .inr (6, [.int dn, .int up9, .ref (na 39), .ref (na 40)])), ((bd 6), .inr (5, [.ref (bd 25), .ref (bd 30), .int la])), ((bd 25), .inl (ka 4, 4, .inr (.inr (.inr (.inr (nB bd)))))), ((bd 26), .inl (ka 1, 40, .inr (.inl (rw9 0)))), ((bd 27), .inl (ka 1, 40, .inr (.inl (rw9 1)))), ((bd 28), .inl (ka 1, 40, .inr (.inl (rw9 2)))), ((bd 29), .inl (ka 1, 40, .inr (.inl (rw9 3)))), ((bd 30), .inl (ka 0, 4, .inl sz)), (q, .inr (8, mX ad (bI o) la (nI L) sz9 re9 tr bm (Int64.ofInt b0) (Int64.ofInt b1))), ((ad 0), .inl (ka 0, 4, .inl sz)), ((ad 1), .inl (ka 1, 160, .inr (.inl it))), ((ad 2), .inl (ka 1, 40, .inr (.inl as9))), ((ad 3), .inl (ka 1, 200, .inr (.inl nu))), ((ad 4), .inl (ka 0, 8, .inl mo)), ((ad 5), .inl (ka 0, 8, .inl an)), ((ad 6), .inl (ka 0, 8, .inl pl)), ((ad 7), .inl (ka 0, 24, .inl ho)), ((ad 8), .inl (ka 0, 2, .inl le)), ((ad 9), .inl (ka 1, 4, .inr (.inl pu))), ((ad 10), .inl (ka 0, 4, .inl ga)), ((ad 11), .inl (ka 0, 4, .inl lg)), ((ad 12), .inl (ka 0, 3, .inl pm)), ((ad 13), .inl (ka 0, 3, .inl pa)), ((ad 14), .inl (ka 0, 4, .inl sa8)), ((ad 15), .inl (ka 0, 4, .inl ss8)), ((ad 16), .inl (ka 0, 4, .inl ba)), ((ad 17), .inl (ka 0, 4, .inl bz))] ++ nP na N) H locs := hB
  refine lv_aload_n hx hb dL_law_692 rfl (lv_at hl 2 rfl) ?_
  refine lv_aload_n hx hb dL_law_693 rfl (lv_at hl 3 rfl) ?_
  refine lv_iload_n hx hb dL_law_694 rfl (lv_at hl 0 rfl) ?_
  refine lv_iconst (v := 1) hx hb dL_law_695 (by decide) ?_
  refine lv_iadd hx hb dL_law_696 ?_
  refine ztopi (y := nI (i + 1)) (nI_add i 1) ?_
  refine zscr hF hX hsb hAb hB (k := (i + 1)) (by omega) (by omega) dL_law_697 ?_
  refine zVi zm_L_76 hF hB (c_X7_quiet l D ka kb bd na o3 cnt opb rch wnt bb.1 (Int64.ofInt bb.2.1) (Int64.ofInt bb.2.2.1) sz9 re9 L mo an pl ho N (xs (i + 1)) (hok) (hoh) (hre)) ([0, 16, 17, 19, 3, 4, 5, 6, 7] ++ npr 51) (zsel_pool rfl rfl) (va_nd_pool rfl rfl) ([(bd 31), (bd 4), (bd 18), (bd 20), (bd 2), (bd 7), (bd 8), (bd 9), (bd 10)] ++ nA na) (fun _ => zad_pool rfl) (zad_pool rfl) 0 7 rfl rfl rfl ⟨Nat.le_of_ble_eq_true rfl, Nat.le_of_ble_eq_true rfl⟩ rfl hl.1 (Nat.le_of_ble_eq_true rfl) ⟨Nat.le_of_ble_eq_true rfl, Nat.le_of_ble_eq_true rfl⟩ dL_law_698 ?_
  clear hB
  try clear locs
  try clear H
  intro r1 u1 H locs hp hB
  obtain ⟨N91, o91⟩ := u1
  have hp1 : r1 = (if inI (xs (i + 1)) 2 = true then bI (quB (pulI (aN (xs (i + 1))) L mo an pl ho) re9.toInt) else -2) ∧ (∀ k9, k9 ≠ 34 → N91 k9 = N k9) := hp
  have HPP := hp1
  replace hB : zB D A s ([((bd 31), .inr (7, [.ref (bd 0), .ref (bd 1), .ref (na 6), .ref (na 7), .ref (bd 2), .ref (bd 3), .ref (bd 4), .ref (bd 5), .ref (bd 6)])), ((bd 0), .inr (2, [.int (bI o1), .ref (na 25), .ref (na 26), .ref (na 27)])), ((bd 1), .inl (ka 3, 6, .inr (.inr (.inr (.inr (nR na 0)))))), ((bd 2), .inr (3, [.int (nI L), .ref (bd 7), .ref (bd 8), .ref (bd 9), .ref (bd 10), .ref (bd 11), .int sz9, .int re9])), ((bd 7), .inl (ka 0, 8, .inl mo)), ((bd 8), .inl (ka 0, 8, .inl an)), ((bd 9), .inl (ka 0, 8, .inl pl)), ((bd 10), .inl (ka 0, 24, .inl ho)), ((bd 11), .inl (ka 0, 2, .inl le)), ((bd 3), .inr (0, [.ref (bd 12), .ref (bd 13), .ref (bd 14), .ref (bd 15), .ref (bd 16), .ref (bd 17), .ref (na 21), .ref (na 22), .ref (na 23), .ref (na 24)])), ((bd 12), .inr (2, [.int (bI o2), .ref (na 28), .ref (na 29), .ref (na 30)])), ((bd 13), .inl (ka 0, 8, .inl st)), ((bd 14), .inl (ka 2, 3, .inl (kI kp))), ((bd 15), .inl (ka 3, 6, .inr (.inr (.inr (.inr (nR na 8)))))), ((bd 16), .inl (ka 3, 3, .inr (.inr (.inr (.inr (nR na 14)))))), ((bd 17), .inl (ka 3, 4, .inr (.inr (.inr (.inr (nR na 17)))))), ((bd 4), .inr (4, [.ref (bd 18), .ref (bd 19), .int cnt, .int opb, .int rch, .int wnt, .ref (bd 20), .ref (bd 21), .ref (bd 22), .int bb.1, .ref (bd 23), .ref (bd 24), .long (Int64.ofInt bb.2.1), .long (Int64.ofInt bb.2.2.1)])), ((bd 18), .inr (2, [.int (bI o91), .ref (na 31), .ref (na 32), .ref (na 33)])), ((bd 19), .inl (ka 0, 3, .inl zs)), ((bd 20), .inl (ka 3, 5, .inr (.inr (.inr (.inr (nR na 34)))))), ((bd 21), .inl (ka 0, 4, .inl sa7)), ((bd 22), .inl (ka 0, 4, .inl ss7)), ((bd 23), .inl (ka 0, 4, .inl bb.2.2.2.1)), ((bd 24), .inl (ka 0, 4, .inl bb.2.2.2.2)), ((bd 5), .inr (6, [.int dn, .int up9, .ref (na 39), .ref (na 40)])), ((bd 6), .inr (5, [.ref (bd 25), .ref (bd 30), .int la])), ((bd 25), .inl (ka 4, 4, .inr (.inr (.inr (.inr (nB bd)))))), ((bd 26), .inl (ka 1, 40, .inr (.inl (rw9 0)))), ((bd 27), .inl (ka 1, 40, .inr (.inl (rw9 1)))), ((bd 28), .inl (ka 1, 40, .inr (.inl (rw9 2)))), ((bd 29), .inl (ka 1, 40, .inr (.inl (rw9 3)))), ((bd 30), .inl (ka 0, 4, .inl sz)), (q, .inr (8, mX ad (bI o) la (nI L) sz9 re9 tr bm (Int64.ofInt b0) (Int64.ofInt b1))), ((ad 0), .inl (ka 0, 4, .inl sz)), ((ad 1), .inl (ka 1, 160, .inr (.inl it))), ((ad 2), .inl (ka 1, 40, .inr (.inl as9))), ((ad 3), .inl (ka 1, 200, .inr (.inl nu))), ((ad 4), .inl (ka 0, 8, .inl mo)), ((ad 5), .inl (ka 0, 8, .inl an)), ((ad 6), .inl (ka 0, 8, .inl pl)), ((ad 7), .inl (ka 0, 24, .inl ho)), ((ad 8), .inl (ka 0, 2, .inl le)), ((ad 9), .inl (ka 1, 4, .inr (.inl pu))), ((ad 10), .inl (ka 0, 4, .inl ga)), ((ad 11), .inl (ka 0, 4, .inl lg)), ((ad 12), .inl (ka 0, 3, .inl pm)), ((ad 13), .inl (ka 0, 3, .inl pa)), ((ad 14), .inl (ka 0, 4, .inl sa8)), ((ad 15), .inl (ka 0, 4, .inl ss8)), ((ad 16), .inl (ka 0, 4, .inl ba)), ((ad 17), .inl (ka 0, 4, .inl bz))] ++ nP na N91) H locs := zB_pool hB rfl rfl rfl rfl
  have h7 := HPP
  refine lv_aload_n hx hb dL_law_701 rfl (lv_at hl 1 rfl) ?_
  refine lv_aload_n hx hb dL_law_702 rfl (lv_at hl 3 rfl) ?_
  refine lv_iload_n hx hb dL_law_703 rfl (lv_at hl 0 rfl) ?_
  refine lv_iconst (v := 1) hx hb dL_law_704 (by decide) ?_
  refine lv_iadd hx hb dL_law_705 ?_
  refine ztopi (y := nI (i + 1)) (nI_add i 1) ?_
  refine zscr hF hX hsb hAb hB (k := (i + 1)) (by omega) (by omega) dL_law_706 ?_
  refine zVi zm_L_79 hF hB (c_X8_quiet l D ka kb q ad o (la, (nI L), sz9, re9, tr, bm, (Int64.ofInt b0), (Int64.ofInt b1)) pu (xs (i + 1)) L mo an pl ho (rfl) (hok) (hoh) (hre)) [32, 42, 37, 38, 39, 40] rfl (by decide) [q, (ad 9), (ad 4), (ad 5), (ad 6), (ad 7)] (fun _ => rfl) rfl 32 8 rfl rfl rfl ⟨Nat.le_of_ble_eq_true rfl, Nat.le_of_ble_eq_true rfl⟩ rfl hl.1 (Nat.le_of_ble_eq_true rfl) ⟨Nat.le_of_ble_eq_true rfl, Nat.le_of_ble_eq_true rfl⟩ dL_law_707 ?_
  clear hB
  try clear locs
  try clear H
  intro r2 u2 H locs hp hB
  obtain ⟨pu22, rfl⟩ : ∃ z, z = u2 := ⟨_, rfl⟩
  have hp2 : r2 = (if inI (xs (i + 1)) 2 = true then bI (quB (pulI (aN (xs (i + 1))) L mo an pl ho) (la, (nI L), sz9, re9, tr, bm, (Int64.ofInt b0), (Int64.ofInt b1)).2.2.2.1.toInt) else -2) := hp
  have HPP := hp2
  replace hB : zB D A s ([((bd 31), .inr (7, [.ref (bd 0), .ref (bd 1), .ref (na 6), .ref (na 7), .ref (bd 2), .ref (bd 3), .ref (bd 4), .ref (bd 5), .ref (bd 6)])), ((bd 0), .inr (2, [.int (bI o1), .ref (na 25), .ref (na 26), .ref (na 27)])), ((bd 1), .inl (ka 3, 6, .inr (.inr (.inr (.inr (nR na 0)))))), ((bd 2), .inr (3, [.int (nI L), .ref (bd 7), .ref (bd 8), .ref (bd 9), .ref (bd 10), .ref (bd 11), .int sz9, .int re9])), ((bd 7), .inl (ka 0, 8, .inl mo)), ((bd 8), .inl (ka 0, 8, .inl an)), ((bd 9), .inl (ka 0, 8, .inl pl)), ((bd 10), .inl (ka 0, 24, .inl ho)), ((bd 11), .inl (ka 0, 2, .inl le)), ((bd 3), .inr (0, [.ref (bd 12), .ref (bd 13), .ref (bd 14), .ref (bd 15), .ref (bd 16), .ref (bd 17), .ref (na 21), .ref (na 22), .ref (na 23), .ref (na 24)])), ((bd 12), .inr (2, [.int (bI o2), .ref (na 28), .ref (na 29), .ref (na 30)])), ((bd 13), .inl (ka 0, 8, .inl st)), ((bd 14), .inl (ka 2, 3, .inl (kI kp))), ((bd 15), .inl (ka 3, 6, .inr (.inr (.inr (.inr (nR na 8)))))), ((bd 16), .inl (ka 3, 3, .inr (.inr (.inr (.inr (nR na 14)))))), ((bd 17), .inl (ka 3, 4, .inr (.inr (.inr (.inr (nR na 17)))))), ((bd 4), .inr (4, [.ref (bd 18), .ref (bd 19), .int cnt, .int opb, .int rch, .int wnt, .ref (bd 20), .ref (bd 21), .ref (bd 22), .int bb.1, .ref (bd 23), .ref (bd 24), .long (Int64.ofInt bb.2.1), .long (Int64.ofInt bb.2.2.1)])), ((bd 18), .inr (2, [.int (bI o91), .ref (na 31), .ref (na 32), .ref (na 33)])), ((bd 19), .inl (ka 0, 3, .inl zs)), ((bd 20), .inl (ka 3, 5, .inr (.inr (.inr (.inr (nR na 34)))))), ((bd 21), .inl (ka 0, 4, .inl sa7)), ((bd 22), .inl (ka 0, 4, .inl ss7)), ((bd 23), .inl (ka 0, 4, .inl bb.2.2.2.1)), ((bd 24), .inl (ka 0, 4, .inl bb.2.2.2.2)), ((bd 5), .inr (6, [.int dn, .int up9, .ref (na 39), .ref (na 40)])), ((bd 6), .inr (5, [.ref (bd 25), .ref (bd 30), .int la])), ((bd 25), .inl (ka 4, 4, .inr (.inr (.inr (.inr (nB bd)))))), ((bd 26), .inl (ka 1, 40, .inr (.inl (rw9 0)))), ((bd 27), .inl (ka 1, 40, .inr (.inl (rw9 1)))), ((bd 28), .inl (ka 1, 40, .inr (.inl (rw9 2)))), ((bd 29), .inl (ka 1, 40, .inr (.inl (rw9 3)))), ((bd 30), .inl (ka 0, 4, .inl sz)), (q, .inr (8, mX ad (bI o) la (nI L) sz9 re9 tr bm (Int64.ofInt b0) (Int64.ofInt b1))), ((ad 0), .inl (ka 0, 4, .inl sz)), ((ad 1), .inl (ka 1, 160, .inr (.inl it))), ((ad 2), .inl (ka 1, 40, .inr (.inl as9))), ((ad 3), .inl (ka 1, 200, .inr (.inl nu))), ((ad 4), .inl (ka 0, 8, .inl mo)), ((ad 5), .inl (ka 0, 8, .inl an)), ((ad 6), .inl (ka 0, 8, .inl pl)), ((ad 7), .inl (ka 0, 24, .inl ho)), ((ad 8), .inl (ka 0, 2, .inl le)), ((ad 9), .inl (ka 1, 4, .inr (.inl pu22))), ((ad 10), .inl (ka 0, 4, .inl ga)), ((ad 11), .inl (ka 0, 4, .inl lg)), ((ad 12), .inl (ka 0, 3, .inl pm)), ((ad 13), .inl (ka 0, 3, .inl pa)), ((ad 14), .inl (ka 0, 4, .inl sa8)), ((ad 15), .inl (ka 0, 4, .inl ss8)), ((ad 16), .inl (ka 0, 4, .inl ba)), ((ad 17), .inl (ka 0, 4, .inl bz))] ++ nP na N91) H locs := hB
  have h8 := HPP
  refine lv_icmp_eq (tgt := 1359) hx hb dL_law_710 (by decide) (fun h710 => ?_) (fun h710 => ?_)
  · skip
    have hn9 := hn.keep (N' := N91) (nu' := nu) (fun k h => h7.2 k (by omega)) (fun j h => h7.2 (8 + j) (by omega)) (fun _ _ => rfl)
    have hk9 := hk.keep (N' := N91) (fun k h1 h2 => h7.2 (14 + k) (by omega))
    refine kk _ H locs ?_ hB ls (lv_sub hl [0, 1, 2, 3] rfl)
    exact ⟨L, mo, an, pl, ho, le, sz, la, sz9, re9, N91, o1, o2, o91, st, kp, cnt, opb, rch, wnt, bb, zs, sa7, ss7, dn, up9, rw9, o, tr, bm, b0, b1, it, as9, nu, pu22, ga, lg, pm, pa, sa8, ss8, ba, bz, rfl, ha, hbb, hc, hn9, hk9, hi9⟩
  · skip
    exact absurd (h7.1.trans h8.symm) h710

set_option maxHeartbeats 4000000 in
set_option maxRecDepth 100000 in
theorem lwc_trial (l : Launch) (D : va_G) (ka : Nat → ClassId) (kb : Nat → Nat) (bd na ad : Nat → Nat) (q sb L9 : Nat) (xs : Nat → Int32) {p : Program} {e : Env} {s : State} {m : MethodId} {args : Array Value} {below : List Frame} {meth : Method} {c : Code} {A : Nat → Prop} {Q : State → Prop} {rt : Option FieldType} (hF : zF p s m args meth c D ka kb A cL_law RL 4 rt) (hX : va_X sb L9 xs s s.heap) (hsb : sb < s.heap.size) (hAb : ¬ A sb) (i : Nat) (hi : i + 7 ≤ L9) (hL9 : L9 ≤ 3584) {ws : va_W} {H : Heap} {locs : List Loc} (hI : LI ka bd na ad q ws) (hB : zB D A s ws H locs)
    (kk : ∀ (ws : va_W) (H : Heap) (locs : List Loc), LI ka bd na ad q ws → zB D A s ws H locs → ∀ ls : Array Slot, lv_has ls 4 [(3, .int (nI i)), (2, .ref q), (1, .ref (bd 31)), (0, .ref sb)] → W p l e room_1 s m args below meth c H locs 92 1052 Q (F0 m 1359 ls [])) {ls : Array Slot} (hl : lv_has ls 4 [(3, .int (nI i)), (2, .ref q), (1, .ref (bd 31)), (0, .ref sb)]) : W p l e room_1 s m args below meth c H locs 92 1052 Q (F0 m 768 ls []) := by
  have hx : p.tables.exec = Jvm.exec := hF.1.1
  have hb : c.code = cL_law := hF.1.2.1
  obtain ⟨L, mo, an, pl, ho, le, sz, la, sz9, re9, N, o1, o2, o3, st, kp, cnt, opb, rch, wnt, bb, zs, sa7, ss7, dn, up9, rw9, o, tr, bm, b0, b1, it, as9, nu, pu, ga, lg, pm, pa, sa8, ss8, ba, bz, rfl, ha, hbb, hc, hn, hk, hi9⟩ := hI
  have hok := ha.1
  have hoh := ha.2.1
  have hre := ha.2.2.1
  have hszk := ha.2.2.2.1
  have hsz := ha.2.2.2.2
  have hB9 := hc.1
  have hb01 := hc.2
  have hd6 : ∀ k, k < 6 → 0 < (N k).2.2.2.2.toInt := fun k h => by rw [hn.2.1 k h]; exact hn.1 k (by omega)
  replace hB : zB D A s ([((bd 31), .inr (7, [.ref (bd 0), .ref (bd 1), .ref (na 6), .ref (na 7), .ref (bd 2), .ref (bd 3), .ref (bd 4), .ref (bd 5), .ref (bd 6)])), ((bd 0), .inr (2, [.int (bI o1), .ref (na 25), .ref (na 26), .ref (na 27)])), ((bd 1), .inl (ka 3, 6, .inr (.inr (.inr (.inr (nR na 0)))))), ((bd 2), .inr (3, [.int (nI L), .ref (bd 7), .ref (bd 8), .ref (bd 9), .ref (bd 10), .ref (bd 11), .int sz9, .int re9])), ((bd 7), .inl (ka 0, 8, .inl mo)), ((bd 8), .inl (ka 0, 8, .inl an)), ((bd 9), .inl (ka 0, 8, .inl pl)), ((bd 10), .inl (ka 0, 24, .inl ho)), ((bd 11), .inl (ka 0, 2, .inl le)), ((bd 3), .inr (0, [.ref (bd 12), .ref (bd 13), .ref (bd 14), .ref (bd 15), .ref (bd 16), .ref (bd 17), .ref (na 21), .ref (na 22), .ref (na 23), .ref (na 24)])), ((bd 12), .inr (2, [.int (bI o2), .ref (na 28), .ref (na 29), .ref (na 30)])), ((bd 13), .inl (ka 0, 8, .inl st)), ((bd 14), .inl (ka 2, 3, .inl (kI kp))), ((bd 15), .inl (ka 3, 6, .inr (.inr (.inr (.inr (nR na 8)))))), ((bd 16), .inl (ka 3, 3, .inr (.inr (.inr (.inr (nR na 14)))))), ((bd 17), .inl (ka 3, 4, .inr (.inr (.inr (.inr (nR na 17)))))), ((bd 4), .inr (4, [.ref (bd 18), .ref (bd 19), .int cnt, .int opb, .int rch, .int wnt, .ref (bd 20), .ref (bd 21), .ref (bd 22), .int bb.1, .ref (bd 23), .ref (bd 24), .long (Int64.ofInt bb.2.1), .long (Int64.ofInt bb.2.2.1)])), ((bd 18), .inr (2, [.int (bI o3), .ref (na 31), .ref (na 32), .ref (na 33)])), ((bd 19), .inl (ka 0, 3, .inl zs)), ((bd 20), .inl (ka 3, 5, .inr (.inr (.inr (.inr (nR na 34)))))), ((bd 21), .inl (ka 0, 4, .inl sa7)), ((bd 22), .inl (ka 0, 4, .inl ss7)), ((bd 23), .inl (ka 0, 4, .inl bb.2.2.2.1)), ((bd 24), .inl (ka 0, 4, .inl bb.2.2.2.2)), ((bd 5), .inr (6, [.int dn, .int up9, .ref (na 39), .ref (na 40)])), ((bd 6), .inr (5, [.ref (bd 25), .ref (bd 30), .int la])), ((bd 25), .inl (ka 4, 4, .inr (.inr (.inr (.inr (nB bd)))))), ((bd 26), .inl (ka 1, 40, .inr (.inl (rw9 0)))), ((bd 27), .inl (ka 1, 40, .inr (.inl (rw9 1)))), ((bd 28), .inl (ka 1, 40, .inr (.inl (rw9 2)))), ((bd 29), .inl (ka 1, 40, .inr (.inl (rw9 3)))), ((bd 30), .inl (ka 0, 4, .inl sz)), (q, .inr (8, mX ad (bI o) la (nI L) sz9 re9 tr bm (Int64.ofInt b0) (Int64.ofInt b1))), ((ad 0), .inl (ka 0, 4, .inl sz)), ((ad 1), .inl (ka 1, 160, .inr (.inl it))), ((ad 2), .inl (ka 1, 40, .inr (.inl as9))), ((ad 3), .inl (ka 1, 200, .inr (.inl nu))), ((ad 4), .inl (ka 0, 8, .inl mo)), ((ad 5), .inl (ka 0, 8, .inl an)), ((ad 6), .inl (ka 0, 8, .inl pl)), ((ad 7), .inl (ka 0, 24, .inl ho)), ((ad 8), .inl (ka 0, 2, .inl le)), ((ad 9), .inl (ka 1, 4, .inr (.inl pu))), ((ad 10), .inl (ka 0, 4, .inl ga)), ((ad 11), .inl (ka 0, 4, .inl lg)), ((ad 12), .inl (ka 0, 3, .inl pm)), ((ad 13), .inl (ka 0, 3, .inl pa)), ((ad 14), .inl (ka 0, 4, .inl sa8)), ((ad 15), .inl (ka 0, 4, .inl ss8)), ((ad 16), .inl (ka 0, 4, .inl ba)), ((ad 17), .inl (ka 0, 4, .inl bz))] ++ nP na N) H locs := hB
  refine lv_aload_n hx hb dL_law_768 rfl (lv_at hl 2 rfl) ?_
  refine lv_aload_n hx hb dL_law_769 rfl (lv_at hl 3 rfl) ?_
  refine lv_iload_n hx hb dL_law_770 rfl (lv_at hl 0 rfl) ?_
  refine lv_iconst (v := 1) hx hb dL_law_771 (by decide) ?_
  refine lv_iadd hx hb dL_law_772 ?_
  refine ztopi (y := nI (i + 1)) (nI_add i 1) ?_
  refine zscr hF hX hsb hAb hB (k := (i + 1)) (by omega) (by omega) dL_law_773 ?_
  refine lv_aload_n hx hb dL_law_774 rfl (lv_at hl 3 rfl) ?_
  refine lv_iload_n hx hb dL_law_775 rfl (lv_at hl 0 rfl) ?_
  refine lv_iconst (v := 2) hx hb dL_law_776 (by decide) ?_
  refine lv_iadd hx hb dL_law_777 ?_
  refine ztopi (y := nI (i + 2)) (nI_add i 2) ?_
  refine zscr hF hX hsb hAb hB (k := (i + 2)) (by omega) (by omega) dL_law_778 ?_
  refine lv_aload_n hx hb dL_law_779 rfl (lv_at hl 3 rfl) ?_
  refine lv_iload_n hx hb dL_law_780 rfl (lv_at hl 0 rfl) ?_
  refine lv_iconst (v := 3) hx hb dL_law_781 (by decide) ?_
  refine lv_iadd hx hb dL_law_782 ?_
  refine ztopi (y := nI (i + 3)) (nI_add i 3) ?_
  refine zscr hF hX hsb hAb hB (k := (i + 3)) (by omega) (by omega) dL_law_783 ?_
  refine zVi zm_L_84 hF hB (c_X7_trial l D ka kb bd na o2 sz9 re9 L mo an pl ho st ga lg kp N (xs (i + 1)) (xs (i + 2)) (xs (i + 3)) (hok) (hoh) (hbb.2.2) (hbb.1) (hbb.2.1)) ([0, 9, 10, 11, 14, 13, 12, 3, 4, 5, 6, 7] ++ npr 51) (zsel_pool rfl rfl) (va_nd_pool rfl rfl) ([(bd 31), (bd 3), (bd 12), (bd 13), (bd 16), (bd 15), (bd 14), (bd 2), (bd 7), (bd 8), (bd 9), (bd 10)] ++ nA na) (fun _ => zad_pool rfl) (zad_pool rfl) 0 7 rfl rfl rfl ⟨Nat.le_of_ble_eq_true rfl, Nat.le_of_ble_eq_true rfl⟩ rfl hl.1 (Nat.le_of_ble_eq_true rfl) ⟨Nat.le_of_ble_eq_true rfl, Nat.le_of_ble_eq_true rfl⟩ dL_law_784 ?_
  clear hB
  try clear locs
  try clear H
  intro r1 u1 H locs hp hB
  obtain ⟨N91, o91⟩ := u1
  have hp1 : r1 = (if trK (xs (i + 1)) (xs (i + 2)) (xs (i + 3)) = true then ktS (ktB kp (aN (xs (i + 1)))) 3 else -2) ∧ (trK (xs (i + 1)) (xs (i + 2)) (xs (i + 3)) = false → N91 = N) ∧ (trK (xs (i + 1)) (xs (i + 2)) (xs (i + 3)) = true → (∀ k9, k9 ≠ 21 → k9 ≠ 22 → k9 ≠ 8 + (2 * aN (xs (i + 1)) + 0) → k9 ≠ 8 + (2 * aN (xs (i + 1)) + 1) → (k9 = 14 + aN (xs (i + 1)) → aN (xs (i + 1)) = 0) → N91 k9 = N k9) ∧ (∀ b, b < 2 → N91 (8 + (2 * aN (xs (i + 1)) + b)) = rdT (xs (i + 1)) (xs (i + 2)) (xs (i + 3)) L mo an pl ho ga lg b) ∧ (aN (xs (i + 1)) ≠ 0 → N91 (14 + aN (xs (i + 1))) = wyN (xs (i + 2)).toInt (aN (xs (i + 3))))) := hp
  have HPP := hp1
  replace hB : zB D A s ([((bd 31), .inr (7, [.ref (bd 0), .ref (bd 1), .ref (na 6), .ref (na 7), .ref (bd 2), .ref (bd 3), .ref (bd 4), .ref (bd 5), .ref (bd 6)])), ((bd 0), .inr (2, [.int (bI o1), .ref (na 25), .ref (na 26), .ref (na 27)])), ((bd 1), .inl (ka 3, 6, .inr (.inr (.inr (.inr (nR na 0)))))), ((bd 2), .inr (3, [.int (nI L), .ref (bd 7), .ref (bd 8), .ref (bd 9), .ref (bd 10), .ref (bd 11), .int sz9, .int re9])), ((bd 7), .inl (ka 0, 8, .inl mo)), ((bd 8), .inl (ka 0, 8, .inl an)), ((bd 9), .inl (ka 0, 8, .inl pl)), ((bd 10), .inl (ka 0, 24, .inl ho)), ((bd 11), .inl (ka 0, 2, .inl le)), ((bd 3), .inr (0, [.ref (bd 12), .ref (bd 13), .ref (bd 14), .ref (bd 15), .ref (bd 16), .ref (bd 17), .ref (na 21), .ref (na 22), .ref (na 23), .ref (na 24)])), ((bd 12), .inr (2, [.int (bI o91), .ref (na 28), .ref (na 29), .ref (na 30)])), ((bd 13), .inl (ka 0, 8, .inl st)), ((bd 14), .inl (ka 2, 3, .inl (kI (if trK (xs (i + 1)) (xs (i + 2)) (xs (i + 3)) = true then ktB kp (aN (xs (i + 1))) else kp)))), ((bd 15), .inl (ka 3, 6, .inr (.inr (.inr (.inr (nR na 8)))))), ((bd 16), .inl (ka 3, 3, .inr (.inr (.inr (.inr (nR na 14)))))), ((bd 17), .inl (ka 3, 4, .inr (.inr (.inr (.inr (nR na 17)))))), ((bd 4), .inr (4, [.ref (bd 18), .ref (bd 19), .int cnt, .int opb, .int rch, .int wnt, .ref (bd 20), .ref (bd 21), .ref (bd 22), .int bb.1, .ref (bd 23), .ref (bd 24), .long (Int64.ofInt bb.2.1), .long (Int64.ofInt bb.2.2.1)])), ((bd 18), .inr (2, [.int (bI o3), .ref (na 31), .ref (na 32), .ref (na 33)])), ((bd 19), .inl (ka 0, 3, .inl zs)), ((bd 20), .inl (ka 3, 5, .inr (.inr (.inr (.inr (nR na 34)))))), ((bd 21), .inl (ka 0, 4, .inl sa7)), ((bd 22), .inl (ka 0, 4, .inl ss7)), ((bd 23), .inl (ka 0, 4, .inl bb.2.2.2.1)), ((bd 24), .inl (ka 0, 4, .inl bb.2.2.2.2)), ((bd 5), .inr (6, [.int dn, .int up9, .ref (na 39), .ref (na 40)])), ((bd 6), .inr (5, [.ref (bd 25), .ref (bd 30), .int la])), ((bd 25), .inl (ka 4, 4, .inr (.inr (.inr (.inr (nB bd)))))), ((bd 26), .inl (ka 1, 40, .inr (.inl (rw9 0)))), ((bd 27), .inl (ka 1, 40, .inr (.inl (rw9 1)))), ((bd 28), .inl (ka 1, 40, .inr (.inl (rw9 2)))), ((bd 29), .inl (ka 1, 40, .inr (.inl (rw9 3)))), ((bd 30), .inl (ka 0, 4, .inl sz)), (q, .inr (8, mX ad (bI o) la (nI L) sz9 re9 tr bm (Int64.ofInt b0) (Int64.ofInt b1))), ((ad 0), .inl (ka 0, 4, .inl sz)), ((ad 1), .inl (ka 1, 160, .inr (.inl it))), ((ad 2), .inl (ka 1, 40, .inr (.inl as9))), ((ad 3), .inl (ka 1, 200, .inr (.inl nu))), ((ad 4), .inl (ka 0, 8, .inl mo)), ((ad 5), .inl (ka 0, 8, .inl an)), ((ad 6), .inl (ka 0, 8, .inl pl)), ((ad 7), .inl (ka 0, 24, .inl ho)), ((ad 8), .inl (ka 0, 2, .inl le)), ((ad 9), .inl (ka 1, 4, .inr (.inl pu))), ((ad 10), .inl (ka 0, 4, .inl ga)), ((ad 11), .inl (ka 0, 4, .inl lg)), ((ad 12), .inl (ka 0, 3, .inl pm)), ((ad 13), .inl (ka 0, 3, .inl pa)), ((ad 14), .inl (ka 0, 4, .inl sa8)), ((ad 15), .inl (ka 0, 4, .inl ss8)), ((ad 16), .inl (ka 0, 4, .inl ba)), ((ad 17), .inl (ka 0, 4, .inl bz))] ++ nP na N91) H locs := zB_pool hB rfl rfl rfl rfl
  have h7 := HPP
  refine lv_aload_n hx hb dL_law_787 rfl (lv_at hl 1 rfl) ?_
  refine lv_aload_n hx hb dL_law_788 rfl (lv_at hl 3 rfl) ?_
  refine lv_iload_n hx hb dL_law_789 rfl (lv_at hl 0 rfl) ?_
  refine lv_iconst (v := 1) hx hb dL_law_790 (by decide) ?_
  refine lv_iadd hx hb dL_law_791 ?_
  refine ztopi (y := nI (i + 1)) (nI_add i 1) ?_
  refine zscr hF hX hsb hAb hB (k := (i + 1)) (by omega) (by omega) dL_law_792 ?_
  refine lv_aload_n hx hb dL_law_793 rfl (lv_at hl 3 rfl) ?_
  refine lv_iload_n hx hb dL_law_794 rfl (lv_at hl 0 rfl) ?_
  refine lv_iconst (v := 2) hx hb dL_law_795 (by decide) ?_
  refine lv_iadd hx hb dL_law_796 ?_
  refine ztopi (y := nI (i + 2)) (nI_add i 2) ?_
  refine zscr hF hX hsb hAb hB (k := (i + 2)) (by omega) (by omega) dL_law_797 ?_
  refine lv_aload_n hx hb dL_law_798 rfl (lv_at hl 3 rfl) ?_
  refine lv_iload_n hx hb dL_law_799 rfl (lv_at hl 0 rfl) ?_
  refine lv_iconst (v := 3) hx hb dL_law_800 (by decide) ?_
  refine lv_iadd hx hb dL_law_801 ?_
  refine ztopi (y := nI (i + 3)) (nI_add i 3) ?_
  refine zscr hF hX hsb hAb hB (k := (i + 3)) (by omega) (by omega) dL_law_802 ?_
  refine zVi zm_L_87 hF hB (c_X8_trial l D ka kb q ad o (la, (nI L), sz9, re9, tr, bm, (Int64.ofInt b0), (Int64.ofInt b1)) pu L mo an pl ho nu ga lg pm pa (xs (i + 1)) (xs (i + 2)) (xs (i + 3)) (rfl) (hok) (hoh) (hbb.1) (hbb.2.1)) [32, 42, 37, 38, 39, 40, 36, 43, 44, 45, 46] rfl (by decide) [q, (ad 9), (ad 4), (ad 5), (ad 6), (ad 7), (ad 3), (ad 10), (ad 11), (ad 12), (ad 13)] (fun _ => rfl) rfl 32 8 rfl rfl rfl ⟨Nat.le_of_ble_eq_true rfl, Nat.le_of_ble_eq_true rfl⟩ rfl hl.1 (Nat.le_of_ble_eq_true rfl) ⟨Nat.le_of_ble_eq_true rfl, Nat.le_of_ble_eq_true rfl⟩ dL_law_803 ?_
  clear hB
  try clear locs
  try clear H
  intro r2 u2 H locs hp hB
  obtain ⟨o22, pu22, nu22⟩ := u2
  have hp2 : r2 = (if trK (xs (i + 1)) (xs (i + 2)) (xs (i + 3)) = true then bcnt ((la, (nI L), sz9, re9, tr, bm, (Int64.ofInt b0), (Int64.ofInt b1)).2.2.2.2.1 ||| ((1 : Int32) <<< ((xs (i + 1)) &&& 31))) 12 else -2) ∧ (trK (xs (i + 1)) (xs (i + 2)) (xs (i + 3)) = false → nu22 = nu) ∧ (trK (xs (i + 1)) (xs (i + 2)) (xs (i + 3)) = true → keepN [20, 21, 22, 23, 24, 25, 6 + 2 * aN (xs (i + 1)), 6 + 2 * aN (xs (i + 1)) + 1] nu nu22 ∧ ∀ b9, b9 < 2 → getN nu22 (6 + 2 * aN (xs (i + 1)) + b9) = rdT (xs (i + 1)) (xs (i + 2)) (xs (i + 3)) L mo an pl ho ga lg b9) := hp
  have HPP := hp2
  replace hB : zB D A s ([((bd 31), .inr (7, [.ref (bd 0), .ref (bd 1), .ref (na 6), .ref (na 7), .ref (bd 2), .ref (bd 3), .ref (bd 4), .ref (bd 5), .ref (bd 6)])), ((bd 0), .inr (2, [.int (bI o1), .ref (na 25), .ref (na 26), .ref (na 27)])), ((bd 1), .inl (ka 3, 6, .inr (.inr (.inr (.inr (nR na 0)))))), ((bd 2), .inr (3, [.int (nI L), .ref (bd 7), .ref (bd 8), .ref (bd 9), .ref (bd 10), .ref (bd 11), .int sz9, .int re9])), ((bd 7), .inl (ka 0, 8, .inl mo)), ((bd 8), .inl (ka 0, 8, .inl an)), ((bd 9), .inl (ka 0, 8, .inl pl)), ((bd 10), .inl (ka 0, 24, .inl ho)), ((bd 11), .inl (ka 0, 2, .inl le)), ((bd 3), .inr (0, [.ref (bd 12), .ref (bd 13), .ref (bd 14), .ref (bd 15), .ref (bd 16), .ref (bd 17), .ref (na 21), .ref (na 22), .ref (na 23), .ref (na 24)])), ((bd 12), .inr (2, [.int (bI o91), .ref (na 28), .ref (na 29), .ref (na 30)])), ((bd 13), .inl (ka 0, 8, .inl st)), ((bd 14), .inl (ka 2, 3, .inl (kI (if trK (xs (i + 1)) (xs (i + 2)) (xs (i + 3)) = true then ktB kp (aN (xs (i + 1))) else kp)))), ((bd 15), .inl (ka 3, 6, .inr (.inr (.inr (.inr (nR na 8)))))), ((bd 16), .inl (ka 3, 3, .inr (.inr (.inr (.inr (nR na 14)))))), ((bd 17), .inl (ka 3, 4, .inr (.inr (.inr (.inr (nR na 17)))))), ((bd 4), .inr (4, [.ref (bd 18), .ref (bd 19), .int cnt, .int opb, .int rch, .int wnt, .ref (bd 20), .ref (bd 21), .ref (bd 22), .int bb.1, .ref (bd 23), .ref (bd 24), .long (Int64.ofInt bb.2.1), .long (Int64.ofInt bb.2.2.1)])), ((bd 18), .inr (2, [.int (bI o3), .ref (na 31), .ref (na 32), .ref (na 33)])), ((bd 19), .inl (ka 0, 3, .inl zs)), ((bd 20), .inl (ka 3, 5, .inr (.inr (.inr (.inr (nR na 34)))))), ((bd 21), .inl (ka 0, 4, .inl sa7)), ((bd 22), .inl (ka 0, 4, .inl ss7)), ((bd 23), .inl (ka 0, 4, .inl bb.2.2.2.1)), ((bd 24), .inl (ka 0, 4, .inl bb.2.2.2.2)), ((bd 5), .inr (6, [.int dn, .int up9, .ref (na 39), .ref (na 40)])), ((bd 6), .inr (5, [.ref (bd 25), .ref (bd 30), .int la])), ((bd 25), .inl (ka 4, 4, .inr (.inr (.inr (.inr (nB bd)))))), ((bd 26), .inl (ka 1, 40, .inr (.inl (rw9 0)))), ((bd 27), .inl (ka 1, 40, .inr (.inl (rw9 1)))), ((bd 28), .inl (ka 1, 40, .inr (.inl (rw9 2)))), ((bd 29), .inl (ka 1, 40, .inr (.inl (rw9 3)))), ((bd 30), .inl (ka 0, 4, .inl sz)), (q, .inr (8, mX ad (bI o22) la (nI L) sz9 re9 (if trK (xs (i + 1)) (xs (i + 2)) (xs (i + 3)) = true then ((la, (nI L), sz9, re9, tr, bm, (Int64.ofInt b0), (Int64.ofInt b1)).2.2.2.2.1 ||| ((1 : Int32) <<< ((xs (i + 1)) &&& 31))) else (la, (nI L), sz9, re9, tr, bm, (Int64.ofInt b0), (Int64.ofInt b1)).2.2.2.2.1) bm (Int64.ofInt b0) (Int64.ofInt b1))), ((ad 0), .inl (ka 0, 4, .inl sz)), ((ad 1), .inl (ka 1, 160, .inr (.inl it))), ((ad 2), .inl (ka 1, 40, .inr (.inl as9))), ((ad 3), .inl (ka 1, 200, .inr (.inl nu22))), ((ad 4), .inl (ka 0, 8, .inl mo)), ((ad 5), .inl (ka 0, 8, .inl an)), ((ad 6), .inl (ka 0, 8, .inl pl)), ((ad 7), .inl (ka 0, 24, .inl ho)), ((ad 8), .inl (ka 0, 2, .inl le)), ((ad 9), .inl (ka 1, 4, .inr (.inl pu22))), ((ad 10), .inl (ka 0, 4, .inl ga)), ((ad 11), .inl (ka 0, 4, .inl lg)), ((ad 12), .inl (ka 0, 3, .inl (if trK (xs (i + 1)) (xs (i + 2)) (xs (i + 3)) = true then upd pm (aN (xs (i + 1))) (if aN (xs (i + 1)) = 0 then 0 else (xs (i + 2))) else pm))), ((ad 13), .inl (ka 0, 3, .inl (if trK (xs (i + 1)) (xs (i + 2)) (xs (i + 3)) = true then upd pa (aN (xs (i + 1))) (if aN (xs (i + 1)) = 0 then 0 else (xs (i + 3))) else pa))), ((ad 14), .inl (ka 0, 4, .inl sa8)), ((ad 15), .inl (ka 0, 4, .inl ss8)), ((ad 16), .inl (ka 0, 4, .inl ba)), ((ad 17), .inl (ka 0, 4, .inl bz))] ++ nP na N91) H locs := hB
  have h8 := HPP
  refine lv_icmp_eq (tgt := 1359) hx hb dL_law_806 (by decide) (fun h806 => ?_) (fun h806 => ?_)
  · skip
    by_cases hq : trK (xs (i + 1)) (xs (i + 2)) (xs (i + 3)) = true
    · skip
      simp only [if_pos hq] at hB
      have h9 := trial_tie hn hk hok hoh hbb.1 hbb.2.1 hq (h7.2.2 hq) (h8.2.2 hq)
      refine kk _ H locs ?_ hB ls (lv_sub hl [0, 1, 2, 3] rfl)
      exact ⟨L, mo, an, pl, ho, le, sz, la, sz9, re9, N91, o1, o91, o3, st, ktB kp (aN (xs (i + 1))), cnt, opb, rch, wnt, bb, zs, sa7, ss7, dn, up9, rw9, o22, tr ||| ((1 : Int32) <<< ((xs (i + 1)) &&& 31)), bm, b0, b1, it, as9, nu22, pu22, ga, lg, upd pm (aN (xs (i + 1))) (if (aN (xs (i + 1))) = 0 then 0 else (xs (i + 2))), upd pa (aN (xs (i + 1))) (if (aN (xs (i + 1))) = 0 then 0 else (xs (i + 3))), sa8, ss8, ba, bz, rfl, ha, hbb, hc, h9.1, h9.2.1, hi9⟩
    · skip
      simp only [if_neg hq] at hB
      have e7 := h7.2.1 (b_false hq)
      have e8 := h8.2.1 (b_false hq)
      refine kk _ H locs ?_ hB ls (lv_sub hl [0, 1, 2, 3] rfl)
      exact ⟨L, mo, an, pl, ho, le, sz, la, sz9, re9, N91, o1, o91, o3, st, kp, cnt, opb, rch, wnt, bb, zs, sa7, ss7, dn, up9, rw9, o22, tr, bm, b0, b1, it, as9, nu22, pu22, ga, lg, pm, pa, sa8, ss8, ba, bz, rfl, ha, hbb, hc, (by rw [e7, e8]; exact hn), (by rw [e7]; exact hk), hi9⟩
  · skip
    exact absurd ((by
      have e9 : (if trK (xs (i + 1)) (xs (i + 2)) (xs (i + 3)) = true then ktS (ktB kp (aN (xs (i + 1)))) 3 else -2) = (if trK (xs (i + 1)) (xs (i + 2)) (xs (i + 3)) = true then bcnt (tr ||| ((1 : Int32) <<< ((xs (i + 1)) &&& 31))) 12 else -2) := by
        by_cases hq : trK (xs (i + 1)) (xs (i + 2)) (xs (i + 3)) = true
        · rw [if_pos hq, if_pos hq]; exact (trial_tie hn hk hok hoh hbb.1 hbb.2.1 hq (h7.2.2 hq) (h8.2.2 hq)).2.2
        · rw [if_neg hq, if_neg hq]
      exact h7.1.trans (e9.trans h8.1.symm))) h806

set_option maxHeartbeats 4000000 in
set_option maxRecDepth 100000 in
theorem lwc_reading (l : Launch) (D : va_G) (ka : Nat → ClassId) (kb : Nat → Nat) (bd na ad : Nat → Nat) (q sb L9 : Nat) (xs : Nat → Int32) {p : Program} {e : Env} {s : State} {m : MethodId} {args : Array Value} {below : List Frame} {meth : Method} {c : Code} {A : Nat → Prop} {Q : State → Prop} {rt : Option FieldType} (hF : zF p s m args meth c D ka kb A cL_law RL 4 rt) (hX : va_X sb L9 xs s s.heap) (hsb : sb < s.heap.size) (hAb : ¬ A sb) (i : Nat) (hi : i + 7 ≤ L9) (hL9 : L9 ≤ 3584) {ws : va_W} {H : Heap} {locs : List Loc} (hI : LI ka bd na ad q ws) (hB : zB D A s ws H locs)
    (kk : ∀ (ws : va_W) (H : Heap) (locs : List Loc), LI ka bd na ad q ws → zB D A s ws H locs → ∀ ls : Array Slot, lv_has ls 4 [(3, .int (nI i)), (2, .ref q), (1, .ref (bd 31)), (0, .ref sb)] → W p l e room_1 s m args below meth c H locs 92 1052 Q (F0 m 1359 ls [])) {ls : Array Slot} (hl : lv_has ls 4 [(3, .int (nI i)), (2, .ref q), (1, .ref (bd 31)), (0, .ref sb)]) : W p l e room_1 s m args below meth c H locs 92 1052 Q (F0 m 811 ls []) := by
  have hx : p.tables.exec = Jvm.exec := hF.1.1
  have hb : c.code = cL_law := hF.1.2.1
  obtain ⟨L, mo, an, pl, ho, le, sz, la, sz9, re9, N, o1, o2, o3, st, kp, cnt, opb, rch, wnt, bb, zs, sa7, ss7, dn, up9, rw9, o, tr, bm, b0, b1, it, as9, nu, pu, ga, lg, pm, pa, sa8, ss8, ba, bz, rfl, ha, hbb, hc, hn, hk, hi9⟩ := hI
  have hok := ha.1
  have hoh := ha.2.1
  have hre := ha.2.2.1
  have hszk := ha.2.2.2.1
  have hsz := ha.2.2.2.2
  have hB9 := hc.1
  have hb01 := hc.2
  have hd6 : ∀ k, k < 6 → 0 < (N k).2.2.2.2.toInt := fun k h => by rw [hn.2.1 k h]; exact hn.1 k (by omega)
  replace hB : zB D A s ([((bd 31), .inr (7, [.ref (bd 0), .ref (bd 1), .ref (na 6), .ref (na 7), .ref (bd 2), .ref (bd 3), .ref (bd 4), .ref (bd 5), .ref (bd 6)])), ((bd 0), .inr (2, [.int (bI o1), .ref (na 25), .ref (na 26), .ref (na 27)])), ((bd 1), .inl (ka 3, 6, .inr (.inr (.inr (.inr (nR na 0)))))), ((bd 2), .inr (3, [.int (nI L), .ref (bd 7), .ref (bd 8), .ref (bd 9), .ref (bd 10), .ref (bd 11), .int sz9, .int re9])), ((bd 7), .inl (ka 0, 8, .inl mo)), ((bd 8), .inl (ka 0, 8, .inl an)), ((bd 9), .inl (ka 0, 8, .inl pl)), ((bd 10), .inl (ka 0, 24, .inl ho)), ((bd 11), .inl (ka 0, 2, .inl le)), ((bd 3), .inr (0, [.ref (bd 12), .ref (bd 13), .ref (bd 14), .ref (bd 15), .ref (bd 16), .ref (bd 17), .ref (na 21), .ref (na 22), .ref (na 23), .ref (na 24)])), ((bd 12), .inr (2, [.int (bI o2), .ref (na 28), .ref (na 29), .ref (na 30)])), ((bd 13), .inl (ka 0, 8, .inl st)), ((bd 14), .inl (ka 2, 3, .inl (kI kp))), ((bd 15), .inl (ka 3, 6, .inr (.inr (.inr (.inr (nR na 8)))))), ((bd 16), .inl (ka 3, 3, .inr (.inr (.inr (.inr (nR na 14)))))), ((bd 17), .inl (ka 3, 4, .inr (.inr (.inr (.inr (nR na 17)))))), ((bd 4), .inr (4, [.ref (bd 18), .ref (bd 19), .int cnt, .int opb, .int rch, .int wnt, .ref (bd 20), .ref (bd 21), .ref (bd 22), .int bb.1, .ref (bd 23), .ref (bd 24), .long (Int64.ofInt bb.2.1), .long (Int64.ofInt bb.2.2.1)])), ((bd 18), .inr (2, [.int (bI o3), .ref (na 31), .ref (na 32), .ref (na 33)])), ((bd 19), .inl (ka 0, 3, .inl zs)), ((bd 20), .inl (ka 3, 5, .inr (.inr (.inr (.inr (nR na 34)))))), ((bd 21), .inl (ka 0, 4, .inl sa7)), ((bd 22), .inl (ka 0, 4, .inl ss7)), ((bd 23), .inl (ka 0, 4, .inl bb.2.2.2.1)), ((bd 24), .inl (ka 0, 4, .inl bb.2.2.2.2)), ((bd 5), .inr (6, [.int dn, .int up9, .ref (na 39), .ref (na 40)])), ((bd 6), .inr (5, [.ref (bd 25), .ref (bd 30), .int la])), ((bd 25), .inl (ka 4, 4, .inr (.inr (.inr (.inr (nB bd)))))), ((bd 26), .inl (ka 1, 40, .inr (.inl (rw9 0)))), ((bd 27), .inl (ka 1, 40, .inr (.inl (rw9 1)))), ((bd 28), .inl (ka 1, 40, .inr (.inl (rw9 2)))), ((bd 29), .inl (ka 1, 40, .inr (.inl (rw9 3)))), ((bd 30), .inl (ka 0, 4, .inl sz)), (q, .inr (8, mX ad (bI o) la (nI L) sz9 re9 tr bm (Int64.ofInt b0) (Int64.ofInt b1))), ((ad 0), .inl (ka 0, 4, .inl sz)), ((ad 1), .inl (ka 1, 160, .inr (.inl it))), ((ad 2), .inl (ka 1, 40, .inr (.inl as9))), ((ad 3), .inl (ka 1, 200, .inr (.inl nu))), ((ad 4), .inl (ka 0, 8, .inl mo)), ((ad 5), .inl (ka 0, 8, .inl an)), ((ad 6), .inl (ka 0, 8, .inl pl)), ((ad 7), .inl (ka 0, 24, .inl ho)), ((ad 8), .inl (ka 0, 2, .inl le)), ((ad 9), .inl (ka 1, 4, .inr (.inl pu))), ((ad 10), .inl (ka 0, 4, .inl ga)), ((ad 11), .inl (ka 0, 4, .inl lg)), ((ad 12), .inl (ka 0, 3, .inl pm)), ((ad 13), .inl (ka 0, 3, .inl pa)), ((ad 14), .inl (ka 0, 4, .inl sa8)), ((ad 15), .inl (ka 0, 4, .inl ss8)), ((ad 16), .inl (ka 0, 4, .inl ba)), ((ad 17), .inl (ka 0, 4, .inl bz))] ++ nP na N) H locs := hB
  refine lv_aload_n hx hb dL_law_811 rfl (lv_at hl 2 rfl) ?_
  refine lv_aload_n hx hb dL_law_812 rfl (lv_at hl 3 rfl) ?_
  refine lv_iload_n hx hb dL_law_813 rfl (lv_at hl 0 rfl) ?_
  refine lv_iconst (v := 1) hx hb dL_law_814 (by decide) ?_
  refine lv_iadd hx hb dL_law_815 ?_
  refine ztopi (y := nI (i + 1)) (nI_add i 1) ?_
  refine zscr hF hX hsb hAb hB (k := (i + 1)) (by omega) (by omega) dL_law_816 ?_
  refine lv_aload_n hx hb dL_law_817 rfl (lv_at hl 3 rfl) ?_
  refine lv_iload_n hx hb dL_law_818 rfl (lv_at hl 0 rfl) ?_
  refine lv_iconst (v := 2) hx hb dL_law_819 (by decide) ?_
  refine lv_iadd hx hb dL_law_820 ?_
  refine ztopi (y := nI (i + 2)) (nI_add i 2) ?_
  refine zscr hF hX hsb hAb hB (k := (i + 2)) (by omega) (by omega) dL_law_821 ?_
  refine lv_aload_n hx hb dL_law_822 rfl (lv_at hl 3 rfl) ?_
  refine lv_iload_n hx hb dL_law_823 rfl (lv_at hl 0 rfl) ?_
  refine lv_iconst (v := 3) hx hb dL_law_824 (by decide) ?_
  refine lv_iadd hx hb dL_law_825 ?_
  refine ztopi (y := nI (i + 3)) (nI_add i 3) ?_
  refine zscr hF hX hsb hAb hB (k := (i + 3)) (by omega) (by omega) dL_law_826 ?_
  refine zVl zm_L_88 hF hB (c_X7_reading l D ka kb bd na kp N (xs (i + 1)) (xs (i + 2)) (xs (i + 3)) ) ([0, 9, 12, 13] ++ npr 51) (zsel_pool rfl rfl) (va_nd_pool rfl rfl) ([(bd 31), (bd 3), (bd 14), (bd 15)] ++ nA na) (fun _ => zad_pool rfl) (zad_pool rfl) 0 7 rfl rfl rfl ⟨Nat.le_of_ble_eq_true rfl, Nat.le_of_ble_eq_true rfl⟩ rfl hl.1 (Nat.le_of_ble_eq_true rfl) ⟨Nat.le_of_ble_eq_true rfl, Nat.le_of_ble_eq_true rfl⟩ dL_law_827 ?_
  clear hB
  try clear locs
  try clear H
  intro r1 u1 H locs hp hB
  obtain rfl : r1 = if rdK (xs (i + 1)) (xs (i + 2)) (xs (i + 3)) = true then (if kp (aN (xs (i + 1))) = true then cmp5 (N (8 + (2 * aN (xs (i + 1)) + aN (xs (i + 2))))) (aN (xs (i + 3))) else lMin - (-3 : Int32).toInt64) else lMin - (-2 : Int32).toInt64 := hp
  replace hB : zB D A s ([((bd 31), .inr (7, [.ref (bd 0), .ref (bd 1), .ref (na 6), .ref (na 7), .ref (bd 2), .ref (bd 3), .ref (bd 4), .ref (bd 5), .ref (bd 6)])), ((bd 0), .inr (2, [.int (bI o1), .ref (na 25), .ref (na 26), .ref (na 27)])), ((bd 1), .inl (ka 3, 6, .inr (.inr (.inr (.inr (nR na 0)))))), ((bd 2), .inr (3, [.int (nI L), .ref (bd 7), .ref (bd 8), .ref (bd 9), .ref (bd 10), .ref (bd 11), .int sz9, .int re9])), ((bd 7), .inl (ka 0, 8, .inl mo)), ((bd 8), .inl (ka 0, 8, .inl an)), ((bd 9), .inl (ka 0, 8, .inl pl)), ((bd 10), .inl (ka 0, 24, .inl ho)), ((bd 11), .inl (ka 0, 2, .inl le)), ((bd 3), .inr (0, [.ref (bd 12), .ref (bd 13), .ref (bd 14), .ref (bd 15), .ref (bd 16), .ref (bd 17), .ref (na 21), .ref (na 22), .ref (na 23), .ref (na 24)])), ((bd 12), .inr (2, [.int (bI o2), .ref (na 28), .ref (na 29), .ref (na 30)])), ((bd 13), .inl (ka 0, 8, .inl st)), ((bd 14), .inl (ka 2, 3, .inl (kI kp))), ((bd 15), .inl (ka 3, 6, .inr (.inr (.inr (.inr (nR na 8)))))), ((bd 16), .inl (ka 3, 3, .inr (.inr (.inr (.inr (nR na 14)))))), ((bd 17), .inl (ka 3, 4, .inr (.inr (.inr (.inr (nR na 17)))))), ((bd 4), .inr (4, [.ref (bd 18), .ref (bd 19), .int cnt, .int opb, .int rch, .int wnt, .ref (bd 20), .ref (bd 21), .ref (bd 22), .int bb.1, .ref (bd 23), .ref (bd 24), .long (Int64.ofInt bb.2.1), .long (Int64.ofInt bb.2.2.1)])), ((bd 18), .inr (2, [.int (bI o3), .ref (na 31), .ref (na 32), .ref (na 33)])), ((bd 19), .inl (ka 0, 3, .inl zs)), ((bd 20), .inl (ka 3, 5, .inr (.inr (.inr (.inr (nR na 34)))))), ((bd 21), .inl (ka 0, 4, .inl sa7)), ((bd 22), .inl (ka 0, 4, .inl ss7)), ((bd 23), .inl (ka 0, 4, .inl bb.2.2.2.1)), ((bd 24), .inl (ka 0, 4, .inl bb.2.2.2.2)), ((bd 5), .inr (6, [.int dn, .int up9, .ref (na 39), .ref (na 40)])), ((bd 6), .inr (5, [.ref (bd 25), .ref (bd 30), .int la])), ((bd 25), .inl (ka 4, 4, .inr (.inr (.inr (.inr (nB bd)))))), ((bd 26), .inl (ka 1, 40, .inr (.inl (rw9 0)))), ((bd 27), .inl (ka 1, 40, .inr (.inl (rw9 1)))), ((bd 28), .inl (ka 1, 40, .inr (.inl (rw9 2)))), ((bd 29), .inl (ka 1, 40, .inr (.inl (rw9 3)))), ((bd 30), .inl (ka 0, 4, .inl sz)), (q, .inr (8, mX ad (bI o) la (nI L) sz9 re9 tr bm (Int64.ofInt b0) (Int64.ofInt b1))), ((ad 0), .inl (ka 0, 4, .inl sz)), ((ad 1), .inl (ka 1, 160, .inr (.inl it))), ((ad 2), .inl (ka 1, 40, .inr (.inl as9))), ((ad 3), .inl (ka 1, 200, .inr (.inl nu))), ((ad 4), .inl (ka 0, 8, .inl mo)), ((ad 5), .inl (ka 0, 8, .inl an)), ((ad 6), .inl (ka 0, 8, .inl pl)), ((ad 7), .inl (ka 0, 24, .inl ho)), ((ad 8), .inl (ka 0, 2, .inl le)), ((ad 9), .inl (ka 1, 4, .inr (.inl pu))), ((ad 10), .inl (ka 0, 4, .inl ga)), ((ad 11), .inl (ka 0, 4, .inl lg)), ((ad 12), .inl (ka 0, 3, .inl pm)), ((ad 13), .inl (ka 0, 3, .inl pa)), ((ad 14), .inl (ka 0, 4, .inl sa8)), ((ad 15), .inl (ka 0, 4, .inl ss8)), ((ad 16), .inl (ka 0, 4, .inl ba)), ((ad 17), .inl (ka 0, 4, .inl bz))] ++ nP na N) H locs := zB_pool hB rfl rfl rfl rfl
  refine lv_aload_n hx hb dL_law_830 rfl (lv_at hl 1 rfl) ?_
  refine lv_aload_n hx hb dL_law_831 rfl (lv_at hl 3 rfl) ?_
  refine lv_iload_n hx hb dL_law_832 rfl (lv_at hl 0 rfl) ?_
  refine lv_iconst (v := 1) hx hb dL_law_833 (by decide) ?_
  refine lv_iadd hx hb dL_law_834 ?_
  refine ztopi (y := nI (i + 1)) (nI_add i 1) ?_
  refine zscr hF hX hsb hAb hB (k := (i + 1)) (by omega) (by omega) dL_law_835 ?_
  refine lv_aload_n hx hb dL_law_836 rfl (lv_at hl 3 rfl) ?_
  refine lv_iload_n hx hb dL_law_837 rfl (lv_at hl 0 rfl) ?_
  refine lv_iconst (v := 2) hx hb dL_law_838 (by decide) ?_
  refine lv_iadd hx hb dL_law_839 ?_
  refine ztopi (y := nI (i + 2)) (nI_add i 2) ?_
  refine zscr hF hX hsb hAb hB (k := (i + 2)) (by omega) (by omega) dL_law_840 ?_
  refine lv_aload_n hx hb dL_law_841 rfl (lv_at hl 3 rfl) ?_
  refine lv_iload_n hx hb dL_law_842 rfl (lv_at hl 0 rfl) ?_
  refine lv_iconst (v := 3) hx hb dL_law_843 (by decide) ?_
  refine lv_iadd hx hb dL_law_844 ?_
  refine ztopi (y := nI (i + 3)) (nI_add i 3) ?_
  refine zscr hF hX hsb hAb hB (k := (i + 3)) (by omega) (by omega) dL_law_845 ?_
  refine zVl zm_L_92 hF hB (c_X8_reading l D ka kb q ad o (la, (nI L), sz9, re9, tr, bm, (Int64.ofInt b0), (Int64.ofInt b1)) nu (xs (i + 1)) (xs (i + 2)) (xs (i + 3)) ) [32, 36] rfl (by decide) [q, (ad 3)] (fun _ => rfl) rfl 32 8 rfl rfl rfl ⟨Nat.le_of_ble_eq_true rfl, Nat.le_of_ble_eq_true rfl⟩ rfl hl.1 (Nat.le_of_ble_eq_true rfl) ⟨Nat.le_of_ble_eq_true rfl, Nat.le_of_ble_eq_true rfl⟩ dL_law_846 ?_
  clear hB
  try clear locs
  try clear H
  intro r2 u2 H locs hp hB
  obtain rfl : r2 = rdW (xs (i + 1)) (xs (i + 2)) (xs (i + 3)) (la, (nI L), sz9, re9, tr, bm, (Int64.ofInt b0), (Int64.ofInt b1)).2.2.2.2.1 (getN nu) := hp
  replace hB : zB D A s ([((bd 31), .inr (7, [.ref (bd 0), .ref (bd 1), .ref (na 6), .ref (na 7), .ref (bd 2), .ref (bd 3), .ref (bd 4), .ref (bd 5), .ref (bd 6)])), ((bd 0), .inr (2, [.int (bI o1), .ref (na 25), .ref (na 26), .ref (na 27)])), ((bd 1), .inl (ka 3, 6, .inr (.inr (.inr (.inr (nR na 0)))))), ((bd 2), .inr (3, [.int (nI L), .ref (bd 7), .ref (bd 8), .ref (bd 9), .ref (bd 10), .ref (bd 11), .int sz9, .int re9])), ((bd 7), .inl (ka 0, 8, .inl mo)), ((bd 8), .inl (ka 0, 8, .inl an)), ((bd 9), .inl (ka 0, 8, .inl pl)), ((bd 10), .inl (ka 0, 24, .inl ho)), ((bd 11), .inl (ka 0, 2, .inl le)), ((bd 3), .inr (0, [.ref (bd 12), .ref (bd 13), .ref (bd 14), .ref (bd 15), .ref (bd 16), .ref (bd 17), .ref (na 21), .ref (na 22), .ref (na 23), .ref (na 24)])), ((bd 12), .inr (2, [.int (bI o2), .ref (na 28), .ref (na 29), .ref (na 30)])), ((bd 13), .inl (ka 0, 8, .inl st)), ((bd 14), .inl (ka 2, 3, .inl (kI kp))), ((bd 15), .inl (ka 3, 6, .inr (.inr (.inr (.inr (nR na 8)))))), ((bd 16), .inl (ka 3, 3, .inr (.inr (.inr (.inr (nR na 14)))))), ((bd 17), .inl (ka 3, 4, .inr (.inr (.inr (.inr (nR na 17)))))), ((bd 4), .inr (4, [.ref (bd 18), .ref (bd 19), .int cnt, .int opb, .int rch, .int wnt, .ref (bd 20), .ref (bd 21), .ref (bd 22), .int bb.1, .ref (bd 23), .ref (bd 24), .long (Int64.ofInt bb.2.1), .long (Int64.ofInt bb.2.2.1)])), ((bd 18), .inr (2, [.int (bI o3), .ref (na 31), .ref (na 32), .ref (na 33)])), ((bd 19), .inl (ka 0, 3, .inl zs)), ((bd 20), .inl (ka 3, 5, .inr (.inr (.inr (.inr (nR na 34)))))), ((bd 21), .inl (ka 0, 4, .inl sa7)), ((bd 22), .inl (ka 0, 4, .inl ss7)), ((bd 23), .inl (ka 0, 4, .inl bb.2.2.2.1)), ((bd 24), .inl (ka 0, 4, .inl bb.2.2.2.2)), ((bd 5), .inr (6, [.int dn, .int up9, .ref (na 39), .ref (na 40)])), ((bd 6), .inr (5, [.ref (bd 25), .ref (bd 30), .int la])), ((bd 25), .inl (ka 4, 4, .inr (.inr (.inr (.inr (nB bd)))))), ((bd 26), .inl (ka 1, 40, .inr (.inl (rw9 0)))), ((bd 27), .inl (ka 1, 40, .inr (.inl (rw9 1)))), ((bd 28), .inl (ka 1, 40, .inr (.inl (rw9 2)))), ((bd 29), .inl (ka 1, 40, .inr (.inl (rw9 3)))), ((bd 30), .inl (ka 0, 4, .inl sz)), (q, .inr (8, mX ad (bI o) la (nI L) sz9 re9 tr bm (Int64.ofInt b0) (Int64.ofInt b1))), ((ad 0), .inl (ka 0, 4, .inl sz)), ((ad 1), .inl (ka 1, 160, .inr (.inl it))), ((ad 2), .inl (ka 1, 40, .inr (.inl as9))), ((ad 3), .inl (ka 1, 200, .inr (.inl nu))), ((ad 4), .inl (ka 0, 8, .inl mo)), ((ad 5), .inl (ka 0, 8, .inl an)), ((ad 6), .inl (ka 0, 8, .inl pl)), ((ad 7), .inl (ka 0, 24, .inl ho)), ((ad 8), .inl (ka 0, 2, .inl le)), ((ad 9), .inl (ka 1, 4, .inr (.inl pu))), ((ad 10), .inl (ka 0, 4, .inl ga)), ((ad 11), .inl (ka 0, 4, .inl lg)), ((ad 12), .inl (ka 0, 3, .inl pm)), ((ad 13), .inl (ka 0, 3, .inl pa)), ((ad 14), .inl (ka 0, 4, .inl sa8)), ((ad 15), .inl (ka 0, 4, .inl ss8)), ((ad 16), .inl (ka 0, 4, .inl ba)), ((ad 17), .inl (ka 0, 4, .inl bz))] ++ nP na N) H locs := hB
  refine W.lcmp hx hb dL_law_849 ?_
  refine lv_if_eq (tgt := 1359) hx hb dL_law_850 (by decide) (fun h850 => ?_) (fun h850 => ?_)
  · skip
    replace h850 := (lg_cmp_eq _ _).mp h850
    refine kk _ H locs ?_ hB ls (lv_sub hl [0, 1, 2, 3] rfl)
    exact ⟨L, mo, an, pl, ho, le, sz, la, sz9, re9, N, o1, o2, o3, st, kp, cnt, opb, rch, wnt, bb, zs, sa7, ss7, dn, up9, rw9, o, tr, bm, b0, b1, it, as9, nu, pu, ga, lg, pm, pa, sa8, ss8, ba, bz, rfl, ha, hbb, hc, hn, hk, hi9⟩
  · skip
    replace h850 := (fun e9 => h850 ((lg_cmp_eq _ _).mpr e9))
    exact absurd (rd_tie hn hk) h850
