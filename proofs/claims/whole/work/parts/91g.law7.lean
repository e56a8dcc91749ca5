set_option maxHeartbeats 4000000 in
set_option maxRecDepth 100000 in
theorem lwc_found (l : Launch) (D : va_G) (ka : Nat → ClassId) (kb : Nat → Nat) (bd na ad : Nat → Nat) (q sb L9 : Nat) (xs : Nat → Int32) {p : Program} {e : Env} {s : State} {m : MethodId} {args : Array Value} {below : List Frame} {meth : Method} {c : Code} {A : Nat → Prop} {Q : State → Prop} {rt : Option FieldType} (hF : zF p s m args meth c D ka kb A cL_law RL 4 rt) (hX : va_X sb L9 xs s s.heap) (hsb : sb < s.heap.size) (hAb : ¬ A sb) (i : Nat) (hi : i + 7 ≤ L9) (hL9 : L9 ≤ 3584) {ws : va_W} {H : Heap} {locs : List Loc} (hI : LI ka bd na ad q ws) (hB : zB D A s ws H locs)
    (kk : ∀ (ws : va_W) (H : Heap) (locs : List Loc), LI ka bd na ad q ws → zB D A s ws H locs → ∀ ls : Array Slot, lv_has ls 4 [(3, .int (nI i)), (2, .ref q), (1, .ref (bd 31)), (0, .ref sb)] → W p l e room_1 s m args below meth c H locs 92 1052 Q (F0 m 1359 ls [])) {ls : Array Slot} (hl : lv_has ls 4 [(3, .int (nI i)), (2, .ref q), (1, .ref (bd 31)), (0, .ref sb)]) : W p l e room_1 s m args below meth c H locs 92 1052 Q (F0 m 855 ls []) := by
  have hx : p.tables.exec = Jvm.exec := hF.1.1
  have hb : c.code = cL_law := hF.1.2.1
  obtain ⟨L, mo, an, pl, ho, le, sz, la, sz9, re9, N, o1, o2, o3, st, kp, cnt, opb, rch, wnt, bb, zs, sa7, ss7, dn, up9, rw9, o, tr, bm, b0, b1, it, as9, nu, pu, ga, lg, pm, pa, sa8, ss8, ba, bz, rfl, ha, hbb, hc, hn, hk, hi9⟩ := hI
  have hok := ha.1
  have hoh := ha.2.1
  have hre := ha.2.2.1
  have hszk := ha.2.2.2.1
  have hsz := ha.2.2.2.2
  have hB9 := hc.1
  have hb01 := hc.2
  have hd6 : ∀ k, k < 6 → 0 < (N k).2.2.2.2.toInt := fun k h => by rw [hn.2.1 k h]; exact hn.1 k (by omega)
  replace hB : zB D A s ([((bd 31), .inr (7, [.ref (bd 0), .ref (bd 1), .ref (na 6), .ref (na 7), .ref (bd 2), .ref (bd 3), .ref (bd 4), .ref (bd 5), .ref (bd 6)])), ((bd 0), .inr (2, [.int (bI o1), .ref (na 25), .ref (na 26), .ref (na 27)])), ((bd 1), .inl (ka 3, 6, .inr (.inr (.inr (.inr (nR na 0)))))), ((bd 2), .inr (3, [.int (nI L), .ref (bd 7), .ref (bd 8), .ref (bd 9), .ref (bd 10), .ref (bd 11), .int sz9, .int re9])), ((bd 7), .inl (ka 0, 8, .inl mo)), ((bd 8), .inl (ka 0, 8, .inl an)), ((bd 9), .inl (ka 0, 8, .inl pl)), ((bd 10), .inl (ka 0, 24, .inl ho)), ((bd 11), .inl (ka 0, 2, .inl le)), ((bd 3), .inr (0, [.ref (bd 12), .ref (bd 13), .ref (bd 14), .ref (bd 15), .ref (bd 16), .ref (bd 17), .ref (na 21), .ref (na 22), .ref (na 23), .ref (na 24)])), ((bd 12), .inr (2, [.int (bI o2), .ref (na 28), .ref (na 29), .ref (na 30)])), ((bd 13), .inl (ka 0, 8, .inl st)), ((bd 14), .inl (ka 2, 3, .inl (kI kp))), ((bd 15), .inl (ka 3, 6, .inr (.inr (.inr (.inr (nR na 8)))))), ((bd 16), .inl (ka 3, 3, .inr (.inr (.inr (.inr (nR na 14)))))), ((bd 17), .inl (ka 3, 4, .inr (.inr (.inr (.inr (nR na 17)))))), ((bd 4), .inr (4, [.ref (bd 18), .ref (bd 19), .int cnt, .int opb, .int rch, .int wnt, .ref (bd 20), .ref (bd 21), .ref (bd 22), .int bb.1, .ref (bd 23), .ref (bd 24), .long (Int64.ofInt bb.2.1), .long (Int64.ofInt bb.2.2.1)])), ((bd 18), .inr (2, [.int (bI o3), .ref (na 31), .ref (na 32), .ref (na 33)])), ((bd 19), .inl (ka 0, 3, .inl zs)), ((bd 20), .inl (ka 3, 5, .inr (.inr (.inr (.inr (nR na 34)))))), ((bd 21), .inl (ka 0, 4, .inl sa7)), ((bd 22), .inl (ka 0, 4, .inl ss7)), ((bd 23), .inl (ka 0, 4, .inl bb.2.2.2.1)), ((bd 24), .inl (ka 0, 4, .inl bb.2.2.2.2)), ((bd 5), .inr (6, [.int dn, .int up9, .ref (na 39), .ref (na 40)])), ((bd 6), .inr (5, [.ref (bd 25), .ref (bd 30), .int la])), ((bd 25), .inl (ka 4, 4, .inr (.inr (.inr (.inr (nB bd)))))), ((bd 26), .inl (ka 1, 40, .inr (.inl (rw9 0)))), ((bd 27), .inl (ka 1, 40, .inr (.inl (rw9 1)))), ((bd 28), .inl (ka 1, 40, .inr (.inl (rw9 2)))), ((bd 29), .inl (ka 1, 40, .inr (.inl (rw9 3)))), ((bd 30), .inl (ka 0, 4, .inl sz)), (q, .inr (8, mX ad (bI o) la (nI L) sz9 re9 tr bm (Int64.ofInt b0) (Int64.ofInt b1))), ((ad 0), .inl (ka 0, 4, .inl sz)), ((ad 1), .inl (ka 1, 160, .inr (.inl it))), ((ad 2), .inl (ka 1, 40, .inr (.inl as9))), ((ad 3), .inl (ka 1, 200, .inr (.inl nu))), ((ad 4), .inl (ka 0, 8, .inl mo)), ((ad 5), .inl (ka 0, 8, .inl an)), ((ad 6), .inl (ka 0, 8, .inl pl)), ((ad 7), .inl (ka 0, 24, .inl ho)), ((ad 8), .inl (ka 0, 2, .inl le)), ((ad 9), .inl (ka 1, 4, .inr (.inl pu))), ((ad 10), .inl (ka 0, 4, .inl ga)), ((ad 11), .inl (ka 0, 4, .inl lg)), ((ad 12), .inl (ka 0, 3, .inl pm)), ((ad 13), .inl (ka 0, 3, .inl pa)), ((ad 14), .inl (ka 0, 4, .inl sa8)), ((ad 15), .inl (ka 0, 4, .inl ss8)), ((ad 16), .inl (ka 0, 4, .inl ba)), ((ad 17), .inl (ka 0, 4, .inl bz))] ++ nP na N) H locs := hB
  refine lv_aload_n hx hb dL_law_855 rfl (lv_at hl 2 rfl) ?_
  refine lv_aload_n hx hb dL_law_856 rfl (lv_at hl 3 rfl) ?_
  refine lv_iload_n hx hb dL_law_857 rfl (lv_at hl 0 rfl) ?_
  refine lv_iconst (v := 1) hx hb dL_law_858 (by decide) ?_
  refine lv_iadd hx hb dL_law_859 ?_
  refine ztopi (y := nI (i + 1)) (nI_add i 1) ?_
  refine zscr hF hX hsb hAb hB (k := (i + 1)) (by omega) (by omega) dL_law_860 ?_
  refine lv_aload_n hx hb dL_law_861 rfl (lv_at hl 3 rfl) ?_
  refine lv_iload_n hx hb dL_law_862 rfl (lv_at hl 0 rfl) ?_
  refine lv_iconst (v := 2) hx hb dL_law_863 (by decide) ?_
  refine lv_iadd hx hb dL_law_864 ?_
  refine ztopi (y := nI (i + 2)) (nI_add i 2) ?_
  refine zscr hF hX hsb hAb hB (k := (i + 2)) (by omega) (by omega) dL_law_865 ?_
  refine zVi zm_L_93 hF hB (c_X7_found l D ka kb bd na o2 pm pa kp N (xs (i + 1)) (xs (i + 2)) ((fun j h => by rw [hn.2.2 j h]; exact hn.1 _ (by omega))) ((fun k a b e => hk.2.2.2 k a b (by rw [← hk.1 k b]; exact e))) ((fun k a b e => by
    obtain ⟨m1, x, x1, x2⟩ := hk.2.2.1 k b (by omega) (by rw [← hk.1 k b]; exact e)
    exact ⟨m1, by rw [x2, aNn x1 (by decide)]; exact x1⟩))) ([0, 2, 9, 10, 13, 14, 15, 12] ++ npr 51) (zsel_pool rfl rfl) (va_nd_pool rfl rfl) ([(bd 31), (bd 1), (bd 3), (bd 12), (bd 15), (bd 16), (bd 17), (bd 14)] ++ nA na) (fun _ => zad_pool rfl) (zad_pool rfl) 0 7 rfl rfl rfl ⟨Nat.le_of_ble_eq_true rfl, Nat.le_of_ble_eq_true rfl⟩ rfl hl.1 (Nat.le_of_ble_eq_true rfl) ⟨Nat.le_of_ble_eq_true rfl, Nat.le_of_ble_eq_true rfl⟩ dL_law_866 ?_
  clear hB
  try clear locs
  try clear H
  intro r1 u1 H locs hp hB
  obtain ⟨N91, o91⟩ := u1
  have hp1 : r1 = (if foK (xs (i + 1)) (xs (i + 2)) = false then (-2 : Int32) else if ktS kp 3 < 3 then -3 else ubR (aN (xs (i + 1))) (gC N) pm pa) ∧ (∀ k9, k9 < 17 → k9 ≠ 6 → N91 k9 = if r1 = 1 ∧ k9 = aN (xs (i + 2)) then quoV (fnV (xs (i + 1)) (gC N) pm pa) (foD (gC N) pm pa) else N k9) := hp
  have HPP := hp1
  replace hB : zB D A s ([((bd 31), .inr (7, [.ref (bd 0), .ref (bd 1), .ref (na 6), .ref (na 7), .ref (bd 2), .ref (bd 3), .ref (bd 4), .ref (bd 5), .ref (bd 6)])), ((bd 0), .inr (2, [.int (bI o1), .ref (na 25), .ref (na 26), .ref (na 27)])), ((bd 1), .inl (ka 3, 6, .inr (.inr (.inr (.inr (nR na 0)))))), ((bd 2), .inr (3, [.int (nI L), .ref (bd 7), .ref (bd 8), .ref (bd 9), .ref (bd 10), .ref (bd 11), .int sz9, .int re9])), ((bd 7), .inl (ka 0, 8, .inl mo)), ((bd 8), .inl (ka 0, 8, .inl an)), ((bd 9), .inl (ka 0, 8, .inl pl)), ((bd 10), .inl (ka 0, 24, .inl ho)), ((bd 11), .inl (ka 0, 2, .inl le)), ((bd 3), .inr (0, [.ref (bd 12), .ref (bd 13), .ref (bd 14), .ref (bd 15), .ref (bd 16), .ref (bd 17), .ref (na 21), .ref (na 22), .ref (na 23), .ref (na 24)])), ((bd 12), .inr (2, [.int (bI o91), .ref (na 28), .ref (na 29), .ref (na 30)])), ((bd 13), .inl (ka 0, 8, .inl st)), ((bd 14), .inl (ka 2, 3, .inl (kI kp))), ((bd 15), .inl (ka 3, 6, .inr (.inr (.inr (.inr (nR na 8)))))), ((bd 16), .inl (ka 3, 3, .inr (.inr (.inr (.inr (nR na 14)))))), ((bd 17), .inl (ka 3, 4, .inr (.inr (.inr (.inr (nR na 17)))))), ((bd 4), .inr (4, [.ref (bd 18), .ref (bd 19), .int cnt, .int opb, .int rch, .int wnt, .ref (bd 20), .ref (bd 21), .ref (bd 22), .int bb.1, .ref (bd 23), .ref (bd 24), .long (Int64.ofInt bb.2.1), .long (Int64.ofInt bb.2.2.1)])), ((bd 18), .inr (2, [.int (bI o3), .ref (na 31), .ref (na 32), .ref (na 33)])), ((bd 19), .inl (ka 0, 3, .inl zs)), ((bd 20), .inl (ka 3, 5, .inr (.inr (.inr (.inr (nR na 34)))))), ((bd 21), .inl (ka 0, 4, .inl sa7)), ((bd 22), .inl (ka 0, 4, .inl ss7)), ((bd 23), .inl (ka 0, 4, .inl bb.2.2.2.1)), ((bd 24), .inl (ka 0, 4, .inl bb.2.2.2.2)), ((bd 5), .inr (6, [.int dn, .int up9, .ref (na 39), .ref (na 40)])), ((bd 6), .inr (5, [.ref (bd 25), .ref (bd 30), .int la])), ((bd 25), .inl (ka 4, 4, .inr (.inr (.inr (.inr (nB bd)))))), ((bd 26), .inl (ka 1, 40, .inr (.inl (rw9 0)))), ((bd 27), .inl (ka 1, 40, .inr (.inl (rw9 1)))), ((bd 28), .inl (ka 1, 40, .inr (.inl (rw9 2)))), ((bd 29), .inl (ka 1, 40, .inr (.inl (rw9 3)))), ((bd 30), .inl (ka 0, 4, .inl sz)), (q, .inr (8, mX ad (bI o) la (nI L) sz9 re9 tr bm (Int64.ofInt b0) (Int64.ofInt b1))), ((ad 0), .inl (ka 0, 4, .inl sz)), ((ad 1), .inl (ka 1, 160, .inr (.inl it))), ((ad 2), .inl (ka 1, 40, .inr (.inl as9))), ((ad 3), .inl (ka 1, 200, .inr (.inl nu))), ((ad 4), .inl (ka 0, 8, .inl mo)), ((ad 5), .inl (ka 0, 8, .inl an)), ((ad 6), .inl (ka 0, 8, .inl pl)), ((ad 7), .inl (ka 0, 24, .inl ho)), ((ad 8), .inl (ka 0, 2, .inl le)), ((ad 9), .inl (ka 1, 4, .inr (.inl pu))), ((ad 10), .inl (ka 0, 4, .inl ga)), ((ad 11), .inl (ka 0, 4, .inl lg)), ((ad 12), .inl (ka 0, 3, .inl pm)), ((ad 13), .inl (ka 0, 3, .inl pa)), ((ad 14), .inl (ka 0, 4, .inl sa8)), ((ad 15), .inl (ka 0, 4, .inl ss8)), ((ad 16), .inl (ka 0, 4, .inl ba)), ((ad 17), .inl (ka 0, 4, .inl bz))] ++ nP na N91) H locs := zB_pool hB rfl rfl rfl rfl
  have h7 := HPP
  refine lv_aload_n hx hb dL_law_869 rfl (lv_at hl 1 rfl) ?_
  refine lv_aload_n hx hb dL_law_870 rfl (lv_at hl 3 rfl) ?_
  refine lv_iload_n hx hb dL_law_871 rfl (lv_at hl 0 rfl) ?_
  refine lv_iconst (v := 1) hx hb dL_law_872 (by decide) ?_
  refine lv_iadd hx hb dL_law_873 ?_
  refine ztopi (y := nI (i + 1)) (nI_add i 1) ?_
  refine zscr hF hX hsb hAb hB (k := (i + 1)) (by omega) (by omega) dL_law_874 ?_
  refine lv_aload_n hx hb dL_law_875 rfl (lv_at hl 3 rfl) ?_
  refine lv_iload_n hx hb dL_law_876 rfl (lv_at hl 0 rfl) ?_
  refine lv_iconst (v := 2) hx hb dL_law_877 (by decide) ?_
  refine lv_iadd hx hb dL_law_878 ?_
  refine ztopi (y := nI (i + 2)) (nI_add i 2) ?_
  refine zscr hF hX hsb hAb hB (k := (i + 2)) (by omega) (by omega) dL_law_879 ?_
  refine zVi zm_L_96 hF hB (c_X8_found l D ka kb q ad o (la, (nI L), sz9, re9, tr, bm, (Int64.ofInt b0), (Int64.ofInt b1)) nu pm pa (xs (i + 1)) (xs (i + 2)) (hn.1) (hk.2.2.1)) [32, 36, 45, 46] rfl (by decide) [q, (ad 3), (ad 12), (ad 13)] (fun _ => rfl) rfl 32 8 rfl rfl rfl ⟨Nat.le_of_ble_eq_true rfl, Nat.le_of_ble_eq_true rfl⟩ rfl hl.1 (Nat.le_of_ble_eq_true rfl) ⟨Nat.le_of_ble_eq_true rfl, Nat.le_of_ble_eq_true rfl⟩ dL_law_880 ?_
  clear hB
  try clear locs
  try clear H
  intro r2 u2 H locs hp hB
  obtain ⟨o22, nu22⟩ := u2
  have hp2 : r2 = (foW (xs (i + 1)) (xs (i + 2)) (la, (nI L), sz9, re9, tr, bm, (Int64.ofInt b0), (Int64.ofInt b1)).2.2.2.2.1 pm pa (getN nu)).1 ∧ ∀ k9, k9 < 12 → getN nu22 k9 = upG (getN nu) (foW (xs (i + 1)) (xs (i + 2)) (la, (nI L), sz9, re9, tr, bm, (Int64.ofInt b0), (Int64.ofInt b1)).2.2.2.2.1 pm pa (getN nu)).2 k9 := hp
  have HPP := hp2
  replace hB : zB D A s ([((bd 31), .inr (7, [.ref (bd 0), .ref (bd 1), .ref (na 6), .ref (na 7), .ref (bd 2), .ref (bd 3), .ref (bd 4), .ref (bd 5), .ref (bd 6)])), ((bd 0), .inr (2, [.int (bI o1), .ref (na 25), .ref (na 26), .ref (na 27)])), ((bd 1), .inl (ka 3, 6, .inr (.inr (.inr (.inr (nR na 0)))))), ((bd 2), .inr (3, [.int (nI L), .ref (bd 7), .ref (bd 8), .ref (bd 9), .ref (bd 10), .ref (bd 11), .int sz9, .int re9])), ((bd 7), .inl (ka 0, 8, .inl mo)), ((bd 8), .inl (ka 0, 8, .inl an)), ((bd 9), .inl (ka 0, 8, .inl pl)), ((bd 10), .inl (ka 0, 24, .inl ho)), ((bd 11), .inl (ka 0, 2, .inl le)), ((bd 3), .inr (0, [.ref (bd 12), .ref (bd 13), .ref (bd 14), .ref (bd 15), .ref (bd 16), .ref (bd 17), .ref (na 21), .ref (na 22), .ref (na 23), .ref (na 24)])), ((bd 12), .inr (2, [.int (bI o91), .ref (na 28), .ref (na 29), .ref (na 30)])), ((bd 13), .inl (ka 0, 8, .inl st)), ((bd 14), .inl (ka 2, 3, .inl (kI kp))), ((bd 15), .inl (ka 3, 6, .inr (.inr (.inr (.inr (nR na 8)))))), ((bd 16), .inl (ka 3, 3, .inr (.inr (.inr (.inr (nR na 14)))))), ((bd 17), .inl (ka 3, 4, .inr (.inr (.inr (.inr (nR na 17)))))), ((bd 4), .inr (4, [.ref (bd 18), .ref (bd 19), .int cnt, .int opb, .int rch, .int wnt, .ref (bd 20), .ref (bd 21), .ref (bd 22), .int bb.1, .ref (bd 23), .ref (bd 24), .long (Int64.ofInt bb.2.1), .long (Int64.ofInt bb.2.2.1)])), ((bd 18), .inr (2, [.int (bI o3), .ref (na 31), .ref (na 32), .ref (na 33)])), ((bd 19), .inl (ka 0, 3, .inl zs)), ((bd 20), .inl (ka 3, 5, .inr (.inr (.inr (.inr (nR na 34)))))), ((bd 21), .inl (ka 0, 4, .inl sa7)), ((bd 22), .inl (ka 0, 4, .inl ss7)), ((bd 23), .inl (ka 0, 4, .inl bb.2.2.2.1)), ((bd 24), .inl (ka 0, 4, .inl bb.2.2.2.2)), ((bd 5), .inr (6, [.int dn, .int up9, .ref (na 39), .ref (na 40)])), ((bd 6), .inr (5, [.ref (bd 25), .ref (bd 30), .int la])), ((bd 25), .inl (ka 4, 4, .inr (.inr (.inr (.inr (nB bd)))))), ((bd 26), .inl (ka 1, 40, .inr (.inl (rw9 0)))), ((bd 27), .inl (ka 1, 40, .inr (.inl (rw9 1)))), ((bd 28), .inl (ka 1, 40, .inr (.inl (rw9 2)))), ((bd 29), .inl (ka 1, 40, .inr (.inl (rw9 3)))), ((bd 30), .inl (ka 0, 4, .inl sz)), (q, .inr (8, mX ad (bI o22) la (nI L) sz9 re9 tr bm (Int64.ofInt b0) (Int64.ofInt b1))), ((ad 0), .inl (ka 0, 4, .inl sz)), ((ad 1), .inl (ka 1, 160, .inr (.inl it))), ((ad 2), .inl (ka 1, 40, .inr (.inl as9))), ((ad 3), .inl (ka 1, 200, .inr (.inl nu22))), ((ad 4), .inl (ka 0, 8, .inl mo)), ((ad 5), .inl (ka 0, 8, .inl an)), ((ad 6), .inl (ka 0, 8, .inl pl)), ((ad 7), .inl (ka 0, 24, .inl ho)), ((ad 8), .inl (ka 0, 2, .inl le)), ((ad 9), .inl (ka 1, 4, .inr (.inl pu))), ((ad 10), .inl (ka 0, 4, .inl ga)), ((ad 11), .inl (ka 0, 4, .inl lg)), ((ad 12), .inl (ka 0, 3, .inl pm)), ((ad 13), .inl (ka 0, 3, .inl pa)), ((ad 14), .inl (ka 0, 4, .inl sa8)), ((ad 15), .inl (ka 0, 4, .inl ss8)), ((ad 16), .inl (ka 0, 4, .inl ba)), ((ad 17), .inl (ka 0, 4, .inl bz))] ++ nP na N91) H locs := hB
  have h8 := HPP
  refine lv_icmp_eq (tgt := 1359) hx hb dL_law_883 (by decide) (fun h883 => ?_) (fun h883 => ?_)
  · skip
    have h9 := fo_tie hn hk h7.1
    have hn9 := hn.up _ h9.2.2 (N' := N91) (nu' := nu22) (fun k h => (h7.2 k (by omega) (by omega)).trans (h9.2.1 k)) (fun j h => (h7.2 _ (by omega) (by omega)).trans (h9.2.1 _)) (fun k h => h8.2 k h)
    have hk9 := hk.keep (N' := N91) (fun k h1 h2 => by
      rw [h7.2 _ (by omega) (by omega), h9.2.1]
      cases e9 : (foW (xs (i + 1)) (xs (i + 2)) tr pm pa (getN nu)).2 with
      | none => rfl
      | some u =>
        obtain ⟨k9, v9⟩ := u
        have h6 := (h9.2.2 k9 v9 e9).1
        rw [upG_s]
        exact if_neg (by omega))
    refine kk _ H locs ?_ hB ls (lv_sub hl [0, 1, 2, 3] rfl)
    exact ⟨L, mo, an, pl, ho, le, sz, la, sz9, re9, N91, o1, o91, o3, st, kp, cnt, opb, rch, wnt, bb, zs, sa7, ss7, dn, up9, rw9, o22, tr, bm, b0, b1, it, as9, nu22, pu, ga, lg, pm, pa, sa8, ss8, ba, bz, rfl, ha, hbb, hc, hn9, hk9, hi9⟩
  · skip
    exact absurd ((fo_tie hn hk h7.1).1.trans h8.1.symm) h883

set_option maxHeartbeats 4000000 in
set_option maxRecDepth 100000 in
theorem lwc_effect (l : Launch) (D : va_G) (ka : Nat → ClassId) (kb : Nat → Nat) (bd na ad : Nat → Nat) (q sb L9 : Nat) (xs : Nat → Int32) {p : Program} {e : Env} {s : State} {m : MethodId} {args : Array Value} {below : List Frame} {meth : Method} {c : Code} {A : Nat → Prop} {Q : State → Prop} {rt : Option FieldType} (hF : zF p s m args meth c D ka kb A cL_law RL 4 rt) (hX : va_X sb L9 xs s s.heap) (hsb : sb < s.heap.size) (hAb : ¬ A sb) (i : Nat) (hi : i + 7 ≤ L9) (hL9 : L9 ≤ 3584) {ws : va_W} {H : Heap} {locs : List Loc} (hI : LI ka bd na ad q ws) (hB : zB D A s ws H locs)
    (kk : ∀ (ws : va_W) (H : Heap) (locs : List Loc), LI ka bd na ad q ws → zB D A s ws H locs → ∀ ls : Array Slot, lv_has ls 4 [(3, .int (nI i)), (2, .ref q), (1, .ref (bd 31)), (0, .ref sb)] → W p l e room_1 s m args below meth c H locs 92 1052 Q (F0 m 1359 ls [])) {ls : Array Slot} (hl : lv_has ls 4 [(3, .int (nI i)), (2, .ref q), (1, .ref (bd 31)), (0, .ref sb)]) : W p l e room_1 s m args below meth c H locs 92 1052 Q (F0 m 888 ls []) := by
  have hx : p.tables.exec = Jvm.exec := hF.1.1
  have hb : c.code = cL_law := hF.1.2.1
  obtain ⟨L, mo, an, pl, ho, le, sz, la, sz9, re9, N, o1, o2, o3, st, kp, cnt, opb, rch, wnt, bb, zs, sa7, ss7, dn, up9, rw9, o, tr, bm, b0, b1, it, as9, nu, pu, ga, lg, pm, pa, sa8, ss8, ba, bz, rfl, ha, hbb, hc, hn, hk, hi9⟩ := hI
  have hok := ha.1
  have hoh := ha.2.1
  have hre := ha.2.2.1
  have hszk := ha.2.2.2.1
  have hsz := ha.2.2.2.2
  have hB9 := hc.1
  have hb01 := hc.2
  have hd6 : ∀ k, k < 6 → 0 < (N k).2.2.2.2.toInt := fun k h => by rw [hn.2.1 k h]; exact hn.1 k (by omega)
  replace hB : zB D A s ([((bd 31), .inr (7, [.ref (bd 0), .ref (bd 1), .ref (na 6), .ref (na 7), .ref (bd 2), .ref (bd 3), .ref (bd 4), .ref (bd 5), .ref (bd 6)])), ((bd 0), .inr (2, [.int (bI o1), .ref (na 25), .ref (na 26), .ref (na 27)])), ((bd 1), .inl (ka 3, 6, .inr (.inr (.inr (.inr (nR na 0)))))), ((bd 2), .inr (3, [.int (nI L), .ref (bd 7), .ref (bd 8), .ref (bd 9), .ref (bd 10), .ref (bd 11), .int sz9, .int re9])), ((bd 7), .inl (ka 0, 8, .inl mo)), ((bd 8), .inl (ka 0, 8, .inl an)), ((bd 9), .inl (ka 0, 8, .inl pl)), ((bd 10), .inl (ka 0, 24, .inl ho)), ((bd 11), .inl (ka 0, 2, .inl le)), ((bd 3), .inr (0, [.ref (bd 12), .ref (bd 13), .ref (bd 14), .ref (bd 15), .ref (bd 16), .ref (bd 17), .ref (na 21), .ref (na 22), .ref (na 23), .ref (na 24)])), ((bd 12), .inr (2, [.int (bI o2), .ref (na 28), .ref (na 29), .ref (na 30)])), ((bd 13), .inl (ka 0, 8, .inl st)), ((bd 14), .inl (ka 2, 3, .inl (kI kp))), ((bd 15), .inl (ka 3, 6, .inr (.inr (.inr (.inr (nR na 8)))))), ((bd 16), .inl (ka 3, 3, .inr (.inr (.inr (.inr (nR na 14)))))), ((bd 17), .inl (ka 3, 4, .inr (.inr (.inr (.inr (nR na 17)))))), ((bd 4), .inr (4, [.ref (bd 18), .ref (bd 19), .int cnt, .int opb, .int rch, .int wnt, .ref (bd 20), .ref (bd 21), .ref (bd 22), .int bb.1, .ref (bd 23), .ref (bd 24), .long (Int64.ofInt bb.2.1), .long (Int64.ofInt bb.2.2.1)])), ((bd 18), .inr (2, [.int (bI o3), .ref (na 31), .ref (na 32), .ref (na 33)])), ((bd 19), .inl (ka 0, 3, .inl zs)), ((bd 20), .inl (ka 3, 5, .inr (.inr (.inr (.inr (nR na 34)))))), ((bd 21), .inl (ka 0, 4, .inl sa7)), ((bd 22), .inl (ka 0, 4, .inl ss7)), ((bd 23), .inl (ka 0, 4, .inl bb.2.2.2.1)), ((bd 24), .inl (ka 0, 4, .inl bb.2.2.2.2)), ((bd 5), .inr (6, [.int dn, .int up9, .ref (na 39), .ref (na 40)])), ((bd 6), .inr (5, [.ref (bd 25), .ref (bd 30), .int la])), ((bd 25), .inl (ka 4, 4, .inr (.inr (.inr (.inr (nB bd)))))), ((bd 26), .inl (ka 1, 40, .inr (.inl (rw9 0)))), ((bd 27), .inl (ka 1, 40, .inr (.inl (rw9 1)))), ((bd 28), .inl (ka 1, 40, .inr (.inl (rw9 2)))), ((bd 29), .inl (ka 1, 40, .inr (.inl (rw9 3)))), ((bd 30), .inl (ka 0, 4, .inl sz)), (q, .inr (8, mX ad (bI o) la (nI L) sz9 re9 tr bm (Int64.ofInt b0) (Int64.ofInt b1))), ((ad 0), .inl (ka 0, 4, .inl sz)), ((ad 1), .inl (ka 1, 160, .inr (.inl it))), ((ad 2), .inl (ka 1, 40, .inr (.inl as9))), ((ad 3), .inl (ka 1, 200, .inr (.inl nu))), ((ad 4), .inl (ka 0, 8, .inl mo)), ((ad 5), .inl (ka 0, 8, .inl an)), ((ad 6), .inl (ka 0, 8, .inl pl)), ((ad 7), .inl (ka 0, 24, .inl ho)), ((ad 8), .inl (ka 0, 2, .inl le)), ((ad 9), .inl (ka 1, 4, .inr (.inl pu))), ((ad 10), .inl (ka 0, 4, .inl ga)), ((ad 11), .inl (ka 0, 4, .inl lg)), ((ad 12), .inl (ka 0, 3, .inl pm)), ((ad 13), .inl (ka 0, 3, .inl pa)), ((ad 14), .inl (ka 0, 4, .inl sa8)), ((ad 15), .inl (ka 0, 4, .inl ss8)), ((ad 16), .inl (ka 0, 4, .inl ba)), ((ad 17), .inl (ka 0, 4, .inl bz))] ++ nP na N) H locs := hB
  refine lv_aload_n hx hb dL_law_888 rfl (lv_at hl 2 rfl) ?_
  refine lv_aload_n hx hb dL_law_889 rfl (lv_at hl 3 rfl) ?_
  refine lv_iload_n hx hb dL_law_890 rfl (lv_at hl 0 rfl) ?_
  refine lv_iconst (v := 1) hx hb dL_law_891 (by decide) ?_
  refine lv_iadd hx hb dL_law_892 ?_
  refine ztopi (y := nI (i + 1)) (nI_add i 1) ?_
  refine zscr hF hX hsb hAb hB (k := (i + 1)) (by omega) (by omega) dL_law_893 ?_
  refine lv_aload_n hx hb dL_law_894 rfl (lv_at hl 3 rfl) ?_
  refine lv_iload_n hx hb dL_law_895 rfl (lv_at hl 0 rfl) ?_
  refine lv_iconst (v := 2) hx hb dL_law_896 (by decide) ?_
  refine lv_iadd hx hb dL_law_897 ?_
  refine ztopi (y := nI (i + 2)) (nI_add i 2) ?_
  refine zscr hF hX hsb hAb hB (k := (i + 2)) (by omega) (by omega) dL_law_898 ?_
  refine lv_aload_n hx hb dL_law_899 rfl (lv_at hl 3 rfl) ?_
  refine lv_iload_n hx hb dL_law_900 rfl (lv_at hl 0 rfl) ?_
  refine lv_iconst (v := 3) hx hb dL_law_901 (by decide) ?_
  refine lv_iadd hx hb dL_law_902 ?_
  refine ztopi (y := nI (i + 3)) (nI_add i 3) ?_
  refine zscr hF hX hsb hAb hB (k := (i + 3)) (by omega) (by omega) dL_law_903 ?_
  refine zVi zm_L_97 hF hB (c_X7_effect l D ka kb bd na o2 pm pa kp N (xs (i + 1)) (xs (i + 2)) (xs (i + 3)) ((fun j h => by rw [hn.2.2 j h]; exact hn.1 _ (by omega))) ((fun k a b e => hk.2.2.2 k a b (by rw [← hk.1 k b]; exact e))) ((fun k a b e => by
    obtain ⟨m1, x, x1, x2⟩ := hk.2.2.1 k b (by omega) (by rw [← hk.1 k b]; exact e)
    exact ⟨m1, by rw [x2, aNn x1 (by decide)]; exact x1⟩))) ([0, 2, 9, 10, 13, 14, 15, 12] ++ npr 51) (zsel_pool rfl rfl) (va_nd_pool rfl rfl) ([(bd 31), (bd 1), (bd 3), (bd 12), (bd 15), (bd 16), (bd 17), (bd 14)] ++ nA na) (fun _ => zad_pool rfl) (zad_pool rfl) 0 7 rfl rfl rfl ⟨Nat.le_of_ble_eq_true rfl, Nat.le_of_ble_eq_true rfl⟩ rfl hl.1 (Nat.le_of_ble_eq_true rfl) ⟨Nat.le_of_ble_eq_true rfl, Nat.le_of_ble_eq_true rfl⟩ dL_law_904 ?_
  clear hB
  try clear locs
  try clear H
  intro r1 u1 H locs hp hB
  obtain ⟨N91, o91⟩ := u1
  have hp1 : r1 = (if exK (xs (i + 1)) (xs (i + 2)) (xs (i + 3)) = false then (-2 : Int32) else if ¬ (kp 0 = true ∧ kp (aN (xs (i + 1)) + 1) = true) then -3 else if efO (gC N) pm pa (aN (xs (i + 1))) (aN (xs (i + 2))) = true then -5 else 1) ∧ (∀ k9, k9 < 17 → k9 ≠ 6 → N91 k9 = if r1 = 1 ∧ k9 = aN (xs (i + 3)) then efV (gC N) pm pa (aN (xs (i + 1))) (aN (xs (i + 2))) else N k9) := hp
  have HPP := hp1
  replace hB : zB D A s ([((bd 31), .inr (7, [.ref (bd 0), .ref (bd 1), .ref (na 6), .ref (na 7), .ref (bd 2), .ref (bd 3), .ref (bd 4), .ref (bd 5), .ref (bd 6)])), ((bd 0), .inr (2, [.int (bI o1), .ref (na 25), .ref (na 26), .ref (na 27)])), ((bd 1), .inl (ka 3, 6, .inr (.inr (.inr (.inr (nR na 0)))))), ((bd 2), .inr (3, [.int (nI L), .ref (bd 7), .ref (bd 8), .ref (bd 9), .ref (bd 10), .ref (bd 11), .int sz9, .int re9])), ((bd 7), .inl (ka 0, 8, .inl mo)), ((bd 8), .inl (ka 0, 8, .inl an)), ((bd 9), .inl (ka 0, 8, .inl pl)), ((bd 10), .inl (ka 0, 24, .inl ho)), ((bd 11), .inl (ka 0, 2, .inl le)), ((bd 3), .inr (0, [.ref (bd 12), .ref (bd 13), .ref (bd 14), .ref (bd 15), .ref (bd 16), .ref (bd 17), .ref (na 21), .ref (na 22), .ref (na 23), .ref (na 24)])), ((bd 12), .inr (2, [.int (bI o91), .ref (na 28), .ref (na 29), .ref (na 30)])), ((bd 13), .inl (ka 0, 8, .inl st)), ((bd 14), .inl (ka 2, 3, .inl (kI kp))), ((bd 15), .inl (ka 3, 6, .inr (.inr (.inr (.inr (nR na 8)))))), ((bd 16), .inl (ka 3, 3, .inr (.inr (.inr (.inr (nR na 14)))))), ((bd 17), .inl (ka 3, 4, .inr (.inr (.inr (.inr (nR na 17)))))), ((bd 4), .inr (4, [.ref (bd 18), .ref (bd 19), .int cnt, .int opb, .int rch, .int wnt, .ref (bd 20), .ref (bd 21), .ref (bd 22), .int bb.1, .ref (bd 23), .ref (bd 24), .long (Int64.ofInt bb.2.1), .long (Int64.ofInt bb.2.2.1)])), ((bd 18), .inr (2, [.int (bI o3), .ref (na 31), .ref (na 32), .ref (na 33)])), ((bd 19), .inl (ka 0, 3, .inl zs)), ((bd 20), .inl (ka 3, 5, .inr (.inr (.inr (.inr (nR na 34)))))), ((bd 21), .inl (ka 0, 4, .inl sa7)), ((bd 22), .inl (ka 0, 4, .inl ss7)), ((bd 23), .inl (ka 0, 4, .inl bb.2.2.2.1)), ((bd 24), .inl (ka 0, 4, .inl bb.2.2.2.2)), ((bd 5), .inr (6, [.int dn, .int up9, .ref (na 39), .ref (na 40)])), ((bd 6), .inr (5, [.ref (bd 25), .ref (bd 30), .int la])), ((bd 25), .inl (ka 4, 4, .inr (.inr (.inr (.inr (nB bd)))))), ((bd 26), .inl (ka 1, 40, .inr (.inl (rw9 0)))), ((bd 27), .inl (ka 1, 40, .inr (.inl (rw9 1)))), ((bd 28), .inl (ka 1, 40, .inr (.inl (rw9 2)))), ((bd 29), .inl (ka 1, 40, .inr (.inl (rw9 3)))), ((bd 30), .inl (ka 0, 4, .inl sz)), (q, .inr (8, mX ad (bI o) la (nI L) sz9 re9 tr bm (Int64.ofInt b0) (Int64.ofInt b1))), ((ad 0), .inl (ka 0, 4, .inl sz)), ((ad 1), .inl (ka 1, 160, .inr (.inl it))), ((ad 2), .inl (ka 1, 40, .inr (.inl as9))), ((ad 3), .inl (ka 1, 200, .inr (.inl nu))), ((ad 4), .inl (ka 0, 8, .inl mo)), ((ad 5), .inl (ka 0, 8, .inl an)), ((ad 6), .inl (ka 0, 8, .inl pl)), ((ad 7), .inl (ka 0, 24, .inl ho)), ((ad 8), .inl (ka 0, 2, .inl le)), ((ad 9), .inl (ka 1, 4, .inr (.inl pu))), ((ad 10), .inl (ka 0, 4, .inl ga)), ((ad 11), .inl (ka 0, 4, .inl lg)), ((ad 12), .inl (ka 0, 3, .inl pm)), ((ad 13), .inl (ka 0, 3, .inl pa)), ((ad 14), .inl (ka 0, 4, .inl sa8)), ((ad 15), .inl (ka 0, 4, .inl ss8)), ((ad 16), .inl (ka 0, 4, .inl ba)), ((ad 17), .inl (ka 0, 4, .inl bz))] ++ nP na N91) H locs := zB_pool hB rfl rfl rfl rfl
  have h7 := HPP
  refine lv_aload_n hx hb dL_law_907 rfl (lv_at hl 1 rfl) ?_
  refine lv_aload_n hx hb dL_law_908 rfl (lv_at hl 3 rfl) ?_
  refine lv_iload_n hx hb dL_law_909 rfl (lv_at hl 0 rfl) ?_
  refine lv_iconst (v := 1) hx hb dL_law_910 (by decide) ?_
  refine lv_iadd hx hb dL_law_911 ?_
  refine ztopi (y := nI (i + 1)) (nI_add i 1) ?_
  refine zscr hF hX hsb hAb hB (k := (i + 1)) (by omega) (by omega) dL_law_912 ?_
  refine lv_aload_n hx hb dL_law_913 rfl (lv_at hl 3 rfl) ?_
  refine lv_iload_n hx hb dL_law_914 rfl (lv_at hl 0 rfl) ?_
  refine lv_iconst (v := 2) hx hb dL_law_915 (by decide) ?_
  refine lv_iadd hx hb dL_law_916 ?_
  refine ztopi (y := nI (i + 2)) (nI_add i 2) ?_
  refine zscr hF hX hsb hAb hB (k := (i + 2)) (by omega) (by omega) dL_law_917 ?_
  refine lv_aload_n hx hb dL_law_918 rfl (lv_at hl 3 rfl) ?_
  refine lv_iload_n hx hb dL_law_919 rfl (lv_at hl 0 rfl) ?_
  refine lv_iconst (v := 3) hx hb dL_law_920 (by decide) ?_
  refine lv_iadd hx hb dL_law_921 ?_
  refine ztopi (y := nI (i + 3)) (nI_add i 3) ?_
  refine zscr hF hX hsb hAb hB (k := (i + 3)) (by omega) (by omega) dL_law_922 ?_
  refine zVi zm_L_100 hF hB (c_X8_effect l D ka kb q ad o (la, (nI L), sz9, re9, tr, bm, (Int64.ofInt b0), (Int64.ofInt b1)) nu pm pa (xs (i + 1)) (xs (i + 2)) (xs (i + 3)) (hn.1) (hk.2.2.1)) [32, 36, 45, 46] rfl (by decide) [q, (ad 3), (ad 12), (ad 13)] (fun _ => rfl) rfl 32 8 rfl rfl rfl ⟨Nat.le_of_ble_eq_true rfl, Nat.le_of_ble_eq_true rfl⟩ rfl hl.1 (Nat.le_of_ble_eq_true rfl) ⟨Nat.le_of_ble_eq_true rfl, Nat.le_of_ble_eq_true rfl⟩ dL_law_923 ?_
  clear hB
  try clear locs
  try clear H
  intro r2 u2 H locs hp hB
  obtain ⟨o22, nu22⟩ := u2
  have hp2 : r2 = (exW (xs (i + 1)) (xs (i + 2)) (xs (i + 3)) (la, (nI L), sz9, re9, tr, bm, (Int64.ofInt b0), (Int64.ofInt b1)).2.2.2.2.1 pm pa (getN nu)).1 ∧ ∀ k9, k9 < 12 → getN nu22 k9 = upG (getN nu) (exW (xs (i + 1)) (xs (i + 2)) (xs (i + 3)) (la, (nI L), sz9, re9, tr, bm, (Int64.ofInt b0), (Int64.ofInt b1)).2.2.2.2.1 pm pa (getN nu)).2 k9 := hp
  have HPP := hp2
  replace hB : zB D A s ([((bd 31), .inr (7, [.ref (bd 0), .ref (bd 1), .ref (na 6), .ref (na 7), .ref (bd 2), .ref (bd 3), .ref (bd 4), .ref (bd 5), .ref (bd 6)])), ((bd 0), .inr (2, [.int (bI o1), .ref (na 25), .ref (na 26), .ref (na 27)])), ((bd 1), .inl (ka 3, 6, .inr (.inr (.inr (.inr (nR na 0)))))), ((bd 2), .inr (3, [.int (nI L), .ref (bd 7), .ref (bd 8), .ref (bd 9), .ref (bd 10), .ref (bd 11), .int sz9, .int re9])), ((bd 7), .inl (ka 0, 8, .inl mo)), ((bd 8), .inl (ka 0, 8, .inl an)), ((bd 9), .inl (ka 0, 8, .inl pl)), ((bd 10), .inl (ka 0, 24, .inl ho)), ((bd 11), .inl (ka 0, 2, .inl le)), ((bd 3), .inr (0, [.ref (bd 12), .ref (bd 13), .ref (bd 14), .ref (bd 15), .ref (bd 16), .ref (bd 17), .ref (na 21), .ref (na 22), .ref (na 23), .ref (na 24)])), ((bd 12), .inr (2, [.int (bI o91), .ref (na 28), .ref (na 29), .ref (na 30)])), ((bd 13), .inl (ka 0, 8, .inl st)), ((bd 14), .inl (ka 2, 3, .inl (kI kp))), ((bd 15), .inl (ka 3, 6, .inr (.inr (.inr (.inr (nR na 8)))))), ((bd 16), .inl (ka 3, 3, .inr (.inr (.inr (.inr (nR na 14)))))), ((bd 17), .inl (ka 3, 4, .inr (.inr (.inr (.inr (nR na 17)))))), ((bd 4), .inr (4, [.ref (bd 18), .ref (bd 19), .int cnt, .int opb, .int rch, .int wnt, .ref (bd 20), .ref (bd 21), .ref (bd 22), .int bb.1, .ref (bd 23), .ref (bd 24), .long (Int64.ofInt bb.2.1), .long (Int64.ofInt bb.2.2.1)])), ((bd 18), .inr (2, [.int (bI o3), .ref (na 31), .ref (na 32), .ref (na 33)])), ((bd 19), .inl (ka 0, 3, .inl zs)), ((bd 20), .inl (ka 3, 5, .inr (.inr (.inr (.inr (nR na 34)))))), ((bd 21), .inl (ka 0, 4, .inl sa7)), ((bd 22), .inl (ka 0, 4, .inl ss7)), ((bd 23), .inl (ka 0, 4, .inl bb.2.2.2.1)), ((bd 24), .inl (ka 0, 4, .inl bb.2.2.2.2)), ((bd 5), .inr (6, [.int dn, .int up9, .ref (na 39), .ref (na 40)])), ((bd 6), .inr (5, [.ref (bd 25), .ref (bd 30), .int la])), ((bd 25), .inl (ka 4, 4, .inr (.inr (.inr (.inr (nB bd)))))), ((bd 26), .inl (ka 1, 40, .inr (.inl (rw9 0)))), ((bd 27), .inl (ka 1, 40, .inr (.inl (rw9 1)))), ((bd 28), .inl (ka 1, 40, .inr (.inl (rw9 2)))), ((bd 29), .inl (ka 1, 40, .inr (.inl (rw9 3)))), ((bd 30), .inl (ka 0, 4, .inl sz)), (q, .inr (8, mX ad (bI o22) la (nI L) sz9 re9 tr bm (Int64.ofInt b0) (Int64.ofInt b1))), ((ad 0), .inl (ka 0, 4, .inl sz)), ((ad 1), .inl (ka 1, 160, .inr (.inl it))), ((ad 2), .inl (ka 1, 40, .inr (.inl as9))), ((ad 3), .inl (ka 1, 200, .inr (.inl nu22))), ((ad 4), .inl (ka 0, 8, .inl mo)), ((ad 5), .inl (ka 0, 8, .inl an)), ((ad 6), .inl (ka 0, 8, .inl pl)), ((ad 7), .inl (ka 0, 24, .inl ho)), ((ad 8), .inl (ka 0, 2, .inl le)), ((ad 9), .inl (ka 1, 4, .inr (.inl pu))), ((ad 10), .inl (ka 0, 4, .inl ga)), ((ad 11), .inl (ka 0, 4, .inl lg)), ((ad 12), .inl (ka 0, 3, .inl pm)), ((ad 13), .inl (ka 0, 3, .inl pa)), ((ad 14), .inl (ka 0, 4, .inl sa8)), ((ad 15), .inl (ka 0, 4, .inl ss8)), ((ad 16), .inl (ka 0, 4, .inl ba)), ((ad 17), .inl (ka 0, 4, .inl bz))] ++ nP na N91) H locs := hB
  have h8 := HPP
  refine lv_icmp_eq (tgt := 1359) hx hb dL_law_926 (by decide) (fun h926 => ?_) (fun h926 => ?_)
  · skip
    have h9 := ex_tie hn hk h7.1
    have hn9 := hn.up _ h9.2.2 (N' := N91) (nu' := nu22) (fun k h => (h7.2 k (by omega) (by omega)).trans (h9.2.1 k)) (fun j h => (h7.2 _ (by omega) (by omega)).trans (h9.2.1 _)) (fun k h => h8.2 k h)
    have hk9 := hk.keep (N' := N91) (fun k h1 h2 => by
      rw [h7.2 _ (by omega) (by omega), h9.2.1]
      cases e9 : (exW (xs (i + 1)) (xs (i + 2)) (xs (i + 3)) tr pm pa (getN nu)).2 with
      | none => rfl
      | some u =>
        obtain ⟨k9, v9⟩ := u
        have h6 := (h9.2.2 k9 v9 e9).1
        rw [upG_s]
        exact if_neg (by omega))
    refine kk _ H locs ?_ hB ls (lv_sub hl [0, 1, 2, 3] rfl)
    exact ⟨L, mo, an, pl, ho, le, sz, la, sz9, re9, N91, o1, o91, o3, st, kp, cnt, opb, rch, wnt, bb, zs, sa7, ss7, dn, up9, rw9, o22, tr, bm, b0, b1, it, as9, nu22, pu, ga, lg, pm, pa, sa8, ss8, ba, bz, rfl, ha, hbb, hc, hn9, hk9, hi9⟩
  · skip
    exact absurd ((ex_tie hn hk h7.1).1.trans h8.1.symm) h926

set_option maxHeartbeats 4000000 in
set_option maxRecDepth 100000 in
theorem lwc_split (l : Launch) (D : va_G) (ka : Nat → ClassId) (kb : Nat → Nat) (bd na ad : Nat → Nat) (q sb L9 : Nat) (xs : Nat → Int32) {p : Program} {e : Env} {s : State} {m : MethodId} {args : Array Value} {below : List Frame} {meth : Method} {c : Code} {A : Nat → Prop} {Q : State → Prop} {rt : Option FieldType} (hF : zF p s m args meth c D ka kb A cL_law RL 4 rt) (hX : va_X sb L9 xs s s.heap) (hsb : sb < s.heap.size) (hAb : ¬ A sb) (i : Nat) (hi : i + 7 ≤ L9) (hL9 : L9 ≤ 3584) {ws : va_W} {H : Heap} {locs : List Loc} (hI : LI ka bd na ad q ws) (hB : zB D A s ws H locs)
    (kk : ∀ (ws : va_W) (H : Heap) (locs : List Loc), LI ka bd na ad q ws → zB D A s ws H locs → ∀ ls : Array Slot, lv_has ls 4 [(3, .int (nI i)), (2, .ref q), (1, .ref (bd 31)), (0, .ref sb)] → W p l e room_1 s m args below meth c H locs 92 1052 Q (F0 m 1359 ls [])) {ls : Array Slot} (hl : lv_has ls 4 [(3, .int (nI i)), (2, .ref q), (1, .ref (bd 31)), (0, .ref sb)]) : W p l e room_1 s m args below meth c H locs 92 1052 Q (F0 m 1007 ls []) := by
  have hx : p.tables.exec = Jvm.exec := hF.1.1
  have hb : c.code = cL_law := hF.1.2.1
  obtain ⟨L, mo, an, pl, ho, le, sz, la, sz9, re9, N, o1, o2, o3, st, kp, cnt, opb, rch, wnt, bb, zs, sa7, ss7, dn, up9, rw9, o, tr, bm, b0, b1, it, as9, nu, pu, ga, lg, pm, pa, sa8, ss8, ba, bz, rfl, ha, hbb, hc, hn, hk, hi9⟩ := hI
  have hok := ha.1
  have hoh := ha.2.1
  have hre := ha.2.2.1
  have hszk := ha.2.2.2.1
  have hsz := ha.2.2.2.2
  have hB9 := hc.1
  have hb01 := hc.2
  have hd6 : ∀ k, k < 6 → 0 < (N k).2.2.2.2.toInt := fun k h => by rw [hn.2.1 k h]; exact hn.1 k (by omega)
  replace hB : zB D A s ([((bd 31), .inr (7, [.ref (bd 0), .ref (bd 1), .ref (na 6), .ref (na 7), .ref (bd 2), .ref (bd 3), .ref (bd 4), .ref (bd 5), .ref (bd 6)])), ((bd 0), .inr (2, [.int (bI o1), .ref (na 25), .ref (na 26), .ref (na 27)])), ((bd 1), .inl (ka 3, 6, .inr (.inr (.inr (.inr (nR na 0)))))), ((bd 2), .inr (3, [.int (nI L), .ref (bd 7), .ref (bd 8), .ref (bd 9), .ref (bd 10), .ref (bd 11), .int sz9, .int re9])), ((bd 7), .inl (ka 0, 8, .inl mo)), ((bd 8), .inl (ka 0, 8, .inl an)), ((bd 9), .inl (ka 0, 8, .inl pl)), ((bd 10), .inl (ka 0, 24, .inl ho)), ((bd 11), .inl (ka 0, 2, .inl le)), ((bd 3), .inr (0, [.ref (bd 12), .ref (bd 13), .ref (bd 14), .ref (bd 15), .ref (bd 16), .ref (bd 17), .ref (na 21), .ref (na 22), .ref (na 23), .ref (na 24)])), ((bd 12), .inr (2, [.int (bI o2), .ref (na 28), .ref (na 29), .ref (na 30)])), ((bd 13), .inl (ka 0, 8, .inl st)), ((bd 14), .inl (ka 2, 3, .inl (kI kp))), ((bd 15), .inl (ka 3, 6, .inr (.inr (.inr (.inr (nR na 8)))))), ((bd 16), .inl (ka 3, 3, .inr (.inr (.inr (.inr (nR na 14)))))), ((bd 17), .inl (ka 3, 4, .inr (.inr (.inr (.inr (nR na 17)))))), ((bd 4), .inr (4, [.ref (bd 18), .ref (bd 19), .int cnt, .int opb, .int rch, .int wnt, .ref (bd 20), .ref (bd 21), .ref (bd 22), .int bb.1, .ref (bd 23), .ref (bd 24), .long (Int64.ofInt bb.2.1), .long (Int64.ofInt bb.2.2.1)])), ((bd 18), .inr (2, [.int (bI o3), .ref (na 31), .ref (na 32), .ref (na 33)])), ((bd 19), .inl (ka 0, 3, .inl zs)), ((bd 20), .inl (ka 3, 5, .inr (.inr (.inr (.inr (nR na 34)))))), ((bd 21), .inl (ka 0, 4, .inl sa7)), ((bd 22), .inl (ka 0, 4, .inl ss7)), ((bd 23), .inl (ka 0, 4, .inl bb.2.2.2.1)), ((bd 24), .inl (ka 0, 4, .inl bb.2.2.2.2)), ((bd 5), .inr (6, [.int dn, .int up9, .ref (na 39), .ref (na 40)])), ((bd 6), .inr (5, [.ref (bd 25), .ref (bd 30), .int la])), ((bd 25), .inl (ka 4, 4, .inr (.inr (.inr (.inr (nB bd)))))), ((bd 26), .inl (ka 1, 40, .inr (.inl (rw9 0)))), ((bd 27), .inl (ka 1, 40, .inr (.inl (rw9 1)))), ((bd 28), .inl (ka 1, 40, .inr (.inl (rw9 2)))), ((bd 29), .inl (ka 1, 40, .inr (.inl (rw9 3)))), ((bd 30), .inl (ka 0, 4, .inl sz)), (q, .inr (8, mX ad (bI o) la (nI L) sz9 re9 tr bm (Int64.ofInt b0) (Int64.ofInt b1))), ((ad 0), .inl (ka 0, 4, .inl sz)), ((ad 1), .inl (ka 1, 160, .inr (.inl it))), ((ad 2), .inl (ka 1, 40, .inr (.inl as9))), ((ad 3), .inl (ka 1, 200, .inr (.inl nu))), ((ad 4), .inl (ka 0, 8, .inl mo)), ((ad 5), .inl (ka 0, 8, .inl an)), ((ad 6), .inl (ka 0, 8, .inl pl)), ((ad 7), .inl (ka 0, 24, .inl ho)), ((ad 8), .inl (ka 0, 2, .inl le)), ((ad 9), .inl (ka 1, 4, .inr (.inl pu))), ((ad 10), .inl (ka 0, 4, .inl ga)), ((ad 11), .inl (ka 0, 4, .inl lg)), ((ad 12), .inl (ka 0, 3, .inl pm)), ((ad 13), .inl (ka 0, 3, .inl pa)), ((ad 14), .inl (ka 0, 4, .inl sa8)), ((ad 15), .inl (ka 0, 4, .inl ss8)), ((ad 16), .inl (ka 0, 4, .inl ba)), ((ad 17), .inl (ka 0, 4, .inl bz))] ++ nP na N) H locs := hB
  refine lv_aload_n hx hb dL_law_1007 rfl (lv_at hl 2 rfl) ?_
  refine lv_aload_n hx hb dL_law_1008 rfl (lv_at hl 3 rfl) ?_
  refine lv_iload_n hx hb dL_law_1009 rfl (lv_at hl 0 rfl) ?_
  refine lv_iconst (v := 1) hx hb dL_law_1010 (by decide) ?_
  refine lv_iadd hx hb dL_law_1011 ?_
  refine ztopi (y := nI (i + 1)) (nI_add i 1) ?_
  refine zscr hF hX hsb hAb hB (k := (i + 1)) (by omega) (by omega) dL_law_1012 ?_
  refine lv_aload_n hx hb dL_law_1013 rfl (lv_at hl 3 rfl) ?_
  refine lv_iload_n hx hb dL_law_1014 rfl (lv_at hl 0 rfl) ?_
  refine lv_iconst (v := 2) hx hb dL_law_1015 (by decide) ?_
  refine lv_iadd hx hb dL_law_1016 ?_
  refine ztopi (y := nI (i + 2)) (nI_add i 2) ?_
  refine zscr hF hX hsb hAb hB (k := (i + 2)) (by omega) (by omega) dL_law_1017 ?_
  refine lv_aload_n hx hb dL_law_1018 rfl (lv_at hl 3 rfl) ?_
  refine lv_iload_n hx hb dL_law_1019 rfl (lv_at hl 0 rfl) ?_
  refine lv_iconst (v := 3) hx hb dL_law_1020 (by decide) ?_
  refine lv_iadd hx hb dL_law_1021 ?_
  refine ztopi (y := nI (i + 3)) (nI_add i 3) ?_
  refine zscr hF hX hsb hAb hB (k := (i + 3)) (by omega) (by omega) dL_law_1022 ?_
  refine lv_aload_n hx hb dL_law_1023 rfl (lv_at hl 3 rfl) ?_
  refine lv_iload_n hx hb dL_law_1024 rfl (lv_at hl 0 rfl) ?_
  refine lv_iconst (v := 4) hx hb dL_law_1025 (by decide) ?_
  refine lv_iadd hx hb dL_law_1026 ?_
  refine ztopi (y := nI (i + 4)) (nI_add i 4) ?_
  refine zscr hF hX hsb hAb hB (k := (i + 4)) (by omega) (by omega) dL_law_1027 ?_
  refine zVi zm_L_109 hF hB (c_X7_split l D ka kb bd na dn up9 (nI L) sz9 re9 le N (xs (i + 1)) (xs (i + 2)) (xs (i + 3)) (xs (i + 4)) ) ([0, 24, 3, 8] ++ npr 51) (zsel_pool rfl rfl) (va_nd_pool rfl rfl) ([(bd 31), (bd 5), (bd 2), (bd 11)] ++ nA na) (fun _ => zad_pool rfl) (zad_pool rfl) 0 7 rfl rfl rfl ⟨Nat.le_of_ble_eq_true rfl, Nat.le_of_ble_eq_true rfl⟩ rfl hl.1 (Nat.le_of_ble_eq_true rfl) ⟨Nat.le_of_ble_eq_true rfl, Nat.le_of_ble_eq_true rfl⟩ dL_law_1028 ?_
  clear hB
  try clear locs
  try clear H
  intro r1 u1 H locs hp hB
  obtain ⟨N91, dn91, up21⟩ := u1
  have hp1 : r1 = (if spK (xs (i + 1)) (xs (i + 2)) (xs (i + 3)) (xs (i + 4)) = true then spR (le (aN (xs (i + 1)))) (aN (xs (i + 2))) (xs (i + 3)) (aN (xs (i + 4))) else -2) ∧ (∀ k9, k9 < 39 → N91 k9 = N k9) := hp
  have HPP := hp1
  replace hB : zB D A s ([((bd 31), .inr (7, [.ref (bd 0), .ref (bd 1), .ref (na 6), .ref (na 7), .ref (bd 2), .ref (bd 3), .ref (bd 4), .ref (bd 5), .ref (bd 6)])), ((bd 0), .inr (2, [.int (bI o1), .ref (na 25), .ref (na 26), .ref (na 27)])), ((bd 1), .inl (ka 3, 6, .inr (.inr (.inr (.inr (nR na 0)))))), ((bd 2), .inr (3, [.int (nI L), .ref (bd 7), .ref (bd 8), .ref (bd 9), .ref (bd 10), .ref (bd 11), .int sz9, .int re9])), ((bd 7), .inl (ka 0, 8, .inl mo)), ((bd 8), .inl (ka 0, 8, .inl an)), ((bd 9), .inl (ka 0, 8, .inl pl)), ((bd 10), .inl (ka 0, 24, .inl ho)), ((bd 11), .inl (ka 0, 2, .inl le)), ((bd 3), .inr (0, [.ref (bd 12), .ref (bd 13), .ref (bd 14), .ref (bd 15), .ref (bd 16), .ref (bd 17), .ref (na 21), .ref (na 22), .ref (na 23), .ref (na 24)])), ((bd 12), .inr (2, [.int (bI o2), .ref (na 28), .ref (na 29), .ref (na 30)])), ((bd 13), .inl (ka 0, 8, .inl st)), ((bd 14), .inl (ka 2, 3, .inl (kI kp))), ((bd 15), .inl (ka 3, 6, .inr (.inr (.inr (.inr (nR na 8)))))), ((bd 16), .inl (ka 3, 3, .inr (.inr (.inr (.inr (nR na 14)))))), ((bd 17), .inl (ka 3, 4, .inr (.inr (.inr (.inr (nR na 17)))))), ((bd 4), .inr (4, [.ref (bd 18), .ref (bd 19), .int cnt, .int opb, .int rch, .int wnt, .ref (bd 20), .ref (bd 21), .ref (bd 22), .int bb.1, .ref (bd 23), .ref (bd 24), .long (Int64.ofInt bb.2.1), .long (Int64.ofInt bb.2.2.1)])), ((bd 18), .inr (2, [.int (bI o3), .ref (na 31), .ref (na 32), .ref (na 33)])), ((bd 19), .inl (ka 0, 3, .inl zs)), ((bd 20), .inl (ka 3, 5, .inr (.inr (.inr (.inr (nR na 34)))))), ((bd 21), .inl (ka 0, 4, .inl sa7)), ((bd 22), .inl (ka 0, 4, .inl ss7)), ((bd 23), .inl (ka 0, 4, .inl bb.2.2.2.1)), ((bd 24), .inl (ka 0, 4, .inl bb.2.2.2.2)), ((bd 5), .inr (6, [.int dn91, .int up21, .ref (na 39), .ref (na 40)])), ((bd 6), .inr (5, [.ref (bd 25), .ref (bd 30), .int la])), ((bd 25), .inl (ka 4, 4, .inr (.inr (.inr (.inr (nB bd)))))), ((bd 26), .inl (ka 1, 40, .inr (.inl (rw9 0)))), ((bd 27), .inl (ka 1, 40, .inr (.inl (rw9 1)))), ((bd 28), .inl (ka 1, 40, .inr (.inl (rw9 2)))), ((bd 29), .inl (ka 1, 40, .inr (.inl (rw9 3)))), ((bd 30), .inl (ka 0, 4, .inl sz)), (q, .inr (8, mX ad (bI o) la (nI L) sz9 re9 tr bm (Int64.ofInt b0) (Int64.ofInt b1))), ((ad 0), .inl (ka 0, 4, .inl sz)), ((ad 1), .inl (ka 1, 160, .inr (.inl it))), ((ad 2), .inl (ka 1, 40, .inr (.inl as9))), ((ad 3), .inl (ka 1, 200, .inr (.inl nu))), ((ad 4), .inl (ka 0, 8, .inl mo)), ((ad 5), .inl (ka 0, 8, .inl an)), ((ad 6), .inl (ka 0, 8, .inl pl)), ((ad 7), .inl (ka 0, 24, .inl ho)), ((ad 8), .inl (ka 0, 2, .inl le)), ((ad 9), .inl (ka 1, 4, .inr (.inl pu))), ((ad 10), .inl (ka 0, 4, .inl ga)), ((ad 11), .inl (ka 0, 4, .inl lg)), ((ad 12), .inl (ka 0, 3, .inl pm)), ((ad 13), .inl (ka 0, 3, .inl pa)), ((ad 14), .inl (ka 0, 4, .inl sa8)), ((ad 15), .inl (ka 0, 4, .inl ss8)), ((ad 16), .inl (ka 0, 4, .inl ba)), ((ad 17), .inl (ka 0, 4, .inl bz))] ++ nP na N91) H locs := zB_pool hB rfl rfl rfl rfl
  have h7 := HPP
  refine lv_aload_n hx hb dL_law_1031 rfl (lv_at hl 1 rfl) ?_
  refine lv_aload_n hx hb dL_law_1032 rfl (lv_at hl 3 rfl) ?_
  refine lv_iload_n hx hb dL_law_1033 rfl (lv_at hl 0 rfl) ?_
  refine lv_iconst (v := 1) hx hb dL_law_1034 (by decide) ?_
  refine lv_iadd hx hb dL_law_1035 ?_
  refine ztopi (y := nI (i + 1)) (nI_add i 1) ?_
  refine zscr hF hX hsb hAb hB (k := (i + 1)) (by omega) (by omega) dL_law_1036 ?_
  refine lv_aload_n hx hb dL_law_1037 rfl (lv_at hl 3 rfl) ?_
  refine lv_iload_n hx hb dL_law_1038 rfl (lv_at hl 0 rfl) ?_
  refine lv_iconst (v := 2) hx hb dL_law_1039 (by decide) ?_
  refine lv_iadd hx hb dL_law_1040 ?_
  refine ztopi (y := nI (i + 2)) (nI_add i 2) ?_
  refine zscr hF hX hsb hAb hB (k := (i + 2)) (by omega) (by omega) dL_law_1041 ?_
  refine lv_aload_n hx hb dL_law_1042 rfl (lv_at hl 3 rfl) ?_
  refine lv_iload_n hx hb dL_law_1043 rfl (lv_at hl 0 rfl) ?_
  refine lv_iconst (v := 3) hx hb dL_law_1044 (by decide) ?_
  refine lv_iadd hx hb dL_law_1045 ?_
  refine ztopi (y := nI (i + 3)) (nI_add i 3) ?_
  refine zscr hF hX hsb hAb hB (k := (i + 3)) (by omega) (by omega) dL_law_1046 ?_
  refine lv_aload_n hx hb dL_law_1047 rfl (lv_at hl 3 rfl) ?_
  refine lv_iload_n hx hb dL_law_1048 rfl (lv_at hl 0 rfl) ?_
  refine lv_iconst (v := 4) hx hb dL_law_1049 (by decide) ?_
  refine lv_iadd hx hb dL_law_1050 ?_
  refine ztopi (y := nI (i + 4)) (nI_add i 4) ?_
  refine zscr hF hX hsb hAb hB (k := (i + 4)) (by omega) (by omega) dL_law_1051 ?_
  refine zVi zm_L_112 hF hB (c_X8_split l D ka kb q ad o (la, (nI L), sz9, re9, tr, bm, (Int64.ofInt b0), (Int64.ofInt b1)) nu le (xs (i + 1)) (xs (i + 2)) (xs (i + 3)) (xs (i + 4)) ) [32, 41, 36] rfl (by decide) [q, (ad 8), (ad 3)] (fun _ => rfl) rfl 32 8 rfl rfl rfl ⟨Nat.le_of_ble_eq_true rfl, Nat.le_of_ble_eq_true rfl⟩ rfl hl.1 (Nat.le_of_ble_eq_true rfl) ⟨Nat.le_of_ble_eq_true rfl, Nat.le_of_ble_eq_true rfl⟩ dL_law_1052 ?_
  clear hB
  try clear locs
  try clear H
  intro r2 u2 H locs hp hB
  obtain rfl : r2 = if spK (xs (i + 1)) (xs (i + 2)) (xs (i + 3)) (xs (i + 4)) = true then (spZ (le (aN (xs (i + 1)))) (aN (xs (i + 2))) (xs (i + 3)) (aN (xs (i + 4))) nu).1 else -2 := hp
  replace hB : zB D A s ([((bd 31), .inr (7, [.ref (bd 0), .ref (bd 1), .ref (na 6), .ref (na 7), .ref (bd 2), .ref (bd 3), .ref (bd 4), .ref (bd 5), .ref (bd 6)])), ((bd 0), .inr (2, [.int (bI o1), .ref (na 25), .ref (na 26), .ref (na 27)])), ((bd 1), .inl (ka 3, 6, .inr (.inr (.inr (.inr (nR na 0)))))), ((bd 2), .inr (3, [.int (nI L), .ref (bd 7), .ref (bd 8), .ref (bd 9), .ref (bd 10), .ref (bd 11), .int sz9, .int re9])), ((bd 7), .inl (ka 0, 8, .inl mo)), ((bd 8), .inl (ka 0, 8, .inl an)), ((bd 9), .inl (ka 0, 8, .inl pl)), ((bd 10), .inl (ka 0, 24, .inl ho)), ((bd 11), .inl (ka 0, 2, .inl le)), ((bd 3), .inr (0, [.ref (bd 12), .ref (bd 13), .ref (bd 14), .ref (bd 15), .ref (bd 16), .ref (bd 17), .ref (na 21), .ref (na 22), .ref (na 23), .ref (na 24)])), ((bd 12), .inr (2, [.int (bI o2), .ref (na 28), .ref (na 29), .ref (na 30)])), ((bd 13), .inl (ka 0, 8, .inl st)), ((bd 14), .inl (ka 2, 3, .inl (kI kp))), ((bd 15), .inl (ka 3, 6, .inr (.inr (.inr (.inr (nR na 8)))))), ((bd 16), .inl (ka 3, 3, .inr (.inr (.inr (.inr (nR na 14)))))), ((bd 17), .inl (ka 3, 4, .inr (.inr (.inr (.inr (nR na 17)))))), ((bd 4), .inr (4, [.ref (bd 18), .ref (bd 19), .int cnt, .int opb, .int rch, .int wnt, .ref (bd 20), .ref (bd 21), .ref (bd 22), .int bb.1, .ref (bd 23), .ref (bd 24), .long (Int64.ofInt bb.2.1), .long (Int64.ofInt bb.2.2.1)])), ((bd 18), .inr (2, [.int (bI o3), .ref (na 31), .ref (na 32), .ref (na 33)])), ((bd 19), .inl (ka 0, 3, .inl zs)), ((bd 20), .inl (ka 3, 5, .inr (.inr (.inr (.inr (nR na 34)))))), ((bd 21), .inl (ka 0, 4, .inl sa7)), ((bd 22), .inl (ka 0, 4, .inl ss7)), ((bd 23), .inl (ka 0, 4, .inl bb.2.2.2.1)), ((bd 24), .inl (ka 0, 4, .inl bb.2.2.2.2)), ((bd 5), .inr (6, [.int dn91, .int up21, .ref (na 39), .ref (na 40)])), ((bd 6), .inr (5, [.ref (bd 25), .ref (bd 30), .int la])), ((bd 25), .inl (ka 4, 4, .inr (.inr (.inr (.inr (nB bd)))))), ((bd 26), .inl (ka 1, 40, .inr (.inl (rw9 0)))), ((bd 27), .inl (ka 1, 40, .inr (.inl (rw9 1)))), ((bd 28), .inl (ka 1, 40, .inr (.inl (rw9 2)))), ((bd 29), .inl (ka 1, 40, .inr (.inl (rw9 3)))), ((bd 30), .inl (ka 0, 4, .inl sz)), (q, .inr (8, mX ad (bI o) la (nI L) sz9 re9 tr bm (Int64.ofInt b0) (Int64.ofInt b1))), ((ad 0), .inl (ka 0, 4, .inl sz)), ((ad 1), .inl (ka 1, 160, .inr (.inl it))), ((ad 2), .inl (ka 1, 40, .inr (.inl as9))), ((ad 3), .inl (ka 1, 200, .inr (.inl (if spK (xs (i + 1)) (xs (i + 2)) (xs (i + 3)) (xs (i + 4)) = true then (spZ (le (aN (xs (i + 1)))) (aN (xs (i + 2))) (xs (i + 3)) (aN (xs (i + 4))) nu).2 else nu)))), ((ad 4), .inl (ka 0, 8, .inl mo)), ((ad 5), .inl (ka 0, 8, .inl an)), ((ad 6), .inl (ka 0, 8, .inl pl)), ((ad 7), .inl (ka 0, 24, .inl ho)), ((ad 8), .inl (ka 0, 2, .inl le)), ((ad 9), .inl (ka 1, 4, .inr (.inl pu))), ((ad 10), .inl (ka 0, 4, .inl ga)), ((ad 11), .inl (ka 0, 4, .inl lg)), ((ad 12), .inl (ka 0, 3, .inl pm)), ((ad 13), .inl (ka 0, 3, .inl pa)), ((ad 14), .inl (ka 0, 4, .inl sa8)), ((ad 15), .inl (ka 0, 4, .inl ss8)), ((ad 16), .inl (ka 0, 4, .inl ba)), ((ad 17), .inl (ka 0, 4, .inl bz))] ++ nP na N91) H locs := hB
  refine lv_icmp_eq (tgt := 1359) hx hb dL_law_1055 (by decide) (fun h1055 => ?_) (fun h1055 => ?_)
  · skip
    have hk29 : keepN [29] nu (if spK (xs (i + 1)) (xs (i + 2)) (xs (i + 3)) (xs (i + 4)) = true then (spZ (le (aN (xs (i + 1)))) (aN (xs (i + 2))) (xs (i + 3)) (aN (xs (i + 4))) nu).2 else nu) := by
      by_cases hq : spK (xs (i + 1)) (xs (i + 2)) (xs (i + 3)) (xs (i + 4)) = true
      · rw [if_pos hq]; exact spZ_k
      · rw [if_neg hq]; exact keepN.rf
    have hn9 := hn.keep (N' := N91) (nu' := (if spK (xs (i + 1)) (xs (i + 2)) (xs (i + 3)) (xs (i + 4)) = true then (spZ (le (aN (xs (i + 1)))) (aN (xs (i + 2))) (xs (i + 3)) (aN (xs (i + 4))) nu).2 else nu)) (fun k h => h7.2 k (by omega)) (fun j h => h7.2 (8 + j) (by omega)) (keep29 hk29)
    have hk9 := hk.keep (N' := N91) (fun k h1 h2 => h7.2 (14 + k) (by omega))
    refine kk _ H locs ?_ hB ls (lv_sub hl [0, 1, 2, 3] rfl)
    exact ⟨L, mo, an, pl, ho, le, sz, la, sz9, re9, N91, o1, o2, o3, st, kp, cnt, opb, rch, wnt, bb, zs, sa7, ss7, dn91, up21, rw9, o, tr, bm, b0, b1, it, as9, if spK (xs (i + 1)) (xs (i + 2)) (xs (i + 3)) (xs (i + 4)) = true then (spZ (le (aN (xs (i + 1)))) (aN (xs (i + 2))) (xs (i + 3)) (aN (xs (i + 4))) nu).2 else nu, pu, ga, lg, pm, pa, sa8, ss8, ba, bz, rfl, ha, hbb, hc, hn9, hk9, hi9⟩
  · skip
    exact absurd ((h7.1.trans (by rw [spZ_1]))) h1055
