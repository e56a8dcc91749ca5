set_option maxHeartbeats 4000000 in
set_option maxRecDepth 100000 in
theorem lwc_sheet (l : Launch) (D : va_G) (ka : Nat → ClassId) (kb : Nat → Nat) (bd na ad : Nat → Nat) (q sb L9 : Nat) (xs : Nat → Int32) {p : Program} {e : Env} {s : State} {m : MethodId} {args : Array Value} {below : List Frame} {meth : Method} {c : Code} {A : Nat → Prop} {Q : State → Prop} {rt : Option FieldType} (hF : zF p s m args meth c D ka kb A cL_law RL 4 rt) (hX : va_X sb L9 xs s s.heap) (hsb : sb < s.heap.size) (hAb : ¬ A sb) (i : Nat) (hi : i + 7 ≤ L9) (hL9 : L9 ≤ 3584) {ws : va_W} {H : Heap} {locs : List Loc} (hI : LI ka bd na ad q ws) (hB : zB D A s ws H locs)
    (kk : ∀ (ws : va_W) (H : Heap) (locs : List Loc), LI ka bd na ad q ws → zB D A s ws H locs → ∀ ls : Array Slot, lv_has ls 4 [(3, .int (nI i)), (2, .ref q), (1, .ref (bd 31)), (0, .ref sb)] → W p l e room_1 s m args below meth c H locs 92 1052 Q (F0 m 1359 ls [])) {ls : Array Slot} (hl : lv_has ls 4 [(3, .int (nI i)), (2, .ref q), (1, .ref (bd 31)), (0, .ref sb)]) : W p l e room_1 s m args below meth c H locs 92 1052 Q (F0 m 1093 ls []) := by
  have hx : p.tables.exec = Jvm.exec := hF.1.1
  have hb : c.code = cL_law := hF.1.2.1
  obtain ⟨L, mo, an, pl, ho, le, sz, la, sz9, re9, N, o1, o2, o3, st, kp, cnt, opb, rch, wnt, bb, zs, sa7, ss7, dn, up9, rw9, o, tr, bm, b0, b1, it, as9, nu, pu, ga, lg, pm, pa, sa8, ss8, ba, bz, rfl, ha, hbb, hc, hn, hk, hi9⟩ := hI
  have hok := ha.1
  have hoh := ha.2.1
  have hre := ha.2.2.1
  have hszk := ha.2.2.2.1
  have hsz := ha.2.2.2.2
  have hB9 := hc.1
  have hb01 := hc.2
  have hd6 : ∀ k, k < 6 → 0 < (N k).2.2.2.2.toInt := fun k h => by rw [hn.2.1 k h]; exact hn.1 k (by omega)
  replace hB : zB D A s ([((bd 31), .inr (7, [.ref (bd 0), .ref (bd 1), .ref (na 6), .ref (na 7), .ref (bd 2), .ref (bd 3), .ref (bd 4), .ref (bd 5), .ref (bd 6)])), ((bd 0), .inr (2, [.int (bI o1), .ref (na 25), .ref (na 26), .ref (na 27)])), ((bd 1), .inl (ka 3, 6, .inr (.inr (.inr (.inr (nR na 0)))))), ((bd 2), .inr (3, [.int (nI L), .ref (bd 7), .ref (bd 8), .ref (bd 9), .ref (bd 10), .ref (bd 11), .int sz9, .int re9])), ((bd 7), .inl (ka 0, 8, .inl mo)), ((bd 8), .inl (ka 0, 8, .inl an)), ((bd 9), .inl (ka 0, 8, .inl pl)), ((bd 10), .inl (ka 0, 24, .inl ho)), ((bd 11), .inl (ka 0, 2, .inl le)), ((bd 3), .inr (0, [.ref (bd 12), .ref (bd 13), .ref (bd 14), .ref (bd 15), .ref (bd 16), .ref (bd 17), .ref (na 21), .ref (na 22), .ref (na 23), .ref (na 24)])), ((bd 12), .inr (2, [.int (bI o2), .ref (na 28), .ref (na 29), .ref (na 30)])), ((bd 13), .inl (ka 0, 8, .inl st)), ((bd 14), .inl (ka 2, 3, .inl (kI kp))), ((bd 15), .inl (ka 3, 6, .inr (.inr (.inr (.inr (nR na 8)))))), ((bd 16), .inl (ka 3, 3, .inr (.inr (.inr (.inr (nR na 14)))))), ((bd 17), .inl (ka 3, 4, .inr (.inr (.inr (.inr (nR na 17)))))), ((bd 4), .inr (4, [.ref (bd 18), .ref (bd 19), .int cnt, .int opb, .int rch, .int wnt, .ref (bd 20), .ref (bd 21), .ref (bd 22), .int bb.1, .ref (bd 23), .ref (bd 24), .long (Int64.ofInt bb.2.1), .long (Int64.ofInt bb.2.2.1)])), ((bd 18), .inr (2, [.int (bI o3), .ref (na 31), .ref (na 32), .ref (na 33)])), ((bd 19), .inl (ka 0, 3, .inl zs)), ((bd 20), .inl (ka 3, 5, .inr (.inr (.inr (.inr (nR na 34)))))), ((bd 21), .inl (ka 0, 4, .inl sa7)), ((bd 22), .inl (ka 0, 4, .inl ss7)), ((bd 23), .inl (ka 0, 4, .inl bb.2.2.2.1)), ((bd 24), .inl (ka 0, 4, .inl bb.2.2.2.2)), ((bd 5), .inr (6, [.int dn, .int up9, .ref (na 39), .ref (na 40)])), ((bd 6), .inr (5, [.ref (bd 25), .ref (bd 30), .int la])), ((bd 25), .inl (ka 4, 4, .inr (.inr (.inr (.inr (nB bd)))))), ((bd 26), .inl (ka 1, 40, .inr (.inl (rw9 0)))), ((bd 27), .inl (ka 1, 40, .inr (.inl (rw9 1)))), ((bd 28), .inl (ka 1, 40, .inr (.inl (rw9 2)))), ((bd 29), .inl (ka 1, 40, .inr (.inl (rw9 3)))), ((bd 30), .inl (ka 0, 4, .inl sz)), (q, .inr (8, mX ad (bI o) la (nI L) sz9 re9 tr bm (Int64.ofInt b0) (Int64.ofInt b1))), ((ad 0), .inl (ka 0, 4, .inl sz)), ((ad 1), .inl (ka 1, 160, .inr (.inl it))), ((ad 2), .inl (ka 1, 40, .inr (.inl as9))), ((ad 3), .inl (ka 1, 200, .inr (.inl nu))), ((ad 4), .inl (ka 0, 8, .inl mo)), ((ad 5), .inl (ka 0, 8, .inl an)), ((ad 6), .inl (ka 0, 8, .inl pl)), ((ad 7), .inl (ka 0, 24, .inl ho)), ((ad 8), .inl (ka 0, 2, .inl le)), ((ad 9), .inl (ka 1, 4, .inr (.inl pu))), ((ad 10), .inl (ka 0, 4, .inl ga)), ((ad 11), .inl (ka 0, 4, .inl lg)), ((ad 12), .inl (ka 0, 3, .inl pm)), ((ad 13), .inl (ka 0, 3, .inl pa)), ((ad 14), .inl (ka 0, 4, .inl sa8)), ((ad 15), .inl (ka 0, 4, .inl ss8)), ((ad 16), .inl (ka 0, 4, .inl ba)), ((ad 17), .inl (ka 0, 4, .inl bz))] ++ nP na N) H locs := hB
  refine lv_aload_n hx hb dL_law_1093 rfl (lv_at hl 2 rfl) ?_
  refine lv_aload_n hx hb dL_law_1094 rfl (lv_at hl 3 rfl) ?_
  refine lv_iload_n hx hb dL_law_1095 rfl (lv_at hl 0 rfl) ?_
  refine lv_iconst (v := 1) hx hb dL_law_1096 (by decide) ?_
  refine lv_iadd hx hb dL_law_1097 ?_
  refine ztopi (y := nI (i + 1)) (nI_add i 1) ?_
  refine zscr hF hX hsb hAb hB (k := (i + 1)) (by omega) (by omega) dL_law_1098 ?_
  refine lv_aload_n hx hb dL_law_1099 rfl (lv_at hl 3 rfl) ?_
  refine lv_iload_n hx hb dL_law_1100 rfl (lv_at hl 0 rfl) ?_
  refine lv_iconst (v := 2) hx hb dL_law_1101 (by decide) ?_
  refine lv_iadd hx hb dL_law_1102 ?_
  refine ztopi (y := nI (i + 2)) (nI_add i 2) ?_
  refine zscr hF hX hsb hAb hB (k := (i + 2)) (by omega) (by omega) dL_law_1103 ?_
  refine zVi zm_L_117 hF hB (c_X7_sheet l D ka kb bd na la sz rw9 (xs (i + 1)) (xs (i + 2)) (hsz)) [0, 25, 26, 27, 28, 29, 30, 31] rfl (by decide) [(bd 31), (bd 6), (bd 25), (bd 26), (bd 27), (bd 28), (bd 29), (bd 30)] (fun _ => rfl) rfl 0 7 rfl rfl rfl ⟨Nat.le_of_ble_eq_true rfl, Nat.le_of_ble_eq_true rfl⟩ rfl hl.1 (Nat.le_of_ble_eq_true rfl) ⟨Nat.le_of_ble_eq_true rfl, Nat.le_of_ble_eq_true rfl⟩ dL_law_1104 ?_
  clear hB
  try clear locs
  try clear H
  intro r1 u1 H locs hp hB
  obtain ⟨rw21, rfl⟩ : ∃ z, z = u1 := ⟨_, rfl⟩
  have hp1 : r1 = shA (xs (i + 1)) (xs (i + 2)) ∧ eqI rw21 (shI (xs (i + 1)) (xs (i + 2)) rw9) := hp
  have HPP := hp1
  replace hB : zB D A s ([((bd 31), .inr (7, [.ref (bd 0), .ref (bd 1), .ref (na 6), .ref (na 7), .ref (bd 2), .ref (bd 3), .ref (bd 4), .ref (bd 5), .ref (bd 6)])), ((bd 0), .inr (2, [.int (bI o1), .ref (na 25), .ref (na 26), .ref (na 27)])), ((bd 1), .inl (ka 3, 6, .inr (.inr (.inr (.inr (nR na 0)))))), ((bd 2), .inr (3, [.int (nI L), .ref (bd 7), .ref (bd 8), .ref (bd 9), .ref (bd 10), .ref (bd 11), .int sz9, .int re9])), ((bd 7), .inl (ka 0, 8, .inl mo)), ((bd 8), .inl (ka 0, 8, .inl an)), ((bd 9), .inl (ka 0, 8, .inl pl)), ((bd 10), .inl (ka 0, 24, .inl ho)), ((bd 11), .inl (ka 0, 2, .inl le)), ((bd 3), .inr (0, [.ref (bd 12), .ref (bd 13), .ref (bd 14), .ref (bd 15), .ref (bd 16), .ref (bd 17), .ref (na 21), .ref (na 22), .ref (na 23), .ref (na 24)])), ((bd 12), .inr (2, [.int (bI o2), .ref (na 28), .ref (na 29), .ref (na 30)])), ((bd 13), .inl (ka 0, 8, .inl st)), ((bd 14), .inl (ka 2, 3, .inl (kI kp))), ((bd 15), .inl (ka 3, 6, .inr (.inr (.inr (.inr (nR na 8)))))), ((bd 16), .inl (ka 3, 3, .inr (.inr (.inr (.inr (nR na 14)))))), ((bd 17), .inl (ka 3, 4, .inr (.inr (.inr (.inr (nR na 17)))))), ((bd 4), .inr (4, [.ref (bd 18), .ref (bd 19), .int cnt, .int opb, .int rch, .int wnt, .ref (bd 20), .ref (bd 21), .ref (bd 22), .int bb.1, .ref (bd 23), .ref (bd 24), .long (Int64.ofInt bb.2.1), .long (Int64.ofInt bb.2.2.1)])), ((bd 18), .inr (2, [.int (bI o3), .ref (na 31), .ref (na 32), .ref (na 33)])), ((bd 19), .inl (ka 0, 3, .inl zs)), ((bd 20), .inl (ka 3, 5, .inr (.inr (.inr (.inr (nR na 34)))))), ((bd 21), .inl (ka 0, 4, .inl sa7)), ((bd 22), .inl (ka 0, 4, .inl ss7)), ((bd 23), .inl (ka 0, 4, .inl bb.2.2.2.1)), ((bd 24), .inl (ka 0, 4, .inl bb.2.2.2.2)), ((bd 5), .inr (6, [.int dn, .int up9, .ref (na 39), .ref (na 40)])), ((bd 6), .inr (5, [.ref (bd 25), .ref (bd 30), .int (laF (shF (xs (i + 1)) (xs (i + 2))) la)])), ((bd 25), .inl (ka 4, 4, .inr (.inr (.inr (.inr (nB bd)))))), ((bd 26), .inl (ka 1, 40, .inr (.inl (rw21 0)))), ((bd 27), .inl (ka 1, 40, .inr (.inl (rw21 1)))), ((bd 28), .inl (ka 1, 40, .inr (.inl (rw21 2)))), ((bd 29), .inl (ka 1, 40, .inr (.inl (rw21 3)))), ((bd 30), .inl (ka 0, 4, .inl (shS (xs (i + 1)) (xs (i + 2)) sz))), (q, .inr (8, mX ad (bI o) la (nI L) sz9 re9 tr bm (Int64.ofInt b0) (Int64.ofInt b1))), ((ad 0), .inl (ka 0, 4, .inl sz)), ((ad 1), .inl (ka 1, 160, .inr (.inl it))), ((ad 2), .inl (ka 1, 40, .inr (.inl as9))), ((ad 3), .inl (ka 1, 200, .inr (.inl nu))), ((ad 4), .inl (ka 0, 8, .inl mo)), ((ad 5), .inl (ka 0, 8, .inl an)), ((ad 6), .inl (ka 0, 8, .inl pl)), ((ad 7), .inl (ka 0, 24, .inl ho)), ((ad 8), .inl (ka 0, 2, .inl le)), ((ad 9), .inl (ka 1, 4, .inr (.inl pu))), ((ad 10), .inl (ka 0, 4, .inl ga)), ((ad 11), .inl (ka 0, 4, .inl lg)), ((ad 12), .inl (ka 0, 3, .inl pm)), ((ad 13), .inl (ka 0, 3, .inl pa)), ((ad 14), .inl (ka 0, 4, .inl sa8)), ((ad 15), .inl (ka 0, 4, .inl ss8)), ((ad 16), .inl (ka 0, 4, .inl ba)), ((ad 17), .inl (ka 0, 4, .inl bz))] ++ nP na N) H locs := hB
  have h7 := HPP
  refine lv_aload_n hx hb dL_law_1107 rfl (lv_at hl 1 rfl) ?_
  refine lv_aload_n hx hb dL_law_1108 rfl (lv_at hl 3 rfl) ?_
  refine lv_iload_n hx hb dL_law_1109 rfl (lv_at hl 0 rfl) ?_
  refine lv_iconst (v := 1) hx hb dL_law_1110 (by decide) ?_
  refine lv_iadd hx hb dL_law_1111 ?_
  refine ztopi (y := nI (i + 1)) (nI_add i 1) ?_
  refine zscr hF hX hsb hAb hB (k := (i + 1)) (by omega) (by omega) dL_law_1112 ?_
  refine lv_aload_n hx hb dL_law_1113 rfl (lv_at hl 3 rfl) ?_
  refine lv_iload_n hx hb dL_law_1114 rfl (lv_at hl 0 rfl) ?_
  refine lv_iconst (v := 2) hx hb dL_law_1115 (by decide) ?_
  refine lv_iadd hx hb dL_law_1116 ?_
  refine ztopi (y := nI (i + 2)) (nI_add i 2) ?_
  refine zscr hF hX hsb hAb hB (k := (i + 2)) (by omega) (by omega) dL_law_1117 ?_
  refine zVi zm_L_120 hF hB (c_X8_sheet l D ka kb q ad o (la, (nI L), sz9, re9, tr, bm, (Int64.ofInt b0), (Int64.ofInt b1)) sz it (xs (i + 1)) (xs (i + 2)) ) [32, 33, 34] rfl (by decide) [q, (ad 0), (ad 1)] (fun _ => rfl) rfl 32 8 rfl rfl rfl ⟨Nat.le_of_ble_eq_true rfl, Nat.le_of_ble_eq_true rfl⟩ rfl hl.1 (Nat.le_of_ble_eq_true rfl) ⟨Nat.le_of_ble_eq_true rfl, Nat.le_of_ble_eq_true rfl⟩ dL_law_1118 ?_
  clear hB
  try clear locs
  try clear H
  intro r2 u2 H locs hp hB
  obtain ⟨it22, rfl⟩ : ∃ z, z = u2 := ⟨_, rfl⟩
  have hp2 : r2 = shA (xs (i + 1)) (xs (i + 2)) ∧ eqI (itM it22) (shI (xs (i + 1)) (xs (i + 2)) (itM it)) := hp
  have HPP := hp2
  replace hB : zB D A s ([((bd 31), .inr (7, [.ref (bd 0), .ref (bd 1), .ref (na 6), .ref (na 7), .ref (bd 2), .ref (bd 3), .ref (bd 4), .ref (bd 5), .ref (bd 6)])), ((bd 0), .inr (2, [.int (bI o1), .ref (na 25), .ref (na 26), .ref (na 27)])), ((bd 1), .inl (ka 3, 6, .inr (.inr (.inr (.inr (nR na 0)))))), ((bd 2), .inr (3, [.int (nI L), .ref (bd 7), .ref (bd 8), .ref (bd 9), .ref (bd 10), .ref (bd 11), .int sz9, .int re9])), ((bd 7), .inl (ka 0, 8, .inl mo)), ((bd 8), .inl (ka 0, 8, .inl an)), ((bd 9), .inl (ka 0, 8, .inl pl)), ((bd 10), .inl (ka 0, 24, .inl ho)), ((bd 11), .inl (ka 0, 2, .inl le)), ((bd 3), .inr (0, [.ref (bd 12), .ref (bd 13), .ref (bd 14), .ref (bd 15), .ref (bd 16), .ref (bd 17), .ref (na 21), .ref (na 22), .ref (na 23), .ref (na 24)])), ((bd 12), .inr (2, [.int (bI o2), .ref (na 28), .ref (na 29), .ref (na 30)])), ((bd 13), .inl (ka 0, 8, .inl st)), ((bd 14), .inl (ka 2, 3, .inl (kI kp))), ((bd 15), .inl (ka 3, 6, .inr (.inr (.inr (.inr (nR na 8)))))), ((bd 16), .inl (ka 3, 3, .inr (.inr (.inr (.inr (nR na 14)))))), ((bd 17), .inl (ka 3, 4, .inr (.inr (.inr (.inr (nR na 17)))))), ((bd 4), .inr (4, [.ref (bd 18), .ref (bd 19), .int cnt, .int opb, .int rch, .int wnt, .ref (bd 20), .ref (bd 21), .ref (bd 22), .int bb.1, .ref (bd 23), .ref (bd 24), .long (Int64.ofInt bb.2.1), .long (Int64.ofInt bb.2.2.1)])), ((bd 18), .inr (2, [.int (bI o3), .ref (na 31), .ref (na 32), .ref (na 33)])), ((bd 19), .inl (ka 0, 3, .inl zs)), ((bd 20), .inl (ka 3, 5, .inr (.inr (.inr (.inr (nR na 34)))))), ((bd 21), .inl (ka 0, 4, .inl sa7)), ((bd 22), .inl (ka 0, 4, .inl ss7)), ((bd 23), .inl (ka 0, 4, .inl bb.2.2.2.1)), ((bd 24), .inl (ka 0, 4, .inl bb.2.2.2.2)), ((bd 5), .inr (6, [.int dn, .int up9, .ref (na 39), .ref (na 40)])), ((bd 6), .inr (5, [.ref (bd 25), .ref (bd 30), .int (laF (shF (xs (i + 1)) (xs (i + 2))) la)])), ((bd 25), .inl (ka 4, 4, .inr (.inr (.inr (.inr (nB bd)))))), ((bd 26), .inl (ka 1, 40, .inr (.inl (rw21 0)))), ((bd 27), .inl (ka 1, 40, .inr (.inl (rw21 1)))), ((bd 28), .inl (ka 1, 40, .inr (.inl (rw21 2)))), ((bd 29), .inl (ka 1, 40, .inr (.inl (rw21 3)))), ((bd 30), .inl (ka 0, 4, .inl (shS (xs (i + 1)) (xs (i + 2)) sz))), (q, .inr (8, mX ad (bI o) (laF (shF (xs (i + 1)) (xs (i + 2))) (la, (nI L), sz9, re9, tr, bm, (Int64.ofInt b0), (Int64.ofInt b1)).1) (nI L) sz9 re9 tr bm (Int64.ofInt b0) (Int64.ofInt b1))), ((ad 0), .inl (ka 0, 4, .inl (shS (xs (i + 1)) (xs (i + 2)) sz))), ((ad 1), .inl (ka 1, 160, .inr (.inl it22))), ((ad 2), .inl (ka 1, 40, .inr (.inl as9))), ((ad 3), .inl (ka 1, 200, .inr (.inl nu))), ((ad 4), .inl (ka 0, 8, .inl mo)), ((ad 5), .inl (ka 0, 8, .inl an)), ((ad 6), .inl (ka 0, 8, .inl pl)), ((ad 7), .inl (ka 0, 24, .inl ho)), ((ad 8), .inl (ka 0, 2, .inl le)), ((ad 9), .inl (ka 1, 4, .inr (.inl pu))), ((ad 10), .inl (ka 0, 4, .inl ga)), ((ad 11), .inl (ka 0, 4, .inl lg)), ((ad 12), .inl (ka 0, 3, .inl pm)), ((ad 13), .inl (ka 0, 3, .inl pa)), ((ad 14), .inl (ka 0, 4, .inl sa8)), ((ad 15), .inl (ka 0, 4, .inl ss8)), ((ad 16), .inl (ka 0, 4, .inl ba)), ((ad 17), .inl (ka 0, 4, .inl bz))] ++ nP na N) H locs := hB
  have h8 := HPP
  refine lv_icmp_eq (tgt := 1359) hx hb dL_law_1121 (by decide) (fun h1121 => ?_) (fun h1121 => ?_)
  · skip
    refine kk _ H locs ?_ hB ls (lv_sub hl [0, 1, 2, 3] rfl)
    exact ⟨L, mo, an, pl, ho, le, shS (xs (i + 1)) (xs (i + 2)) sz, laF (shF (xs (i + 1)) (xs (i + 2))) la, sz9, re9, N, o1, o2, o3, st, kp, cnt, opb, rch, wnt, bb, zs, sa7, ss7, dn, up9, rw21, o, tr, bm, b0, b1, it22, as9, nu, pu, ga, lg, pm, pa, sa8, ss8, ba, bz, rfl, ⟨hok, hoh, hre, hszk, okSz_sh hsz⟩, hbb, hc, hn, hk, sh_tie hi9 h7.2 h8.2⟩
  · skip
    exact absurd (h7.1.trans h8.1.symm) h1121

set_option maxHeartbeats 4000000 in
set_option maxRecDepth 100000 in
theorem lwc_lose (l : Launch) (D : va_G) (ka : Nat → ClassId) (kb : Nat → Nat) (bd na ad : Nat → Nat) (q sb L9 : Nat) (xs : Nat → Int32) {p : Program} {e : Env} {s : State} {m : MethodId} {args : Array Value} {below : List Frame} {meth : Method} {c : Code} {A : Nat → Prop} {Q : State → Prop} {rt : Option FieldType} (hF : zF p s m args meth c D ka kb A cL_law RL 4 rt) (hX : va_X sb L9 xs s s.heap) (hsb : sb < s.heap.size) (hAb : ¬ A sb) (i : Nat) (hi : i + 7 ≤ L9) (hL9 : L9 ≤ 3584) {ws : va_W} {H : Heap} {locs : List Loc} (hI : LI ka bd na ad q ws) (hB : zB D A s ws H locs)
    (kk : ∀ (ws : va_W) (H : Heap) (locs : List Loc), LI ka bd na ad q ws → zB D A s ws H locs → ∀ ls : Array Slot, lv_has ls 4 [(3, .int (nI i)), (2, .ref q), (1, .ref (bd 31)), (0, .ref sb)] → W p l e room_1 s m args below meth c H locs 92 1052 Q (F0 m 1359 ls [])) {ls : Array Slot} (hl : lv_has ls 4 [(3, .int (nI i)), (2, .ref q), (1, .ref (bd 31)), (0, .ref sb)]) : W p l e room_1 s m args below meth c H locs 92 1052 Q (F0 m 1126 ls []) := by
  have hx : p.tables.exec = Jvm.exec := hF.1.1
  have hb : c.code = cL_law := hF.1.2.1
  obtain ⟨L, mo, an, pl, ho, le, sz, la, sz9, re9, N, o1, o2, o3, st, kp, cnt, opb, rch, wnt, bb, zs, sa7, ss7, dn, up9, rw9, o, tr, bm, b0, b1, it, as9, nu, pu, ga, lg, pm, pa, sa8, ss8, ba, bz, rfl, ha, hbb, hc, hn, hk, hi9⟩ := hI
  have hok := ha.1
  have hoh := ha.2.1
  have hre := ha.2.2.1
  have hszk := ha.2.2.2.1
  have hsz := ha.2.2.2.2
  have hB9 := hc.1
  have hb01 := hc.2
  have hd6 : ∀ k, k < 6 → 0 < (N k).2.2.2.2.toInt := fun k h => by rw [hn.2.1 k h]; exact hn.1 k (by omega)
  replace hB : zB D A s ([((bd 31), .inr (7, [.ref (bd 0), .ref (bd 1), .ref (na 6), .ref (na 7), .ref (bd 2), .ref (bd 3), .ref (bd 4), .ref (bd 5), .ref (bd 6)])), ((bd 0), .inr (2, [.int (bI o1), .ref (na 25), .ref (na 26), .ref (na 27)])), ((bd 1), .inl (ka 3, 6, .inr (.inr (.inr (.inr (nR na 0)))))), ((bd 2), .inr (3, [.int (nI L), .ref (bd 7), .ref (bd 8), .ref (bd 9), .ref (bd 10), .ref (bd 11), .int sz9, .int re9])), ((bd 7), .inl (ka 0, 8, .inl mo)), ((bd 8), .inl (ka 0, 8, .inl an)), ((bd 9), .inl (ka 0, 8, .inl pl)), ((bd 10), .inl (ka 0, 24, .inl ho)), ((bd 11), .inl (ka 0, 2, .inl le)), ((bd 3), .inr (0, [.ref (bd 12), .ref (bd 13), .ref (bd 14), .ref (bd 15), .ref (bd 16), .ref (bd 17), .ref (na 21), .ref (na 22), .ref (na 23), .ref (na 24)])), ((bd 12), .inr (2, [.int (bI o2), .ref (na 28), .ref (na 29), .ref (na 30)])), ((bd 13), .inl (ka 0, 8, .inl st)), ((bd 14), .inl (ka 2, 3, .inl (kI kp))), ((bd 15), .inl (ka 3, 6, .inr (.inr (.inr (.inr (nR na 8)))))), ((bd 16), .inl (ka 3, 3, .inr (.inr (.inr (.inr (nR na 14)))))), ((bd 17), .inl (ka 3, 4, .inr (.inr (.inr (.inr (nR na 17)))))), ((bd 4), .inr (4, [.ref (bd 18), .ref (bd 19), .int cnt, .int opb, .int rch, .int wnt, .ref (bd 20), .ref (bd 21), .ref (bd 22), .int bb.1, .ref (bd 23), .ref (bd 24), .long (Int64.ofInt bb.2.1), .long (Int64.ofInt bb.2.2.1)])), ((bd 18), .inr (2, [.int (bI o3), .ref (na 31), .ref (na 32), .ref (na 33)])), ((bd 19), .inl (ka 0, 3, .inl zs)), ((bd 20), .inl (ka 3, 5, .inr (.inr (.inr (.inr (nR na 34)))))), ((bd 21), .inl (ka 0, 4, .inl sa7)), ((bd 22), .inl (ka 0, 4, .inl ss7)), ((bd 23), .inl (ka 0, 4, .inl bb.2.2.2.1)), ((bd 24), .inl (ka 0, 4, .inl bb.2.2.2.2)), ((bd 5), .inr (6, [.int dn, .int up9, .ref (na 39), .ref (na 40)])), ((bd 6), .inr (5, [.ref (bd 25), .ref (bd 30), .int la])), ((bd 25), .inl (ka 4, 4, .inr (.inr (.inr (.inr (nB bd)))))), ((bd 26), .inl (ka 1, 40, .inr (.inl (rw9 0)))), ((bd 27), .inl (ka 1, 40, .inr (.inl (rw9 1)))), ((bd 28), .inl (ka 1, 40, .inr (.inl (rw9 2)))), ((bd 29), .inl (ka 1, 40, .inr (.inl (rw9 3)))), ((bd 30), .inl (ka 0, 4, .inl sz)), (q, .inr (8, mX ad (bI o) la (nI L) sz9 re9 tr bm (Int64.ofInt b0) (Int64.ofInt b1))), ((ad 0), .inl (ka 0, 4, .inl sz)), ((ad 1), .inl (ka 1, 160, .inr (.inl it))), ((ad 2), .inl (ka 1, 40, .inr (.inl as9))), ((ad 3), .inl (ka 1, 200, .inr (.inl nu))), ((ad 4), .inl (ka 0, 8, .inl mo)), ((ad 5), .inl (ka 0, 8, .inl an)), ((ad 6), .inl (ka 0, 8, .inl pl)), ((ad 7), .inl (ka 0, 24, .inl ho)), ((ad 8), .inl (ka 0, 2, .inl le)), ((ad 9), .inl (ka 1, 4, .inr (.inl pu))), ((ad 10), .inl (ka 0, 4, .inl ga)), ((ad 11), .inl (ka 0, 4, .inl lg)), ((ad 12), .inl (ka 0, 3, .inl pm)), ((ad 13), .inl (ka 0, 3, .inl pa)), ((ad 14), .inl (ka 0, 4, .inl sa8)), ((ad 15), .inl (ka 0, 4, .inl ss8)), ((ad 16), .inl (ka 0, 4, .inl ba)), ((ad 17), .inl (ka 0, 4, .inl bz))] ++ nP na N) H locs := hB
  refine lv_aload_n hx hb dL_law_1126 rfl (lv_at hl 2 rfl) ?_
  refine lv_aload_n hx hb dL_law_1127 rfl (lv_at hl 3 rfl) ?_
  refine lv_iload_n hx hb dL_law_1128 rfl (lv_at hl 0 rfl) ?_
  refine lv_iconst (v := 1) hx hb dL_law_1129 (by decide) ?_
  refine lv_iadd hx hb dL_law_1130 ?_
  refine ztopi (y := nI (i + 1)) (nI_add i 1) ?_
  refine zscr hF hX hsb hAb hB (k := (i + 1)) (by omega) (by omega) dL_law_1131 ?_
  refine zVi zm_L_121 hF hB (c_X7_lose l D ka kb bd na la sz rw9 (xs (i + 1)) (hsz)) [0, 25, 26, 27, 28, 29, 30, 31] rfl (by decide) [(bd 31), (bd 6), (bd 25), (bd 26), (bd 27), (bd 28), (bd 29), (bd 30)] (fun _ => rfl) rfl 0 7 rfl rfl rfl ⟨Nat.le_of_ble_eq_true rfl, Nat.le_of_ble_eq_true rfl⟩ rfl hl.1 (Nat.le_of_ble_eq_true rfl) ⟨Nat.le_of_ble_eq_true rfl, Nat.le_of_ble_eq_true rfl⟩ dL_law_1132 ?_
  clear hB
  try clear locs
  try clear H
  intro r1 u1 H locs hp hB
  obtain rfl : r1 = loA (xs (i + 1)) sz := hp
  replace hB : zB D A s ([((bd 31), .inr (7, [.ref (bd 0), .ref (bd 1), .ref (na 6), .ref (na 7), .ref (bd 2), .ref (bd 3), .ref (bd 4), .ref (bd 5), .ref (bd 6)])), ((bd 0), .inr (2, [.int (bI o1), .ref (na 25), .ref (na 26), .ref (na 27)])), ((bd 1), .inl (ka 3, 6, .inr (.inr (.inr (.inr (nR na 0)))))), ((bd 2), .inr (3, [.int (nI L), .ref (bd 7), .ref (bd 8), .ref (bd 9), .ref (bd 10), .ref (bd 11), .int sz9, .int re9])), ((bd 7), .inl (ka 0, 8, .inl mo)), ((bd 8), .inl (ka 0, 8, .inl an)), ((bd 9), .inl (ka 0, 8, .inl pl)), ((bd 10), .inl (ka 0, 24, .inl ho)), ((bd 11), .inl (ka 0, 2, .inl le)), ((bd 3), .inr (0, [.ref (bd 12), .ref (bd 13), .ref (bd 14), .ref (bd 15), .ref (bd 16), .ref (bd 17), .ref (na 21), .ref (na 22), .ref (na 23), .ref (na 24)])), ((bd 12), .inr (2, [.int (bI o2), .ref (na 28), .ref (na 29), .ref (na 30)])), ((bd 13), .inl (ka 0, 8, .inl st)), ((bd 14), .inl (ka 2, 3, .inl (kI kp))), ((bd 15), .inl (ka 3, 6, .inr (.inr (.inr (.inr (nR na 8)))))), ((bd 16), .inl (ka 3, 3, .inr (.inr (.inr (.inr (nR na 14)))))), ((bd 17), .inl (ka 3, 4, .inr (.inr (.inr (.inr (nR na 17)))))), ((bd 4), .inr (4, [.ref (bd 18), .ref (bd 19), .int cnt, .int opb, .int rch, .int wnt, .ref (bd 20), .ref (bd 21), .ref (bd 22), .int bb.1, .ref (bd 23), .ref (bd 24), .long (Int64.ofInt bb.2.1), .long (Int64.ofInt bb.2.2.1)])), ((bd 18), .inr (2, [.int (bI o3), .ref (na 31), .ref (na 32), .ref (na 33)])), ((bd 19), .inl (ka 0, 3, .inl zs)), ((bd 20), .inl (ka 3, 5, .inr (.inr (.inr (.inr (nR na 34)))))), ((bd 21), .inl (ka 0, 4, .inl sa7)), ((bd 22), .inl (ka 0, 4, .inl ss7)), ((bd 23), .inl (ka 0, 4, .inl bb.2.2.2.1)), ((bd 24), .inl (ka 0, 4, .inl bb.2.2.2.2)), ((bd 5), .inr (6, [.int dn, .int up9, .ref (na 39), .ref (na 40)])), ((bd 6), .inr (5, [.ref (bd 25), .ref (bd 30), .int (laF (loF (xs (i + 1)) sz) la)])), ((bd 25), .inl (ka 4, 4, .inr (.inr (.inr (.inr (nB bd)))))), ((bd 26), .inl (ka 1, 40, .inr (.inl (rw9 0)))), ((bd 27), .inl (ka 1, 40, .inr (.inl (rw9 1)))), ((bd 28), .inl (ka 1, 40, .inr (.inl (rw9 2)))), ((bd 29), .inl (ka 1, 40, .inr (.inl (rw9 3)))), ((bd 30), .inl (ka 0, 4, .inl (loS (xs (i + 1)) sz))), (q, .inr (8, mX ad (bI o) la (nI L) sz9 re9 tr bm (Int64.ofInt b0) (Int64.ofInt b1))), ((ad 0), .inl (ka 0, 4, .inl sz)), ((ad 1), .inl (ka 1, 160, .inr (.inl it))), ((ad 2), .inl (ka 1, 40, .inr (.inl as9))), ((ad 3), .inl (ka 1, 200, .inr (.inl nu))), ((ad 4), .inl (ka 0, 8, .inl mo)), ((ad 5), .inl (ka 0, 8, .inl an)), ((ad 6), .inl (ka 0, 8, .inl pl)), ((ad 7), .inl (ka 0, 24, .inl ho)), ((ad 8), .inl (ka 0, 2, .inl le)), ((ad 9), .inl (ka 1, 4, .inr (.inl pu))), ((ad 10), .inl (ka 0, 4, .inl ga)), ((ad 11), .inl (ka 0, 4, .inl lg)), ((ad 12), .inl (ka 0, 3, .inl pm)), ((ad 13), .inl (ka 0, 3, .inl pa)), ((ad 14), .inl (ka 0, 4, .inl sa8)), ((ad 15), .inl (ka 0, 4, .inl ss8)), ((ad 16), .inl (ka 0, 4, .inl ba)), ((ad 17), .inl (ka 0, 4, .inl bz))] ++ nP na N) H locs := hB
  refine lv_aload_n hx hb dL_law_1135 rfl (lv_at hl 1 rfl) ?_
  refine lv_aload_n hx hb dL_law_1136 rfl (lv_at hl 3 rfl) ?_
  refine lv_iload_n hx hb dL_law_1137 rfl (lv_at hl 0 rfl) ?_
  refine lv_iconst (v := 1) hx hb dL_law_1138 (by decide) ?_
  refine lv_iadd hx hb dL_law_1139 ?_
  refine ztopi (y := nI (i + 1)) (nI_add i 1) ?_
  refine zscr hF hX hsb hAb hB (k := (i + 1)) (by omega) (by omega) dL_law_1140 ?_
  refine zVi zm_L_124 hF hB (c_X8_lose l D ka kb q ad o (la, (nI L), sz9, re9, tr, bm, (Int64.ofInt b0), (Int64.ofInt b1)) sz (xs (i + 1)) ) [32, 33] rfl (by decide) [q, (ad 0)] (fun _ => rfl) rfl 32 8 rfl rfl rfl ⟨Nat.le_of_ble_eq_true rfl, Nat.le_of_ble_eq_true rfl⟩ rfl hl.1 (Nat.le_of_ble_eq_true rfl) ⟨Nat.le_of_ble_eq_true rfl, Nat.le_of_ble_eq_true rfl⟩ dL_law_1141 ?_
  clear hB
  try clear locs
  try clear H
  intro r2 u2 H locs hp hB
  obtain rfl : r2 = loA (xs (i + 1)) sz := hp
  replace hB : zB D A s ([((bd 31), .inr (7, [.ref (bd 0), .ref (bd 1), .ref (na 6), .ref (na 7), .ref (bd 2), .ref (bd 3), .ref (bd 4), .ref (bd 5), .ref (bd 6)])), ((bd 0), .inr (2, [.int (bI o1), .ref (na 25), .ref (na 26), .ref (na 27)])), ((bd 1), .inl (ka 3, 6, .inr (.inr (.inr (.inr (nR na 0)))))), ((bd 2), .inr (3, [.int (nI L), .ref (bd 7), .ref (bd 8), .ref (bd 9), .ref (bd 10), .ref (bd 11), .int sz9, .int re9])), ((bd 7), .inl (ka 0, 8, .inl mo)), ((bd 8), .inl (ka 0, 8, .inl an)), ((bd 9), .inl (ka 0, 8, .inl pl)), ((bd 10), .inl (ka 0, 24, .inl ho)), ((bd 11), .inl (ka 0, 2, .inl le)), ((bd 3), .inr (0, [.ref (bd 12), .ref (bd 13), .ref (bd 14), .ref (bd 15), .ref (bd 16), .ref (bd 17), .ref (na 21), .ref (na 22), .ref (na 23), .ref (na 24)])), ((bd 12), .inr (2, [.int (bI o2), .ref (na 28), .ref (na 29), .ref (na 30)])), ((bd 13), .inl (ka 0, 8, .inl st)), ((bd 14), .inl (ka 2, 3, .inl (kI kp))), ((bd 15), .inl (ka 3, 6, .inr (.inr (.inr (.inr (nR na 8)))))), ((bd 16), .inl (ka 3, 3, .inr (.inr (.inr (.inr (nR na 14)))))), ((bd 17), .inl (ka 3, 4, .inr (.inr (.inr (.inr (nR na 17)))))), ((bd 4), .inr (4, [.ref (bd 18), .ref (bd 19), .int cnt, .int opb, .int rch, .int wnt, .ref (bd 20), .ref (bd 21), .ref (bd 22), .int bb.1, .ref (bd 23), .ref (bd 24), .long (Int64.ofInt bb.2.1), .long (Int64.ofInt bb.2.2.1)])), ((bd 18), .inr (2, [.int (bI o3), .ref (na 31), .ref (na 32), .ref (na 33)])), ((bd 19), .inl (ka 0, 3, .inl zs)), ((bd 20), .inl (ka 3, 5, .inr (.inr (.inr (.inr (nR na 34)))))), ((bd 21), .inl (ka 0, 4, .inl sa7)), ((bd 22), .inl (ka 0, 4, .inl ss7)), ((bd 23), .inl (ka 0, 4, .inl bb.2.2.2.1)), ((bd 24), .inl (ka 0, 4, .inl bb.2.2.2.2)), ((bd 5), .inr (6, [.int dn, .int up9, .ref (na 39), .ref (na 40)])), ((bd 6), .inr (5, [.ref (bd 25), .ref (bd 30), .int (laF (loF (xs (i + 1)) sz) la)])), ((bd 25), .inl (ka 4, 4, .inr (.inr (.inr (.inr (nB bd)))))), ((bd 26), .inl (ka 1, 40, .inr (.inl (rw9 0)))), ((bd 27), .inl (ka 1, 40, .inr (.inl (rw9 1)))), ((bd 28), .inl (ka 1, 40, .inr (.inl (rw9 2)))), ((bd 29), .inl (ka 1, 40, .inr (.inl (rw9 3)))), ((bd 30), .inl (ka 0, 4, .inl (loS (xs (i + 1)) sz))), (q, .inr (8, mX ad (bI o) (laF (loF (xs (i + 1)) sz) (la, (nI L), sz9, re9, tr, bm, (Int64.ofInt b0), (Int64.ofInt b1)).1) (nI L) sz9 re9 tr bm (Int64.ofInt b0) (Int64.ofInt b1))), ((ad 0), .inl (ka 0, 4, .inl (loS (xs (i + 1)) sz))), ((ad 1), .inl (ka 1, 160, .inr (.inl it))), ((ad 2), .inl (ka 1, 40, .inr (.inl as9))), ((ad 3), .inl (ka 1, 200, .inr (.inl nu))), ((ad 4), .inl (ka 0, 8, .inl mo)), ((ad 5), .inl (ka 0, 8, .inl an)), ((ad 6), .inl (ka 0, 8, .inl pl)), ((ad 7), .inl (ka 0, 24, .inl ho)), ((ad 8), .inl (ka 0, 2, .inl le)), ((ad 9), .inl (ka 1, 4, .inr (.inl pu))), ((ad 10), .inl (ka 0, 4, .inl ga)), ((ad 11), .inl (ka 0, 4, .inl lg)), ((ad 12), .inl (ka 0, 3, .inl pm)), ((ad 13), .inl (ka 0, 3, .inl pa)), ((ad 14), .inl (ka 0, 4, .inl sa8)), ((ad 15), .inl (ka 0, 4, .inl ss8)), ((ad 16), .inl (ka 0, 4, .inl ba)), ((ad 17), .inl (ka 0, 4, .inl bz))] ++ nP na N) H locs := hB
  refine lv_icmp_eq (tgt := 1359) hx hb dL_law_1144 (by decide) (fun h1144 => ?_) (fun h1144 => ?_)
  · skip
    refine kk _ H locs ?_ hB ls (lv_sub hl [0, 1, 2, 3] rfl)
    exact ⟨L, mo, an, pl, ho, le, loS (xs (i + 1)) sz, laF (loF (xs (i + 1)) sz) la, sz9, re9, N, o1, o2, o3, st, kp, cnt, opb, rch, wnt, bb, zs, sa7, ss7, dn, up9, rw9, o, tr, bm, b0, b1, it, as9, nu, pu, ga, lg, pm, pa, sa8, ss8, ba, bz, rfl, ⟨hok, hoh, hre, hszk, okSz_lo hsz⟩, hbb, hc, hn, hk, hi9⟩
  · skip
    exact absurd (rfl) h1144

set_option maxHeartbeats 4000000 in
set_option maxRecDepth 100000 in
theorem lwc_lay (l : Launch) (D : va_G) (ka : Nat → ClassId) (kb : Nat → Nat) (bd na ad : Nat → Nat) (q sb L9 : Nat) (xs : Nat → Int32) {p : Program} {e : Env} {s : State} {m : MethodId} {args : Array Value} {below : List Frame} {meth : Method} {c : Code} {A : Nat → Prop} {Q : State → Prop} {rt : Option FieldType} (hF : zF p s m args meth c D ka kb A cL_law RL 4 rt) (hX : va_X sb L9 xs s s.heap) (hsb : sb < s.heap.size) (hAb : ¬ A sb) (i : Nat) (hi : i + 7 ≤ L9) (hL9 : L9 ≤ 3584) {ws : va_W} {H : Heap} {locs : List Loc} (hI : LI ka bd na ad q ws) (hB : zB D A s ws H locs)
    (kk : ∀ (ws : va_W) (H : Heap) (locs : List Loc), LI ka bd na ad q ws → zB D A s ws H locs → ∀ ls : Array Slot, lv_has ls 4 [(3, .int (nI i)), (2, .ref q), (1, .ref (bd 31)), (0, .ref sb)] → W p l e room_1 s m args below meth c H locs 92 1052 Q (F0 m 1359 ls [])) {ls : Array Slot} (hl : lv_has ls 4 [(3, .int (nI i)), (2, .ref q), (1, .ref (bd 31)), (0, .ref sb)]) : W p l e room_1 s m args below meth c H locs 92 1052 Q (F0 m 1149 ls []) := by
  have hx : p.tables.exec = Jvm.exec := hF.1.1
  have hb : c.code = cL_law := hF.1.2.1
  obtain ⟨L, mo, an, pl, ho, le, sz, la, sz9, re9, N, o1, o2, o3, st, kp, cnt, opb, rch, wnt, bb, zs, sa7, ss7, dn, up9, rw9, o, tr, bm, b0, b1, it, as9, nu, pu, ga, lg, pm, pa, sa8, ss8, ba, bz, rfl, ha, hbb, hc, hn, hk, hi9⟩ := hI
  have hok := ha.1
  have hoh := ha.2.1
  have hre := ha.2.2.1
  have hszk := ha.2.2.2.1
  have hsz := ha.2.2.2.2
  have hB9 := hc.1
  have hb01 := hc.2
  have hd6 : ∀ k, k < 6 → 0 < (N k).2.2.2.2.toInt := fun k h => by rw [hn.2.1 k h]; exact hn.1 k (by omega)
  replace hB : zB D A s ([((bd 31), .inr (7, [.ref (bd 0), .ref (bd 1), .ref (na 6), .ref (na 7), .ref (bd 2), .ref (bd 3), .ref (bd 4), .ref (bd 5), .ref (bd 6)])), ((bd 0), .inr (2, [.int (bI o1), .ref (na 25), .ref (na 26), .ref (na 27)])), ((bd 1), .inl (ka 3, 6, .inr (.inr (.inr (.inr (nR na 0)))))), ((bd 2), .inr (3, [.int (nI L), .ref (bd 7), .ref (bd 8), .ref (bd 9), .ref (bd 10), .ref (bd 11), .int sz9, .int re9])), ((bd 7), .inl (ka 0, 8, .inl mo)), ((bd 8), .inl (ka 0, 8, .inl an)), ((bd 9), .inl (ka 0, 8, .inl pl)), ((bd 10), .inl (ka 0, 24, .inl ho)), ((bd 11), .inl (ka 0, 2, .inl le)), ((bd 3), .inr (0, [.ref (bd 12), .ref (bd 13), .ref (bd 14), .ref (bd 15), .ref (bd 16), .ref (bd 17), .ref (na 21), .ref (na 22), .ref (na 23), .ref (na 24)])), ((bd 12), .inr (2, [.int (bI o2), .ref (na 28), .ref (na 29), .ref (na 30)])), ((bd 13), .inl (ka 0, 8, .inl st)), ((bd 14), .inl (ka 2, 3, .inl (kI kp))), ((bd 15), .inl (ka 3, 6, .inr (.inr (.inr (.inr (nR na 8)))))), ((bd 16), .inl (ka 3, 3, .inr (.inr (.inr (.inr (nR na 14)))))), ((bd 17), .inl (ka 3, 4, .inr (.inr (.inr (.inr (nR na 17)))))), ((bd 4), .inr (4, [.ref (bd 18), .ref (bd 19), .int cnt, .int opb, .int rch, .int wnt, .ref (bd 20), .ref (bd 21), .ref (bd 22), .int bb.1, .ref (bd 23), .ref (bd 24), .long (Int64.ofInt bb.2.1), .long (Int64.ofInt bb.2.2.1)])), ((bd 18), .inr (2, [.int (bI o3), .ref (na 31), .ref (na 32), .ref (na 33)])), ((bd 19), .inl (ka 0, 3, .inl zs)), ((bd 20), .inl (ka 3, 5, .inr (.inr (.inr (.inr (nR na 34)))))), ((bd 21), .inl (ka 0, 4, .inl sa7)), ((bd 22), .inl (ka 0, 4, .inl ss7)), ((bd 23), .inl (ka 0, 4, .inl bb.2.2.2.1)), ((bd 24), .inl (ka 0, 4, .inl bb.2.2.2.2)), ((bd 5), .inr (6, [.int dn, .int up9, .ref (na 39), .ref (na 40)])), ((bd 6), .inr (5, [.ref (bd 25), .ref (bd 30), .int la])), ((bd 25), .inl (ka 4, 4, .inr (.inr (.inr (.inr (nB bd)))))), ((bd 26), .inl (ka 1, 40, .inr (.inl (rw9 0)))), ((bd 27), .inl (ka 1, 40, .inr (.inl (rw9 1)))), ((bd 28), .inl (ka 1, 40, .inr (.inl (rw9 2)))), ((bd 29), .inl (ka 1, 40, .inr (.inl (rw9 3)))), ((bd 30), .inl (ka 0, 4, .inl sz)), (q, .inr (8, mX ad (bI o) la (nI L) sz9 re9 tr bm (Int64.ofInt b0) (Int64.ofInt b1))), ((ad 0), .inl (ka 0, 4, .inl sz)), ((ad 1), .inl (ka 1, 160, .inr (.inl it))), ((ad 2), .inl (ka 1, 40, .inr (.inl as9))), ((ad 3), .inl (ka 1, 200, .inr (.inl nu))), ((ad 4), .inl (ka 0, 8, .inl mo)), ((ad 5), .inl (ka 0, 8, .inl an)), ((ad 6), .inl (ka 0, 8, .inl pl)), ((ad 7), .inl (ka 0, 24, .inl ho)), ((ad 8), .inl (ka 0, 2, .inl le)), ((ad 9), .inl (ka 1, 4, .inr (.inl pu))), ((ad 10), .inl (ka 0, 4, .inl ga)), ((ad 11), .inl (ka 0, 4, .inl lg)), ((ad 12), .inl (ka 0, 3, .inl pm)), ((ad 13), .inl (ka 0, 3, .inl pa)), ((ad 14), .inl (ka 0, 4, .inl sa8)), ((ad 15), .inl (ka 0, 4, .inl ss8)), ((ad 16), .inl (ka 0, 4, .inl ba)), ((ad 17), .inl (ka 0, 4, .inl bz))] ++ nP na N) H locs := hB
  refine lv_aload_n hx hb dL_law_1149 rfl (lv_at hl 2 rfl) ?_
  refine lv_aload_n hx hb dL_law_1150 rfl (lv_at hl 3 rfl) ?_
  refine lv_iload_n hx hb dL_law_1151 rfl (lv_at hl 0 rfl) ?_
  refine lv_iconst (v := 1) hx hb dL_law_1152 (by decide) ?_
  refine lv_iadd hx hb dL_law_1153 ?_
  refine ztopi (y := nI (i + 1)) (nI_add i 1) ?_
  refine zscr hF hX hsb hAb hB (k := (i + 1)) (by omega) (by omega) dL_law_1154 ?_
  refine lv_aload_n hx hb dL_law_1155 rfl (lv_at hl 3 rfl) ?_
  refine lv_iload_n hx hb dL_law_1156 rfl (lv_at hl 0 rfl) ?_
  refine lv_iconst (v := 2) hx hb dL_law_1157 (by decide) ?_
  refine lv_iadd hx hb dL_law_1158 ?_
  refine ztopi (y := nI (i + 2)) (nI_add i 2) ?_
  refine zscr hF hX hsb hAb hB (k := (i + 2)) (by omega) (by omega) dL_law_1159 ?_
  refine lv_aload_n hx hb dL_law_1160 rfl (lv_at hl 3 rfl) ?_
  refine lv_iload_n hx hb dL_law_1161 rfl (lv_at hl 0 rfl) ?_
  refine lv_iconst (v := 3) hx hb dL_law_1162 (by decide) ?_
  refine lv_iadd hx hb dL_law_1163 ?_
  refine ztopi (y := nI (i + 3)) (nI_add i 3) ?_
  refine zscr hF hX hsb hAb hB (k := (i + 3)) (by omega) (by omega) dL_law_1164 ?_
  refine lv_aload_n hx hb dL_law_1165 rfl (lv_at hl 3 rfl) ?_
  refine lv_iload_n hx hb dL_law_1166 rfl (lv_at hl 0 rfl) ?_
  refine lv_iconst (v := 4) hx hb dL_law_1167 (by decide) ?_
  refine lv_iadd hx hb dL_law_1168 ?_
  refine ztopi (y := nI (i + 4)) (nI_add i 4) ?_
  refine zscr hF hX hsb hAb hB (k := (i + 4)) (by omega) (by omega) dL_law_1169 ?_
  refine zVi zm_L_125 hF hB (c_X7_lay l D ka kb bd na la sz rw9 (xs (i + 1)) (xs (i + 2)) (xs (i + 3)) (xs (i + 4)) (hsz)) [0, 25, 26, 27, 28, 29, 30, 31] rfl (by decide) [(bd 31), (bd 6), (bd 25), (bd 26), (bd 27), (bd 28), (bd 29), (bd 30)] (fun _ => rfl) rfl 0 7 rfl rfl rfl ⟨Nat.le_of_ble_eq_true rfl, Nat.le_of_ble_eq_true rfl⟩ rfl hl.1 (Nat.le_of_ble_eq_true rfl) ⟨Nat.le_of_ble_eq_true rfl, Nat.le_of_ble_eq_true rfl⟩ dL_law_1170 ?_
  clear hB
  try clear locs
  try clear H
  intro r1 u1 H locs hp hB
  obtain ⟨rw21, rfl⟩ : ∃ z, z = u1 := ⟨_, rfl⟩
  have hp1 : r1 = lyA (xs (i + 1)) (xs (i + 2)) (xs (i + 4)) sz ∧ eqI rw21 (lyI (xs (i + 1)) (xs (i + 2)) (xs (i + 3)) (xs (i + 4)) sz rw9) := hp
  have HPP := hp1
  replace hB : zB D A s ([((bd 31), .inr (7, [.ref (bd 0), .ref (bd 1), .ref (na 6), .ref (na 7), .ref (bd 2), .ref (bd 3), .ref (bd 4), .ref (bd 5), .ref (bd 6)])), ((bd 0), .inr (2, [.int (bI o1), .ref (na 25), .ref (na 26), .ref (na 27)])), ((bd 1), .inl (ka 3, 6, .inr (.inr (.inr (.inr (nR na 0)))))), ((bd 2), .inr (3, [.int (nI L), .ref (bd 7), .ref (bd 8), .ref (bd 9), .ref (bd 10), .ref (bd 11), .int sz9, .int re9])), ((bd 7), .inl (ka 0, 8, .inl mo)), ((bd 8), .inl (ka 0, 8, .inl an)), ((bd 9), .inl (ka 0, 8, .inl pl)), ((bd 10), .inl (ka 0, 24, .inl ho)), ((bd 11), .inl (ka 0, 2, .inl le)), ((bd 3), .inr (0, [.ref (bd 12), .ref (bd 13), .ref (bd 14), .ref (bd 15), .ref (bd 16), .ref (bd 17), .ref (na 21), .ref (na 22), .ref (na 23), .ref (na 24)])), ((bd 12), .inr (2, [.int (bI o2), .ref (na 28), .ref (na 29), .ref (na 30)])), ((bd 13), .inl (ka 0, 8, .inl st)), ((bd 14), .inl (ka 2, 3, .inl (kI kp))), ((bd 15), .inl (ka 3, 6, .inr (.inr (.inr (.inr (nR na 8)))))), ((bd 16), .inl (ka 3, 3, .inr (.inr (.inr (.inr (nR na 14)))))), ((bd 17), .inl (ka 3, 4, .inr (.inr (.inr (.inr (nR na 17)))))), ((bd 4), .inr (4, [.ref (bd 18), .ref (bd 19), .int cnt, .int opb, .int rch, .int wnt, .ref (bd 20), .ref (bd 21), .ref (bd 22), .int bb.1, .ref (bd 23), .ref (bd 24), .long (Int64.ofInt bb.2.1), .long (Int64.ofInt bb.2.2.1)])), ((bd 18), .inr (2, [.int (bI o3), .ref (na 31), .ref (na 32), .ref (na 33)])), ((bd 19), .inl (ka 0, 3, .inl zs)), ((bd 20), .inl (ka 3, 5, .inr (.inr (.inr (.inr (nR na 34)))))), ((bd 21), .inl (ka 0, 4, .inl sa7)), ((bd 22), .inl (ka 0, 4, .inl ss7)), ((bd 23), .inl (ka 0, 4, .inl bb.2.2.2.1)), ((bd 24), .inl (ka 0, 4, .inl bb.2.2.2.2)), ((bd 5), .inr (6, [.int dn, .int up9, .ref (na 39), .ref (na 40)])), ((bd 6), .inr (5, [.ref (bd 25), .ref (bd 30), .int (laF (lyF (xs (i + 1)) (xs (i + 2)) (xs (i + 4)) sz) la)])), ((bd 25), .inl (ka 4, 4, .inr (.inr (.inr (.inr (nB bd)))))), ((bd 26), .inl (ka 1, 40, .inr (.inl (rw21 0)))), ((bd 27), .inl (ka 1, 40, .inr (.inl (rw21 1)))), ((bd 28), .inl (ka 1, 40, .inr (.inl (rw21 2)))), ((bd 29), .inl (ka 1, 40, .inr (.inl (rw21 3)))), ((bd 30), .inl (ka 0, 4, .inl sz)), (q, .inr (8, mX ad (bI o) la (nI L) sz9 re9 tr bm (Int64.ofInt b0) (Int64.ofInt b1))), ((ad 0), .inl (ka 0, 4, .inl sz)), ((ad 1), .inl (ka 1, 160, .inr (.inl it))), ((ad 2), .inl (ka 1, 40, .inr (.inl as9))), ((ad 3), .inl (ka 1, 200, .inr (.inl nu))), ((ad 4), .inl (ka 0, 8, .inl mo)), ((ad 5), .inl (ka 0, 8, .inl an)), ((ad 6), .inl (ka 0, 8, .inl pl)), ((ad 7), .inl (ka 0, 24, .inl ho)), ((ad 8), .inl (ka 0, 2, .inl le)), ((ad 9), .inl (ka 1, 4, .inr (.inl pu))), ((ad 10), .inl (ka 0, 4, .inl ga)), ((ad 11), .inl (ka 0, 4, .inl lg)), ((ad 12), .inl (ka 0, 3, .inl pm)), ((ad 13), .inl (ka 0, 3, .inl pa)), ((ad 14), .inl (ka 0, 4, .inl sa8)), ((ad 15), .inl (ka 0, 4, .inl ss8)), ((ad 16), .inl (ka 0, 4, .inl ba)), ((ad 17), .inl (ka 0, 4, .inl bz))] ++ nP na N) H locs := hB
  have h7 := HPP
  refine lv_aload_n hx hb dL_law_1173 rfl (lv_at hl 1 rfl) ?_
  refine lv_aload_n hx hb dL_law_1174 rfl (lv_at hl 3 rfl) ?_
  refine lv_iload_n hx hb dL_law_1175 rfl (lv_at hl 0 rfl) ?_
  refine lv_iconst (v := 1) hx hb dL_law_1176 (by decide) ?_
  refine lv_iadd hx hb dL_law_1177 ?_
  refine ztopi (y := nI (i + 1)) (nI_add i 1) ?_
  refine zscr hF hX hsb hAb hB (k := (i + 1)) (by omega) (by omega) dL_law_1178 ?_
  refine lv_aload_n hx hb dL_law_1179 rfl (lv_at hl 3 rfl) ?_
  refine lv_iload_n hx hb dL_law_1180 rfl (lv_at hl 0 rfl) ?_
  refine lv_iconst (v := 2) hx hb dL_law_1181 (by decide) ?_
  refine lv_iadd hx hb dL_law_1182 ?_
  refine ztopi (y := nI (i + 2)) (nI_add i 2) ?_
  refine zscr hF hX hsb hAb hB (k := (i + 2)) (by omega) (by omega) dL_law_1183 ?_
  refine lv_aload_n hx hb dL_law_1184 rfl (lv_at hl 3 rfl) ?_
  refine lv_iload_n hx hb dL_law_1185 rfl (lv_at hl 0 rfl) ?_
  refine lv_iconst (v := 3) hx hb dL_law_1186 (by decide) ?_
  refine lv_iadd hx hb dL_law_1187 ?_
  refine ztopi (y := nI (i + 3)) (nI_add i 3) ?_
  refine zscr hF hX hsb hAb hB (k := (i + 3)) (by omega) (by omega) dL_law_1188 ?_
  refine lv_aload_n hx hb dL_law_1189 rfl (lv_at hl 3 rfl) ?_
  refine lv_iload_n hx hb dL_law_1190 rfl (lv_at hl 0 rfl) ?_
  refine lv_iconst (v := 4) hx hb dL_law_1191 (by decide) ?_
  refine lv_iadd hx hb dL_law_1192 ?_
  refine ztopi (y := nI (i + 4)) (nI_add i 4) ?_
  refine zscr hF hX hsb hAb hB (k := (i + 4)) (by omega) (by omega) dL_law_1193 ?_
  refine zVi zm_L_128 hF hB (c_X8_lay l D ka kb q ad o (la, (nI L), sz9, re9, tr, bm, (Int64.ofInt b0), (Int64.ofInt b1)) sz it (xs (i + 1)) (xs (i + 2)) (xs (i + 3)) (xs (i + 4)) (hsz)) [32, 33, 34] rfl (by decide) [q, (ad 0), (ad 1)] (fun _ => rfl) rfl 32 8 rfl rfl rfl ⟨Nat.le_of_ble_eq_true rfl, Nat.le_of_ble_eq_true rfl⟩ rfl hl.1 (Nat.le_of_ble_eq_true rfl) ⟨Nat.le_of_ble_eq_true rfl, Nat.le_of_ble_eq_true rfl⟩ dL_law_1194 ?_
  clear hB
  try clear locs
  try clear H
  intro r2 u2 H locs hp hB
  obtain ⟨it22, rfl⟩ : ∃ z, z = u2 := ⟨_, rfl⟩
  have hp2 : r2 = lyA (xs (i + 1)) (xs (i + 2)) (xs (i + 4)) sz ∧ eqI (itM it22) (lyI (xs (i + 1)) (xs (i + 2)) (xs (i + 3)) (xs (i + 4)) sz (itM it)) := hp
  have HPP := hp2
  replace hB : zB D A s ([((bd 31), .inr (7, [.ref (bd 0), .ref (bd 1), .ref (na 6), .ref (na 7), .ref (bd 2), .ref (bd 3), .ref (bd 4), .ref (bd 5), .ref (bd 6)])), ((bd 0), .inr (2, [.int (bI o1), .ref (na 25), .ref (na 26), .ref (na 27)])), ((bd 1), .inl (ka 3, 6, .inr (.inr (.inr (.inr (nR na 0)))))), ((bd 2), .inr (3, [.int (nI L), .ref (bd 7), .ref (bd 8), .ref (bd 9), .ref (bd 10), .ref (bd 11), .int sz9, .int re9])), ((bd 7), .inl (ka 0, 8, .inl mo)), ((bd 8), .inl (ka 0, 8, .inl an)), ((bd 9), .inl (ka 0, 8, .inl pl)), ((bd 10), .inl (ka 0, 24, .inl ho)), ((bd 11), .inl (ka 0, 2, .inl le)), ((bd 3), .inr (0, [.ref (bd 12), .ref (bd 13), .ref (bd 14), .ref (bd 15), .ref (bd 16), .ref (bd 17), .ref (na 21), .ref (na 22), .ref (na 23), .ref (na 24)])), ((bd 12), .inr (2, [.int (bI o2), .ref (na 28), .ref (na 29), .ref (na 30)])), ((bd 13), .inl (ka 0, 8, .inl st)), ((bd 14), .inl (ka 2, 3, .inl (kI kp))), ((bd 15), .inl (ka 3, 6, .inr (.inr (.inr (.inr (nR na 8)))))), ((bd 16), .inl (ka 3, 3, .inr (.inr (.inr (.inr (nR na 14)))))), ((bd 17), .inl (ka 3, 4, .inr (.inr (.inr (.inr (nR na 17)))))), ((bd 4), .inr (4, [.ref (bd 18), .ref (bd 19), .int cnt, .int opb, .int rch, .int wnt, .ref (bd 20), .ref (bd 21), .ref (bd 22), .int bb.1, .ref (bd 23), .ref (bd 24), .long (Int64.ofInt bb.2.1), .long (Int64.ofInt bb.2.2.1)])), ((bd 18), .inr (2, [.int (bI o3), .ref (na 31), .ref (na 32), .ref (na 33)])), ((bd 19), .inl (ka 0, 3, .inl zs)), ((bd 20), .inl (ka 3, 5, .inr (.inr (.inr (.inr (nR na 34)))))), ((bd 21), .inl (ka 0, 4, .inl sa7)), ((bd 22), .inl (ka 0, 4, .inl ss7)), ((bd 23), .inl (ka 0, 4, .inl bb.2.2.2.1)), ((bd 24), .inl (ka 0, 4, .inl bb.2.2.2.2)), ((bd 5), .inr (6, [.int dn, .int up9, .ref (na 39), .ref (na 40)])), ((bd 6), .inr (5, [.ref (bd 25), .ref (bd 30), .int (laF (lyF (xs (i + 1)) (xs (i + 2)) (xs (i + 4)) sz) la)])), ((bd 25), .inl (ka 4, 4, .inr (.inr (.inr (.inr (nB bd)))))), ((bd 26), .inl (ka 1, 40, .inr (.inl (rw21 0)))), ((bd 27), .inl (ka 1, 40, .inr (.inl (rw21 1)))), ((bd 28), .inl (ka 1, 40, .inr (.inl (rw21 2)))), ((bd 29), .inl (ka 1, 40, .inr (.inl (rw21 3)))), ((bd 30), .inl (ka 0, 4, .inl sz)), (q, .inr (8, mX ad (bI o) (laF (lyF (xs (i + 1)) (xs (i + 2)) (xs (i + 4)) sz) (la, (nI L), sz9, re9, tr, bm, (Int64.ofInt b0), (Int64.ofInt b1)).1) (nI L) sz9 re9 tr bm (Int64.ofInt b0) (Int64.ofInt b1))), ((ad 0), .inl (ka 0, 4, .inl sz)), ((ad 1), .inl (ka 1, 160, .inr (.inl it22))), ((ad 2), .inl (ka 1, 40, .inr (.inl as9))), ((ad 3), .inl (ka 1, 200, .inr (.inl nu))), ((ad 4), .inl (ka 0, 8, .inl mo)), ((ad 5), .inl (ka 0, 8, .inl an)), ((ad 6), .inl (ka 0, 8, .inl pl)), ((ad 7), .inl (ka 0, 24, .inl ho)), ((ad 8), .inl (ka 0, 2, .inl le)), ((ad 9), .inl (ka 1, 4, .inr (.inl pu))), ((ad 10), .inl (ka 0, 4, .inl ga)), ((ad 11), .inl (ka 0, 4, .inl lg)), ((ad 12), .inl (ka 0, 3, .inl pm)), ((ad 13), .inl (ka 0, 3, .inl pa)), ((ad 14), .inl (ka 0, 4, .inl sa8)), ((ad 15), .inl (ka 0, 4, .inl ss8)), ((ad 16), .inl (ka 0, 4, .inl ba)), ((ad 17), .inl (ka 0, 4, .inl bz))] ++ nP na N) H locs := hB
  have h8 := HPP
  refine lv_icmp_eq (tgt := 1359) hx hb dL_law_1197 (by decide) (fun h1197 => ?_) (fun h1197 => ?_)
  · skip
    refine kk _ H locs ?_ hB ls (lv_sub hl [0, 1, 2, 3] rfl)
    exact ⟨L, mo, an, pl, ho, le, sz, laF (lyF (xs (i + 1)) (xs (i + 2)) (xs (i + 4)) sz) la, sz9, re9, N, o1, o2, o3, st, kp, cnt, opb, rch, wnt, bb, zs, sa7, ss7, dn, up9, rw21, o, tr, bm, b0, b1, it22, as9, nu, pu, ga, lg, pm, pa, sa8, ss8, ba, bz, rfl, ha, hbb, hc, hn, hk, ly_tie hi9 h7.2 h8.2⟩
  · skip
    exact absurd (h7.1.trans h8.1.symm) h1197

set_option maxHeartbeats 4000000 in
set_option maxRecDepth 100000 in
theorem lwc_get (l : Launch) (D : va_G) (ka : Nat → ClassId) (kb : Nat → Nat) (bd na ad : Nat → Nat) (q sb L9 : Nat) (xs : Nat → Int32) {p : Program} {e : Env} {s : State} {m : MethodId} {args : Array Value} {below : List Frame} {meth : Method} {c : Code} {A : Nat → Prop} {Q : State → Prop} {rt : Option FieldType} (hF : zF p s m args meth c D ka kb A cL_law RL 4 rt) (hX : va_X sb L9 xs s s.heap) (hsb : sb < s.heap.size) (hAb : ¬ A sb) (i : Nat) (hi : i + 7 ≤ L9) (hL9 : L9 ≤ 3584) {ws : va_W} {H : Heap} {locs : List Loc} (hI : LI ka bd na ad q ws) (hB : zB D A s ws H locs)
    (kk : ∀ (ws : va_W) (H : Heap) (locs : List Loc), LI ka bd na ad q ws → zB D A s ws H locs → ∀ ls : Array Slot, lv_has ls 4 [(3, .int (nI i)), (2, .ref q), (1, .ref (bd 31)), (0, .ref sb)] → W p l e room_1 s m args below meth c H locs 92 1052 Q (F0 m 1359 ls [])) {ls : Array Slot} (hl : lv_has ls 4 [(3, .int (nI i)), (2, .ref q), (1, .ref (bd 31)), (0, .ref sb)]) : W p l e room_1 s m args below meth c H locs 92 1052 Q (F0 m 1202 ls []) := by
  have hx : p.tables.exec = Jvm.exec := hF.1.1
  have hb : c.code = cL_law := hF.1.2.1
  obtain ⟨L, mo, an, pl, ho, le, sz, la, sz9, re9, N, o1, o2, o3, st, kp, cnt, opb, rch, wnt, bb, zs, sa7, ss7, dn, up9, rw9, o, tr, bm, b0, b1, it, as9, nu, pu, ga, lg, pm, pa, sa8, ss8, ba, bz, rfl, ha, hbb, hc, hn, hk, hi9⟩ := hI
  have hok := ha.1
  have hoh := ha.2.1
  have hre := ha.2.2.1
  have hszk := ha.2.2.2.1
  have hsz := ha.2.2.2.2
  have hB9 := hc.1
  have hb01 := hc.2
  have hd6 : ∀ k, k < 6 → 0 < (N k).2.2.2.2.toInt := fun k h => by rw [hn.2.1 k h]; exact hn.1 k (by omega)
  replace hB : zB D A s ([((bd 31), .inr (7, [.ref (bd 0), .ref (bd 1), .ref (na 6), .ref (na 7), .ref (bd 2), .ref (bd 3), .ref (bd 4), .ref (bd 5), .ref (bd 6)])), ((bd 0), .inr (2, [.int (bI o1), .ref (na 25), .ref (na 26), .ref (na 27)])), ((bd 1), .inl (ka 3, 6, .inr (.inr (.inr (.inr (nR na 0)))))), ((bd 2), .inr (3, [.int (nI L), .ref (bd 7), .ref (bd 8), .ref (bd 9), .ref (bd 10), .ref (bd 11), .int sz9, .int re9])), ((bd 7), .inl (ka 0, 8, .inl mo)), ((bd 8), .inl (ka 0, 8, .inl an)), ((bd 9), .inl (ka 0, 8, .inl pl)), ((bd 10), .inl (ka 0, 24, .inl ho)), ((bd 11), .inl (ka 0, 2, .inl le)), ((bd 3), .inr (0, [.ref (bd 12), .ref (bd 13), .ref (bd 14), .ref (bd 15), .ref (bd 16), .ref (bd 17), .ref (na 21), .ref (na 22), .ref (na 23), .ref (na 24)])), ((bd 12), .inr (2, [.int (bI o2), .ref (na 28), .ref (na 29), .ref (na 30)])), ((bd 13), .inl (ka 0, 8, .inl st)), ((bd 14), .inl (ka 2, 3, .inl (kI kp))), ((bd 15), .inl (ka 3, 6, .inr (.inr (.inr (.inr (nR na 8)))))), ((bd 16), .inl (ka 3, 3, .inr (.inr (.inr (.inr (nR na 14)))))), ((bd 17), .inl (ka 3, 4, .inr (.inr (.inr (.inr (nR na 17)))))), ((bd 4), .inr (4, [.ref (bd 18), .ref (bd 19), .int cnt, .int opb, .int rch, .int wnt, .ref (bd 20), .ref (bd 21), .ref (bd 22), .int bb.1, .ref (bd 23), .ref (bd 24), .long (Int64.ofInt bb.2.1), .long (Int64.ofInt bb.2.2.1)])), ((bd 18), .inr (2, [.int (bI o3), .ref (na 31), .ref (na 32), .ref (na 33)])), ((bd 19), .inl (ka 0, 3, .inl zs)), ((bd 20), .inl (ka 3, 5, .inr (.inr (.inr (.inr (nR na 34)))))), ((bd 21), .inl (ka 0, 4, .inl sa7)), ((bd 22), .inl (ka 0, 4, .inl ss7)), ((bd 23), .inl (ka 0, 4, .inl bb.2.2.2.1)), ((bd 24), .inl (ka 0, 4, .inl bb.2.2.2.2)), ((bd 5), .inr (6, [.int dn, .int up9, .ref (na 39), .ref (na 40)])), ((bd 6), .inr (5, [.ref (bd 25), .ref (bd 30), .int la])), ((bd 25), .inl (ka 4, 4, .inr (.inr (.inr (.inr (nB bd)))))), ((bd 26), .inl (ka 1, 40, .inr (.inl (rw9 0)))), ((bd 27), .inl (ka 1, 40, .inr (.inl (rw9 1)))), ((bd 28), .inl (ka 1, 40, .inr (.inl (rw9 2)))), ((bd 29), .inl (ka 1, 40, .inr (.inl (rw9 3)))), ((bd 30), .inl (ka 0, 4, .inl sz)), (q, .inr (8, mX ad (bI o) la (nI L) sz9 re9 tr bm (Int64.ofInt b0) (Int64.ofInt b1))), ((ad 0), .inl (ka 0, 4, .inl sz)), ((ad 1), .inl (ka 1, 160, .inr (.inl it))), ((ad 2), .inl (ka 1, 40, .inr (.inl as9))), ((ad 3), .inl (ka 1, 200, .inr (.inl nu))), ((ad 4), .inl (ka 0, 8, .inl mo)), ((ad 5), .inl (ka 0, 8, .inl an)), ((ad 6), .inl (ka 0, 8, .inl pl)), ((ad 7), .inl (ka 0, 24, .inl ho)), ((ad 8), .inl (ka 0, 2, .inl le)), ((ad 9), .inl (ka 1, 4, .inr (.inl pu))), ((ad 10), .inl (ka 0, 4, .inl ga)), ((ad 11), .inl (ka 0, 4, .inl lg)), ((ad 12), .inl (ka 0, 3, .inl pm)), ((ad 13), .inl (ka 0, 3, .inl pa)), ((ad 14), .inl (ka 0, 4, .inl sa8)), ((ad 15), .inl (ka 0, 4, .inl ss8)), ((ad 16), .inl (ka 0, 4, .inl ba)), ((ad 17), .inl (ka 0, 4, .inl bz))] ++ nP na N) H locs := hB
  refine lv_aload_n hx hb dL_law_1202 rfl (lv_at hl 2 rfl) ?_
  refine lv_aload_n hx hb dL_law_1203 rfl (lv_at hl 3 rfl) ?_
  refine lv_iload_n hx hb dL_law_1204 rfl (lv_at hl 0 rfl) ?_
  refine lv_iconst (v := 1) hx hb dL_law_1205 (by decide) ?_
  refine lv_iadd hx hb dL_law_1206 ?_
  refine ztopi (y := nI (i + 1)) (nI_add i 1) ?_
  refine zscr hF hX hsb hAb hB (k := (i + 1)) (by omega) (by omega) dL_law_1207 ?_
  refine lv_aload_n hx hb dL_law_1208 rfl (lv_at hl 3 rfl) ?_
  refine lv_iload_n hx hb dL_law_1209 rfl (lv_at hl 0 rfl) ?_
  refine lv_iconst (v := 2) hx hb dL_law_1210 (by decide) ?_
  refine lv_iadd hx hb dL_law_1211 ?_
  refine ztopi (y := nI (i + 2)) (nI_add i 2) ?_
  refine zscr hF hX hsb hAb hB (k := (i + 2)) (by omega) (by omega) dL_law_1212 ?_
  refine zVl zm_L_129 hF hB (c_X7_get l D ka kb bd na la sz rw9 (xs (i + 1)) (xs (i + 2)) (hsz)) [0, 25, 26, 27, 28, 29, 30, 31] rfl (by decide) [(bd 31), (bd 6), (bd 25), (bd 26), (bd 27), (bd 28), (bd 29), (bd 30)] (fun _ => rfl) rfl 0 7 rfl rfl rfl ⟨Nat.le_of_ble_eq_true rfl, Nat.le_of_ble_eq_true rfl⟩ rfl hl.1 (Nat.le_of_ble_eq_true rfl) ⟨Nat.le_of_ble_eq_true rfl, Nat.le_of_ble_eq_true rfl⟩ dL_law_1213 ?_
  clear hB
  try clear locs
  try clear H
  intro r1 u1 H locs hp hB
  obtain rfl : r1 = gtA (xs (i + 1)) (xs (i + 2)) sz rw9 := hp
  replace hB : zB D A s ([((bd 31), .inr (7, [.ref (bd 0), .ref (bd 1), .ref (na 6), .ref (na 7), .ref (bd 2), .ref (bd 3), .ref (bd 4), .ref (bd 5), .ref (bd 6)])), ((bd 0), .inr (2, [.int (bI o1), .ref (na 25), .ref (na 26), .ref (na 27)])), ((bd 1), .inl (ka 3, 6, .inr (.inr (.inr (.inr (nR na 0)))))), ((bd 2), .inr (3, [.int (nI L), .ref (bd 7), .ref (bd 8), .ref (bd 9), .ref (bd 10), .ref (bd 11), .int sz9, .int re9])), ((bd 7), .inl (ka 0, 8, .inl mo)), ((bd 8), .inl (ka 0, 8, .inl an)), ((bd 9), .inl (ka 0, 8, .inl pl)), ((bd 10), .inl (ka 0, 24, .inl ho)), ((bd 11), .inl (ka 0, 2, .inl le)), ((bd 3), .inr (0, [.ref (bd 12), .ref (bd 13), .ref (bd 14), .ref (bd 15), .ref (bd 16), .ref (bd 17), .ref (na 21), .ref (na 22), .ref (na 23), .ref (na 24)])), ((bd 12), .inr (2, [.int (bI o2), .ref (na 28), .ref (na 29), .ref (na 30)])), ((bd 13), .inl (ka 0, 8, .inl st)), ((bd 14), .inl (ka 2, 3, .inl (kI kp))), ((bd 15), .inl (ka 3, 6, .inr (.inr (.inr (.inr (nR na 8)))))), ((bd 16), .inl (ka 3, 3, .inr (.inr (.inr (.inr (nR na 14)))))), ((bd 17), .inl (ka 3, 4, .inr (.inr (.inr (.inr (nR na 17)))))), ((bd 4), .inr (4, [.ref (bd 18), .ref (bd 19), .int cnt, .int opb, .int rch, .int wnt, .ref (bd 20), .ref (bd 21), .ref (bd 22), .int bb.1, .ref (bd 23), .ref (bd 24), .long (Int64.ofInt bb.2.1), .long (Int64.ofInt bb.2.2.1)])), ((bd 18), .inr (2, [.int (bI o3), .ref (na 31), .ref (na 32), .ref (na 33)])), ((bd 19), .inl (ka 0, 3, .inl zs)), ((bd 20), .inl (ka 3, 5, .inr (.inr (.inr (.inr (nR na 34)))))), ((bd 21), .inl (ka 0, 4, .inl sa7)), ((bd 22), .inl (ka 0, 4, .inl ss7)), ((bd 23), .inl (ka 0, 4, .inl bb.2.2.2.1)), ((bd 24), .inl (ka 0, 4, .inl bb.2.2.2.2)), ((bd 5), .inr (6, [.int dn, .int up9, .ref (na 39), .ref (na 40)])), ((bd 6), .inr (5, [.ref (bd 25), .ref (bd 30), .int (laF (gtF (xs (i + 1)) (xs (i + 2)) sz) la)])), ((bd 25), .inl (ka 4, 4, .inr (.inr (.inr (.inr (nB bd)))))), ((bd 26), .inl (ka 1, 40, .inr (.inl (rw9 0)))), ((bd 27), .inl (ka 1, 40, .inr (.inl (rw9 1)))), ((bd 28), .inl (ka 1, 40, .inr (.inl (rw9 2)))), ((bd 29), .inl (ka 1, 40, .inr (.inl (rw9 3)))), ((bd 30), .inl (ka 0, 4, .inl sz)), (q, .inr (8, mX ad (bI o) la (nI L) sz9 re9 tr bm (Int64.ofInt b0) (Int64.ofInt b1))), ((ad 0), .inl (ka 0, 4, .inl sz)), ((ad 1), .inl (ka 1, 160, .inr (.inl it))), ((ad 2), .inl (ka 1, 40, .inr (.inl as9))), ((ad 3), .inl (ka 1, 200, .inr (.inl nu))), ((ad 4), .inl (ka 0, 8, .inl mo)), ((ad 5), .inl (ka 0, 8, .inl an)), ((ad 6), .inl (ka 0, 8, .inl pl)), ((ad 7), .inl (ka 0, 24, .inl ho)), ((ad 8), .inl (ka 0, 2, .inl le)), ((ad 9), .inl (ka 1, 4, .inr (.inl pu))), ((ad 10), .inl (ka 0, 4, .inl ga)), ((ad 11), .inl (ka 0, 4, .inl lg)), ((ad 12), .inl (ka 0, 3, .inl pm)), ((ad 13), .inl (ka 0, 3, .inl pa)), ((ad 14), .inl (ka 0, 4, .inl sa8)), ((ad 15), .inl (ka 0, 4, .inl ss8)), ((ad 16), .inl (ka 0, 4, .inl ba)), ((ad 17), .inl (ka 0, 4, .inl bz))] ++ nP na N) H locs := hB
  refine lv_aload_n hx hb dL_law_1216 rfl (lv_at hl 1 rfl) ?_
  refine lv_aload_n hx hb dL_law_1217 rfl (lv_at hl 3 rfl) ?_
  refine lv_iload_n hx hb dL_law_1218 rfl (lv_at hl 0 rfl) ?_
  refine lv_iconst (v := 1) hx hb dL_law_1219 (by decide) ?_
  refine lv_iadd hx hb dL_law_1220 ?_
  refine ztopi (y := nI (i + 1)) (nI_add i 1) ?_
  refine zscr hF hX hsb hAb hB (k := (i + 1)) (by omega) (by omega) dL_law_1221 ?_
  refine lv_aload_n hx hb dL_law_1222 rfl (lv_at hl 3 rfl) ?_
  refine lv_iload_n hx hb dL_law_1223 rfl (lv_at hl 0 rfl) ?_
  refine lv_iconst (v := 2) hx hb dL_law_1224 (by decide) ?_
  refine lv_iadd hx hb dL_law_1225 ?_
  refine ztopi (y := nI (i + 2)) (nI_add i 2) ?_
  refine zscr hF hX hsb hAb hB (k := (i + 2)) (by omega) (by omega) dL_law_1226 ?_
  refine zVl zm_L_132 hF hB (c_X8_get l D ka kb q ad o (la, (nI L), sz9, re9, tr, bm, (Int64.ofInt b0), (Int64.ofInt b1)) sz it (xs (i + 1)) (xs (i + 2)) (hsz)) [32, 33, 34] rfl (by decide) [q, (ad 0), (ad 1)] (fun _ => rfl) rfl 32 8 rfl rfl rfl ⟨Nat.le_of_ble_eq_true rfl, Nat.le_of_ble_eq_true rfl⟩ rfl hl.1 (Nat.le_of_ble_eq_true rfl) ⟨Nat.le_of_ble_eq_true rfl, Nat.le_of_ble_eq_true rfl⟩ dL_law_1227 ?_
  clear hB
  try clear locs
  try clear H
  intro r2 u2 H locs hp hB
  obtain rfl : r2 = gtA (xs (i + 1)) (xs (i + 2)) sz (itM it) := hp
  replace hB : zB D A s ([((bd 31), .inr (7, [.ref (bd 0), .ref (bd 1), .ref (na 6), .ref (na 7), .ref (bd 2), .ref (bd 3), .ref (bd 4), .ref (bd 5), .ref (bd 6)])), ((bd 0), .inr (2, [.int (bI o1), .ref (na 25), .ref (na 26), .ref (na 27)])), ((bd 1), .inl (ka 3, 6, .inr (.inr (.inr (.inr (nR na 0)))))), ((bd 2), .inr (3, [.int (nI L), .ref (bd 7), .ref (bd 8), .ref (bd 9), .ref (bd 10), .ref (bd 11), .int sz9, .int re9])), ((bd 7), .inl (ka 0, 8, .inl mo)), ((bd 8), .inl (ka 0, 8, .inl an)), ((bd 9), .inl (ka 0, 8, .inl pl)), ((bd 10), .inl (ka 0, 24, .inl ho)), ((bd 11), .inl (ka 0, 2, .inl le)), ((bd 3), .inr (0, [.ref (bd 12), .ref (bd 13), .ref (bd 14), .ref (bd 15), .ref (bd 16), .ref (bd 17), .ref (na 21), .ref (na 22), .ref (na 23), .ref (na 24)])), ((bd 12), .inr (2, [.int (bI o2), .ref (na 28), .ref (na 29), .ref (na 30)])), ((bd 13), .inl (ka 0, 8, .inl st)), ((bd 14), .inl (ka 2, 3, .inl (kI kp))), ((bd 15), .inl (ka 3, 6, .inr (.inr (.inr (.inr (nR na 8)))))), ((bd 16), .inl (ka 3, 3, .inr (.inr (.inr (.inr (nR na 14)))))), ((bd 17), .inl (ka 3, 4, .inr (.inr (.inr (.inr (nR na 17)))))), ((bd 4), .inr (4, [.ref (bd 18), .ref (bd 19), .int cnt, .int opb, .int rch, .int wnt, .ref (bd 20), .ref (bd 21), .ref (bd 22), .int bb.1, .ref (bd 23), .ref (bd 24), .long (Int64.ofInt bb.2.1), .long (Int64.ofInt bb.2.2.1)])), ((bd 18), .inr (2, [.int (bI o3), .ref (na 31), .ref (na 32), .ref (na 33)])), ((bd 19), .inl (ka 0, 3, .inl zs)), ((bd 20), .inl (ka 3, 5, .inr (.inr (.inr (.inr (nR na 34)))))), ((bd 21), .inl (ka 0, 4, .inl sa7)), ((bd 22), .inl (ka 0, 4, .inl ss7)), ((bd 23), .inl (ka 0, 4, .inl bb.2.2.2.1)), ((bd 24), .inl (ka 0, 4, .inl bb.2.2.2.2)), ((bd 5), .inr (6, [.int dn, .int up9, .ref (na 39), .ref (na 40)])), ((bd 6), .inr (5, [.ref (bd 25), .ref (bd 30), .int (laF (gtF (xs (i + 1)) (xs (i + 2)) sz) la)])), ((bd 25), .inl (ka 4, 4, .inr (.inr (.inr (.inr (nB bd)))))), ((bd 26), .inl (ka 1, 40, .inr (.inl (rw9 0)))), ((bd 27), .inl (ka 1, 40, .inr (.inl (rw9 1)))), ((bd 28), .inl (ka 1, 40, .inr (.inl (rw9 2)))), ((bd 29), .inl (ka 1, 40, .inr (.inl (rw9 3)))), ((bd 30), .inl (ka 0, 4, .inl sz)), (q, .inr (8, mX ad (bI o) (laF (gtF (xs (i + 1)) (xs (i + 2)) sz) (la, (nI L), sz9, re9, tr, bm, (Int64.ofInt b0), (Int64.ofInt b1)).1) (nI L) sz9 re9 tr bm (Int64.ofInt b0) (Int64.ofInt b1))), ((ad 0), .inl (ka 0, 4, .inl sz)), ((ad 1), .inl (ka 1, 160, .inr (.inl it))), ((ad 2), .inl (ka 1, 40, .inr (.inl as9))), ((ad 3), .inl (ka 1, 200, .inr (.inl nu))), ((ad 4), .inl (ka 0, 8, .inl mo)), ((ad 5), .inl (ka 0, 8, .inl an)), ((ad 6), .inl (ka 0, 8, .inl pl)), ((ad 7), .inl (ka 0, 24, .inl ho)), ((ad 8), .inl (ka 0, 2, .inl le)), ((ad 9), .inl (ka 1, 4, .inr (.inl pu))), ((ad 10), .inl (ka 0, 4, .inl ga)), ((ad 11), .inl (ka 0, 4, .inl lg)), ((ad 12), .inl (ka 0, 3, .inl pm)), ((ad 13), .inl (ka 0, 3, .inl pa)), ((ad 14), .inl (ka 0, 4, .inl sa8)), ((ad 15), .inl (ka 0, 4, .inl ss8)), ((ad 16), .inl (ka 0, 4, .inl ba)), ((ad 17), .inl (ka 0, 4, .inl bz))] ++ nP na N) H locs := hB
  refine W.lcmp hx hb dL_law_1230 ?_
  refine lv_if_eq (tgt := 1359) hx hb dL_law_1231 (by decide) (fun h1231 => ?_) (fun h1231 => ?_)
  · skip
    replace h1231 := (lg_cmp_eq _ _).mp h1231
    refine kk _ H locs ?_ hB ls (lv_sub hl [0, 1, 2, 3] rfl)
    exact ⟨L, mo, an, pl, ho, le, sz, laF (gtF (xs (i + 1)) (xs (i + 2)) sz) la, sz9, re9, N, o1, o2, o3, st, kp, cnt, opb, rch, wnt, bb, zs, sa7, ss7, dn, up9, rw9, o, tr, bm, b0, b1, it, as9, nu, pu, ga, lg, pm, pa, sa8, ss8, ba, bz, rfl, ha, hbb, hc, hn, hk, hi9⟩
  · skip
    replace h1231 := (fun e9 => h1231 ((lg_cmp_eq _ _).mpr e9))
    exact absurd (gt_tie hsz hi9) h1231

set_option maxHeartbeats 4000000 in
set_option maxRecDepth 100000 in
theorem lwc_copy (l : Launch) (D : va_G) (ka : Nat → ClassId) (kb : Nat → Nat) (bd na ad : Nat → Nat) (q sb L9 : Nat) (xs : Nat → Int32) {p : Program} {e : Env} {s : State} {m : MethodId} {args : Array Value} {below : List Frame} {meth : Method} {c : Code} {A : Nat → Prop} {Q : State → Prop} {rt : Option FieldType} (hF : zF p s m args meth c D ka kb A cL_law RL 4 rt) (hX : va_X sb L9 xs s s.heap) (hsb : sb < s.heap.size) (hAb : ¬ A sb) (i : Nat) (hi : i + 7 ≤ L9) (hL9 : L9 ≤ 3584) {ws : va_W} {H : Heap} {locs : List Loc} (hI : LI ka bd na ad q ws) (hB : zB D A s ws H locs)
    (kk : ∀ (ws : va_W) (H : Heap) (locs : List Loc), LI ka bd na ad q ws → zB D A s ws H locs → ∀ ls : Array Slot, lv_has ls 4 [(3, .int (nI i)), (2, .ref q), (1, .ref (bd 31)), (0, .ref sb)] → W p l e room_1 s m args below meth c H locs 92 1052 Q (F0 m 1359 ls [])) {ls : Array Slot} (hl : lv_has ls 4 [(3, .int (nI i)), (2, .ref q), (1, .ref (bd 31)), (0, .ref sb)]) : W p l e room_1 s m args below meth c H locs 92 1052 Q (F0 m 1236 ls []) := by
  have hx : p.tables.exec = Jvm.exec := hF.1.1
  have hb : c.code = cL_law := hF.1.2.1
  obtain ⟨L, mo, an, pl, ho, le, sz, la, sz9, re9, N, o1, o2, o3, st, kp, cnt, opb, rch, wnt, bb, zs, sa7, ss7, dn, up9, rw9, o, tr, bm, b0, b1, it, as9, nu, pu, ga, lg, pm, pa, sa8, ss8, ba, bz, rfl, ha, hbb, hc, hn, hk, hi9⟩ := hI
  have hok := ha.1
  have hoh := ha.2.1
  have hre := ha.2.2.1
  have hszk := ha.2.2.2.1
  have hsz := ha.2.2.2.2
  have hB9 := hc.1
  have hb01 := hc.2
  have hd6 : ∀ k, k < 6 → 0 < (N k).2.2.2.2.toInt := fun k h => by rw [hn.2.1 k h]; exact hn.1 k (by omega)
  replace hB : zB D A s ([((bd 31), .inr (7, [.ref (bd 0), .ref (bd 1), .ref (na 6), .ref (na 7), .ref (bd 2), .ref (bd 3), .ref (bd 4), .ref (bd 5), .ref (bd 6)])), ((bd 0), .inr (2, [.int (bI o1), .ref (na 25), .ref (na 26), .ref (na 27)])), ((bd 1), .inl (ka 3, 6, .inr (.inr (.inr (.inr (nR na 0)))))), ((bd 2), .inr (3, [.int (nI L), .ref (bd 7), .ref (bd 8), .ref (bd 9), .ref (bd 10), .ref (bd 11), .int sz9, .int re9])), ((bd 7), .inl (ka 0, 8, .inl mo)), ((bd 8), .inl (ka 0, 8, .inl an)), ((bd 9), .inl (ka 0, 8, .inl pl)), ((bd 10), .inl (ka 0, 24, .inl ho)), ((bd 11), .inl (ka 0, 2, .inl le)), ((bd 3), .inr (0, [.ref (bd 12), .ref (bd 13), .ref (bd 14), .ref (bd 15), .ref (bd 16), .ref (bd 17), .ref (na 21), .ref (na 22), .ref (na 23), .ref (na 24)])), ((bd 12), .inr (2, [.int (bI o2), .ref (na 28), .ref (na 29), .ref (na 30)])), ((bd 13), .inl (ka 0, 8, .inl st)), ((bd 14), .inl (ka 2, 3, .inl (kI kp))), ((bd 15), .inl (ka 3, 6, .inr (.inr (.inr (.inr (nR na 8)))))), ((bd 16), .inl (ka 3, 3, .inr (.inr (.inr (.inr (nR na 14)))))), ((bd 17), .inl (ka 3, 4, .inr (.inr (.inr (.inr (nR na 17)))))), ((bd 4), .inr (4, [.ref (bd 18), .ref (bd 19), .int cnt, .int opb, .int rch, .int wnt, .ref (bd 20), .ref (bd 21), .ref (bd 22), .int bb.1, .ref (bd 23), .ref (bd 24), .long (Int64.ofInt bb.2.1), .long (Int64.ofInt bb.2.2.1)])), ((bd 18), .inr (2, [.int (bI o3), .ref (na 31), .ref (na 32), .ref (na 33)])), ((bd 19), .inl (ka 0, 3, .inl zs)), ((bd 20), .inl (ka 3, 5, .inr (.inr (.inr (.inr (nR na 34)))))), ((bd 21), .inl (ka 0, 4, .inl sa7)), ((bd 22), .inl (ka 0, 4, .inl ss7)), ((bd 23), .inl (ka 0, 4, .inl bb.2.2.2.1)), ((bd 24), .inl (ka 0, 4, .inl bb.2.2.2.2)), ((bd 5), .inr (6, [.int dn, .int up9, .ref (na 39), .ref (na 40)])), ((bd 6), .inr (5, [.ref (bd 25), .ref (bd 30), .int la])), ((bd 25), .inl (ka 4, 4, .inr (.inr (.inr (.inr (nB bd)))))), ((bd 26), .inl (ka 1, 40, .inr (.inl (rw9 0)))), ((bd 27), .inl (ka 1, 40, .inr (.inl (rw9 1)))), ((bd 28), .inl (ka 1, 40, .inr (.inl (rw9 2)))), ((bd 29), .inl (ka 1, 40, .inr (.inl (rw9 3)))), ((bd 30), .inl (ka 0, 4, .inl sz)), (q, .inr (8, mX ad (bI o) la (nI L) sz9 re9 tr bm (Int64.ofInt b0) (Int64.ofInt b1))), ((ad 0), .inl (ka 0, 4, .inl sz)), ((ad 1), .inl (ka 1, 160, .inr (.inl it))), ((ad 2), .inl (ka 1, 40, .inr (.inl as9))), ((ad 3), .inl (ka 1, 200, .inr (.inl nu))), ((ad 4), .inl (ka 0, 8, .inl mo)), ((ad 5), .inl (ka 0, 8, .inl an)), ((ad 6), .inl (ka 0, 8, .inl pl)), ((ad 7), .inl (ka 0, 24, .inl ho)), ((ad 8), .inl (ka 0, 2, .inl le)), ((ad 9), .inl (ka 1, 4, .inr (.inl pu))), ((ad 10), .inl (ka 0, 4, .inl ga)), ((ad 11), .inl (ka 0, 4, .inl lg)), ((ad 12), .inl (ka 0, 3, .inl pm)), ((ad 13), .inl (ka 0, 3, .inl pa)), ((ad 14), .inl (ka 0, 4, .inl sa8)), ((ad 15), .inl (ka 0, 4, .inl ss8)), ((ad 16), .inl (ka 0, 4, .inl ba)), ((ad 17), .inl (ka 0, 4, .inl bz))] ++ nP na N) H locs := hB
  refine lv_aload_n hx hb dL_law_1236 rfl (lv_at hl 2 rfl) ?_
  refine lv_aload_n hx hb dL_law_1237 rfl (lv_at hl 3 rfl) ?_
  refine lv_iload_n hx hb dL_law_1238 rfl (lv_at hl 0 rfl) ?_
  refine lv_iconst (v := 1) hx hb dL_law_1239 (by decide) ?_
  refine lv_iadd hx hb dL_law_1240 ?_
  refine ztopi (y := nI (i + 1)) (nI_add i 1) ?_
  refine zscr hF hX hsb hAb hB (k := (i + 1)) (by omega) (by omega) dL_law_1241 ?_
  refine lv_aload_n hx hb dL_law_1242 rfl (lv_at hl 3 rfl) ?_
  refine lv_iload_n hx hb dL_law_1243 rfl (lv_at hl 0 rfl) ?_
  refine lv_iconst (v := 2) hx hb dL_law_1244 (by decide) ?_
  refine lv_iadd hx hb dL_law_1245 ?_
  refine ztopi (y := nI (i + 2)) (nI_add i 2) ?_
  refine zscr hF hX hsb hAb hB (k := (i + 2)) (by omega) (by omega) dL_law_1246 ?_
  refine lv_aload_n hx hb dL_law_1247 rfl (lv_at hl 3 rfl) ?_
  refine lv_iload_n hx hb dL_law_1248 rfl (lv_at hl 0 rfl) ?_
  refine lv_iconst (v := 3) hx hb dL_law_1249 (by decide) ?_
  refine lv_iadd hx hb dL_law_1250 ?_
  refine ztopi (y := nI (i + 3)) (nI_add i 3) ?_
  refine zscr hF hX hsb hAb hB (k := (i + 3)) (by omega) (by omega) dL_law_1251 ?_
  refine lv_aload_n hx hb dL_law_1252 rfl (lv_at hl 3 rfl) ?_
  refine lv_iload_n hx hb dL_law_1253 rfl (lv_at hl 0 rfl) ?_
  refine lv_iconst (v := 4) hx hb dL_law_1254 (by decide) ?_
  refine lv_iadd hx hb dL_law_1255 ?_
  refine ztopi (y := nI (i + 4)) (nI_add i 4) ?_
  refine zscr hF hX hsb hAb hB (k := (i + 4)) (by omega) (by omega) dL_law_1256 ?_
  refine lv_aload_n hx hb dL_law_1257 rfl (lv_at hl 3 rfl) ?_
  refine lv_iload_n hx hb dL_law_1258 rfl (lv_at hl 0 rfl) ?_
  refine lv_iconst (v := 5) hx hb dL_law_1259 (by decide) ?_
  refine lv_iadd hx hb dL_law_1260 ?_
  refine ztopi (y := nI (i + 5)) (nI_add i 5) ?_
  refine zscr hF hX hsb hAb hB (k := (i + 5)) (by omega) (by omega) dL_law_1261 ?_
  refine zVi zm_L_133 hF hB (c_X7_copy l D ka kb bd na la sz rw9 (xs (i + 1)) (xs (i + 2)) (xs (i + 3)) (xs (i + 4)) (xs (i + 5)) (hsz)) [0, 25, 26, 27, 28, 29, 30, 31] rfl (by decide) [(bd 31), (bd 6), (bd 25), (bd 26), (bd 27), (bd 28), (bd 29), (bd 30)] (fun _ => rfl) rfl 0 7 rfl rfl rfl ⟨Nat.le_of_ble_eq_true rfl, Nat.le_of_ble_eq_true rfl⟩ rfl hl.1 (Nat.le_of_ble_eq_true rfl) ⟨Nat.le_of_ble_eq_true rfl, Nat.le_of_ble_eq_true rfl⟩ dL_law_1262 ?_
  clear hB
  try clear locs
  try clear H
  intro r1 u1 H locs hp hB
  obtain ⟨rw21, rfl⟩ : ∃ z, z = u1 := ⟨_, rfl⟩
  have hp1 : r1 = cpA (xs (i + 1)) (xs (i + 2)) (xs (i + 3)) (xs (i + 4)) (xs (i + 5)) sz ∧ eqI rw21 (cpI (xs (i + 1)) (xs (i + 2)) (xs (i + 3)) (xs (i + 4)) (xs (i + 5)) sz rw9) := hp
  have HPP := hp1
  replace hB : zB D A s ([((bd 31), .inr (7, [.ref (bd 0), .ref (bd 1), .ref (na 6), .ref (na 7), .ref (bd 2), .ref (bd 3), .ref (bd 4), .ref (bd 5), .ref (bd 6)])), ((bd 0), .inr (2, [.int (bI o1), .ref (na 25), .ref (na 26), .ref (na 27)])), ((bd 1), .inl (ka 3, 6, .inr (.inr (.inr (.inr (nR na 0)))))), ((bd 2), .inr (3, [.int (nI L), .ref (bd 7), .ref (bd 8), .ref (bd 9), .ref (bd 10), .ref (bd 11), .int sz9, .int re9])), ((bd 7), .inl (ka 0, 8, .inl mo)), ((bd 8), .inl (ka 0, 8, .inl an)), ((bd 9), .inl (ka 0, 8, .inl pl)), ((bd 10), .inl (ka 0, 24, .inl ho)), ((bd 11), .inl (ka 0, 2, .inl le)), ((bd 3), .inr (0, [.ref (bd 12), .ref (bd 13), .ref (bd 14), .ref (bd 15), .ref (bd 16), .ref (bd 17), .ref (na 21), .ref (na 22), .ref (na 23), .ref (na 24)])), ((bd 12), .inr (2, [.int (bI o2), .ref (na 28), .ref (na 29), .ref (na 30)])), ((bd 13), .inl (ka 0, 8, .inl st)), ((bd 14), .inl (ka 2, 3, .inl (kI kp))), ((bd 15), .inl (ka 3, 6, .inr (.inr (.inr (.inr (nR na 8)))))), ((bd 16), .inl (ka 3, 3, .inr (.inr (.inr (.inr (nR na 14)))))), ((bd 17), .inl (ka 3, 4, .inr (.inr (.inr (.inr (nR na 17)))))), ((bd 4), .inr (4, [.ref (bd 18), .ref (bd 19), .int cnt, .int opb, .int rch, .int wnt, .ref (bd 20), .ref (bd 21), .ref (bd 22), .int bb.1, .ref (bd 23), .ref (bd 24), .long (Int64.ofInt bb.2.1), .long (Int64.ofInt bb.2.2.1)])), ((bd 18), .inr (2, [.int (bI o3), .ref (na 31), .ref (na 32), .ref (na 33)])), ((bd 19), .inl (ka 0, 3, .inl zs)), ((bd 20), .inl (ka 3, 5, .inr (.inr (.inr (.inr (nR na 34)))))), ((bd 21), .inl (ka 0, 4, .inl sa7)), ((bd 22), .inl (ka 0, 4, .inl ss7)), ((bd 23), .inl (ka 0, 4, .inl bb.2.2.2.1)), ((bd 24), .inl (ka 0, 4, .inl bb.2.2.2.2)), ((bd 5), .inr (6, [.int dn, .int up9, .ref (na 39), .ref (na 40)])), ((bd 6), .inr (5, [.ref (bd 25), .ref (bd 30), .int (laF (cpF (xs (i + 1)) (xs (i + 2)) (xs (i + 3)) (xs (i + 4)) (xs (i + 5)) sz) la)])), ((bd 25), .inl (ka 4, 4, .inr (.inr (.inr (.inr (nB bd)))))), ((bd 26), .inl (ka 1, 40, .inr (.inl (rw21 0)))), ((bd 27), .inl (ka 1, 40, .inr (.inl (rw21 1)))), ((bd 28), .inl (ka 1, 40, .inr (.inl (rw21 2)))), ((bd 29), .inl (ka 1, 40, .inr (.inl (rw21 3)))), ((bd 30), .inl (ka 0, 4, .inl sz)), (q, .inr (8, mX ad (bI o) la (nI L) sz9 re9 tr bm (Int64.ofInt b0) (Int64.ofInt b1))), ((ad 0), .inl (ka 0, 4, .inl sz)), ((ad 1), .inl (ka 1, 160, .inr (.inl it))), ((ad 2), .inl (ka 1, 40, .inr (.inl as9))), ((ad 3), .inl (ka 1, 200, .inr (.inl nu))), ((ad 4), .inl (ka 0, 8, .inl mo)), ((ad 5), .inl (ka 0, 8, .inl an)), ((ad 6), .inl (ka 0, 8, .inl pl)), ((ad 7), .inl (ka 0, 24, .inl ho)), ((ad 8), .inl (ka 0, 2, .inl le)), ((ad 9), .inl (ka 1, 4, .inr (.inl pu))), ((ad 10), .inl (ka 0, 4, .inl ga)), ((ad 11), .inl (ka 0, 4, .inl lg)), ((ad 12), .inl (ka 0, 3, .inl pm)), ((ad 13), .inl (ka 0, 3, .inl pa)), ((ad 14), .inl (ka 0, 4, .inl sa8)), ((ad 15), .inl (ka 0, 4, .inl ss8)), ((ad 16), .inl (ka 0, 4, .inl ba)), ((ad 17), .inl (ka 0, 4, .inl bz))] ++ nP na N) H locs := hB
  have h7 := HPP
  refine lv_aload_n hx hb dL_law_1265 rfl (lv_at hl 1 rfl) ?_
  refine lv_aload_n hx hb dL_law_1266 rfl (lv_at hl 3 rfl) ?_
  refine lv_iload_n hx hb dL_law_1267 rfl (lv_at hl 0 rfl) ?_
  refine lv_iconst (v := 1) hx hb dL_law_1268 (by decide) ?_
  refine lv_iadd hx hb dL_law_1269 ?_
  refine ztopi (y := nI (i + 1)) (nI_add i 1) ?_
  refine zscr hF hX hsb hAb hB (k := (i + 1)) (by omega) (by omega) dL_law_1270 ?_
  refine lv_aload_n hx hb dL_law_1271 rfl (lv_at hl 3 rfl) ?_
  refine lv_iload_n hx hb dL_law_1272 rfl (lv_at hl 0 rfl) ?_
  refine lv_iconst (v := 2) hx hb dL_law_1273 (by decide) ?_
  refine lv_iadd hx hb dL_law_1274 ?_
  refine ztopi (y := nI (i + 2)) (nI_add i 2) ?_
  refine zscr hF hX hsb hAb hB (k := (i + 2)) (by omega) (by omega) dL_law_1275 ?_
  refine lv_aload_n hx hb dL_law_1276 rfl (lv_at hl 3 rfl) ?_
  refine lv_iload_n hx hb dL_law_1277 rfl (lv_at hl 0 rfl) ?_
  refine lv_iconst (v := 3) hx hb dL_law_1278 (by decide) ?_
  refine lv_iadd hx hb dL_law_1279 ?_
  refine ztopi (y := nI (i + 3)) (nI_add i 3) ?_
  refine zscr hF hX hsb hAb hB (k := (i + 3)) (by omega) (by omega) dL_law_1280 ?_
  refine lv_aload_n hx hb dL_law_1281 rfl (lv_at hl 3 rfl) ?_
  refine lv_iload_n hx hb dL_law_1282 rfl (lv_at hl 0 rfl) ?_
  refine lv_iconst (v := 4) hx hb dL_law_1283 (by decide) ?_
  refine lv_iadd hx hb dL_law_1284 ?_
  refine ztopi (y := nI (i + 4)) (nI_add i 4) ?_
  refine zscr hF hX hsb hAb hB (k := (i + 4)) (by omega) (by omega) dL_law_1285 ?_
  refine lv_aload_n hx hb dL_law_1286 rfl (lv_at hl 3 rfl) ?_
  refine lv_iload_n hx hb dL_law_1287 rfl (lv_at hl 0 rfl) ?_
  refine lv_iconst (v := 5) hx hb dL_law_1288 (by decide) ?_
  refine lv_iadd hx hb dL_law_1289 ?_
  refine ztopi (y := nI (i + 5)) (nI_add i 5) ?_
  refine zscr hF hX hsb hAb hB (k := (i + 5)) (by omega) (by omega) dL_law_1290 ?_
  refine zVi zm_L_137 hF hB (c_X8_copy l D ka kb q ad o (la, (nI L), sz9, re9, tr, bm, (Int64.ofInt b0), (Int64.ofInt b1)) sz it as9 (xs (i + 1)) (xs (i + 2)) (xs (i + 3)) (xs (i + 4)) (xs (i + 5)) (hsz)) [32, 33, 34, 35] rfl (by decide) [q, (ad 0), (ad 1), (ad 2)] (fun _ => rfl) rfl 32 8 rfl rfl rfl ⟨Nat.le_of_ble_eq_true rfl, Nat.le_of_ble_eq_true rfl⟩ rfl hl.1 (Nat.le_of_ble_eq_true rfl) ⟨Nat.le_of_ble_eq_true rfl, Nat.le_of_ble_eq_true rfl⟩ dL_law_1291 ?_
  clear hB
  try clear locs
  try clear H
  intro r2 u2 H locs hp hB
  obtain ⟨as22, it22⟩ := u2
  have hp2 : r2 = cpA (xs (i + 1)) (xs (i + 2)) (xs (i + 3)) (xs (i + 4)) (xs (i + 5)) sz ∧ eqI (itM it22) (cpI (xs (i + 1)) (xs (i + 2)) (xs (i + 3)) (xs (i + 4)) (xs (i + 5)) sz (itM it)) := hp
  have HPP := hp2
  replace hB : zB D A s ([((bd 31), .inr (7, [.ref (bd 0), .ref (bd 1), .ref (na 6), .ref (na 7), .ref (bd 2), .ref (bd 3), .ref (bd 4), .ref (bd 5), .ref (bd 6)])), ((bd 0), .inr (2, [.int (bI o1), .ref (na 25), .ref (na 26), .ref (na 27)])), ((bd 1), .inl (ka 3, 6, .inr (.inr (.inr (.inr (nR na 0)))))), ((bd 2), .inr (3, [.int (nI L), .ref (bd 7), .ref (bd 8), .ref (bd 9), .ref (bd 10), .ref (bd 11), .int sz9, .int re9])), ((bd 7), .inl (ka 0, 8, .inl mo)), ((bd 8), .inl (ka 0, 8, .inl an)), ((bd 9), .inl (ka 0, 8, .inl pl)), ((bd 10), .inl (ka 0, 24, .inl ho)), ((bd 11), .inl (ka 0, 2, .inl le)), ((bd 3), .inr (0, [.ref (bd 12), .ref (bd 13), .ref (bd 14), .ref (bd 15), .ref (bd 16), .ref (bd 17), .ref (na 21), .ref (na 22), .ref (na 23), .ref (na 24)])), ((bd 12), .inr (2, [.int (bI o2), .ref (na 28), .ref (na 29), .ref (na 30)])), ((bd 13), .inl (ka 0, 8, .inl st)), ((bd 14), .inl (ka 2, 3, .inl (kI kp))), ((bd 15), .inl (ka 3, 6, .inr (.inr (.inr (.inr (nR na 8)))))), ((bd 16), .inl (ka 3, 3, .inr (.inr (.inr (.inr (nR na 14)))))), ((bd 17), .inl (ka 3, 4, .inr (.inr (.inr (.inr (nR na 17)))))), ((bd 4), .inr (4, [.ref (bd 18), .ref (bd 19), .int cnt, .int opb, .int rch, .int wnt, .ref (bd 20), .ref (bd 21), .ref (bd 22), .int bb.1, .ref (bd 23), .ref (bd 24), .long (Int64.ofInt bb.2.1), .long (Int64.ofInt bb.2.2.1)])), ((bd 18), .inr (2, [.int (bI o3), .ref (na 31), .ref (na 32), .ref (na 33)])), ((bd 19), .inl (ka 0, 3, .inl zs)), ((bd 20), .inl (ka 3, 5, .inr (.inr (.inr (.inr (nR na 34)))))), ((bd 21), .inl (ka 0, 4, .inl sa7)), ((bd 22), .inl (ka 0, 4, .inl ss7)), ((bd 23), .inl (ka 0, 4, .inl bb.2.2.2.1)), ((bd 24), .inl (ka 0, 4, .inl bb.2.2.2.2)), ((bd 5), .inr (6, [.int dn, .int up9, .ref (na 39), .ref (na 40)])), ((bd 6), .inr (5, [.ref (bd 25), .ref (bd 30), .int (laF (cpF (xs (i + 1)) (xs (i + 2)) (xs (i + 3)) (xs (i + 4)) (xs (i + 5)) sz) la)])), ((bd 25), .inl (ka 4, 4, .inr (.inr (.inr (.inr (nB bd)))))), ((bd 26), .inl (ka 1, 40, .inr (.inl (rw21 0)))), ((bd 27), .inl (ka 1, 40, .inr (.inl (rw21 1)))), ((bd 28), .inl (ka 1, 40, .inr (.inl (rw21 2)))), ((bd 29), .inl (ka 1, 40, .inr (.inl (rw21 3)))), ((bd 30), .inl (ka 0, 4, .inl sz)), (q, .inr (8, mX ad (bI o) (laF (cpF (xs (i + 1)) (xs (i + 2)) (xs (i + 3)) (xs (i + 4)) (xs (i + 5)) sz) (la, (nI L), sz9, re9, tr, bm, (Int64.ofInt b0), (Int64.ofInt b1)).1) (nI L) sz9 re9 tr bm (Int64.ofInt b0) (Int64.ofInt b1))), ((ad 0), .inl (ka 0, 4, .inl sz)), ((ad 1), .inl (ka 1, 160, .inr (.inl it22))), ((ad 2), .inl (ka 1, 40, .inr (.inl as22))), ((ad 3), .inl (ka 1, 200, .inr (.inl nu))), ((ad 4), .inl (ka 0, 8, .inl mo)), ((ad 5), .inl (ka 0, 8, .inl an)), ((ad 6), .inl (ka 0, 8, .inl pl)), ((ad 7), .inl (ka 0, 24, .inl ho)), ((ad 8), .inl (ka 0, 2, .inl le)), ((ad 9), .inl (ka 1, 4, .inr (.inl pu))), ((ad 10), .inl (ka 0, 4, .inl ga)), ((ad 11), .inl (ka 0, 4, .inl lg)), ((ad 12), .inl (ka 0, 3, .inl pm)), ((ad 13), .inl (ka 0, 3, .inl pa)), ((ad 14), .inl (ka 0, 4, .inl sa8)), ((ad 15), .inl (ka 0, 4, .inl ss8)), ((ad 16), .inl (ka 0, 4, .inl ba)), ((ad 17), .inl (ka 0, 4, .inl bz))] ++ nP na N) H locs := hB
  have h8 := HPP
  refine lv_icmp_eq (tgt := 1359) hx hb dL_law_1294 (by decide) (fun h1294 => ?_) (fun h1294 => ?_)
  · skip
    refine kk _ H locs ?_ hB ls (lv_sub hl [0, 1, 2, 3] rfl)
    exact ⟨L, mo, an, pl, ho, le, sz, laF (cpF (xs (i + 1)) (xs (i + 2)) (xs (i + 3)) (xs (i + 4)) (xs (i + 5)) sz) la, sz9, re9, N, o1, o2, o3, st, kp, cnt, opb, rch, wnt, bb, zs, sa7, ss7, dn, up9, rw21, o, tr, bm, b0, b1, it22, as22, nu, pu, ga, lg, pm, pa, sa8, ss8, ba, bz, rfl, ha, hbb, hc, hn, hk, cp_tie hsz hi9 h7.2 h8.2⟩
  · skip
    exact absurd (h7.1.trans h8.1.symm) h1294
