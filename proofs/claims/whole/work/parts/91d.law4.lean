set_option maxHeartbeats 4000000 in
set_option maxRecDepth 100000 in
theorem lwc_read (l : Launch) (D : va_G) (ka : Nat → ClassId) (kb : Nat → Nat) (bd na ad : Nat → Nat) (q sb L9 : Nat) (xs : Nat → Int32) {p : Program} {e : Env} {s : State} {m : MethodId} {args : Array Value} {below : List Frame} {meth : Method} {c : Code} {A : Nat → Prop} {Q : State → Prop} {rt : Option FieldType} (hF : zF p s m args meth c D ka kb A cL_law RL 4 rt) (hX : va_X sb L9 xs s s.heap) (hsb : sb < s.heap.size) (hAb : ¬ A sb) (i : Nat) (hi : i + 7 ≤ L9) (hL9 : L9 ≤ 3584) {ws : va_W} {H : Heap} {locs : List Loc} (hI : LI ka bd na ad q ws) (hB : zB D A s ws H locs)
    (kk : ∀ (ws : va_W) (H : Heap) (locs : List Loc), LI ka bd na ad q ws → zB D A s ws H locs → ∀ ls : Array Slot, lv_has ls 4 [(3, .int (nI i)), (2, .ref q), (1, .ref (bd 31)), (0, .ref sb)] → W p l e room_1 s m args below meth c H locs 92 1052 Q (F0 m 1359 ls [])) {ls : Array Slot} (hl : lv_has ls 4 [(3, .int (nI i)), (2, .ref q), (1, .ref (bd 31)), (0, .ref sb)]) : W p l e room_1 s m args below meth c H locs 92 1052 Q (F0 m 251 ls []) := by
  have hx : p.tables.exec = Jvm.exec := hF.1.1
  have hb : c.code = cL_law := hF.1.2.1
  obtain ⟨L, mo, an, pl, ho, le, sz, la, sz9, re9, N, o1, o2, o3, st, kp, cnt, opb, rch, wnt, bb, zs, sa7, ss7, dn, up9, rw9, o, tr, bm, b0, b1, it, as9, nu, pu, ga, lg, pm, pa, sa8, ss8, ba, bz, rfl, ha, hbb, hc, hn, hk, hi9⟩ := hI
  have hok := ha.1
  have hoh := ha.2.1
  have hre := ha.2.2.1
  have hszk := ha.2.2.2.1
  have hsz := ha.2.2.2.2
  have hB9 := hc.1
  have hb01 := hc.2
  have hd6 : ∀ k, k < 6 → 0 < (N k).2.2.2.2.toInt := fun k h => by rw [hn.2.1 k h]; exact hn.1 k (by omega)
  replace hB : zB D A s ([((bd 31), .inr (7, [.ref (bd 0), .ref (bd 1), .ref (na 6), .ref (na 7), .ref (bd 2), .ref (bd 3), .ref (bd 4), .ref (bd 5), .ref (bd 6)])), ((bd 0), .inr (2, [.int (bI o1), .ref (na 25), .ref (na 26), .ref (na 27)])), ((bd 1), .inl (ka 3, 6, .inr (.inr (.inr (.inr (nR na 0)))))), ((bd 2), .inr (3, [.int (nI L), .ref (bd 7), .ref (bd 8), .ref (bd 9), .ref (bd 10), .ref (bd 11), .int sz9, .int re9])), ((bd 7), .inl (ka 0, 8, .inl mo)), ((bd 8), .inl (ka 0, 8, .inl an)), ((bd 9), .inl (ka 0, 8, .inl pl)), ((bd 10), .inl (ka 0, 24, .inl ho)), ((bd 11), .inl (ka 0, 2, .inl le)), ((bd 3), .inr (0, [.ref (bd 12), .ref (bd 13), .ref (bd 14), .ref (bd 15), .ref (bd 16), .ref (bd 17), .ref (na 21), .ref (na 22), .ref (na 23), .ref (na 24)])), ((bd 12), .inr (2, [.int (bI o2), .ref (na 28), .ref (na 29), .ref (na 30)])), ((bd 13), .inl (ka 0, 8, .inl st)), ((bd 14), .inl (ka 2, 3, .inl (kI kp))), ((bd 15), .inl (ka 3, 6, .inr (.inr (.inr (.inr (nR na 8)))))), ((bd 16), .inl (ka 3, 3, .inr (.inr (.inr (.inr (nR na 14)))))), ((bd 17), .inl (ka 3, 4, .inr (.inr (.inr (.inr (nR na 17)))))), ((bd 4), .inr (4, [.ref (bd 18), .ref (bd 19), .int cnt, .int opb, .int rch, .int wnt, .ref (bd 20), .ref (bd 21), .ref (bd 22), .int bb.1, .ref (bd 23), .ref (bd 24), .long (Int64.ofInt bb.2.1), .long (Int64.ofInt bb.2.2.1)])), ((bd 18), .inr (2, [.int (bI o3), .ref (na 31), .ref (na 32), .ref (na 33)])), ((bd 19), .inl (ka 0, 3, .inl zs)), ((bd 20), .inl (ka 3, 5, .inr (.inr (.inr (.inr (nR na 34)))))), ((bd 21), .inl (ka 0, 4, .inl sa7)), ((bd 22), .inl (ka 0, 4, .inl ss7)), ((bd 23), .inl (ka 0, 4, .inl bb.2.2.2.1)), ((bd 24), .inl (ka 0, 4, .inl bb.2.2.2.2)), ((bd 5), .inr (6, [.int dn, .int up9, .ref (na 39), .ref (na 40)])), ((bd 6), .inr (5, [.ref (bd 25), .ref (bd 30), .int la])), ((bd 25), .inl (ka 4, 4, .inr (.inr (.inr (.inr (nB bd)))))), ((bd 26), .inl (ka 1, 40, .inr (.inl (rw9 0)))), ((bd 27), .inl (ka 1, 40, .inr (.inl (rw9 1)))), ((bd 28), .inl (ka 1, 40, .inr (.inl (rw9 2)))), ((bd 29), .inl (ka 1, 40, .inr (.inl (rw9 3)))), ((bd 30), .inl (ka 0, 4, .inl sz)), (q, .inr (8, mX ad (bI o) la (nI L) sz9 re9 tr bm (Int64.ofInt b0) (Int64.ofInt b1))), ((ad 0), .inl (ka 0, 4, .inl sz)), ((ad 1), .inl (ka 1, 160, .inr (.inl it))), ((ad 2), .inl (ka 1, 40, .inr (.inl as9))), ((ad 3), .inl (ka 1, 200, .inr (.inl nu))), ((ad 4), .inl (ka 0, 8, .inl mo)), ((ad 5), .inl (ka 0, 8, .inl an)), ((ad 6), .inl (ka 0, 8, .inl pl)), ((ad 7), .inl (ka 0, 24, .inl ho)), ((ad 8), .inl (ka 0, 2, .inl le)), ((ad 9), .inl (ka 1, 4, .inr (.inl pu))), ((ad 10), .inl (ka 0, 4, .inl ga)), ((ad 11), .inl (ka 0, 4, .inl lg)), ((ad 12), .inl (ka 0, 3, .inl pm)), ((ad 13), .inl (ka 0, 3, .inl pa)), ((ad 14), .inl (ka 0, 4, .inl sa8)), ((ad 15), .inl (ka 0, 4, .inl ss8)), ((ad 16), .inl (ka 0, 4, .inl ba)), ((ad 17), .inl (ka 0, 4, .inl bz))] ++ nP na N) H locs := hB
  refine lv_aload_n hx hb dL_law_251 rfl (lv_at hl 2 rfl) ?_
  refine lv_aload_n hx hb dL_law_252 rfl (lv_at hl 3 rfl) ?_
  refine lv_iload_n hx hb dL_law_253 rfl (lv_at hl 0 rfl) ?_
  refine lv_iconst (v := 1) hx hb dL_law_254 (by decide) ?_
  refine lv_iadd hx hb dL_law_255 ?_
  refine ztopi (y := nI (i + 1)) (nI_add i 1) ?_
  refine zscr hF hX hsb hAb hB (k := (i + 1)) (by omega) (by omega) dL_law_256 ?_
  refine lv_aload_n hx hb dL_law_257 rfl (lv_at hl 3 rfl) ?_
  refine lv_iload_n hx hb dL_law_258 rfl (lv_at hl 0 rfl) ?_
  refine lv_iconst (v := 2) hx hb dL_law_259 (by decide) ?_
  refine lv_iadd hx hb dL_law_260 ?_
  refine ztopi (y := nI (i + 2)) (nI_add i 2) ?_
  refine zscr hF hX hsb hAb hB (k := (i + 2)) (by omega) (by omega) dL_law_261 ?_
  refine lv_aload_n hx hb dL_law_262 rfl (lv_at hl 3 rfl) ?_
  refine lv_iload_n hx hb dL_law_263 rfl (lv_at hl 0 rfl) ?_
  refine lv_iconst (v := 3) hx hb dL_law_264 (by decide) ?_
  refine lv_iadd hx hb dL_law_265 ?_
  refine ztopi (y := nI (i + 3)) (nI_add i 3) ?_
  refine zscr hF hX hsb hAb hB (k := (i + 3)) (by omega) (by omega) dL_law_266 ?_
  refine zVi zm_L_18 hF hB (c_X7_read l D ka kb bd na N la sz rw9 (xs (i + 1)) (xs (i + 2)) (xs (i + 3)) (hsz)) ([0, 2, 25, 26, 27, 28, 29, 30, 31] ++ npr 51) (zsel_pool rfl rfl) (va_nd_pool rfl rfl) ([(bd 31), (bd 1), (bd 6), (bd 25), (bd 26), (bd 27), (bd 28), (bd 29), (bd 30)] ++ nA na) (fun _ => zad_pool rfl) (zad_pool rfl) 0 7 rfl rfl rfl ⟨Nat.le_of_ble_eq_true rfl, Nat.le_of_ble_eq_true rfl⟩ rfl hl.1 (Nat.le_of_ble_eq_true rfl) ⟨Nat.le_of_ble_eq_true rfl, Nat.le_of_ble_eq_true rfl⟩ dL_law_267 ?_
  clear hB
  try clear locs
  try clear H
  intro r1 u1 H locs hp hB
  obtain rfl : r1 = rdA (xs (i + 1)) (xs (i + 2)) (xs (i + 3)) sz := hp
  replace hB : zB D A s ([((bd 31), .inr (7, [.ref (bd 0), .ref (bd 1), .ref (na 6), .ref (na 7), .ref (bd 2), .ref (bd 3), .ref (bd 4), .ref (bd 5), .ref (bd 6)])), ((bd 0), .inr (2, [.int (bI o1), .ref (na 25), .ref (na 26), .ref (na 27)])), ((bd 1), .inl (ka 3, 6, .inr (.inr (.inr (.inr (nR na 0)))))), ((bd 2), .inr (3, [.int (nI L), .ref (bd 7), .ref (bd 8), .ref (bd 9), .ref (bd 10), .ref (bd 11), .int sz9, .int re9])), ((bd 7), .inl (ka 0, 8, .inl mo)), ((bd 8), .inl (ka 0, 8, .inl an)), ((bd 9), .inl (ka 0, 8, .inl pl)), ((bd 10), .inl (ka 0, 24, .inl ho)), ((bd 11), .inl (ka 0, 2, .inl le)), ((bd 3), .inr (0, [.ref (bd 12), .ref (bd 13), .ref (bd 14), .ref (bd 15), .ref (bd 16), .ref (bd 17), .ref (na 21), .ref (na 22), .ref (na 23), .ref (na 24)])), ((bd 12), .inr (2, [.int (bI o2), .ref (na 28), .ref (na 29), .ref (na 30)])), ((bd 13), .inl (ka 0, 8, .inl st)), ((bd 14), .inl (ka 2, 3, .inl (kI kp))), ((bd 15), .inl (ka 3, 6, .inr (.inr (.inr (.inr (nR na 8)))))), ((bd 16), .inl (ka 3, 3, .inr (.inr (.inr (.inr (nR na 14)))))), ((bd 17), .inl (ka 3, 4, .inr (.inr (.inr (.inr (nR na 17)))))), ((bd 4), .inr (4, [.ref (bd 18), .ref (bd 19), .int cnt, .int opb, .int rch, .int wnt, .ref (bd 20), .ref (bd 21), .ref (bd 22), .int bb.1, .ref (bd 23), .ref (bd 24), .long (Int64.ofInt bb.2.1), .long (Int64.ofInt bb.2.2.1)])), ((bd 18), .inr (2, [.int (bI o3), .ref (na 31), .ref (na 32), .ref (na 33)])), ((bd 19), .inl (ka 0, 3, .inl zs)), ((bd 20), .inl (ka 3, 5, .inr (.inr (.inr (.inr (nR na 34)))))), ((bd 21), .inl (ka 0, 4, .inl sa7)), ((bd 22), .inl (ka 0, 4, .inl ss7)), ((bd 23), .inl (ka 0, 4, .inl bb.2.2.2.1)), ((bd 24), .inl (ka 0, 4, .inl bb.2.2.2.2)), ((bd 5), .inr (6, [.int dn, .int up9, .ref (na 39), .ref (na 40)])), ((bd 6), .inr (5, [.ref (bd 25), .ref (bd 30), .int (laF (rdF (xs (i + 1)) (xs (i + 2)) (xs (i + 3)) sz) la)])), ((bd 25), .inl (ka 4, 4, .inr (.inr (.inr (.inr (nB bd)))))), ((bd 26), .inl (ka 1, 40, .inr (.inl (rw9 0)))), ((bd 27), .inl (ka 1, 40, .inr (.inl (rw9 1)))), ((bd 28), .inl (ka 1, 40, .inr (.inl (rw9 2)))), ((bd 29), .inl (ka 1, 40, .inr (.inl (rw9 3)))), ((bd 30), .inl (ka 0, 4, .inl sz)), (q, .inr (8, mX ad (bI o) la (nI L) sz9 re9 tr bm (Int64.ofInt b0) (Int64.ofInt b1))), ((ad 0), .inl (ka 0, 4, .inl sz)), ((ad 1), .inl (ka 1, 160, .inr (.inl it))), ((ad 2), .inl (ka 1, 40, .inr (.inl as9))), ((ad 3), .inl (ka 1, 200, .inr (.inl nu))), ((ad 4), .inl (ka 0, 8, .inl mo)), ((ad 5), .inl (ka 0, 8, .inl an)), ((ad 6), .inl (ka 0, 8, .inl pl)), ((ad 7), .inl (ka 0, 24, .inl ho)), ((ad 8), .inl (ka 0, 2, .inl le)), ((ad 9), .inl (ka 1, 4, .inr (.inl pu))), ((ad 10), .inl (ka 0, 4, .inl ga)), ((ad 11), .inl (ka 0, 4, .inl lg)), ((ad 12), .inl (ka 0, 3, .inl pm)), ((ad 13), .inl (ka 0, 3, .inl pa)), ((ad 14), .inl (ka 0, 4, .inl sa8)), ((ad 15), .inl (ka 0, 4, .inl ss8)), ((ad 16), .inl (ka 0, 4, .inl ba)), ((ad 17), .inl (ka 0, 4, .inl bz))] ++ nP na (upG N (rdU (xs (i + 1)) (xs (i + 2)) (xs (i + 3)) sz rw9))) H locs := zB_pool hB rfl rfl rfl rfl
  refine lv_aload_n hx hb dL_law_270 rfl (lv_at hl 1 rfl) ?_
  refine lv_aload_n hx hb dL_law_271 rfl (lv_at hl 3 rfl) ?_
  refine lv_iload_n hx hb dL_law_272 rfl (lv_at hl 0 rfl) ?_
  refine lv_iconst (v := 1) hx hb dL_law_273 (by decide) ?_
  refine lv_iadd hx hb dL_law_274 ?_
  refine ztopi (y := nI (i + 1)) (nI_add i 1) ?_
  refine zscr hF hX hsb hAb hB (k := (i + 1)) (by omega) (by omega) dL_law_275 ?_
  refine lv_aload_n hx hb dL_law_276 rfl (lv_at hl 3 rfl) ?_
  refine lv_iload_n hx hb dL_law_277 rfl (lv_at hl 0 rfl) ?_
  refine lv_iconst (v := 2) hx hb dL_law_278 (by decide) ?_
  refine lv_iadd hx hb dL_law_279 ?_
  refine ztopi (y := nI (i + 2)) (nI_add i 2) ?_
  refine zscr hF hX hsb hAb hB (k := (i + 2)) (by omega) (by omega) dL_law_280 ?_
  refine lv_aload_n hx hb dL_law_281 rfl (lv_at hl 3 rfl) ?_
  refine lv_iload_n hx hb dL_law_282 rfl (lv_at hl 0 rfl) ?_
  refine lv_iconst (v := 3) hx hb dL_law_283 (by decide) ?_
  refine lv_iadd hx hb dL_law_284 ?_
  refine ztopi (y := nI (i + 3)) (nI_add i 3) ?_
  refine zscr hF hX hsb hAb hB (k := (i + 3)) (by omega) (by omega) dL_law_285 ?_
  refine zVi zm_L_22 hF hB (c_X8_read l D ka kb q ad o (la, (nI L), sz9, re9, tr, bm, (Int64.ofInt b0), (Int64.ofInt b1)) nu sz it (xs (i + 1)) (xs (i + 2)) (xs (i + 3)) (hsz)) [32, 36, 33, 34] rfl (by decide) [q, (ad 3), (ad 0), (ad 1)] (fun _ => rfl) rfl 32 8 rfl rfl rfl ⟨Nat.le_of_ble_eq_true rfl, Nat.le_of_ble_eq_true rfl⟩ rfl hl.1 (Nat.le_of_ble_eq_true rfl) ⟨Nat.le_of_ble_eq_true rfl, Nat.le_of_ble_eq_true rfl⟩ dL_law_286 ?_
  clear hB
  try clear locs
  try clear H
  intro r2 u2 H locs hp hB
  obtain ⟨nu22, rfl⟩ : ∃ z, z = u2 := ⟨_, rfl⟩
  have hp2 : r2 = rdA (xs (i + 1)) (xs (i + 2)) (xs (i + 3)) sz ∧ ∀ k9, k9 < 30 → getN nu22 k9 = upG (getN nu) (rdU (xs (i + 1)) (xs (i + 2)) (xs (i + 3)) sz (itM it)) k9 := hp
  have HPP := hp2
  replace hB : zB D A s ([((bd 31), .inr (7, [.ref (bd 0), .ref (bd 1), .ref (na 6), .ref (na 7), .ref (bd 2), .ref (bd 3), .ref (bd 4), .ref (bd 5), .ref (bd 6)])), ((bd 0), .inr (2, [.int (bI o1), .ref (na 25), .ref (na 26), .ref (na 27)])), ((bd 1), .inl (ka 3, 6, .inr (.inr (.inr (.inr (nR na 0)))))), ((bd 2), .inr (3, [.int (nI L), .ref (bd 7), .ref (bd 8), .ref (bd 9), .ref (bd 10), .ref (bd 11), .int sz9, .int re9])), ((bd 7), .inl (ka 0, 8, .inl mo)), ((bd 8), .inl (ka 0, 8, .inl an)), ((bd 9), .inl (ka 0, 8, .inl pl)), ((bd 10), .inl (ka 0, 24, .inl ho)), ((bd 11), .inl (ka 0, 2, .inl le)), ((bd 3), .inr (0, [.ref (bd 12), .ref (bd 13), .ref (bd 14), .ref (bd 15), .ref (bd 16), .ref (bd 17), .ref (na 21), .ref (na 22), .ref (na 23), .ref (na 24)])), ((bd 12), .inr (2, [.int (bI o2), .ref (na 28), .ref (na 29), .ref (na 30)])), ((bd 13), .inl (ka 0, 8, .inl st)), ((bd 14), .inl (ka 2, 3, .inl (kI kp))), ((bd 15), .inl (ka 3, 6, .inr (.inr (.inr (.inr (nR na 8)))))), ((bd 16), .inl (ka 3, 3, .inr (.inr (.inr (.inr (nR na 14)))))), ((bd 17), .inl (ka 3, 4, .inr (.inr (.inr (.inr (nR na 17)))))), ((bd 4), .inr (4, [.ref (bd 18), .ref (bd 19), .int cnt, .int opb, .int rch, .int wnt, .ref (bd 20), .ref (bd 21), .ref (bd 22), .int bb.1, .ref (bd 23), .ref (bd 24), .long (Int64.ofInt bb.2.1), .long (Int64.ofInt bb.2.2.1)])), ((bd 18), .inr (2, [.int (bI o3), .ref (na 31), .ref (na 32), .ref (na 33)])), ((bd 19), .inl (ka 0, 3, .inl zs)), ((bd 20), .inl (ka 3, 5, .inr (.inr (.inr (.inr (nR na 34)))))), ((bd 21), .inl (ka 0, 4, .inl sa7)), ((bd 22), .inl (ka 0, 4, .inl ss7)), ((bd 23), .inl (ka 0, 4, .inl bb.2.2.2.1)), ((bd 24), .inl (ka 0, 4, .inl bb.2.2.2.2)), ((bd 5), .inr (6, [.int dn, .int up9, .ref (na 39), .ref (na 40)])), ((bd 6), .inr (5, [.ref (bd 25), .ref (bd 30), .int (laF (rdF (xs (i + 1)) (xs (i + 2)) (xs (i + 3)) sz) la)])), ((bd 25), .inl (ka 4, 4, .inr (.inr (.inr (.inr (nB bd)))))), ((bd 26), .inl (ka 1, 40, .inr (.inl (rw9 0)))), ((bd 27), .inl (ka 1, 40, .inr (.inl (rw9 1)))), ((bd 28), .inl (ka 1, 40, .inr (.inl (rw9 2)))), ((bd 29), .inl (ka 1, 40, .inr (.inl (rw9 3)))), ((bd 30), .inl (ka 0, 4, .inl sz)), (q, .inr (8, mX ad (bI o) (laF (rdF (xs (i + 1)) (xs (i + 2)) (xs (i + 3)) sz) (la, (nI L), sz9, re9, tr, bm, (Int64.ofInt b0), (Int64.ofInt b1)).1) (nI L) sz9 re9 tr bm (Int64.ofInt b0) (Int64.ofInt b1))), ((ad 0), .inl (ka 0, 4, .inl sz)), ((ad 1), .inl (ka 1, 160, .inr (.inl it))), ((ad 2), .inl (ka 1, 40, .inr (.inl as9))), ((ad 3), .inl (ka 1, 200, .inr (.inl nu22))), ((ad 4), .inl (ka 0, 8, .inl mo)), ((ad 5), .inl (ka 0, 8, .inl an)), ((ad 6), .inl (ka 0, 8, .inl pl)), ((ad 7), .inl (ka 0, 24, .inl ho)), ((ad 8), .inl (ka 0, 2, .inl le)), ((ad 9), .inl (ka 1, 4, .inr (.inl pu))), ((ad 10), .inl (ka 0, 4, .inl ga)), ((ad 11), .inl (ka 0, 4, .inl lg)), ((ad 12), .inl (ka 0, 3, .inl pm)), ((ad 13), .inl (ka 0, 3, .inl pa)), ((ad 14), .inl (ka 0, 4, .inl sa8)), ((ad 15), .inl (ka 0, 4, .inl ss8)), ((ad 16), .inl (ka 0, 4, .inl ba)), ((ad 17), .inl (ka 0, 4, .inl bz))] ++ nP na (upG N (rdU (xs (i + 1)) (xs (i + 2)) (xs (i + 3)) sz rw9))) H locs := hB
  have h8 := HPP
  refine lv_icmp_eq (tgt := 1359) hx hb dL_law_289 (by decide) (fun h289 => ?_) (fun h289 => ?_)
  · skip
    have hn9 := hn.up _ rdU_d (N' := (upG N (rdU (xs (i + 1)) (xs (i + 2)) (xs (i + 3)) sz rw9))) (nu' := nu22) (fun k _ => rfl) (fun j _ => rfl) (fun k h => by rw [rdU_tie hsz hi9]; exact h8.2 k (by omega))
    have hk9 := hk.keep (N' := (upG N (rdU (xs (i + 1)) (xs (i + 2)) (xs (i + 3)) sz rw9))) (fun k h1 h2 => by
      cases e9 : rdU (xs (i + 1)) (xs (i + 2)) (xs (i + 3)) sz rw9 with
      | none => rfl
      | some u =>
        obtain ⟨k9, v9⟩ := u
        have h6 := (rdU_d k9 v9 e9).1
        rw [upG_s]
        exact if_neg (by omega))
    refine kk _ H locs ?_ hB ls (lv_sub hl [0, 1, 2, 3] rfl)
    exact ⟨L, mo, an, pl, ho, le, sz, laF (rdF (xs (i + 1)) (xs (i + 2)) (xs (i + 3)) sz) la, sz9, re9, upG N (rdU (xs (i + 1)) (xs (i + 2)) (xs (i + 3)) sz rw9), o1, o2, o3, st, kp, cnt, opb, rch, wnt, bb, zs, sa7, ss7, dn, up9, rw9, o, tr, bm, b0, b1, it, as9, nu22, pu, ga, lg, pm, pa, sa8, ss8, ba, bz, rfl, ha, hbb, hc, hn9, hk9, hi9⟩
  · skip
    exact absurd (h8.1.symm) h289

set_option maxHeartbeats 4000000 in
set_option maxRecDepth 100000 in
theorem lwc_reckon (l : Launch) (D : va_G) (ka : Nat → ClassId) (kb : Nat → Nat) (bd na ad : Nat → Nat) (q sb L9 : Nat) (xs : Nat → Int32) {p : Program} {e : Env} {s : State} {m : MethodId} {args : Array Value} {below : List Frame} {meth : Method} {c : Code} {A : Nat → Prop} {Q : State → Prop} {rt : Option FieldType} (hF : zF p s m args meth c D ka kb A cL_law RL 4 rt) (hX : va_X sb L9 xs s s.heap) (hsb : sb < s.heap.size) (hAb : ¬ A sb) (i : Nat) (hi : i + 7 ≤ L9) (hL9 : L9 ≤ 3584) {ws : va_W} {H : Heap} {locs : List Loc} (hI : LI ka bd na ad q ws) (hB : zB D A s ws H locs)
    (kk : ∀ (ws : va_W) (H : Heap) (locs : List Loc), LI ka bd na ad q ws → zB D A s ws H locs → ∀ ls : Array Slot, lv_has ls 4 [(3, .int (nI i)), (2, .ref q), (1, .ref (bd 31)), (0, .ref sb)] → W p l e room_1 s m args below meth c H locs 92 1052 Q (F0 m 1359 ls [])) {ls : Array Slot} (hl : lv_has ls 4 [(3, .int (nI i)), (2, .ref q), (1, .ref (bd 31)), (0, .ref sb)]) : W p l e room_1 s m args below meth c H locs 92 1052 Q (F0 m 294 ls []) := by
  have hx : p.tables.exec = Jvm.exec := hF.1.1
  have hb : c.code = cL_law := hF.1.2.1
  obtain ⟨L, mo, an, pl, ho, le, sz, la, sz9, re9, N, o1, o2, o3, st, kp, cnt, opb, rch, wnt, bb, zs, sa7, ss7, dn, up9, rw9, o, tr, bm, b0, b1, it, as9, nu, pu, ga, lg, pm, pa, sa8, ss8, ba, bz, rfl, ha, hbb, hc, hn, hk, hi9⟩ := hI
  have hok := ha.1
  have hoh := ha.2.1
  have hre := ha.2.2.1
  have hszk := ha.2.2.2.1
  have hsz := ha.2.2.2.2
  have hB9 := hc.1
  have hb01 := hc.2
  have hd6 : ∀ k, k < 6 → 0 < (N k).2.2.2.2.toInt := fun k h => by rw [hn.2.1 k h]; exact hn.1 k (by omega)
  replace hB : zB D A s ([((bd 31), .inr (7, [.ref (bd 0), .ref (bd 1), .ref (na 6), .ref (na 7), .ref (bd 2), .ref (bd 3), .ref (bd 4), .ref (bd 5), .ref (bd 6)])), ((bd 0), .inr (2, [.int (bI o1), .ref (na 25), .ref (na 26), .ref (na 27)])), ((bd 1), .inl (ka 3, 6, .inr (.inr (.inr (.inr (nR na 0)))))), ((bd 2), .inr (3, [.int (nI L), .ref (bd 7), .ref (bd 8), .ref (bd 9), .ref (bd 10), .ref (bd 11), .int sz9, .int re9])), ((bd 7), .inl (ka 0, 8, .inl mo)), ((bd 8), .inl (ka 0, 8, .inl an)), ((bd 9), .inl (ka 0, 8, .inl pl)), ((bd 10), .inl (ka 0, 24, .inl ho)), ((bd 11), .inl (ka 0, 2, .inl le)), ((bd 3), .inr (0, [.ref (bd 12), .ref (bd 13), .ref (bd 14), .ref (bd 15), .ref (bd 16), .ref (bd 17), .ref (na 21), .ref (na 22), .ref (na 23), .ref (na 24)])), ((bd 12), .inr (2, [.int (bI o2), .ref (na 28), .ref (na 29), .ref (na 30)])), ((bd 13), .inl (ka 0, 8, .inl st)), ((bd 14), .inl (ka 2, 3, .inl (kI kp))), ((bd 15), .inl (ka 3, 6, .inr (.inr (.inr (.inr (nR na 8)))))), ((bd 16), .inl (ka 3, 3, .inr (.inr (.inr (.inr (nR na 14)))))), ((bd 17), .inl (ka 3, 4, .inr (.inr (.inr (.inr (nR na 17)))))), ((bd 4), .inr (4, [.ref (bd 18), .ref (bd 19), .int cnt, .int opb, .int rch, .int wnt, .ref (bd 20), .ref (bd 21), .ref (bd 22), .int bb.1, .ref (bd 23), .ref (bd 24), .long (Int64.ofInt bb.2.1), .long (Int64.ofInt bb.2.2.1)])), ((bd 18), .inr (2, [.int (bI o3), .ref (na 31), .ref (na 32), .ref (na 33)])), ((bd 19), .inl (ka 0, 3, .inl zs)), ((bd 20), .inl (ka 3, 5, .inr (.inr (.inr (.inr (nR na 34)))))), ((bd 21), .inl (ka 0, 4, .inl sa7)), ((bd 22), .inl (ka 0, 4, .inl ss7)), ((bd 23), .inl (ka 0, 4, .inl bb.2.2.2.1)), ((bd 24), .inl (ka 0, 4, .inl bb.2.2.2.2)), ((bd 5), .inr (6, [.int dn, .int up9, .ref (na 39), .ref (na 40)])), ((bd 6), .inr (5, [.ref (bd 25), .ref (bd 30), .int la])), ((bd 25), .inl (ka 4, 4, .inr (.inr (.inr (.inr (nB bd)))))), ((bd 26), .inl (ka 1, 40, .inr (.inl (rw9 0)))), ((bd 27), .inl (ka 1, 40, .inr (.inl (rw9 1)))), ((bd 28), .inl (ka 1, 40, .inr (.inl (rw9 2)))), ((bd 29), .inl (ka 1, 40, .inr (.inl (rw9 3)))), ((bd 30), .inl (ka 0, 4, .inl sz)), (q, .inr (8, mX ad (bI o) la (nI L) sz9 re9 tr bm (Int64.ofInt b0) (Int64.ofInt b1))), ((ad 0), .inl (ka 0, 4, .inl sz)), ((ad 1), .inl (ka 1, 160, .inr (.inl it))), ((ad 2), .inl (ka 1, 40, .inr (.inl as9))), ((ad 3), .inl (ka 1, 200, .inr (.inl nu))), ((ad 4), .inl (ka 0, 8, .inl mo)), ((ad 5), .inl (ka 0, 8, .inl an)), ((ad 6), .inl (ka 0, 8, .inl pl)), ((ad 7), .inl (ka 0, 24, .inl ho)), ((ad 8), .inl (ka 0, 2, .inl le)), ((ad 9), .inl (ka 1, 4, .inr (.inl pu))), ((ad 10), .inl (ka 0, 4, .inl ga)), ((ad 11), .inl (ka 0, 4, .inl lg)), ((ad 12), .inl (ka 0, 3, .inl pm)), ((ad 13), .inl (ka 0, 3, .inl pa)), ((ad 14), .inl (ka 0, 4, .inl sa8)), ((ad 15), .inl (ka 0, 4, .inl ss8)), ((ad 16), .inl (ka 0, 4, .inl ba)), ((ad 17), .inl (ka 0, 4, .inl bz))] ++ nP na N) H locs := hB
  refine lv_aload_n hx hb dL_law_294 rfl (lv_at hl 2 rfl) ?_
  refine lv_aload_n hx hb dL_law_295 rfl (lv_at hl 3 rfl) ?_
  refine lv_iload_n hx hb dL_law_296 rfl (lv_at hl 0 rfl) ?_
  refine lv_iconst (v := 1) hx hb dL_law_297 (by decide) ?_
  refine lv_iadd hx hb dL_law_298 ?_
  refine ztopi (y := nI (i + 1)) (nI_add i 1) ?_
  refine zscr hF hX hsb hAb hB (k := (i + 1)) (by omega) (by omega) dL_law_299 ?_
  refine lv_aload_n hx hb dL_law_300 rfl (lv_at hl 3 rfl) ?_
  refine lv_iload_n hx hb dL_law_301 rfl (lv_at hl 0 rfl) ?_
  refine lv_iconst (v := 2) hx hb dL_law_302 (by decide) ?_
  refine lv_iadd hx hb dL_law_303 ?_
  refine ztopi (y := nI (i + 2)) (nI_add i 2) ?_
  refine zscr hF hX hsb hAb hB (k := (i + 2)) (by omega) (by omega) dL_law_304 ?_
  refine lv_aload_n hx hb dL_law_305 rfl (lv_at hl 3 rfl) ?_
  refine lv_iload_n hx hb dL_law_306 rfl (lv_at hl 0 rfl) ?_
  refine lv_iconst (v := 3) hx hb dL_law_307 (by decide) ?_
  refine lv_iadd hx hb dL_law_308 ?_
  refine ztopi (y := nI (i + 3)) (nI_add i 3) ?_
  refine zscr hF hX hsb hAb hB (k := (i + 3)) (by omega) (by omega) dL_law_309 ?_
  refine lv_aload_n hx hb dL_law_310 rfl (lv_at hl 3 rfl) ?_
  refine lv_iload_n hx hb dL_law_311 rfl (lv_at hl 0 rfl) ?_
  refine lv_iconst (v := 4) hx hb dL_law_312 (by decide) ?_
  refine lv_iadd hx hb dL_law_313 ?_
  refine ztopi (y := nI (i + 4)) (nI_add i 4) ?_
  refine zscr hF hX hsb hAb hB (k := (i + 4)) (by omega) (by omega) dL_law_314 ?_
  refine zVi zm_L_23 hF hB (c_X7_reckon l D ka kb bd na o1 N (xs (i + 1)) (xs (i + 2)) (xs (i + 3)) (xs (i + 4)) (hd6)) ([0, 2, 1] ++ npr 51) (zsel_pool rfl rfl) (va_nd_pool rfl rfl) ([(bd 31), (bd 1), (bd 0)] ++ nA na) (fun _ => zad_pool rfl) (zad_pool rfl) 0 7 rfl rfl rfl ⟨Nat.le_of_ble_eq_true rfl, Nat.le_of_ble_eq_true rfl⟩ rfl hl.1 (Nat.le_of_ble_eq_true rfl) ⟨Nat.le_of_ble_eq_true rfl, Nat.le_of_ble_eq_true rfl⟩ dL_law_315 ?_
  clear hB
  try clear locs
  try clear H
  intro r1 u1 H locs hp hB
  obtain ⟨N91, o91⟩ := u1
  have hp1 : r1 = (rkV (xs (i + 1)) (xs (i + 2)) (xs (i + 3)) (xs (i + 4)) N).1 ∧ (∀ k9, k9 < 25 → N91 k9 = upG N (rkV (xs (i + 1)) (xs (i + 2)) (xs (i + 3)) (xs (i + 4)) N).2 k9) := hp
  have HPP := hp1
  replace hB : zB D A s ([((bd 31), .inr (7, [.ref (bd 0), .ref (bd 1), .ref (na 6), .ref (na 7), .ref (bd 2), .ref (bd 3), .ref (bd 4), .ref (bd 5), .ref (bd 6)])), ((bd 0), .inr (2, [.int (bI o91), .ref (na 25), .ref (na 26), .ref (na 27)])), ((bd 1), .inl (ka 3, 6, .inr (.inr (.inr (.inr (nR na 0)))))), ((bd 2), .inr (3, [.int (nI L), .ref (bd 7), .ref (bd 8), .ref (bd 9), .ref (bd 10), .ref (bd 11), .int sz9, .int re9])), ((bd 7), .inl (ka 0, 8, .inl mo)), ((bd 8), .inl (ka 0, 8, .inl an)), ((bd 9), .inl (ka 0, 8, .inl pl)), ((bd 10), .inl (ka 0, 24, .inl ho)), ((bd 11), .inl (ka 0, 2, .inl le)), ((bd 3), .inr (0, [.ref (bd 12), .ref (bd 13), .ref (bd 14), .ref (bd 15), .ref (bd 16), .ref (bd 17), .ref (na 21), .ref (na 22), .ref (na 23), .ref (na 24)])), ((bd 12), .inr (2, [.int (bI o2), .ref (na 28), .ref (na 29), .ref (na 30)])), ((bd 13), .inl (ka 0, 8, .inl st)), ((bd 14), .inl (ka 2, 3, .inl (kI kp))), ((bd 15), .inl (ka 3, 6, .inr (.inr (.inr (.inr (nR na 8)))))), ((bd 16), .inl (ka 3, 3, .inr (.inr (.inr (.inr (nR na 14)))))), ((bd 17), .inl (ka 3, 4, .inr (.inr (.inr (.inr (nR na 17)))))), ((bd 4), .inr (4, [.ref (bd 18), .ref (bd 19), .int cnt, .int opb, .int rch, .int wnt, .ref (bd 20), .ref (bd 21), .ref (bd 22), .int bb.1, .ref (bd 23), .ref (bd 24), .long (Int64.ofInt bb.2.1), .long (Int64.ofInt bb.2.2.1)])), ((bd 18), .inr (2, [.int (bI o3), .ref (na 31), .ref (na 32), .ref (na 33)])), ((bd 19), .inl (ka 0, 3, .inl zs)), ((bd 20), .inl (ka 3, 5, .inr (.inr (.inr (.inr (nR na 34)))))), ((bd 21), .inl (ka 0, 4, .inl sa7)), ((bd 22), .inl (ka 0, 4, .inl ss7)), ((bd 23), .inl (ka 0, 4, .inl bb.2.2.2.1)), ((bd 24), .inl (ka 0, 4, .inl bb.2.2.2.2)), ((bd 5), .inr (6, [.int dn, .int up9, .ref (na 39), .ref (na 40)])), ((bd 6), .inr (5, [.ref (bd 25), .ref (bd 30), .int la])), ((bd 25), .inl (ka 4, 4, .inr (.inr (.inr (.inr (nB bd)))))), ((bd 26), .inl (ka 1, 40, .inr (.inl (rw9 0)))), ((bd 27), .inl (ka 1, 40, .inr (.inl (rw9 1)))), ((bd 28), .inl (ka 1, 40, .inr (.inl (rw9 2)))), ((bd 29), .inl (ka 1, 40, .inr (.inl (rw9 3)))), ((bd 30), .inl (ka 0, 4, .inl sz)), (q, .inr (8, mX ad (bI o) la (nI L) sz9 re9 tr bm (Int64.ofInt b0) (Int64.ofInt b1))), ((ad 0), .inl (ka 0, 4, .inl sz)), ((ad 1), .inl (ka 1, 160, .inr (.inl it))), ((ad 2), .inl (ka 1, 40, .inr (.inl as9))), ((ad 3), .inl (ka 1, 200, .inr (.inl nu))), ((ad 4), .inl (ka 0, 8, .inl mo)), ((ad 5), .inl (ka 0, 8, .inl an)), ((ad 6), .inl (ka 0, 8, .inl pl)), ((ad 7), .inl (ka 0, 24, .inl ho)), ((ad 8), .inl (ka 0, 2, .inl le)), ((ad 9), .inl (ka 1, 4, .inr (.inl pu))), ((ad 10), .inl (ka 0, 4, .inl ga)), ((ad 11), .inl (ka 0, 4, .inl lg)), ((ad 12), .inl (ka 0, 3, .inl pm)), ((ad 13), .inl (ka 0, 3, .inl pa)), ((ad 14), .inl (ka 0, 4, .inl sa8)), ((ad 15), .inl (ka 0, 4, .inl ss8)), ((ad 16), .inl (ka 0, 4, .inl ba)), ((ad 17), .inl (ka 0, 4, .inl bz))] ++ nP na N91) H locs := zB_pool hB rfl rfl rfl rfl
  have h7 := HPP
  refine lv_aload_n hx hb dL_law_318 rfl (lv_at hl 1 rfl) ?_
  refine lv_aload_n hx hb dL_law_319 rfl (lv_at hl 3 rfl) ?_
  refine lv_iload_n hx hb dL_law_320 rfl (lv_at hl 0 rfl) ?_
  refine lv_iconst (v := 1) hx hb dL_law_321 (by decide) ?_
  refine lv_iadd hx hb dL_law_322 ?_
  refine ztopi (y := nI (i + 1)) (nI_add i 1) ?_
  refine zscr hF hX hsb hAb hB (k := (i + 1)) (by omega) (by omega) dL_law_323 ?_
  refine lv_aload_n hx hb dL_law_324 rfl (lv_at hl 3 rfl) ?_
  refine lv_iload_n hx hb dL_law_325 rfl (lv_at hl 0 rfl) ?_
  refine lv_iconst (v := 2) hx hb dL_law_326 (by decide) ?_
  refine lv_iadd hx hb dL_law_327 ?_
  refine ztopi (y := nI (i + 2)) (nI_add i 2) ?_
  refine zscr hF hX hsb hAb hB (k := (i + 2)) (by omega) (by omega) dL_law_328 ?_
  refine lv_aload_n hx hb dL_law_329 rfl (lv_at hl 3 rfl) ?_
  refine lv_iload_n hx hb dL_law_330 rfl (lv_at hl 0 rfl) ?_
  refine lv_iconst (v := 3) hx hb dL_law_331 (by decide) ?_
  refine lv_iadd hx hb dL_law_332 ?_
  refine ztopi (y := nI (i + 3)) (nI_add i 3) ?_
  refine zscr hF hX hsb hAb hB (k := (i + 3)) (by omega) (by omega) dL_law_333 ?_
  refine lv_aload_n hx hb dL_law_334 rfl (lv_at hl 3 rfl) ?_
  refine lv_iload_n hx hb dL_law_335 rfl (lv_at hl 0 rfl) ?_
  refine lv_iconst (v := 4) hx hb dL_law_336 (by decide) ?_
  refine lv_iadd hx hb dL_law_337 ?_
  refine ztopi (y := nI (i + 4)) (nI_add i 4) ?_
  refine zscr hF hX hsb hAb hB (k := (i + 4)) (by omega) (by omega) dL_law_338 ?_
  refine zVi zm_L_27 hF hB (c_X8_reckon l D ka kb q ad o (la, (nI L), sz9, re9, tr, bm, (Int64.ofInt b0), (Int64.ofInt b1)) nu (xs (i + 1)) (xs (i + 2)) (xs (i + 3)) (xs (i + 4)) (hn.1)) [32, 36] rfl (by decide) [q, (ad 3)] (fun _ => rfl) rfl 32 8 rfl rfl rfl ⟨Nat.le_of_ble_eq_true rfl, Nat.le_of_ble_eq_true rfl⟩ rfl hl.1 (Nat.le_of_ble_eq_true rfl) ⟨Nat.le_of_ble_eq_true rfl, Nat.le_of_ble_eq_true rfl⟩ dL_law_339 ?_
  clear hB
  try clear locs
  try clear H
  intro r2 u2 H locs hp hB
  obtain ⟨o22, nu22⟩ := u2
  have hp2 : r2 = (rkV (xs (i + 1)) (xs (i + 2)) (xs (i + 3)) (xs (i + 4)) (getN nu)).1 ∧ ∀ k9, k9 < 30 → getN nu22 k9 = upG (getN nu) (rkV (xs (i + 1)) (xs (i + 2)) (xs (i + 3)) (xs (i + 4)) (getN nu)).2 k9 := hp
  have HPP := hp2
  replace hB : zB D A s ([((bd 31), .inr (7, [.ref (bd 0), .ref (bd 1), .ref (na 6), .ref (na 7), .ref (bd 2), .ref (bd 3), .ref (bd 4), .ref (bd 5), .ref (bd 6)])), ((bd 0), .inr (2, [.int (bI o91), .ref (na 25), .ref (na 26), .ref (na 27)])), ((bd 1), .inl (ka 3, 6, .inr (.inr (.inr (.inr (nR na 0)))))), ((bd 2), .inr (3, [.int (nI L), .ref (bd 7), .ref (bd 8), .ref (bd 9), .ref (bd 10), .ref (bd 11), .int sz9, .int re9])), ((bd 7), .inl (ka 0, 8, .inl mo)), ((bd 8), .inl (ka 0, 8, .inl an)), ((bd 9), .inl (ka 0, 8, .inl pl)), ((bd 10), .inl (ka 0, 24, .inl ho)), ((bd 11), .inl (ka 0, 2, .inl le)), ((bd 3), .inr (0, [.ref (bd 12), .ref (bd 13), .ref (bd 14), .ref (bd 15), .ref (bd 16), .ref (bd 17), .ref (na 21), .ref (na 22), .ref (na 23), .ref (na 24)])), ((bd 12), .inr (2, [.int (bI o2), .ref (na 28), .ref (na 29), .ref (na 30)])), ((bd 13), .inl (ka 0, 8, .inl st)), ((bd 14), .inl (ka 2, 3, .inl (kI kp))), ((bd 15), .inl (ka 3, 6, .inr (.inr (.inr (.inr (nR na 8)))))), ((bd 16), .inl (ka 3, 3, .inr (.inr (.inr (.inr (nR na 14)))))), ((bd 17), .inl (ka 3, 4, .inr (.inr (.inr (.inr (nR na 17)))))), ((bd 4), .inr (4, [.ref (bd 18), .ref (bd 19), .int cnt, .int opb, .int rch, .int wnt, .ref (bd 20), .ref (bd 21), .ref (bd 22), .int bb.1, .ref (bd 23), .ref (bd 24), .long (Int64.ofInt bb.2.1), .long (Int64.ofInt bb.2.2.1)])), ((bd 18), .inr (2, [.int (bI o3), .ref (na 31), .ref (na 32), .ref (na 33)])), ((bd 19), .inl (ka 0, 3, .inl zs)), ((bd 20), .inl (ka 3, 5, .inr (.inr (.inr (.inr (nR na 34)))))), ((bd 21), .inl (ka 0, 4, .inl sa7)), ((bd 22), .inl (ka 0, 4, .inl ss7)), ((bd 23), .inl (ka 0, 4, .inl bb.2.2.2.1)), ((bd 24), .inl (ka 0, 4, .inl bb.2.2.2.2)), ((bd 5), .inr (6, [.int dn, .int up9, .ref (na 39), .ref (na 40)])), ((bd 6), .inr (5, [.ref (bd 25), .ref (bd 30), .int la])), ((bd 25), .inl (ka 4, 4, .inr (.inr (.inr (.inr (nB bd)))))), ((bd 26), .inl (ka 1, 40, .inr (.inl (rw9 0)))), ((bd 27), .inl (ka 1, 40, .inr (.inl (rw9 1)))), ((bd 28), .inl (ka 1, 40, .inr (.inl (rw9 2)))), ((bd 29), .inl (ka 1, 40, .inr (.inl (rw9 3)))), ((bd 30), .inl (ka 0, 4, .inl sz)), (q, .inr (8, mX ad (bI o22) la (nI L) sz9 re9 tr bm (Int64.ofInt b0) (Int64.ofInt b1))), ((ad 0), .inl (ka 0, 4, .inl sz)), ((ad 1), .inl (ka 1, 160, .inr (.inl it))), ((ad 2), .inl (ka 1, 40, .inr (.inl as9))), ((ad 3), .inl (ka 1, 200, .inr (.inl nu22))), ((ad 4), .inl (ka 0, 8, .inl mo)), ((ad 5), .inl (ka 0, 8, .inl an)), ((ad 6), .inl (ka 0, 8, .inl pl)), ((ad 7), .inl (ka 0, 24, .inl ho)), ((ad 8), .inl (ka 0, 2, .inl le)), ((ad 9), .inl (ka 1, 4, .inr (.inl pu))), ((ad 10), .inl (ka 0, 4, .inl ga)), ((ad 11), .inl (ka 0, 4, .inl lg)), ((ad 12), .inl (ka 0, 3, .inl pm)), ((ad 13), .inl (ka 0, 3, .inl pa)), ((ad 14), .inl (ka 0, 4, .inl sa8)), ((ad 15), .inl (ka 0, 4, .inl ss8)), ((ad 16), .inl (ka 0, 4, .inl ba)), ((ad 17), .inl (ka 0, 4, .inl bz))] ++ nP na N91) H locs := hB
  have h8 := HPP
  refine lv_icmp_eq (tgt := 1359) hx hb dL_law_342 (by decide) (fun h342 => ?_) (fun h342 => ?_)
  · skip
    have hc6 : rkV (xs (i + 1)) (xs (i + 2)) (xs (i + 3)) (xs (i + 4)) N = rkV (xs (i + 1)) (xs (i + 2)) (xs (i + 3)) (xs (i + 4)) (getN nu) := rk_c (fun k h => hn.2.1 k h)
    have hd9 := rk_d (w := (xs (i + 1))) (r := (xs (i + 2))) (s := (xs (i + 3))) (t := (xs (i + 4))) (G := getN nu) (fun k h => hn.1 k (by omega))
    rw [hc6] at h7
    have hn9 := hn.up _ hd9 (N' := N91) (nu' := nu22) (fun k h => h7.2 k (by omega)) (fun j h => h7.2 _ (by omega)) (fun k h => h8.2 k (by omega))
    have hk9 := hk.keep (N' := N91) (fun k h1 h2 => by
      rw [h7.2 _ (by omega)]
      cases e9 : (rkV (xs (i + 1)) (xs (i + 2)) (xs (i + 3)) (xs (i + 4)) (getN nu)).2 with
      | none => rfl
      | some u =>
        obtain ⟨k9, v9⟩ := u
        have h6 := (hd9 k9 v9 e9).1
        rw [upG_s]
        exact if_neg (by omega))
    refine kk _ H locs ?_ hB ls (lv_sub hl [0, 1, 2, 3] rfl)
    exact ⟨L, mo, an, pl, ho, le, sz, la, sz9, re9, N91, o91, o2, o3, st, kp, cnt, opb, rch, wnt, bb, zs, sa7, ss7, dn, up9, rw9, o22, tr, bm, b0, b1, it, as9, nu22, pu, ga, lg, pm, pa, sa8, ss8, ba, bz, rfl, ha, hbb, hc, hn9, hk9, hi9⟩
  · skip
    exact absurd (by rw [h7.1, h8.1, rk_c (fun k h => hn.2.1 k h)]) h342

set_option maxHeartbeats 4000000 in
set_option maxRecDepth 100000 in
theorem lwc_compare (l : Launch) (D : va_G) (ka : Nat → ClassId) (kb : Nat → Nat) (bd na ad : Nat → Nat) (q sb L9 : Nat) (xs : Nat → Int32) {p : Program} {e : Env} {s : State} {m : MethodId} {args : Array Value} {below : List Frame} {meth : Method} {c : Code} {A : Nat → Prop} {Q : State → Prop} {rt : Option FieldType} (hF : zF p s m args meth c D ka kb A cL_law RL 4 rt) (hX : va_X sb L9 xs s s.heap) (hsb : sb < s.heap.size) (hAb : ¬ A sb) (i : Nat) (hi : i + 7 ≤ L9) (hL9 : L9 ≤ 3584) {ws : va_W} {H : Heap} {locs : List Loc} (hI : LI ka bd na ad q ws) (hB : zB D A s ws H locs)
    (kk : ∀ (ws : va_W) (H : Heap) (locs : List Loc), LI ka bd na ad q ws → zB D A s ws H locs → ∀ ls : Array Slot, lv_has ls 4 [(3, .int (nI i)), (2, .ref q), (1, .ref (bd 31)), (0, .ref sb)] → W p l e room_1 s m args below meth c H locs 92 1052 Q (F0 m 1359 ls [])) {ls : Array Slot} (hl : lv_has ls 4 [(3, .int (nI i)), (2, .ref q), (1, .ref (bd 31)), (0, .ref sb)]) : W p l e room_1 s m args below meth c H locs 92 1052 Q (F0 m 381 ls []) := by
  have hx : p.tables.exec = Jvm.exec := hF.1.1
  have hb : c.code = cL_law := hF.1.2.1
  obtain ⟨L, mo, an, pl, ho, le, sz, la, sz9, re9, N, o1, o2, o3, st, kp, cnt, opb, rch, wnt, bb, zs, sa7, ss7, dn, up9, rw9, o, tr, bm, b0, b1, it, as9, nu, pu, ga, lg, pm, pa, sa8, ss8, ba, bz, rfl, ha, hbb, hc, hn, hk, hi9⟩ := hI
  have hok := ha.1
  have hoh := ha.2.1
  have hre := ha.2.2.1
  have hszk := ha.2.2.2.1
  have hsz := ha.2.2.2.2
  have hB9 := hc.1
  have hb01 := hc.2
  have hd6 : ∀ k, k < 6 → 0 < (N k).2.2.2.2.toInt := fun k h => by rw [hn.2.1 k h]; exact hn.1 k (by omega)
  replace hB : zB D A s ([((bd 31), .inr (7, [.ref (bd 0), .ref (bd 1), .ref (na 6), .ref (na 7), .ref (bd 2), .ref (bd 3), .ref (bd 4), .ref (bd 5), .ref (bd 6)])), ((bd 0), .inr (2, [.int (bI o1), .ref (na 25), .ref (na 26), .ref (na 27)])), ((bd 1), .inl (ka 3, 6, .inr (.inr (.inr (.inr (nR na 0)))))), ((bd 2), .inr (3, [.int (nI L), .ref (bd 7), .ref (bd 8), .ref (bd 9), .ref (bd 10), .ref (bd 11), .int sz9, .int re9])), ((bd 7), .inl (ka 0, 8, .inl mo)), ((bd 8), .inl (ka 0, 8, .inl an)), ((bd 9), .inl (ka 0, 8, .inl pl)), ((bd 10), .inl (ka 0, 24, .inl ho)), ((bd 11), .inl (ka 0, 2, .inl le)), ((bd 3), .inr (0, [.ref (bd 12), .ref (bd 13), .ref (bd 14), .ref (bd 15), .ref (bd 16), .ref (bd 17), .ref (na 21), .ref (na 22), .ref (na 23), .ref (na 24)])), ((bd 12), .inr (2, [.int (bI o2), .ref (na 28), .ref (na 29), .ref (na 30)])), ((bd 13), .inl (ka 0, 8, .inl st)), ((bd 14), .inl (ka 2, 3, .inl (kI kp))), ((bd 15), .inl (ka 3, 6, .inr (.inr (.inr (.inr (nR na 8)))))), ((bd 16), .inl (ka 3, 3, .inr (.inr (.inr (.inr (nR na 14)))))), ((bd 17), .inl (ka 3, 4, .inr (.inr (.inr (.inr (nR na 17)))))), ((bd 4), .inr (4, [.ref (bd 18), .ref (bd 19), .int cnt, .int opb, .int rch, .int wnt, .ref (bd 20), .ref (bd 21), .ref (bd 22), .int bb.1, .ref (bd 23), .ref (bd 24), .long (Int64.ofInt bb.2.1), .long (Int64.ofInt bb.2.2.1)])), ((bd 18), .inr (2, [.int (bI o3), .ref (na 31), .ref (na 32), .ref (na 33)])), ((bd 19), .inl (ka 0, 3, .inl zs)), ((bd 20), .inl (ka 3, 5, .inr (.inr (.inr (.inr (nR na 34)))))), ((bd 21), .inl (ka 0, 4, .inl sa7)), ((bd 22), .inl (ka 0, 4, .inl ss7)), ((bd 23), .inl (ka 0, 4, .inl bb.2.2.2.1)), ((bd 24), .inl (ka 0, 4, .inl bb.2.2.2.2)), ((bd 5), .inr (6, [.int dn, .int up9, .ref (na 39), .ref (na 40)])), ((bd 6), .inr (5, [.ref (bd 25), .ref (bd 30), .int la])), ((bd 25), .inl (ka 4, 4, .inr (.inr (.inr (.inr (nB bd)))))), ((bd 26), .inl (ka 1, 40, .inr (.inl (rw9 0)))), ((bd 27), .inl (ka 1, 40, .inr (.inl (rw9 1)))), ((bd 28), .inl (ka 1, 40, .inr (.inl (rw9 2)))), ((bd 29), .inl (ka 1, 40, .inr (.inl (rw9 3)))), ((bd 30), .inl (ka 0, 4, .inl sz)), (q, .inr (8, mX ad (bI o) la (nI L) sz9 re9 tr bm (Int64.ofInt b0) (Int64.ofInt b1))), ((ad 0), .inl (ka 0, 4, .inl sz)), ((ad 1), .inl (ka 1, 160, .inr (.inl it))), ((ad 2), .inl (ka 1, 40, .inr (.inl as9))), ((ad 3), .inl (ka 1, 200, .inr (.inl nu))), ((ad 4), .inl (ka 0, 8, .inl mo)), ((ad 5), .inl (ka 0, 8, .inl an)), ((ad 6), .inl (ka 0, 8, .inl pl)), ((ad 7), .inl (ka 0, 24, .inl ho)), ((ad 8), .inl (ka 0, 2, .inl le)), ((ad 9), .inl (ka 1, 4, .inr (.inl pu))), ((ad 10), .inl (ka 0, 4, .inl ga)), ((ad 11), .inl (ka 0, 4, .inl lg)), ((ad 12), .inl (ka 0, 3, .inl pm)), ((ad 13), .inl (ka 0, 3, .inl pa)), ((ad 14), .inl (ka 0, 4, .inl sa8)), ((ad 15), .inl (ka 0, 4, .inl ss8)), ((ad 16), .inl (ka 0, 4, .inl ba)), ((ad 17), .inl (ka 0, 4, .inl bz))] ++ nP na N) H locs := hB
  refine lv_aload_n hx hb dL_law_381 rfl (lv_at hl 2 rfl) ?_
  refine lv_aload_n hx hb dL_law_382 rfl (lv_at hl 3 rfl) ?_
  refine lv_iload_n hx hb dL_law_383 rfl (lv_at hl 0 rfl) ?_
  refine lv_iconst (v := 1) hx hb dL_law_384 (by decide) ?_
  refine lv_iadd hx hb dL_law_385 ?_
  refine ztopi (y := nI (i + 1)) (nI_add i 1) ?_
  refine zscr hF hX hsb hAb hB (k := (i + 1)) (by omega) (by omega) dL_law_386 ?_
  refine lv_aload_n hx hb dL_law_387 rfl (lv_at hl 3 rfl) ?_
  refine lv_iload_n hx hb dL_law_388 rfl (lv_at hl 0 rfl) ?_
  refine lv_iconst (v := 2) hx hb dL_law_389 (by decide) ?_
  refine lv_iadd hx hb dL_law_390 ?_
  refine ztopi (y := nI (i + 2)) (nI_add i 2) ?_
  refine zscr hF hX hsb hAb hB (k := (i + 2)) (by omega) (by omega) dL_law_391 ?_
  refine zVi zm_L_33 hF hB (c_X7_compare l D ka kb bd na o1 N (xs (i + 1)) (xs (i + 2)) (hd6)) ([0, 2, 1] ++ npr 51) (zsel_pool rfl rfl) (va_nd_pool rfl rfl) ([(bd 31), (bd 1), (bd 0)] ++ nA na) (fun _ => zad_pool rfl) (zad_pool rfl) 0 7 rfl rfl rfl ⟨Nat.le_of_ble_eq_true rfl, Nat.le_of_ble_eq_true rfl⟩ rfl hl.1 (Nat.le_of_ble_eq_true rfl) ⟨Nat.le_of_ble_eq_true rfl, Nat.le_of_ble_eq_true rfl⟩ dL_law_392 ?_
  clear hB
  try clear locs
  try clear H
  intro r1 u1 H locs hp hB
  obtain ⟨N91, o91⟩ := u1
  have hp1 : r1 = cmpV (xs (i + 1)) (xs (i + 2)) N ∧ (∀ k9, k9 ≠ 6 → N91 k9 = N k9) := hp
  have HPP := hp1
  replace hB : zB D A s ([((bd 31), .inr (7, [.ref (bd 0), .ref (bd 1), .ref (na 6), .ref (na 7), .ref (bd 2), .ref (bd 3), .ref (bd 4), .ref (bd 5), .ref (bd 6)])), ((bd 0), .inr (2, [.int (bI o91), .ref (na 25), .ref (na 26), .ref (na 27)])), ((bd 1), .inl (ka 3, 6, .inr (.inr (.inr (.inr (nR na 0)))))), ((bd 2), .inr (3, [.int (nI L), .ref (bd 7), .ref (bd 8), .ref (bd 9), .ref (bd 10), .ref (bd 11), .int sz9, .int re9])), ((bd 7), .inl (ka 0, 8, .inl mo)), ((bd 8), .inl (ka 0, 8, .inl an)), ((bd 9), .inl (ka 0, 8, .inl pl)), ((bd 10), .inl (ka 0, 24, .inl ho)), ((bd 11), .inl (ka 0, 2, .inl le)), ((bd 3), .inr (0, [.ref (bd 12), .ref (bd 13), .ref (bd 14), .ref (bd 15), .ref (bd 16), .ref (bd 17), .ref (na 21), .ref (na 22), .ref (na 23), .ref (na 24)])), ((bd 12), .inr (2, [.int (bI o2), .ref (na 28), .ref (na 29), .ref (na 30)])), ((bd 13), .inl (ka 0, 8, .inl st)), ((bd 14), .inl (ka 2, 3, .inl (kI kp))), ((bd 15), .inl (ka 3, 6, .inr (.inr (.inr (.inr (nR na 8)))))), ((bd 16), .inl (ka 3, 3, .inr (.inr (.inr (.inr (nR na 14)))))), ((bd 17), .inl (ka 3, 4, .inr (.inr (.inr (.inr (nR na 17)))))), ((bd 4), .inr (4, [.ref (bd 18), .ref (bd 19), .int cnt, .int opb, .int rch, .int wnt, .ref (bd 20), .ref (bd 21), .ref (bd 22), .int bb.1, .ref (bd 23), .ref (bd 24), .long (Int64.ofInt bb.2.1), .long (Int64.ofInt bb.2.2.1)])), ((bd 18), .inr (2, [.int (bI o3), .ref (na 31), .ref (na 32), .ref (na 33)])), ((bd 19), .inl (ka 0, 3, .inl zs)), ((bd 20), .inl (ka 3, 5, .inr (.inr (.inr (.inr (nR na 34)))))), ((bd 21), .inl (ka 0, 4, .inl sa7)), ((bd 22), .inl (ka 0, 4, .inl ss7)), ((bd 23), .inl (ka 0, 4, .inl bb.2.2.2.1)), ((bd 24), .inl (ka 0, 4, .inl bb.2.2.2.2)), ((bd 5), .inr (6, [.int dn, .int up9, .ref (na 39), .ref (na 40)])), ((bd 6), .inr (5, [.ref (bd 25), .ref (bd 30), .int la])), ((bd 25), .inl (ka 4, 4, .inr (.inr (.inr (.inr (nB bd)))))), ((bd 26), .inl (ka 1, 40, .inr (.inl (rw9 0)))), ((bd 27), .inl (ka 1, 40, .inr (.inl (rw9 1)))), ((bd 28), .inl (ka 1, 40, .inr (.inl (rw9 2)))), ((bd 29), .inl (ka 1, 40, .inr (.inl (rw9 3)))), ((bd 30), .inl (ka 0, 4, .inl sz)), (q, .inr (8, mX ad (bI o) la (nI L) sz9 re9 tr bm (Int64.ofInt b0) (Int64.ofInt b1))), ((ad 0), .inl (ka 0, 4, .inl sz)), ((ad 1), .inl (ka 1, 160, .inr (.inl it))), ((ad 2), .inl (ka 1, 40, .inr (.inl as9))), ((ad 3), .inl (ka 1, 200, .inr (.inl nu))), ((ad 4), .inl (ka 0, 8, .inl mo)), ((ad 5), .inl (ka 0, 8, .inl an)), ((ad 6), .inl (ka 0, 8, .inl pl)), ((ad 7), .inl (ka 0, 24, .inl ho)), ((ad 8), .inl (ka 0, 2, .inl le)), ((ad 9), .inl (ka 1, 4, .inr (.inl pu))), ((ad 10), .inl (ka 0, 4, .inl ga)), ((ad 11), .inl (ka 0, 4, .inl lg)), ((ad 12), .inl (ka 0, 3, .inl pm)), ((ad 13), .inl (ka 0, 3, .inl pa)), ((ad 14), .inl (ka 0, 4, .inl sa8)), ((ad 15), .inl (ka 0, 4, .inl ss8)), ((ad 16), .inl (ka 0, 4, .inl ba)), ((ad 17), .inl (ka 0, 4, .inl bz))] ++ nP na N91) H locs := zB_pool hB rfl rfl rfl rfl
  have h7 := HPP
  refine lv_aload_n hx hb dL_law_395 rfl (lv_at hl 1 rfl) ?_
  refine lv_aload_n hx hb dL_law_396 rfl (lv_at hl 3 rfl) ?_
  refine lv_iload_n hx hb dL_law_397 rfl (lv_at hl 0 rfl) ?_
  refine lv_iconst (v := 1) hx hb dL_law_398 (by decide) ?_
  refine lv_iadd hx hb dL_law_399 ?_
  refine ztopi (y := nI (i + 1)) (nI_add i 1) ?_
  refine zscr hF hX hsb hAb hB (k := (i + 1)) (by omega) (by omega) dL_law_400 ?_
  refine lv_aload_n hx hb dL_law_401 rfl (lv_at hl 3 rfl) ?_
  refine lv_iload_n hx hb dL_law_402 rfl (lv_at hl 0 rfl) ?_
  refine lv_iconst (v := 2) hx hb dL_law_403 (by decide) ?_
  refine lv_iadd hx hb dL_law_404 ?_
  refine ztopi (y := nI (i + 2)) (nI_add i 2) ?_
  refine zscr hF hX hsb hAb hB (k := (i + 2)) (by omega) (by omega) dL_law_405 ?_
  refine zVi zm_L_37 hF hB (c_X8_compare l D ka kb q ad o (la, (nI L), sz9, re9, tr, bm, (Int64.ofInt b0), (Int64.ofInt b1)) nu (xs (i + 1)) (xs (i + 2)) (hn.1)) [32, 36] rfl (by decide) [q, (ad 3)] (fun _ => rfl) rfl 32 8 rfl rfl rfl ⟨Nat.le_of_ble_eq_true rfl, Nat.le_of_ble_eq_true rfl⟩ rfl hl.1 (Nat.le_of_ble_eq_true rfl) ⟨Nat.le_of_ble_eq_true rfl, Nat.le_of_ble_eq_true rfl⟩ dL_law_406 ?_
  clear hB
  try clear locs
  try clear H
  intro r2 u2 H locs hp hB
  obtain ⟨o22, nu22⟩ := u2
  have hp2 : r2 = cmpV (xs (i + 1)) (xs (i + 2)) (getN nu) ∧ keepN [38] nu nu22 := hp
  have HPP := hp2
  replace hB : zB D A s ([((bd 31), .inr (7, [.ref (bd 0), .ref (bd 1), .ref (na 6), .ref (na 7), .ref (bd 2), .ref (bd 3), .ref (bd 4), .ref (bd 5), .ref (bd 6)])), ((bd 0), .inr (2, [.int (bI o91), .ref (na 25), .ref (na 26), .ref (na 27)])), ((bd 1), .inl (ka 3, 6, .inr (.inr (.inr (.inr (nR na 0)))))), ((bd 2), .inr (3, [.int (nI L), .ref (bd 7), .ref (bd 8), .ref (bd 9), .ref (bd 10), .ref (bd 11), .int sz9, .int re9])), ((bd 7), .inl (ka 0, 8, .inl mo)), ((bd 8), .inl (ka 0, 8, .inl an)), ((bd 9), .inl (ka 0, 8, .inl pl)), ((bd 10), .inl (ka 0, 24, .inl ho)), ((bd 11), .inl (ka 0, 2, .inl le)), ((bd 3), .inr (0, [.ref (bd 12), .ref (bd 13), .ref (bd 14), .ref (bd 15), .ref (bd 16), .ref (bd 17), .ref (na 21), .ref (na 22), .ref (na 23), .ref (na 24)])), ((bd 12), .inr (2, [.int (bI o2), .ref (na 28), .ref (na 29), .ref (na 30)])), ((bd 13), .inl (ka 0, 8, .inl st)), ((bd 14), .inl (ka 2, 3, .inl (kI kp))), ((bd 15), .inl (ka 3, 6, .inr (.inr (.inr (.inr (nR na 8)))))), ((bd 16), .inl (ka 3, 3, .inr (.inr (.inr (.inr (nR na 14)))))), ((bd 17), .inl (ka 3, 4, .inr (.inr (.inr (.inr (nR na 17)))))), ((bd 4), .inr (4, [.ref (bd 18), .ref (bd 19), .int cnt, .int opb, .int rch, .int wnt, .ref (bd 20), .ref (bd 21), .ref (bd 22), .int bb.1, .ref (bd 23), .ref (bd 24), .long (Int64.ofInt bb.2.1), .long (Int64.ofInt bb.2.2.1)])), ((bd 18), .inr (2, [.int (bI o3), .ref (na 31), .ref (na 32), .ref (na 33)])), ((bd 19), .inl (ka 0, 3, .inl zs)), ((bd 20), .inl (ka 3, 5, .inr (.inr (.inr (.inr (nR na 34)))))), ((bd 21), .inl (ka 0, 4, .inl sa7)), ((bd 22), .inl (ka 0, 4, .inl ss7)), ((bd 23), .inl (ka 0, 4, .inl bb.2.2.2.1)), ((bd 24), .inl (ka 0, 4, .inl bb.2.2.2.2)), ((bd 5), .inr (6, [.int dn, .int up9, .ref (na 39), .ref (na 40)])), ((bd 6), .inr (5, [.ref (bd 25), .ref (bd 30), .int la])), ((bd 25), .inl (ka 4, 4, .inr (.inr (.inr (.inr (nB bd)))))), ((bd 26), .inl (ka 1, 40, .inr (.inl (rw9 0)))), ((bd 27), .inl (ka 1, 40, .inr (.inl (rw9 1)))), ((bd 28), .inl (ka 1, 40, .inr (.inl (rw9 2)))), ((bd 29), .inl (ka 1, 40, .inr (.inl (rw9 3)))), ((bd 30), .inl (ka 0, 4, .inl sz)), (q, .inr (8, mX ad (bI o22) la (nI L) sz9 re9 tr bm (Int64.ofInt b0) (Int64.ofInt b1))), ((ad 0), .inl (ka 0, 4, .inl sz)), ((ad 1), .inl (ka 1, 160, .inr (.inl it))), ((ad 2), .inl (ka 1, 40, .inr (.inl as9))), ((ad 3), .inl (ka 1, 200, .inr (.inl nu22))), ((ad 4), .inl (ka 0, 8, .inl mo)), ((ad 5), .inl (ka 0, 8, .inl an)), ((ad 6), .inl (ka 0, 8, .inl pl)), ((ad 7), .inl (ka 0, 24, .inl ho)), ((ad 8), .inl (ka 0, 2, .inl le)), ((ad 9), .inl (ka 1, 4, .inr (.inl pu))), ((ad 10), .inl (ka 0, 4, .inl ga)), ((ad 11), .inl (ka 0, 4, .inl lg)), ((ad 12), .inl (ka 0, 3, .inl pm)), ((ad 13), .inl (ka 0, 3, .inl pa)), ((ad 14), .inl (ka 0, 4, .inl sa8)), ((ad 15), .inl (ka 0, 4, .inl ss8)), ((ad 16), .inl (ka 0, 4, .inl ba)), ((ad 17), .inl (ka 0, 4, .inl bz))] ++ nP na N91) H locs := hB
  have h8 := HPP
  refine lv_icmp_eq (tgt := 1359) hx hb dL_law_409 (by decide) (fun h409 => ?_) (fun h409 => ?_)
  · skip
    have hn9 := hn.keep (N' := N91) (nu' := nu22) (fun k h => h7.2 k (by omega)) (fun j h => h7.2 _ (by omega)) (keep38 h8.2)
    have hk9 := hk.keep (N' := N91) (fun k h1 h2 => h7.2 _ (by omega))
    refine kk _ H locs ?_ hB ls (lv_sub hl [0, 1, 2, 3] rfl)
    exact ⟨L, mo, an, pl, ho, le, sz, la, sz9, re9, N91, o91, o2, o3, st, kp, cnt, opb, rch, wnt, bb, zs, sa7, ss7, dn, up9, rw9, o22, tr, bm, b0, b1, it, as9, nu22, pu, ga, lg, pm, pa, sa8, ss8, ba, bz, rfl, ha, hbb, hc, hn9, hk9, hi9⟩
  · skip
    exact absurd (by rw [h7.1, h8.1, cmp_c (fun k h => hn.2.1 k h)]) h409

set_option maxHeartbeats 4000000 in
set_option maxRecDepth 100000 in
theorem lwc_lump (l : Launch) (D : va_G) (ka : Nat → ClassId) (kb : Nat → Nat) (bd na ad : Nat → Nat) (q sb L9 : Nat) (xs : Nat → Int32) {p : Program} {e : Env} {s : State} {m : MethodId} {args : Array Value} {below : List Frame} {meth : Method} {c : Code} {A : Nat → Prop} {Q : State → Prop} {rt : Option FieldType} (hF : zF p s m args meth c D ka kb A cL_law RL 4 rt) (hX : va_X sb L9 xs s s.heap) (hsb : sb < s.heap.size) (hAb : ¬ A sb) (i : Nat) (hi : i + 7 ≤ L9) (hL9 : L9 ≤ 3584) {ws : va_W} {H : Heap} {locs : List Loc} (hI : LI ka bd na ad q ws) (hB : zB D A s ws H locs)
    (kk : ∀ (ws : va_W) (H : Heap) (locs : List Loc), LI ka bd na ad q ws → zB D A s ws H locs → ∀ ls : Array Slot, lv_has ls 4 [(3, .int (nI i)), (2, .ref q), (1, .ref (bd 31)), (0, .ref sb)] → W p l e room_1 s m args below meth c H locs 92 1052 Q (F0 m 1359 ls [])) {ls : Array Slot} (hl : lv_has ls 4 [(3, .int (nI i)), (2, .ref q), (1, .ref (bd 31)), (0, .ref sb)]) : W p l e room_1 s m args below meth c H locs 92 1052 Q (F0 m 414 ls []) := by
  have hx : p.tables.exec = Jvm.exec := hF.1.1
  have hb : c.code = cL_law := hF.1.2.1
  obtain ⟨L, mo, an, pl, ho, le, sz, la, sz9, re9, N, o1, o2, o3, st, kp, cnt, opb, rch, wnt, bb, zs, sa7, ss7, dn, up9, rw9, o, tr, bm, b0, b1, it, as9, nu, pu, ga, lg, pm, pa, sa8, ss8, ba, bz, rfl, ha, hbb, hc, hn, hk, hi9⟩ := hI
  have hok := ha.1
  have hoh := ha.2.1
  have hre := ha.2.2.1
  have hszk := ha.2.2.2.1
  have hsz := ha.2.2.2.2
  have hB9 := hc.1
  have hb01 := hc.2
  have hd6 : ∀ k, k < 6 → 0 < (N k).2.2.2.2.toInt := fun k h => by rw [hn.2.1 k h]; exact hn.1 k (by omega)
  replace hB : zB D A s ([((bd 31), .inr (7, [.ref (bd 0), .ref (bd 1), .ref (na 6), .ref (na 7), .ref (bd 2), .ref (bd 3), .ref (bd 4), .ref (bd 5), .ref (bd 6)])), ((bd 0), .inr (2, [.int (bI o1), .ref (na 25), .ref (na 26), .ref (na 27)])), ((bd 1), .inl (ka 3, 6, .inr (.inr (.inr (.inr (nR na 0)))))), ((bd 2), .inr (3, [.int (nI L), .ref (bd 7), .ref (bd 8), .ref (bd 9), .ref (bd 10), .ref (bd 11), .int sz9, .int re9])), ((bd 7), .inl (ka 0, 8, .inl mo)), ((bd 8), .inl (ka 0, 8, .inl an)), ((bd 9), .inl (ka 0, 8, .inl pl)), ((bd 10), .inl (ka 0, 24, .inl ho)), ((bd 11), .inl (ka 0, 2, .inl le)), ((bd 3), .inr (0, [.ref (bd 12), .ref (bd 13), .ref (bd 14), .ref (bd 15), .ref (bd 16), .ref (bd 17), .ref (na 21), .ref (na 22), .ref (na 23), .ref (na 24)])), ((bd 12), .inr (2, [.int (bI o2), .ref (na 28), .ref (na 29), .ref (na 30)])), ((bd 13), .inl (ka 0, 8, .inl st)), ((bd 14), .inl (ka 2, 3, .inl (kI kp))), ((bd 15), .inl (ka 3, 6, .inr (.inr (.inr (.inr (nR na 8)))))), ((bd 16), .inl (ka 3, 3, .inr (.inr (.inr (.inr (nR na 14)))))), ((bd 17), .inl (ka 3, 4, .inr (.inr (.inr (.inr (nR na 17)))))), ((bd 4), .inr (4, [.ref (bd 18), .ref (bd 19), .int cnt, .int opb, .int rch, .int wnt, .ref (bd 20), .ref (bd 21), .ref (bd 22), .int bb.1, .ref (bd 23), .ref (bd 24), .long (Int64.ofInt bb.2.1), .long (Int64.ofInt bb.2.2.1)])), ((bd 18), .inr (2, [.int (bI o3), .ref (na 31), .ref (na 32), .ref (na 33)])), ((bd 19), .inl (ka 0, 3, .inl zs)), ((bd 20), .inl (ka 3, 5, .inr (.inr (.inr (.inr (nR na 34)))))), ((bd 21), .inl (ka 0, 4, .inl sa7)), ((bd 22), .inl (ka 0, 4, .inl ss7)), ((bd 23), .inl (ka 0, 4, .inl bb.2.2.2.1)), ((bd 24), .inl (ka 0, 4, .inl bb.2.2.2.2)), ((bd 5), .inr (6, [.int dn, .int up9, .ref (na 39), .ref (na 40)])), ((bd 6), .inr (5, [.ref (bd 25), .ref (bd 30), .int la])), ((bd 25), .inl (ka 4, 4, .inr (.inr (.inr (.inr (nB bd)))))), ((bd 26), .inl (ka 1, 40, .inr (.inl (rw9 0)))), ((bd 27), .inl (ka 1, 40, .inr (.inl (rw9 1)))), ((bd 28), .inl (ka 1, 40, .inr (.inl (rw9 2)))), ((bd 29), .inl (ka 1, 40, .inr (.inl (rw9 3)))), ((bd 30), .inl (ka 0, 4, .inl sz)), (q, .inr (8, mX ad (bI o) la (nI L) sz9 re9 tr bm (Int64.ofInt b0) (Int64.ofInt b1))), ((ad 0), .inl (ka 0, 4, .inl sz)), ((ad 1), .inl (ka 1, 160, .inr (.inl it))), ((ad 2), .inl (ka 1, 40, .inr (.inl as9))), ((ad 3), .inl (ka 1, 200, .inr (.inl nu))), ((ad 4), .inl (ka 0, 8, .inl mo)), ((ad 5), .inl (ka 0, 8, .inl an)), ((ad 6), .inl (ka 0, 8, .inl pl)), ((ad 7), .inl (ka 0, 24, .inl ho)), ((ad 8), .inl (ka 0, 2, .inl le)), ((ad 9), .inl (ka 1, 4, .inr (.inl pu))), ((ad 10), .inl (ka 0, 4, .inl ga)), ((ad 11), .inl (ka 0, 4, .inl lg)), ((ad 12), .inl (ka 0, 3, .inl pm)), ((ad 13), .inl (ka 0, 3, .inl pa)), ((ad 14), .inl (ka 0, 4, .inl sa8)), ((ad 15), .inl (ka 0, 4, .inl ss8)), ((ad 16), .inl (ka 0, 4, .inl ba)), ((ad 17), .inl (ka 0, 4, .inl bz))] ++ nP na N) H locs := hB
  refine lv_aload_n hx hb dL_law_414 rfl (lv_at hl 2 rfl) ?_
  refine lv_aload_n hx hb dL_law_415 rfl (lv_at hl 3 rfl) ?_
  refine lv_iload_n hx hb dL_law_416 rfl (lv_at hl 0 rfl) ?_
  refine lv_iconst (v := 1) hx hb dL_law_417 (by decide) ?_
  refine lv_iadd hx hb dL_law_418 ?_
  refine ztopi (y := nI (i + 1)) (nI_add i 1) ?_
  refine zscr hF hX hsb hAb hB (k := (i + 1)) (by omega) (by omega) dL_law_419 ?_
  refine lv_aload_n hx hb dL_law_420 rfl (lv_at hl 3 rfl) ?_
  refine lv_iload_n hx hb dL_law_421 rfl (lv_at hl 0 rfl) ?_
  refine lv_iconst (v := 2) hx hb dL_law_422 (by decide) ?_
  refine lv_iadd hx hb dL_law_423 ?_
  refine ztopi (y := nI (i + 2)) (nI_add i 2) ?_
  refine zscr hF hX hsb hAb hB (k := (i + 2)) (by omega) (by omega) dL_law_424 ?_
  refine lv_aload_n hx hb dL_law_425 rfl (lv_at hl 3 rfl) ?_
  refine lv_iload_n hx hb dL_law_426 rfl (lv_at hl 0 rfl) ?_
  refine lv_iconst (v := 3) hx hb dL_law_427 (by decide) ?_
  refine lv_iadd hx hb dL_law_428 ?_
  refine ztopi (y := nI (i + 3)) (nI_add i 3) ?_
  refine zscr hF hX hsb hAb hB (k := (i + 3)) (by omega) (by omega) dL_law_429 ?_
  refine zVi zm_L_38 hF hB (c_X7_lump l D ka kb bd na sz9 re9 kp L mo an pl (xs (i + 1)) (xs (i + 2)) (xs (i + 3)) (hok.1)) [0, 3, 4, 5, 6, 9, 12] rfl (by decide) [(bd 31), (bd 2), (bd 7), (bd 8), (bd 9), (bd 3), (bd 14)] (fun _ => rfl) rfl 0 7 rfl rfl rfl ⟨Nat.le_of_ble_eq_true rfl, Nat.le_of_ble_eq_true rfl⟩ rfl hl.1 (Nat.le_of_ble_eq_true rfl) ⟨Nat.le_of_ble_eq_true rfl, Nat.le_of_ble_eq_true rfl⟩ dL_law_430 ?_
  clear hB
  try clear locs
  try clear H
  intro r1 u1 H locs hp hB
  obtain rfl : r1 = luA (xs (i + 1)) (xs (i + 2)) (xs (i + 3)) L := hp
  replace hB : zB D A s ([((bd 31), .inr (7, [.ref (bd 0), .ref (bd 1), .ref (na 6), .ref (na 7), .ref (bd 2), .ref (bd 3), .ref (bd 4), .ref (bd 5), .ref (bd 6)])), ((bd 0), .inr (2, [.int (bI o1), .ref (na 25), .ref (na 26), .ref (na 27)])), ((bd 1), .inl (ka 3, 6, .inr (.inr (.inr (.inr (nR na 0)))))), ((bd 2), .inr (3, [.int (nI (if luB (xs (i + 1)) (xs (i + 2)) (xs (i + 3)) L = true then (L + 1) else L)), .ref (bd 7), .ref (bd 8), .ref (bd 9), .ref (bd 10), .ref (bd 11), .int sz9, .int re9])), ((bd 7), .inl (ka 0, 8, .inl (if luB (xs (i + 1)) (xs (i + 2)) (xs (i + 3)) L = true then upd mo L (xs (i + 1)) else mo))), ((bd 8), .inl (ka 0, 8, .inl (if luB (xs (i + 1)) (xs (i + 2)) (xs (i + 3)) L = true then upd an L (xs (i + 2)) else an))), ((bd 9), .inl (ka 0, 8, .inl (if luB (xs (i + 1)) (xs (i + 2)) (xs (i + 3)) L = true then upd pl L (xs (i + 3)) else pl))), ((bd 10), .inl (ka 0, 24, .inl ho)), ((bd 11), .inl (ka 0, 2, .inl le)), ((bd 3), .inr (0, [.ref (bd 12), .ref (bd 13), .ref (bd 14), .ref (bd 15), .ref (bd 16), .ref (bd 17), .ref (na 21), .ref (na 22), .ref (na 23), .ref (na 24)])), ((bd 12), .inr (2, [.int (bI o2), .ref (na 28), .ref (na 29), .ref (na 30)])), ((bd 13), .inl (ka 0, 8, .inl st)), ((bd 14), .inl (ka 2, 3, .inl (kI (if luB (xs (i + 1)) (xs (i + 2)) (xs (i + 3)) L = true then fgB kp 3 else kp)))), ((bd 15), .inl (ka 3, 6, .inr (.inr (.inr (.inr (nR na 8)))))), ((bd 16), .inl (ka 3, 3, .inr (.inr (.inr (.inr (nR na 14)))))), ((bd 17), .inl (ka 3, 4, .inr (.inr (.inr (.inr (nR na 17)))))), ((bd 4), .inr (4, [.ref (bd 18), .ref (bd 19), .int cnt, .int opb, .int rch, .int wnt, .ref (bd 20), .ref (bd 21), .ref (bd 22), .int bb.1, .ref (bd 23), .ref (bd 24), .long (Int64.ofInt bb.2.1), .long (Int64.ofInt bb.2.2.1)])), ((bd 18), .inr (2, [.int (bI o3), .ref (na 31), .ref (na 32), .ref (na 33)])), ((bd 19), .inl (ka 0, 3, .inl zs)), ((bd 20), .inl (ka 3, 5, .inr (.inr (.inr (.inr (nR na 34)))))), ((bd 21), .inl (ka 0, 4, .inl sa7)), ((bd 22), .inl (ka 0, 4, .inl ss7)), ((bd 23), .inl (ka 0, 4, .inl bb.2.2.2.1)), ((bd 24), .inl (ka 0, 4, .inl bb.2.2.2.2)), ((bd 5), .inr (6, [.int dn, .int up9, .ref (na 39), .ref (na 40)])), ((bd 6), .inr (5, [.ref (bd 25), .ref (bd 30), .int la])), ((bd 25), .inl (ka 4, 4, .inr (.inr (.inr (.inr (nB bd)))))), ((bd 26), .inl (ka 1, 40, .inr (.inl (rw9 0)))), ((bd 27), .inl (ka 1, 40, .inr (.inl (rw9 1)))), ((bd 28), .inl (ka 1, 40, .inr (.inl (rw9 2)))), ((bd 29), .inl (ka 1, 40, .inr (.inl (rw9 3)))), ((bd 30), .inl (ka 0, 4, .inl sz)), (q, .inr (8, mX ad (bI o) la (nI L) sz9 re9 tr bm (Int64.ofInt b0) (Int64.ofInt b1))), ((ad 0), .inl (ka 0, 4, .inl sz)), ((ad 1), .inl (ka 1, 160, .inr (.inl it))), ((ad 2), .inl (ka 1, 40, .inr (.inl as9))), ((ad 3), .inl (ka 1, 200, .inr (.inl nu))), ((ad 4), .inl (ka 0, 8, .inl mo)), ((ad 5), .inl (ka 0, 8, .inl an)), ((ad 6), .inl (ka 0, 8, .inl pl)), ((ad 7), .inl (ka 0, 24, .inl ho)), ((ad 8), .inl (ka 0, 2, .inl le)), ((ad 9), .inl (ka 1, 4, .inr (.inl pu))), ((ad 10), .inl (ka 0, 4, .inl ga)), ((ad 11), .inl (ka 0, 4, .inl lg)), ((ad 12), .inl (ka 0, 3, .inl pm)), ((ad 13), .inl (ka 0, 3, .inl pa)), ((ad 14), .inl (ka 0, 4, .inl sa8)), ((ad 15), .inl (ka 0, 4, .inl ss8)), ((ad 16), .inl (ka 0, 4, .inl ba)), ((ad 17), .inl (ka 0, 4, .inl bz))] ++ nP na N) H locs := hB
  refine lv_aload_n hx hb dL_law_433 rfl (lv_at hl 1 rfl) ?_
  refine lv_aload_n hx hb dL_law_434 rfl (lv_at hl 3 rfl) ?_
  refine lv_iload_n hx hb dL_law_435 rfl (lv_at hl 0 rfl) ?_
  refine lv_iconst (v := 1) hx hb dL_law_436 (by decide) ?_
  refine lv_iadd hx hb dL_law_437 ?_
  refine ztopi (y := nI (i + 1)) (nI_add i 1) ?_
  refine zscr hF hX hsb hAb hB (k := (i + 1)) (by omega) (by omega) dL_law_438 ?_
  refine lv_aload_n hx hb dL_law_439 rfl (lv_at hl 3 rfl) ?_
  refine lv_iload_n hx hb dL_law_440 rfl (lv_at hl 0 rfl) ?_
  refine lv_iconst (v := 2) hx hb dL_law_441 (by decide) ?_
  refine lv_iadd hx hb dL_law_442 ?_
  refine ztopi (y := nI (i + 2)) (nI_add i 2) ?_
  refine zscr hF hX hsb hAb hB (k := (i + 2)) (by omega) (by omega) dL_law_443 ?_
  refine lv_aload_n hx hb dL_law_444 rfl (lv_at hl 3 rfl) ?_
  refine lv_iload_n hx hb dL_law_445 rfl (lv_at hl 0 rfl) ?_
  refine lv_iconst (v := 3) hx hb dL_law_446 (by decide) ?_
  refine lv_iadd hx hb dL_law_447 ?_
  refine ztopi (y := nI (i + 3)) (nI_add i 3) ?_
  refine zscr hF hX hsb hAb hB (k := (i + 3)) (by omega) (by omega) dL_law_448 ?_
  refine zVi zm_L_41 hF hB (c_X8_lump l D ka kb q ad o (la, (nI L), sz9, re9, tr, bm, (Int64.ofInt b0), (Int64.ofInt b1)) L mo an pl (xs (i + 1)) (xs (i + 2)) (xs (i + 3)) (rfl) (hok.1)) [32, 37, 38, 39] rfl (by decide) [q, (ad 4), (ad 5), (ad 6)] (fun _ => rfl) rfl 32 8 rfl rfl rfl ⟨Nat.le_of_ble_eq_true rfl, Nat.le_of_ble_eq_true rfl⟩ rfl hl.1 (Nat.le_of_ble_eq_true rfl) ⟨Nat.le_of_ble_eq_true rfl, Nat.le_of_ble_eq_true rfl⟩ dL_law_449 ?_
  clear hB
  try clear locs
  try clear H
  intro r2 u2 H locs hp hB
  obtain rfl : r2 = luA (xs (i + 1)) (xs (i + 2)) (xs (i + 3)) L := hp
  replace hB : zB D A s ([((bd 31), .inr (7, [.ref (bd 0), .ref (bd 1), .ref (na 6), .ref (na 7), .ref (bd 2), .ref (bd 3), .ref (bd 4), .ref (bd 5), .ref (bd 6)])), ((bd 0), .inr (2, [.int (bI o1), .ref (na 25), .ref (na 26), .ref (na 27)])), ((bd 1), .inl (ka 3, 6, .inr (.inr (.inr (.inr (nR na 0)))))), ((bd 2), .inr (3, [.int (nI (if luB (xs (i + 1)) (xs (i + 2)) (xs (i + 3)) L = true then (L + 1) else L)), .ref (bd 7), .ref (bd 8), .ref (bd 9), .ref (bd 10), .ref (bd 11), .int sz9, .int re9])), ((bd 7), .inl (ka 0, 8, .inl (if luB (xs (i + 1)) (xs (i + 2)) (xs (i + 3)) L = true then upd mo L (xs (i + 1)) else mo))), ((bd 8), .inl (ka 0, 8, .inl (if luB (xs (i + 1)) (xs (i + 2)) (xs (i + 3)) L = true then upd an L (xs (i + 2)) else an))), ((bd 9), .inl (ka 0, 8, .inl (if luB (xs (i + 1)) (xs (i + 2)) (xs (i + 3)) L = true then upd pl L (xs (i + 3)) else pl))), ((bd 10), .inl (ka 0, 24, .inl ho)), ((bd 11), .inl (ka 0, 2, .inl le)), ((bd 3), .inr (0, [.ref (bd 12), .ref (bd 13), .ref (bd 14), .ref (bd 15), .ref (bd 16), .ref (bd 17), .ref (na 21), .ref (na 22), .ref (na 23), .ref (na 24)])), ((bd 12), .inr (2, [.int (bI o2), .ref (na 28), .ref (na 29), .ref (na 30)])), ((bd 13), .inl (ka 0, 8, .inl st)), ((bd 14), .inl (ka 2, 3, .inl (kI (if luB (xs (i + 1)) (xs (i + 2)) (xs (i + 3)) L = true then fgB kp 3 else kp)))), ((bd 15), .inl (ka 3, 6, .inr (.inr (.inr (.inr (nR na 8)))))), ((bd 16), .inl (ka 3, 3, .inr (.inr (.inr (.inr (nR na 14)))))), ((bd 17), .inl (ka 3, 4, .inr (.inr (.inr (.inr (nR na 17)))))), ((bd 4), .inr (4, [.ref (bd 18), .ref (bd 19), .int cnt, .int opb, .int rch, .int wnt, .ref (bd 20), .ref (bd 21), .ref (bd 22), .int bb.1, .ref (bd 23), .ref (bd 24), .long (Int64.ofInt bb.2.1), .long (Int64.ofInt bb.2.2.1)])), ((bd 18), .inr (2, [.int (bI o3), .ref (na 31), .ref (na 32), .ref (na 33)])), ((bd 19), .inl (ka 0, 3, .inl zs)), ((bd 20), .inl (ka 3, 5, .inr (.inr (.inr (.inr (nR na 34)))))), ((bd 21), .inl (ka 0, 4, .inl sa7)), ((bd 22), .inl (ka 0, 4, .inl ss7)), ((bd 23), .inl (ka 0, 4, .inl bb.2.2.2.1)), ((bd 24), .inl (ka 0, 4, .inl bb.2.2.2.2)), ((bd 5), .inr (6, [.int dn, .int up9, .ref (na 39), .ref (na 40)])), ((bd 6), .inr (5, [.ref (bd 25), .ref (bd 30), .int la])), ((bd 25), .inl (ka 4, 4, .inr (.inr (.inr (.inr (nB bd)))))), ((bd 26), .inl (ka 1, 40, .inr (.inl (rw9 0)))), ((bd 27), .inl (ka 1, 40, .inr (.inl (rw9 1)))), ((bd 28), .inl (ka 1, 40, .inr (.inl (rw9 2)))), ((bd 29), .inl (ka 1, 40, .inr (.inl (rw9 3)))), ((bd 30), .inl (ka 0, 4, .inl sz)), (q, .inr (8, mX ad (bI o) la (if luB (xs (i + 1)) (xs (i + 2)) (xs (i + 3)) L = true then nI (L + 1) else (la, (nI L), sz9, re9, tr, bm, (Int64.ofInt b0), (Int64.ofInt b1)).2.1) sz9 re9 (if luB (xs (i + 1)) (xs (i + 2)) (xs (i + 3)) L = true then (0 : Int32) else (la, (nI L), sz9, re9, tr, bm, (Int64.ofInt b0), (Int64.ofInt b1)).2.2.2.2.1) bm (Int64.ofInt b0) (Int64.ofInt b1))), ((ad 0), .inl (ka 0, 4, .inl sz)), ((ad 1), .inl (ka 1, 160, .inr (.inl it))), ((ad 2), .inl (ka 1, 40, .inr (.inl as9))), ((ad 3), .inl (ka 1, 200, .inr (.inl nu))), ((ad 4), .inl (ka 0, 8, .inl (if luB (xs (i + 1)) (xs (i + 2)) (xs (i + 3)) L = true then upd mo L (xs (i + 1)) else mo))), ((ad 5), .inl (ka 0, 8, .inl (if luB (xs (i + 1)) (xs (i + 2)) (xs (i + 3)) L = true then upd an L (xs (i + 2)) else an))), ((ad 6), .inl (ka 0, 8, .inl (if luB (xs (i + 1)) (xs (i + 2)) (xs (i + 3)) L = true then upd pl L (xs (i + 3)) else pl))), ((ad 7), .inl (ka 0, 24, .inl ho)), ((ad 8), .inl (ka 0, 2, .inl le)), ((ad 9), .inl (ka 1, 4, .inr (.inl pu))), ((ad 10), .inl (ka 0, 4, .inl ga)), ((ad 11), .inl (ka 0, 4, .inl lg)), ((ad 12), .inl (ka 0, 3, .inl pm)), ((ad 13), .inl (ka 0, 3, .inl pa)), ((ad 14), .inl (ka 0, 4, .inl sa8)), ((ad 15), .inl (ka 0, 4, .inl ss8)), ((ad 16), .inl (ka 0, 4, .inl ba)), ((ad 17), .inl (ka 0, 4, .inl bz))] ++ nP na N) H locs := hB
  refine lv_icmp_eq (tgt := 1359) hx hb dL_law_452 (by decide) (fun h452 => ?_) (fun h452 => ?_)
  · skip
    by_cases hq : luB (xs (i + 1)) (xs (i + 2)) (xs (i + 3)) L = true
    · skip
      simp only [if_pos hq] at hB
      refine kk _ H locs ?_ hB ls (lv_sub hl [0, 1, 2, 3] rfl)
      exact ⟨L + 1, upd mo L (xs (i + 1)), upd an L (xs (i + 2)), upd pl L (xs (i + 3)), ho, le, sz, la, sz9, re9, N, o1, o2, o3, st, fgB kp 3, cnt, opb, rch, wnt, bb, zs, sa7, ss7, dn, up9, rw9, o, 0, bm, b0, b1, it, as9, nu, pu, ga, lg, pm, pa, sa8, ss8, ba, bz, rfl, ⟨okL_lump hok hq, hoh, hre, hszk, hsz⟩, hbb, hc, hn, hk.fg, hi9⟩
    · skip
      simp only [if_neg hq] at hB
      refine kk _ H locs ?_ hB ls (lv_sub hl [0, 1, 2, 3] rfl)
      exact ⟨L, mo, an, pl, ho, le, sz, la, sz9, re9, N, o1, o2, o3, st, kp, cnt, opb, rch, wnt, bb, zs, sa7, ss7, dn, up9, rw9, o, tr, bm, b0, b1, it, as9, nu, pu, ga, lg, pm, pa, sa8, ss8, ba, bz, rfl, ha, hbb, hc, hn, hk, hi9⟩
  · skip
    exact absurd (rfl) h452

set_option maxHeartbeats 4000000 in
set_option maxRecDepth 100000 in
theorem lwc_unlump (l : Launch) (D : va_G) (ka : Nat → ClassId) (kb : Nat → Nat) (bd na ad : Nat → Nat) (q sb L9 : Nat) (xs : Nat → Int32) {p : Program} {e : Env} {s : State} {m : MethodId} {args : Array Value} {below : List Frame} {meth : Method} {c : Code} {A : Nat → Prop} {Q : State → Prop} {rt : Option FieldType} (hF : zF p s m args meth c D ka kb A cL_law RL 4 rt) (hX : va_X sb L9 xs s s.heap) (hsb : sb < s.heap.size) (hAb : ¬ A sb) (i : Nat) (hi : i + 7 ≤ L9) (hL9 : L9 ≤ 3584) {ws : va_W} {H : Heap} {locs : List Loc} (hI : LI ka bd na ad q ws) (hB : zB D A s ws H locs)
    (kk : ∀ (ws : va_W) (H : Heap) (locs : List Loc), LI ka bd na ad q ws → zB D A s ws H locs → ∀ ls : Array Slot, lv_has ls 4 [(3, .int (nI i)), (2, .ref q), (1, .ref (bd 31)), (0, .ref sb)] → W p l e room_1 s m args below meth c H locs 92 1052 Q (F0 m 1359 ls [])) {ls : Array Slot} (hl : lv_has ls 4 [(3, .int (nI i)), (2, .ref q), (1, .ref (bd 31)), (0, .ref sb)]) : W p l e room_1 s m args below meth c H locs 92 1052 Q (F0 m 457 ls []) := by
  have hx : p.tables.exec = Jvm.exec := hF.1.1
  have hb : c.code = cL_law := hF.1.2.1
  obtain ⟨L, mo, an, pl, ho, le, sz, la, sz9, re9, N, o1, o2, o3, st, kp, cnt, opb, rch, wnt, bb, zs, sa7, ss7, dn, up9, rw9, o, tr, bm, b0, b1, it, as9, nu, pu, ga, lg, pm, pa, sa8, ss8, ba, bz, rfl, ha, hbb, hc, hn, hk, hi9⟩ := hI
  have hok := ha.1
  have hoh := ha.2.1
  have hre := ha.2.2.1
  have hszk := ha.2.2.2.1
  have hsz := ha.2.2.2.2
  have hB9 := hc.1
  have hb01 := hc.2
  have hd6 : ∀ k, k < 6 → 0 < (N k).2.2.2.2.toInt := fun k h => by rw [hn.2.1 k h]; exact hn.1 k (by omega)
  replace hB : zB D A s ([((bd 31), .inr (7, [.ref (bd 0), .ref (bd 1), .ref (na 6), .ref (na 7), .ref (bd 2), .ref (bd 3), .ref (bd 4), .ref (bd 5), .ref (bd 6)])), ((bd 0), .inr (2, [.int (bI o1), .ref (na 25), .ref (na 26), .ref (na 27)])), ((bd 1), .inl (ka 3, 6, .inr (.inr (.inr (.inr (nR na 0)))))), ((bd 2), .inr (3, [.int (nI L), .ref (bd 7), .ref (bd 8), .ref (bd 9), .ref (bd 10), .ref (bd 11), .int sz9, .int re9])), ((bd 7), .inl (ka 0, 8, .inl mo)), ((bd 8), .inl (ka 0, 8, .inl an)), ((bd 9), .inl (ka 0, 8, .inl pl)), ((bd 10), .inl (ka 0, 24, .inl ho)), ((bd 11), .inl (ka 0, 2, .inl le)), ((bd 3), .inr (0, [.ref (bd 12), .ref (bd 13), .ref (bd 14), .ref (bd 15), .ref (bd 16), .ref (bd 17), .ref (na 21), .ref (na 22), .ref (na 23), .ref (na 24)])), ((bd 12), .inr (2, [.int (bI o2), .ref (na 28), .ref (na 29), .ref (na 30)])), ((bd 13), .inl (ka 0, 8, .inl st)), ((bd 14), .inl (ka 2, 3, .inl (kI kp))), ((bd 15), .inl (ka 3, 6, .inr (.inr (.inr (.inr (nR na 8)))))), ((bd 16), .inl (ka 3, 3, .inr (.inr (.inr (.inr (nR na 14)))))), ((bd 17), .inl (ka 3, 4, .inr (.inr (.inr (.inr (nR na 17)))))), ((bd 4), .inr (4, [.ref (bd 18), .ref (bd 19), .int cnt, .int opb, .int rch, .int wnt, .ref (bd 20), .ref (bd 21), .ref (bd 22), .int bb.1, .ref (bd 23), .ref (bd 24), .long (Int64.ofInt bb.2.1), .long (Int64.ofInt bb.2.2.1)])), ((bd 18), .inr (2, [.int (bI o3), .ref (na 31), .ref (na 32), .ref (na 33)])), ((bd 19), .inl (ka 0, 3, .inl zs)), ((bd 20), .inl (ka 3, 5, .inr (.inr (.inr (.inr (nR na 34)))))), ((bd 21), .inl (ka 0, 4, .inl sa7)), ((bd 22), .inl (ka 0, 4, .inl ss7)), ((bd 23), .inl (ka 0, 4, .inl bb.2.2.2.1)), ((bd 24), .inl (ka 0, 4, .inl bb.2.2.2.2)), ((bd 5), .inr (6, [.int dn, .int up9, .ref (na 39), .ref (na 40)])), ((bd 6), .inr (5, [.ref (bd 25), .ref (bd 30), .int la])), ((bd 25), .inl (ka 4, 4, .inr (.inr (.inr (.inr (nB bd)))))), ((bd 26), .inl (ka 1, 40, .inr (.inl (rw9 0)))), ((bd 27), .inl (ka 1, 40, .inr (.inl (rw9 1)))), ((bd 28), .inl (ka 1, 40, .inr (.inl (rw9 2)))), ((bd 29), .inl (ka 1, 40, .inr (.inl (rw9 3)))), ((bd 30), .inl (ka 0, 4, .inl sz)), (q, .inr (8, mX ad (bI o) la (nI L) sz9 re9 tr bm (Int64.ofInt b0) (Int64.ofInt b1))), ((ad 0), .inl (ka 0, 4, .inl sz)), ((ad 1), .inl (ka 1, 160, .inr (.inl it))), ((ad 2), .inl (ka 1, 40, .inr (.inl as9))), ((ad 3), .inl (ka 1, 200, .inr (.inl nu))), ((ad 4), .inl (ka 0, 8, .inl mo)), ((ad 5), .inl (ka 0, 8, .inl an)), ((ad 6), .inl (ka 0, 8, .inl pl)), ((ad 7), .inl (ka 0, 24, .inl ho)), ((ad 8), .inl (ka 0, 2, .inl le)), ((ad 9), .inl (ka 1, 4, .inr (.inl pu))), ((ad 10), .inl (ka 0, 4, .inl ga)), ((ad 11), .inl (ka 0, 4, .inl lg)), ((ad 12), .inl (ka 0, 3, .inl pm)), ((ad 13), .inl (ka 0, 3, .inl pa)), ((ad 14), .inl (ka 0, 4, .inl sa8)), ((ad 15), .inl (ka 0, 4, .inl ss8)), ((ad 16), .inl (ka 0, 4, .inl ba)), ((ad 17), .inl (ka 0, 4, .inl bz))] ++ nP na N) H locs := hB
  refine lv_aload_n hx hb dL_law_457 rfl (lv_at hl 2 rfl) ?_
  refine zVi zm_L_42 hF hB (c_X7_unlump l D ka kb bd na sz9 re9 kp L (hok.1)) [0, 3, 9, 12] rfl (by decide) [(bd 31), (bd 2), (bd 3), (bd 14)] (fun _ => rfl) rfl 0 7 rfl rfl rfl ⟨Nat.le_of_ble_eq_true rfl, Nat.le_of_ble_eq_true rfl⟩ rfl hl.1 (Nat.le_of_ble_eq_true rfl) ⟨Nat.le_of_ble_eq_true rfl, Nat.le_of_ble_eq_true rfl⟩ dL_law_458 ?_
  clear hB
  try clear locs
  try clear H
  intro r1 u1 H locs hp hB
  obtain rfl : r1 = if L = 0 then -3 else nI (L - 1) := hp
  replace hB : zB D A s ([((bd 31), .inr (7, [.ref (bd 0), .ref (bd 1), .ref (na 6), .ref (na 7), .ref (bd 2), .ref (bd 3), .ref (bd 4), .ref (bd 5), .ref (bd 6)])), ((bd 0), .inr (2, [.int (bI o1), .ref (na 25), .ref (na 26), .ref (na 27)])), ((bd 1), .inl (ka 3, 6, .inr (.inr (.inr (.inr (nR na 0)))))), ((bd 2), .inr (3, [.int (nI (L - 1)), .ref (bd 7), .ref (bd 8), .ref (bd 9), .ref (bd 10), .ref (bd 11), .int sz9, .int re9])), ((bd 7), .inl (ka 0, 8, .inl mo)), ((bd 8), .inl (ka 0, 8, .inl an)), ((bd 9), .inl (ka 0, 8, .inl pl)), ((bd 10), .inl (ka 0, 24, .inl ho)), ((bd 11), .inl (ka 0, 2, .inl le)), ((bd 3), .inr (0, [.ref (bd 12), .ref (bd 13), .ref (bd 14), .ref (bd 15), .ref (bd 16), .ref (bd 17), .ref (na 21), .ref (na 22), .ref (na 23), .ref (na 24)])), ((bd 12), .inr (2, [.int (bI o2), .ref (na 28), .ref (na 29), .ref (na 30)])), ((bd 13), .inl (ka 0, 8, .inl st)), ((bd 14), .inl (ka 2, 3, .inl (kI (if L = 0 then kp else fgB kp 3)))), ((bd 15), .inl (ka 3, 6, .inr (.inr (.inr (.inr (nR na 8)))))), ((bd 16), .inl (ka 3, 3, .inr (.inr (.inr (.inr (nR na 14)))))), ((bd 17), .inl (ka 3, 4, .inr (.inr (.inr (.inr (nR na 17)))))), ((bd 4), .inr (4, [.ref (bd 18), .ref (bd 19), .int cnt, .int opb, .int rch, .int wnt, .ref (bd 20), .ref (bd 21), .ref (bd 22), .int bb.1, .ref (bd 23), .ref (bd 24), .long (Int64.ofInt bb.2.1), .long (Int64.ofInt bb.2.2.1)])), ((bd 18), .inr (2, [.int (bI o3), .ref (na 31), .ref (na 32), .ref (na 33)])), ((bd 19), .inl (ka 0, 3, .inl zs)), ((bd 20), .inl (ka 3, 5, .inr (.inr (.inr (.inr (nR na 34)))))), ((bd 21), .inl (ka 0, 4, .inl sa7)), ((bd 22), .inl (ka 0, 4, .inl ss7)), ((bd 23), .inl (ka 0, 4, .inl bb.2.2.2.1)), ((bd 24), .inl (ka 0, 4, .inl bb.2.2.2.2)), ((bd 5), .inr (6, [.int dn, .int up9, .ref (na 39), .ref (na 40)])), ((bd 6), .inr (5, [.ref (bd 25), .ref (bd 30), .int la])), ((bd 25), .inl (ka 4, 4, .inr (.inr (.inr (.inr (nB bd)))))), ((bd 26), .inl (ka 1, 40, .inr (.inl (rw9 0)))), ((bd 27), .inl (ka 1, 40, .inr (.inl (rw9 1)))), ((bd 28), .inl (ka 1, 40, .inr (.inl (rw9 2)))), ((bd 29), .inl (ka 1, 40, .inr (.inl (rw9 3)))), ((bd 30), .inl (ka 0, 4, .inl sz)), (q, .inr (8, mX ad (bI o) la (nI L) sz9 re9 tr bm (Int64.ofInt b0) (Int64.ofInt b1))), ((ad 0), .inl (ka 0, 4, .inl sz)), ((ad 1), .inl (ka 1, 160, .inr (.inl it))), ((ad 2), .inl (ka 1, 40, .inr (.inl as9))), ((ad 3), .inl (ka 1, 200, .inr (.inl nu))), ((ad 4), .inl (ka 0, 8, .inl mo)), ((ad 5), .inl (ka 0, 8, .inl an)), ((ad 6), .inl (ka 0, 8, .inl pl)), ((ad 7), .inl (ka 0, 24, .inl ho)), ((ad 8), .inl (ka 0, 2, .inl le)), ((ad 9), .inl (ka 1, 4, .inr (.inl pu))), ((ad 10), .inl (ka 0, 4, .inl ga)), ((ad 11), .inl (ka 0, 4, .inl lg)), ((ad 12), .inl (ka 0, 3, .inl pm)), ((ad 13), .inl (ka 0, 3, .inl pa)), ((ad 14), .inl (ka 0, 4, .inl sa8)), ((ad 15), .inl (ka 0, 4, .inl ss8)), ((ad 16), .inl (ka 0, 4, .inl ba)), ((ad 17), .inl (ka 0, 4, .inl bz))] ++ nP na N) H locs := hB
  refine lv_aload_n hx hb dL_law_461 rfl (lv_at hl 1 rfl) ?_
  refine zVi zm_L_46 hF hB (c_X8_unlump l D ka kb q ad o (la, (nI L), sz9, re9, tr, bm, (Int64.ofInt b0), (Int64.ofInt b1)) L (rfl) (hok.1)) [32] rfl (by decide) [q] (fun _ => rfl) rfl 32 8 rfl rfl rfl ⟨Nat.le_of_ble_eq_true rfl, Nat.le_of_ble_eq_true rfl⟩ rfl hl.1 (Nat.le_of_ble_eq_true rfl) ⟨Nat.le_of_ble_eq_true rfl, Nat.le_of_ble_eq_true rfl⟩ dL_law_462 ?_
  clear hB
  try clear locs
  try clear H
  intro r2 u2 H locs hp hB
  obtain rfl : r2 = if L = 0 then -3 else nI (L - 1) := hp
  replace hB : zB D A s ([((bd 31), .inr (7, [.ref (bd 0), .ref (bd 1), .ref (na 6), .ref (na 7), .ref (bd 2), .ref (bd 3), .ref (bd 4), .ref (bd 5), .ref (bd 6)])), ((bd 0), .inr (2, [.int (bI o1), .ref (na 25), .ref (na 26), .ref (na 27)])), ((bd 1), .inl (ka 3, 6, .inr (.inr (.inr (.inr (nR na 0)))))), ((bd 2), .inr (3, [.int (nI (L - 1)), .ref (bd 7), .ref (bd 8), .ref (bd 9), .ref (bd 10), .ref (bd 11), .int sz9, .int re9])), ((bd 7), .inl (ka 0, 8, .inl mo)), ((bd 8), .inl (ka 0, 8, .inl an)), ((bd 9), .inl (ka 0, 8, .inl pl)), ((bd 10), .inl (ka 0, 24, .inl ho)), ((bd 11), .inl (ka 0, 2, .inl le)), ((bd 3), .inr (0, [.ref (bd 12), .ref (bd 13), .ref (bd 14), .ref (bd 15), .ref (bd 16), .ref (bd 17), .ref (na 21), .ref (na 22), .ref (na 23), .ref (na 24)])), ((bd 12), .inr (2, [.int (bI o2), .ref (na 28), .ref (na 29), .ref (na 30)])), ((bd 13), .inl (ka 0, 8, .inl st)), ((bd 14), .inl (ka 2, 3, .inl (kI (if L = 0 then kp else fgB kp 3)))), ((bd 15), .inl (ka 3, 6, .inr (.inr (.inr (.inr (nR na 8)))))), ((bd 16), .inl (ka 3, 3, .inr (.inr (.inr (.inr (nR na 14)))))), ((bd 17), .inl (ka 3, 4, .inr (.inr (.inr (.inr (nR na 17)))))), ((bd 4), .inr (4, [.ref (bd 18), .ref (bd 19), .int cnt, .int opb, .int rch, .int wnt, .ref (bd 20), .ref (bd 21), .ref (bd 22), .int bb.1, .ref (bd 23), .ref (bd 24), .long (Int64.ofInt bb.2.1), .long (Int64.ofInt bb.2.2.1)])), ((bd 18), .inr (2, [.int (bI o3), .ref (na 31), .ref (na 32), .ref (na 33)])), ((bd 19), .inl (ka 0, 3, .inl zs)), ((bd 20), .inl (ka 3, 5, .inr (.inr (.inr (.inr (nR na 34)))))), ((bd 21), .inl (ka 0, 4, .inl sa7)), ((bd 22), .inl (ka 0, 4, .inl ss7)), ((bd 23), .inl (ka 0, 4, .inl bb.2.2.2.1)), ((bd 24), .inl (ka 0, 4, .inl bb.2.2.2.2)), ((bd 5), .inr (6, [.int dn, .int up9, .ref (na 39), .ref (na 40)])), ((bd 6), .inr (5, [.ref (bd 25), .ref (bd 30), .int la])), ((bd 25), .inl (ka 4, 4, .inr (.inr (.inr (.inr (nB bd)))))), ((bd 26), .inl (ka 1, 40, .inr (.inl (rw9 0)))), ((bd 27), .inl (ka 1, 40, .inr (.inl (rw9 1)))), ((bd 28), .inl (ka 1, 40, .inr (.inl (rw9 2)))), ((bd 29), .inl (ka 1, 40, .inr (.inl (rw9 3)))), ((bd 30), .inl (ka 0, 4, .inl sz)), (q, .inr (8, mX ad (bI o) la (if L = 0 then (la, (nI L), sz9, re9, tr, bm, (Int64.ofInt b0), (Int64.ofInt b1)).2.1 else nI (L - 1)) sz9 re9 (if L = 0 then (la, (nI L), sz9, re9, tr, bm, (Int64.ofInt b0), (Int64.ofInt b1)).2.2.2.2.1 else (0 : Int32)) bm (Int64.ofInt b0) (Int64.ofInt b1))), ((ad 0), .inl (ka 0, 4, .inl sz)), ((ad 1), .inl (ka 1, 160, .inr (.inl it))), ((ad 2), .inl (ka 1, 40, .inr (.inl as9))), ((ad 3), .inl (ka 1, 200, .inr (.inl nu))), ((ad 4), .inl (ka 0, 8, .inl mo)), ((ad 5), .inl (ka 0, 8, .inl an)), ((ad 6), .inl (ka 0, 8, .inl pl)), ((ad 7), .inl (ka 0, 24, .inl ho)), ((ad 8), .inl (ka 0, 2, .inl le)), ((ad 9), .inl (ka 1, 4, .inr (.inl pu))), ((ad 10), .inl (ka 0, 4, .inl ga)), ((ad 11), .inl (ka 0, 4, .inl lg)), ((ad 12), .inl (ka 0, 3, .inl pm)), ((ad 13), .inl (ka 0, 3, .inl pa)), ((ad 14), .inl (ka 0, 4, .inl sa8)), ((ad 15), .inl (ka 0, 4, .inl ss8)), ((ad 16), .inl (ka 0, 4, .inl ba)), ((ad 17), .inl (ka 0, 4, .inl bz))] ++ nP na N) H locs := hB
  refine lv_icmp_eq (tgt := 1359) hx hb dL_law_465 (by decide) (fun h465 => ?_) (fun h465 => ?_)
  · skip
    by_cases hq : L = 0
    · skip
      simp only [if_pos hq] at hB
      subst hq
      refine kk _ H locs ?_ hB ls (lv_sub hl [0, 1, 2, 3] rfl)
      exact ⟨0, mo, an, pl, ho, le, sz, la, sz9, re9, N, o1, o2, o3, st, kp, cnt, opb, rch, wnt, bb, zs, sa7, ss7, dn, up9, rw9, o, tr, bm, b0, b1, it, as9, nu, pu, ga, lg, pm, pa, sa8, ss8, ba, bz, rfl, ha, hbb, hc, hn, hk, hi9⟩
    · skip
      simp only [if_neg hq] at hB
      refine kk _ H locs ?_ hB ls (lv_sub hl [0, 1, 2, 3] rfl)
      exact ⟨L - 1, mo, an, pl, ho, le, sz, la, sz9, re9, N, o1, o2, o3, st, fgB kp 3, cnt, opb, rch, wnt, bb, zs, sa7, ss7, dn, up9, rw9, o, 0, bm, b0, b1, it, as9, nu, pu, ga, lg, pm, pa, sa8, ss8, ba, bz, rfl, ⟨okL_less hok, hoh, hre, hszk, hsz⟩, hbb, hc, hn, hk.fg, hi9⟩
  · skip
    exact absurd (rfl) h465
