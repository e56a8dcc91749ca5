section ZRV16
variable {S : Type} {p : Program} {l : Launch} {e : Env} {R : Room} {s : State} {m : MethodId} {args : Array Value} {below : List Frame} {meth : Method} {c : Code} {H : Heap} {locs : List Loc} {cells slots : Nat} {Q : State → Prop}
variable {D : va_G} {ka : Nat → ClassId} {kb : Nat → Nat} {A : Nat → Prop} {cc : ByteArray} {own : String} {nL : Nat} {ret ret2 : Option FieldType} {ws : va_W} {pc : Nat} {ls : Array Slot} {rest st0 : List Value}
variable {idx : Nat} {C : String} {y : MethodName} {cy : ByteArray} {ny : Nat} {ty : FieldType} {n fr lo : Nat} {b : Nat} {As : List Value} {wc : va_W} {wf : S → va_W}
theorem zrunV16 {Qc : Array Value → State → Outcome → State → Prop} (hM : zMV own idx C y cy ny ret2 n) (hF : zF p s m args meth c D ka kb A cc own nL ret) (hB : zB D A s ws H locs) (hC : Met l y (zWs y cy ny ret2) (zRm fr lo 0 0) (va_Pc (.ref b :: As) (zPre D ka kb wc H.size)) Qc 0 0 (va_A wc H.size)) (isC : List Nat) (hi : isC.map (fun i => ws[i]?) = wc.map some) (hnd : va_nd isC = true)
    (q0 ci : Nat) {T : u_T} {N : Nat} {fs : List Value} (hc : vwCl[ci]? = some (C, T, N)) (hr : ws[q0]? = some (b, .inr (ci, fs))) (hn : As.length = n) (hrm : fr + 1 ≤ R.frames ∧ 16 + (ny + 11) + lo ≤ R.locals) (hst : st0 = As.reverse ++ .ref b :: rest) (hls : ls.size = nL) (hW : (rest.map fun v => v.category).sum ≤ 16) (hcs : cells ≤ R.cells ∧ slots ≤ R.slots) (hdg : decode cc pc = .ok (.invokevirtual idx, 3)) :
    va_Run p l e R s m args below meth c H locs cells slots 0 0 (F0 m pc ls st0) rest (Qc (Value.ref b :: As).toArray) (va_A wc H.size) := by
  have hts := hF.1.2.2.2.2
  have ok : ∀ w ∈ wsV own idx C y (zWs y cy ny ret2), w.before args s = true := fun w h => hts w (hM.1 w h).1
  have hini : (Cond.initialized C).before args s = true := ok _ (by simp [wsV])
  have hlink : (Cond.methodLink own idx y).before args s = true := ok _ (by simp [wsV])
  have hinst : (Cond.instanceMethod y).before args s = true := ok _ (by simp [wsV])
  have hsel : (Cond.selects C y y).before args s = true := ok _ (by simp [wsV])
  have hcode : (Cond.code y cy ny ret2).before args s = true := ok _ (by simp [wsV, zWs])
  have hG : GoodIn wsL_law (zWs y cy ny ret2) := fun w h => hM.1 w (by unfold wsV; exact List.mem_append_right _ h)
  have hcls := hM.2.1
  have hlen : ∀ sig, parseMethodDescriptor y.desc = some sig → n = sig.parameters.length := fun sig h => by
    have h2 := hM.2.2.2.2
    rw [h] at h2
    exact (Option.some.inj h2).symm
  have hK : Back l R p e below s args y 3 16 (PreOf R 0 0 (va_Pc (.ref b :: As) (zPre D ka kb wc H.size))) (PostOf Qc 0 0 (va_A wc H.size)) :=
    back_of (bytes := cy) (maxL := ny) (ret := ret2) hC zPre.blind rfl rfl hrm.1 hrm.2 (pay_in hts hG) (by unfold zWs; exact List.mem_cons_self) (fun a' U hW => word_at hW (Or.inl (by first | rfl | simp [Cond.onTables, Cond.keeps, Cond.steady])) (by rw [hcls]; exact hini))
  obtain ⟨cellB, hcB, hoB, hclB⟩ := va_recv (H := H) hF.2.1 hB.1 hc hr
  intro T9 hT X
  obtain ⟨v, vm₁, ⟨U', l2, c2, s2⟩, hW₁, X', ⟨g', mk, t, L, e1, e2, hq, h1, hL, h2, h3⟩, st⟩ := callV X hF.1.1 (C := C) (bytes := cy) (maxL := ny) (ret := ret2) hF.1.2.2.2.1 hlink hinst hsel hcode ⟨hM.2.2.1, hM.2.2.2.1⟩ hK (by rw [hT]; exact hcB) hoB hclB (g := F0 m pc ls st0) rfl (hls.trans hF.1.2.2.1.symm) (argsL := As) (rest := rest) (fun sig h => hn.trans (hlen sig h)) hst (by show 2 * JFrame.monitorRoom _ + _ ≤ 16; have e0 : JFrame.monitorRoom (F0 m pc ls st0) = 0 := rfl; rw [e0]; omega) (by rw [hF.1.2.1]; exact hdg)
    (fun vm₁ hW₁ => ⟨hcs.1, hcs.2, zpre hF hB isC hi hnd (T9.setVm vm₁) hT hW₁⟩)
  dsimp only [Pt.U, Pt.locs, Pt.cells, Pt.slots] at X' e1 e2 h1 h2 h3 st
  subst h1; subst h2; subst h3
  exact ⟨v, (T9.setVm vm₁).calling g' mk (Value.ref b :: As).toArray, t, U', L, hT, X', hL, e1, e2, hq, st⟩
theorem zVl16 {post : Int64 → S → Prop} (hM : zMV own idx C y cy ny (some .long) n) (hF : zF p s m args meth c D ka kb A cc own nL ret) (hB : zB D A s ws H locs) (hC : zL l D ka kb y cy ny fr lo (.ref b :: As) wc post wf) (isC : List Nat) (hi : isC.map (fun i => ws[i]?) = wc.map some) (hnd : va_nd isC = true) (as : List Nat) (ha1 : ∀ u, (wf u).map (·.1) = as) (ha2 : wc.map (·.1) = as)
    (q0 ci : Nat) {T : u_T} {N : Nat} {fs : List Value} (hc : vwCl[ci]? = some (C, T, N)) (hr : ws[q0]? = some (b, .inr (ci, fs))) (hn : As.length = n) (hrm : fr + 1 ≤ R.frames ∧ 16 + (ny + 11) + lo ≤ R.locals) (hst : st0 = As.reverse ++ .ref b :: rest) (hls : ls.size = nL) (hW : (rest.map fun v => v.category).sum ≤ 16) (hcs : cells ≤ R.cells ∧ slots ≤ R.slots) (hdg : decode cc pc = .ok (.invokevirtual idx, 3))
    (kk : ∀ (r : Int64) (u : S) (H1 : Heap) (locs1 : List Loc), post r u → zB D A s (zput ws isC (wf u)) H1 locs1 → W p l e R s m args below meth c H1 locs1 cells slots Q (F0 m (pc + 3) ls (.long r :: rest))) : W p l e R s m args below meth c H locs cells slots Q (F0 m pc ls st0) := by
  have hFc := va_free hB.2.1 hB.2.2 hF.2.2.2.1 isC hi
  refine va_calll (zrunV16 hM hF hB (hC H.size) isC hi hnd q0 ci hc hr hn hrm hst hls hW hcs hdg) hB.2.2 (fun q _ h => hFc q h) hFc (fun r u t H1 locs1 ht hvm hp hB1 hz hk hS1 => ?_)
  exact kk r u H1 locs1 hp (zback hF hB isC hi ((ha1 u).trans ha2.symm) ht hB1 hk hS1)
end ZRV16

