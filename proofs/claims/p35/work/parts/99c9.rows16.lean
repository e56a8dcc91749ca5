section ZR16
variable {S : Type} {p : Program} {l : Launch} {e : Env} {R : Room} {s : State} {m : MethodId} {args : Array Value} {below : List Frame} {meth : Method} {c : Code} {H : Heap} {locs : List Loc} {cells slots : Nat} {Q : State → Prop}
variable {D : va_G} {ka : Nat → ClassId} {kb : Nat → Nat} {A : Nat → Prop} {cc : ByteArray} {own : String} {nL : Nat} {ret : Option FieldType} {ws : va_W} {pc : Nat} {ls : Array Slot} {rest st0 : List Value}
variable {idx : Nat} {C : String} {y : MethodName} {cy : ByteArray} {ny : Nat} {ty : FieldType} {n fr lo : Nat} {b : Nat} {As : List Value} {wc : va_W} {wf : S → va_W}
/-- a static call over a deeper stack -/
theorem zSi16 {post : Int32 → S → Prop} (hM : zMS own idx y cy ny (some ty) n) (hF : zF p s m args meth c D ka kb A cc own nL ret) (hB : zB D A s ws H locs) (hC : zI l D ka kb y cy ny ty fr lo As wc post wf) (isC : List Nat) (hi : isC.map (fun i => ws[i]?) = wc.map some) (hnd : va_nd isC = true) (as : List Nat) (ha1 : ∀ u, (wf u).map (·.1) = as) (ha2 : wc.map (·.1) = as)
    (hn : As.length = n) (hrm : fr + 1 ≤ R.frames ∧ 16 + (ny + 11) + lo ≤ R.locals) (hst : st0 = As.reverse ++ rest) (hls : ls.size = nL) (hW : (rest.map fun v => v.category).sum ≤ 16) (hcs : cells ≤ R.cells ∧ slots ≤ R.slots) (hdg : decode cc pc = .ok (.invokestatic idx, 3))
    (kk : ∀ (r : Int32) (u : S) (H1 : Heap) (locs1 : List Loc), post r u → zB D A s (zput ws isC (wf u)) H1 locs1 → W p l e R s m args below meth c H1 locs1 cells slots Q (F0 m (pc + 3) ls (.int r :: rest))) : W p l e R s m args below meth c H locs cells slots Q (F0 m pc ls st0) := by
  have hFc := va_free hB.2.1 hB.2.2 hF.2.2.2.1 isC hi
  have hts := hF.1.2.2.2.2
  have ok : ∀ w ∈ va_wsS own idx y (zWs y cy ny (some ty)), w.before args s = true := fun w h => hts w (hM.1 w h).1
  have hini : (Cond.initialized y.cls).before args s = true := ok _ (by simp [va_wsS])
  have hlink : (Cond.methodLink own idx y).before args s = true := ok _ (by simp [va_wsS])
  have hstat : (Cond.static y).before args s = true := ok _ (by simp [va_wsS])
  have hcode : (Cond.code y cy ny (some ty)).before args s = true := ok _ (by simp [va_wsS, zWs])
  have hG : GoodIn wsL_law (zWs y cy ny (some ty)) := fun w h => hM.1 w (by unfold va_wsS; exact List.mem_append_right _ h)
  have hlen : ∀ sig, parseMethodDescriptor y.desc = some sig → n = sig.parameters.length := fun sig h => by
    have h2 := hM.2.2.2
    rw [h] at h2
    exact (Option.some.inj h2).symm
  have hK : Back l R p e below s args y 3 16 (PreOf R 0 0 (va_Pc As (zPre D ka kb wc H.size))) (PostOf (va_Qi post (fun u t => va_P D vwCl (wf u) t.heap) (va_A wc H.size)) 0 0 (va_A wc H.size)) :=
    back_of (bytes := cy) (maxL := ny) (ret := some ty) (hC H.size) zPre.blind rfl rfl hrm.1 hrm.2 (pay_in hts hG) (by unfold zWs; exact List.mem_cons_self) (fun a' U hW => word_at hW (Or.inl (by first | rfl | simp [Cond.onTables, Cond.keeps, Cond.steady])) hini)
  have hrun : va_Run p l e R s m args below meth c H locs cells slots 0 0 (F0 m pc ls st0) rest (va_Qi post (fun u t => va_P D vwCl (wf u) t.heap) (va_A wc H.size) As.toArray) (va_A wc H.size) := by
    intro T hT X
    obtain ⟨v, vm₁, ⟨U', l2, c2, s2⟩, hW₁, X', ⟨g', mk, t, L, e1, e2, hq, h1, hL, h2, h3⟩, st⟩ := callS X hF.1.1 (bytes := cy) (maxL := ny) (ret := some ty) hF.1.2.2.2.1 hlink hstat hini hcode ⟨hM.2.1, hM.2.2.1⟩ hK (g := F0 m pc ls st0) rfl (hls.trans hF.1.2.2.1.symm) (argsL := As) (rest := rest) (fun sig h => hn.trans (hlen sig h)) hst (by show 2 * JFrame.monitorRoom _ + _ ≤ 16; have e0 : JFrame.monitorRoom (F0 m pc ls st0) = 0 := rfl; rw [e0]; omega) (by rw [hF.1.2.1]; exact hdg)
      (fun vm₁ hW₁ => ⟨hcs.1, hcs.2, zpre hF hB isC hi hnd (T.setVm vm₁) hT hW₁⟩)
    dsimp only [Pt.U, Pt.locs, Pt.cells, Pt.slots] at X' e1 e2 h1 h2 h3 st
    subst h1; subst h2; subst h3
    exact ⟨v, (T.setVm vm₁).calling g' mk As.toArray, t, U', L, hT, X', hL, e1, e2, hq, st⟩
  refine va_calli hrun hB.2.2 (fun q _ h => hFc q h) hFc (fun r u t H1 locs1 ht hvm hp hB1 hz hk hS1 => ?_)
  exact kk r u H1 locs1 hp (zback hF hB isC hi ((ha1 u).trans ha2.symm) ht hB1 hk hS1)
end ZR16
