/-! rows of my own: a call, a field, an array's place, an end, in one row each -/
def zMV (own : String) (idx : Nat) (C : String) (y : MethodName) (cc : ByteArray) (nL : Nat) (ret : Option FieldType) (n : Nat) : Prop :=
  GoodIn wsL_law (wsV own idx C y (zWs y cc nL ret)) ∧ (y.cls = C ∧ y.cls ≠ "java/lang/invoke/MethodHandle" ∧ y.cls ≠ "java/lang/invoke/VarHandle" ∧ (parseMethodDescriptor y.desc).map (fun d => d.parameters.length) = some n)
def zMS (own : String) (idx : Nat) (y : MethodName) (cc : ByteArray) (nL : Nat) (ret : Option FieldType) (n : Nat) : Prop :=
  GoodIn wsL_law (va_wsS own idx y (zWs y cc nL ret)) ∧ (y.cls ≠ "java/lang/invoke/MethodHandle" ∧ y.cls ≠ "java/lang/invoke/VarHandle" ∧ (parseMethodDescriptor y.desc).map (fun d => d.parameters.length) = some n)
theorem zgood {ws : List Cond} (h : ∀ w ∈ ws, w ∈ wsL_law) : GoodIn wsL_law ws := fun w hw => ⟨h w hw, gw_all w (h w hw)⟩
theorem zMV.mk {own : String} {idx : Nat} {C : String} {y : MethodName} {cc : ByteArray} {nL : Nat} {ret : Option FieldType} {n : Nat} (h1 : Cond.methodLink own idx y ∈ wsL_law) (h2 : Cond.instanceMethod y ∈ wsL_law) (h3 : Cond.selects C y y ∈ wsL_law) (h4 : Cond.initialized C ∈ wsL_law) (h5 : Cond.code y cc nL ret ∈ wsL_law)
    (hd : y.cls = C ∧ y.cls ≠ "java/lang/invoke/MethodHandle" ∧ y.cls ≠ "java/lang/invoke/VarHandle" ∧ (parseMethodDescriptor y.desc).map (fun d => d.parameters.length) = some n) : zMV own idx C y cc nL ret n :=
  ⟨zgood (List.forall_mem_append.mpr ⟨List.forall_mem_cons.mpr ⟨h1, List.forall_mem_cons.mpr ⟨h2, List.forall_mem_cons.mpr ⟨h3, List.forall_mem_cons.mpr ⟨h4, fun _ h => absurd h List.not_mem_nil⟩⟩⟩⟩, List.forall_mem_cons.mpr ⟨h5, fun _ h => h⟩⟩), hd⟩
theorem zMS.mk {own : String} {idx : Nat} {y : MethodName} {cc : ByteArray} {nL : Nat} {ret : Option FieldType} {n : Nat} (h1 : Cond.methodLink own idx y ∈ wsL_law) (h2 : Cond.static y ∈ wsL_law) (h3 : Cond.initialized y.cls ∈ wsL_law) (h5 : Cond.code y cc nL ret ∈ wsL_law)
    (hd : y.cls ≠ "java/lang/invoke/MethodHandle" ∧ y.cls ≠ "java/lang/invoke/VarHandle" ∧ (parseMethodDescriptor y.desc).map (fun d => d.parameters.length) = some n) : zMS own idx y cc nL ret n :=
  ⟨zgood (List.forall_mem_append.mpr ⟨List.forall_mem_cons.mpr ⟨h1, List.forall_mem_cons.mpr ⟨h2, List.forall_mem_cons.mpr ⟨h3, fun _ h => absurd h List.not_mem_nil⟩⟩⟩, List.forall_mem_cons.mpr ⟨h5, fun _ h => h⟩⟩), hd⟩
section ZR
variable {S : Type} {p : Program} {l : Launch} {e : Env} {R : Room} {s : State} {m : MethodId} {args : Array Value} {below : List Frame} {meth : Method} {c : Code} {H : Heap} {locs : List Loc} {cells slots : Nat} {Q : State → Prop}
variable {D : va_G} {ka : Nat → ClassId} {kb : Nat → Nat} {A : Nat → Prop} {cc : ByteArray} {own : String} {nL : Nat} {ret : Option FieldType} {ws : va_W} {pc : Nat} {ls : Array Slot} {rest st0 : List Value}
variable {idx : Nat} {C : String} {y : MethodName} {cy : ByteArray} {ny : Nat} {ty : FieldType} {n fr lo : Nat} {b : Nat} {As : List Value} {wc : va_W} {wf : S → va_W}
theorem zpre (hF : zF p s m args meth c D ka kb A cc own nL ret) (hB : zB D A s ws H locs) {av : List Value} (isC : List Nat) (hi : isC.map (fun i => ws[i]?) = wc.map some) (hnd : va_nd isC = true) : ∀ U : State, U.heap = H → s.WarmedH U.vm → va_Pc av (zPre D ka kb wc H.size) av.toArray U := by
  intro U hU hW
  have hFc := va_free hB.2.1 hB.2.2 hF.2.2.2.1 isC hi
  refine ⟨rfl, by rw [hU], by rw [hU]; exact zPsub hB.1 isC hi, va_K.moved hW.alike hF.2.1, (hB.2.1.sub isC hnd hi).weaken (fun _ _ _ _ => trivial), by rw [hU]; exact hF.2.2.1.at_call hB.2.2 hFc hW⟩
theorem zback (hF : zF p s m args meth c D ka kb A cc own nL ret) (hB : zB D A s ws H locs) (isC : List Nat) (hi : isC.map (fun i => ws[i]?) = wc.map some) {w1 : va_W} (ha : w1.map (·.1) = wc.map (·.1)) {t : State} {H1 : Heap} {locs1 : List Loc} (ht : t.heap = H1) (hP1 : va_P D vwCl w1 t.heap) (hk : ∀ q : Nat, q < H.size → ¬ va_A wc H.size q → H1[q]? = H[q]?) (hS1 : va_S A s.heap H1 locs1) : zB D A s (zput ws isC w1) H1 locs1 := by
  rw [ht] at hP1
  obtain ⟨h1, h2⟩ := zjoin hB.1 hB.2.1 isC hi ha hk hP1
  exact ⟨h1, h2, hS1⟩
theorem zVi {post : Int32 → S → Prop} (hM : zMV own idx C y cy ny (some ty) n) (hF : zF p s m args meth c D ka kb A cc own nL ret) (hB : zB D A s ws H locs) (hC : zI l D ka kb y cy ny ty fr lo (.ref b :: As) wc post wf) (isC : List Nat) (hi : isC.map (fun i => ws[i]?) = wc.map some) (hnd : va_nd isC = true) (as : List Nat) (ha1 : ∀ u, (wf u).map (·.1) = as) (ha2 : wc.map (·.1) = as)
    (q0 ci : Nat) {T : u_T} {N : Nat} {fs : List Value} (hc : vwCl[ci]? = some (C, T, N)) (hr : ws[q0]? = some (b, .inr (ci, fs))) (hn : As.length = n) (hrm : fr + 1 ≤ R.frames ∧ 8 + (ny + 11) + lo ≤ R.locals) (hst : st0 = As.reverse ++ .ref b :: rest) (hls : ls.size = nL) (hW : (rest.map fun v => v.category).sum ≤ 8) (hcs : cells ≤ R.cells ∧ slots ≤ R.slots) (hdg : decode cc pc = .ok (.invokevirtual idx, 3))
    (kk : ∀ (r : Int32) (u : S) (H1 : Heap) (locs1 : List Loc), post r u → zB D A s (zput ws isC (wf u)) H1 locs1 → W p l e R s m args below meth c H1 locs1 cells slots Q (F0 m (pc + 3) ls (.int r :: rest))) : W p l e R s m args below meth c H locs cells slots Q (F0 m pc ls st0) := by
  have hFc := va_free hB.2.1 hB.2.2 hF.2.2.2.1 isC hi
  refine va_calli (va_runV (As := As) (rest := rest) hF.1 (hC H.size) (cwV n hF.1.2.2.2.2 hM.1 rfl rfl rfl hM.2 hrm) ⟨zPre.blind, va_recv hF.2.1 hB.1 hc hr, zpre hF hB isC hi hnd⟩ rfl hn hls hst (lv_room hW) hdg ⟨hcs.1, hcs.2⟩) hB.2.2 (fun q _ h => hFc q h) hFc (fun r u t H1 locs1 ht hvm hp hB1 hz hk hS1 => ?_)
  exact kk r u H1 locs1 hp (zback hF hB isC hi ((ha1 u).trans ha2.symm) ht hB1 hk hS1)
theorem zVl {post : Int64 → S → Prop} (hM : zMV own idx C y cy ny (some .long) n) (hF : zF p s m args meth c D ka kb A cc own nL ret) (hB : zB D A s ws H locs) (hC : zL l D ka kb y cy ny fr lo (.ref b :: As) wc post wf) (isC : List Nat) (hi : isC.map (fun i => ws[i]?) = wc.map some) (hnd : va_nd isC = true) (as : List Nat) (ha1 : ∀ u, (wf u).map (·.1) = as) (ha2 : wc.map (·.1) = as)
    (q0 ci : Nat) {T : u_T} {N : Nat} {fs : List Value} (hc : vwCl[ci]? = some (C, T, N)) (hr : ws[q0]? = some (b, .inr (ci, fs))) (hn : As.length = n) (hrm : fr + 1 ≤ R.frames ∧ 8 + (ny + 11) + lo ≤ R.locals) (hst : st0 = As.reverse ++ .ref b :: rest) (hls : ls.size = nL) (hW : (rest.map fun v => v.category).sum ≤ 8) (hcs : cells ≤ R.cells ∧ slots ≤ R.slots) (hdg : decode cc pc = .ok (.invokevirtual idx, 3))
    (kk : ∀ (r : Int64) (u : S) (H1 : Heap) (locs1 : List Loc), post r u → zB D A s (zput ws isC (wf u)) H1 locs1 → W p l e R s m args below meth c H1 locs1 cells slots Q (F0 m (pc + 3) ls (.long r :: rest))) : W p l e R s m args below meth c H locs cells slots Q (F0 m pc ls st0) := by
  have hFc := va_free hB.2.1 hB.2.2 hF.2.2.2.1 isC hi
  refine va_calll (va_runV (As := As) (rest := rest) hF.1 (hC H.size) (cwV n hF.1.2.2.2.2 hM.1 rfl rfl rfl hM.2 hrm) ⟨zPre.blind, va_recv hF.2.1 hB.1 hc hr, zpre hF hB isC hi hnd⟩ rfl hn hls hst (lv_room hW) hdg ⟨hcs.1, hcs.2⟩) hB.2.2 (fun q _ h => hFc q h) hFc (fun r u t H1 locs1 ht hvm hp hB1 hz hk hS1 => ?_)
  exact kk r u H1 locs1 hp (zback hF hB isC hi ((ha1 u).trans ha2.symm) ht hB1 hk hS1)
theorem zVv {post : S → Prop} (hM : zMV own idx C y cy ny none n) (hF : zF p s m args meth c D ka kb A cc own nL ret) (hB : zB D A s ws H locs) (hC : zV l D ka kb y cy ny fr lo (.ref b :: As) wc post wf) (isC : List Nat) (hi : isC.map (fun i => ws[i]?) = wc.map some) (hnd : va_nd isC = true) (as : List Nat) (ha1 : ∀ u, (wf u).map (·.1) = as) (ha2 : wc.map (·.1) = as)
    (q0 ci : Nat) {T : u_T} {N : Nat} {fs : List Value} (hc : vwCl[ci]? = some (C, T, N)) (hr : ws[q0]? = some (b, .inr (ci, fs))) (hn : As.length = n) (hrm : fr + 1 ≤ R.frames ∧ 8 + (ny + 11) + lo ≤ R.locals) (hst : st0 = As.reverse ++ .ref b :: rest) (hls : ls.size = nL) (hW : (rest.map fun v => v.category).sum ≤ 8) (hcs : cells ≤ R.cells ∧ slots ≤ R.slots) (hdg : decode cc pc = .ok (.invokevirtual idx, 3))
    (kk : ∀ (u : S) (H1 : Heap) (locs1 : List Loc), post u → zB D A s (zput ws isC (wf u)) H1 locs1 → W p l e R s m args below meth c H1 locs1 cells slots Q (F0 m (pc + 3) ls rest)) : W p l e R s m args below meth c H locs cells slots Q (F0 m pc ls st0) := by
  have hFc := va_free hB.2.1 hB.2.2 hF.2.2.2.1 isC hi
  refine va_callv (va_runV (As := As) (rest := rest) hF.1 (hC H.size) (cwV n hF.1.2.2.2.2 hM.1 rfl rfl rfl hM.2 hrm) ⟨zPre.blind, va_recv hF.2.1 hB.1 hc hr, zpre hF hB isC hi hnd⟩ rfl hn hls hst (lv_room hW) hdg ⟨hcs.1, hcs.2⟩) hB.2.2 (fun q _ h => hFc q h) hFc (fun u t H1 locs1 ht hvm hp hB1 hz hk hS1 => ?_)
  exact kk u H1 locs1 hp (zback hF hB isC hi ((ha1 u).trans ha2.symm) ht hB1 hk hS1)
theorem zVr {post : S → Prop} {ad : S → Nat} (hM : zMV own idx C y cy ny (some ty) n) (hF : zF p s m args meth c D ka kb A cc own nL ret) (hB : zB D A s ws H locs) (hC : zR l D ka kb y cy ny ty fr lo (.ref b :: As) wc post ad wf) (isC : List Nat) (hi : isC.map (fun i => ws[i]?) = wc.map some) (hnd : va_nd isC = true) (as : List Nat) (ha1 : ∀ u, (wf u).map (·.1) = as) (ha2 : wc.map (·.1) = as)
    (q0 ci : Nat) {T : u_T} {N : Nat} {fs : List Value} (hc : vwCl[ci]? = some (C, T, N)) (hr : ws[q0]? = some (b, .inr (ci, fs))) (hn : As.length = n) (hrm : fr + 1 ≤ R.frames ∧ 8 + (ny + 11) + lo ≤ R.locals) (hst : st0 = As.reverse ++ .ref b :: rest) (hls : ls.size = nL) (hW : (rest.map fun v => v.category).sum ≤ 8) (hcs : cells ≤ R.cells ∧ slots ≤ R.slots) (hdg : decode cc pc = .ok (.invokevirtual idx, 3))
    (kk : ∀ (u : S) (H1 : Heap) (locs1 : List Loc), post u → zB D A s (zput ws isC (wf u)) H1 locs1 → W p l e R s m args below meth c H1 locs1 cells slots Q (F0 m (pc + 3) ls (.ref (ad u) :: rest))) : W p l e R s m args below meth c H locs cells slots Q (F0 m pc ls st0) := by
  have hFc := va_free hB.2.1 hB.2.2 hF.2.2.2.1 isC hi
  refine va_callr (va_runV (As := As) (rest := rest) hF.1 (hC H.size) (cwV n hF.1.2.2.2.2 hM.1 rfl rfl rfl hM.2 hrm) ⟨zPre.blind, va_recv hF.2.1 hB.1 hc hr, zpre hF hB isC hi hnd⟩ rfl hn hls hst (lv_room hW) hdg ⟨hcs.1, hcs.2⟩) hB.2.2 (fun q _ h => hFc q h) hFc (fun u a t H1 locs1 ht hvm hp hB1 hz hk hS1 => ?_)
  obtain ⟨rfl, hB1⟩ := hB1
  exact kk u H1 locs1 hp (zback hF hB isC hi ((ha1 u).trans ha2.symm) ht hB1 hk hS1)
theorem zSi {post : Int32 → S → Prop} (hM : zMS own idx y cy ny (some ty) n) (hF : zF p s m args meth c D ka kb A cc own nL ret) (hB : zB D A s ws H locs) (hC : zI l D ka kb y cy ny ty fr lo As wc post wf) (isC : List Nat) (hi : isC.map (fun i => ws[i]?) = wc.map some) (hnd : va_nd isC = true) (as : List Nat) (ha1 : ∀ u, (wf u).map (·.1) = as) (ha2 : wc.map (·.1) = as)
    (hn : As.length = n) (hrm : fr + 1 ≤ R.frames ∧ 8 + (ny + 11) + lo ≤ R.locals) (hst : st0 = As.reverse ++ rest) (hls : ls.size = nL) (hW : (rest.map fun v => v.category).sum ≤ 8) (hcs : cells ≤ R.cells ∧ slots ≤ R.slots) (hdg : decode cc pc = .ok (.invokestatic idx, 3))
    (kk : ∀ (r : Int32) (u : S) (H1 : Heap) (locs1 : List Loc), post r u → zB D A s (zput ws isC (wf u)) H1 locs1 → W p l e R s m args below meth c H1 locs1 cells slots Q (F0 m (pc + 3) ls (.int r :: rest))) : W p l e R s m args below meth c H locs cells slots Q (F0 m pc ls st0) := by
  have hFc := va_free hB.2.1 hB.2.2 hF.2.2.2.1 isC hi
  refine va_calli (va_runS (As := As) (rest := rest) hF.1 (hC H.size) (va_cwS n hF.1.2.2.2.2 hM.1 rfl rfl rfl hM.2 hrm) ⟨zPre.blind, zpre hF hB isC hi hnd⟩ rfl hn hls hst (lv_room hW) hdg ⟨hcs.1, hcs.2⟩) hB.2.2 (fun q _ h => hFc q h) hFc (fun r u t H1 locs1 ht hvm hp hB1 hz hk hS1 => ?_)
  exact kk r u H1 locs1 hp (zback hF hB isC hi ((ha1 u).trans ha2.symm) ht hB1 hk hS1)
theorem zSl {post : Int64 → S → Prop} (hM : zMS own idx y cy ny (some .long) n) (hF : zF p s m args meth c D ka kb A cc own nL ret) (hB : zB D A s ws H locs) (hC : zL l D ka kb y cy ny fr lo As wc post wf) (isC : List Nat) (hi : isC.map (fun i => ws[i]?) = wc.map some) (hnd : va_nd isC = true) (as : List Nat) (ha1 : ∀ u, (wf u).map (·.1) = as) (ha2 : wc.map (·.1) = as)
    (hn : As.length = n) (hrm : fr + 1 ≤ R.frames ∧ 8 + (ny + 11) + lo ≤ R.locals) (hst : st0 = As.reverse ++ rest) (hls : ls.size = nL) (hW : (rest.map fun v => v.category).sum ≤ 8) (hcs : cells ≤ R.cells ∧ slots ≤ R.slots) (hdg : decode cc pc = .ok (.invokestatic idx, 3))
    (kk : ∀ (r : Int64) (u : S) (H1 : Heap) (locs1 : List Loc), post r u → zB D A s (zput ws isC (wf u)) H1 locs1 → W p l e R s m args below meth c H1 locs1 cells slots Q (F0 m (pc + 3) ls (.long r :: rest))) : W p l e R s m args below meth c H locs cells slots Q (F0 m pc ls st0) := by
  have hFc := va_free hB.2.1 hB.2.2 hF.2.2.2.1 isC hi
  refine va_calll (va_runS (As := As) (rest := rest) hF.1 (hC H.size) (va_cwS n hF.1.2.2.2.2 hM.1 rfl rfl rfl hM.2 hrm) ⟨zPre.blind, zpre hF hB isC hi hnd⟩ rfl hn hls hst (lv_room hW) hdg ⟨hcs.1, hcs.2⟩) hB.2.2 (fun q _ h => hFc q h) hFc (fun r u t H1 locs1 ht hvm hp hB1 hz hk hS1 => ?_)
  exact kk r u H1 locs1 hp (zback hF hB isC hi ((ha1 u).trans ha2.symm) ht hB1 hk hS1)
theorem zSv {post : S → Prop} (hM : zMS own idx y cy ny none n) (hF : zF p s m args meth c D ka kb A cc own nL ret) (hB : zB D A s ws H locs) (hC : zV l D ka kb y cy ny fr lo As wc post wf) (isC : List Nat) (hi : isC.map (fun i => ws[i]?) = wc.map some) (hnd : va_nd isC = true) (as : List Nat) (ha1 : ∀ u, (wf u).map (·.1) = as) (ha2 : wc.map (·.1) = as)
    (hn : As.length = n) (hrm : fr + 1 ≤ R.frames ∧ 8 + (ny + 11) + lo ≤ R.locals) (hst : st0 = As.reverse ++ rest) (hls : ls.size = nL) (hW : (rest.map fun v => v.category).sum ≤ 8) (hcs : cells ≤ R.cells ∧ slots ≤ R.slots) (hdg : decode cc pc = .ok (.invokestatic idx, 3))
    (kk : ∀ (u : S) (H1 : Heap) (locs1 : List Loc), post u → zB D A s (zput ws isC (wf u)) H1 locs1 → W p l e R s m args below meth c H1 locs1 cells slots Q (F0 m (pc + 3) ls rest)) : W p l e R s m args below meth c H locs cells slots Q (F0 m pc ls st0) := by
  have hFc := va_free hB.2.1 hB.2.2 hF.2.2.2.1 isC hi
  refine va_callv (va_runS (As := As) (rest := rest) hF.1 (hC H.size) (va_cwS n hF.1.2.2.2.2 hM.1 rfl rfl rfl hM.2 hrm) ⟨zPre.blind, zpre hF hB isC hi hnd⟩ rfl hn hls hst (lv_room hW) hdg ⟨hcs.1, hcs.2⟩) hB.2.2 (fun q _ h => hFc q h) hFc (fun u t H1 locs1 ht hvm hp hB1 hz hk hS1 => ?_)
  exact kk u H1 locs1 hp (zback hF hB isC hi ((ha1 u).trans ha2.symm) ht hB1 hk hS1)
/-! fields -/
def zFS (own : String) (idx ci : Nat) (C : String) (T : u_T) (N k : Nat) : Prop := vwCl[ci]? = some (C, T, N) ∧ k < N ∧ (∀ w ∈ u_ws C T N, w ∈ wsL_law) ∧ Cond.fieldLink own idx (T k).1 (T k).2.1 (T k).2.2.1 ∈ wsL_law
def zFP (own : String) (idx ci : Nat) (C : String) (T : u_T) (N k : Nat) (ty : FieldType) : Prop := zFS own idx ci C T N k ∧ (T k).2.2.2 = false ∧ parseFieldDescriptor (T k).2.2.1 = some ty ∧ (∃ ty0 : Nat → FieldType, ∀ k, k < N → parseFieldDescriptor (T k).2.2.1 = some (ty0 k)) ∧ ∀ a, a < N → ∀ b, b < N → a ≠ b → (T a).2.1 ≠ (T b).2.1
theorem zget {ci : Nat} {T : u_T} {N k a : Nat} (hf : zFS own idx ci C T N k) (hF : zF p s m args meth c D ka kb A cc own nL ret) (hB : zB D A s ws H locs) (q0 : Nat) {fs : List Value} (he : ws[q0]? = some (a, .inr (ci, fs))) {v : Value} (hv : fs[k]? = some v) (hdg : decode cc pc = .ok (.getfield idx, 3))
    (kk : W p l e R s m args below meth c H locs cells slots Q (F0 m (pc + 3) ls (v :: rest))) : W p l e R s m args below meth c H locs cells slots Q (F0 m pc ls (.ref a :: rest)) :=
  va_get (D := D) (ci := ci) (C := C) (T := T) (N := N) (ref := (T k).1) hF.1.1 hF.1.2.1 hF.1.2.2.2.2 hf.2.2.1 hF.1.2.2.2.1 hF.2.1 hB.1 q0 he hf.1 k hf.2.1 (hF.1.2.2.2.2 _ hf.2.2.2) (fun _ h => h) hv hdg kk
theorem zput_f {ci : Nat} {T : u_T} {N k a : Nat} {ty : FieldType} (hf : zFP own idx ci C T N k ty) (hF : zF p s m args meth c D ka kb A cc own nL ret) (hB : zB D A s ws H locs) (q0 : Nat) {fs : List Value} (he : ws[q0]? = some (a, .inr (ci, fs))) {v : Value} (hn : narrow ty v = v) (hfit : fits ty v = true) (hl : k < fs.length) (hdg : decode cc pc = .ok (.putfield idx, 3))
    (kk : ∀ (H1 : Heap) (locs1 : List Loc), zB D A s (ws.set q0 (a, .inr (ci, fs.set k v))) H1 locs1 → W p l e R s m args below meth c H1 locs1 cells slots Q (F0 m (pc + 3) ls rest)) : W p l e R s m args below meth c H locs cells slots Q (F0 m pc ls (v :: .ref a :: rest)) := by
  obtain ⟨hs, hfin, hd, ⟨ty0, hty⟩, hnm⟩ := hf
  exact va_put (D := D) (ci := ci) (C := C) (T := T) (N := N) (ref := (T k).1) hF.1.1 hF.1.2.1 hF.1.2.2.2.2 hs.2.2.1 ty0 hty hnm hF.1.2.2.2.1 hF.2.1 hB.1 hB.2.1 hB.2.2 q0 he hs.1 k hs.2.1 (hF.1.2.2.2.2 _ hs.2.2.2) (fun _ h => h) hfin hd hn hfit hl hdg (fun H1 locs1 h1 h2 h3 => kk H1 locs1 ⟨h1, h2, h3⟩)
/-! arrays: the place as a whole number -/
theorem zclamp {i : Int32} {j n : Nat} (hj : i = nI j) (hlt : j < n) (hn : n < 2 ^ 31) : vp_in i n ∧ i.toNatClampNeg = j := by
  subst hj
  exact ⟨vp_in_nI hlt hn, nI_clamp (by omega)⟩
theorem ziald {a N : Nat} {f : Nat → Int32} {i : Int32} (hF : zF p s m args meth c D ka kb A cc own nL ret) (hB : zB D A s ws H locs) (q0 : Nat) (he : ws[q0]? = some (a, .inl (ka 0, N, .inl f))) (j : Nat) (hj : i = nI j) (hlt : j < N) (hN : N < 2 ^ 31) {v : Int32} (hv : f j = v) (hdg : decode cc pc = .ok (.iaload, 1))
    (kk : W p l e R s m args below meth c H locs cells slots Q (F0 m (pc + 1) ls (.int v :: rest))) : W p l e R s m args below meth c H locs cells slots Q (F0 m pc ls (.int i :: .ref a :: rest)) := by
  obtain ⟨h1, h2⟩ := zclamp hj hlt hN
  exact va_iald hF.1.1 hF.1.2.1 hF.2.1 hB.1 q0 0 he rfl h1 hdg (by rw [h2, hv]; exact kk)
theorem zzald {a N : Nat} {f : Nat → Int32} {i : Int32} (hF : zF p s m args meth c D ka kb A cc own nL ret) (hB : zB D A s ws H locs) (q0 : Nat) (he : ws[q0]? = some (a, .inl (ka 2, N, .inl f))) (j : Nat) (hj : i = nI j) (hlt : j < N) (hN : N < 2 ^ 31) {v : Int32} (hv : f j = v) (hdg : decode cc pc = .ok (.baload, 1))
    (kk : W p l e R s m args below meth c H locs cells slots Q (F0 m (pc + 1) ls (.int v :: rest))) : W p l e R s m args below meth c H locs cells slots Q (F0 m pc ls (.int i :: .ref a :: rest)) := by
  obtain ⟨h1, h2⟩ := zclamp hj hlt hN
  exact va_zald hF.1.1 hF.1.2.1 hF.2.1 hB.1 q0 2 he rfl h1 hdg (by rw [h2, hv]; exact kk)
theorem zlald {a N : Nat} {f : Nat → Int64} {i : Int32} (hF : zF p s m args meth c D ka kb A cc own nL ret) (hB : zB D A s ws H locs) (q0 : Nat) (he : ws[q0]? = some (a, .inl (ka 1, N, .inr (.inl f)))) (j : Nat) (hj : i = nI j) (hlt : j < N) (hN : N < 2 ^ 31) {v : Int64} (hv : f j = v) (hdg : decode cc pc = .ok (.laload, 1))
    (kk : W p l e R s m args below meth c H locs cells slots Q (F0 m (pc + 1) ls (.long v :: rest))) : W p l e R s m args below meth c H locs cells slots Q (F0 m pc ls (.int i :: .ref a :: rest)) := by
  obtain ⟨h1, h2⟩ := zclamp hj hlt hN
  exact va_lald hF.1.1 hF.1.2.1 hF.2.1 hB.1 q0 1 he rfl h1 hdg (by rw [h2, hv]; exact kk)
theorem zaald {a N t0 r : Nat} {C9 : String} {f : Nat → Option Nat} {i : Int32} (hF : zF p s m args meth c D ka kb A cc own nL ret) (hB : zB D A s ws H locs) (q0 : Nat) {cA : ClassId} (he : ws[q0]? = some (a, .inl (cA, N, .inr (.inr (.inr (.inr f)))))) (ht : (zTy ka)[t0]? = some (cA, .object C9)) (j : Nat) (hj : i = nI j) (hlt : j < N) (hN : N < 2 ^ 31) (hv : f j = some r) (hdg : decode cc pc = .ok (.aaload, 1))
    (kk : W p l e R s m args below meth c H locs cells slots Q (F0 m (pc + 1) ls (.ref r :: rest))) : W p l e R s m args below meth c H locs cells slots Q (F0 m pc ls (.int i :: .ref a :: rest)) := by
  obtain ⟨h1, h2⟩ := zclamp hj hlt hN
  exact va_aldq hF.1.1 hF.1.2.1 hF.2.1 hB.1 q0 t0 he ht h1 hdg (by rw [h2, hv]; exact kk)
theorem ziast {a N : Nat} {f : Nat → Int32} {i x : Int32} (hF : zF p s m args meth c D ka kb A cc own nL ret) (hB : zB D A s ws H locs) (q0 : Nat) (he : ws[q0]? = some (a, .inl (ka 0, N, .inl f))) (j : Nat) (hj : i = nI j) (hlt : j < N) (hN : N < 2 ^ 31) (hdg : decode cc pc = .ok (.iastore, 1))
    (kk : ∀ (H1 : Heap) (locs1 : List Loc), zB D A s (ws.set q0 (a, .inl (ka 0, N, .inl (upd f j x)))) H1 locs1 → W p l e R s m args below meth c H1 locs1 cells slots Q (F0 m (pc + 1) ls rest)) : W p l e R s m args below meth c H locs cells slots Q (F0 m pc ls (.int x :: .int i :: .ref a :: rest)) := by
  obtain ⟨h1, h2⟩ := zclamp hj hlt hN
  exact va_iast hF.1.1 hF.1.2.1 hF.2.1 hB.1 hB.2.1 hB.2.2 q0 0 he rfl h1 hdg (fun H1 locs1 g1 g2 g3 => by rw [h2] at g1 g2; exact kk H1 locs1 ⟨g1, g2, g3⟩)
theorem zlast {a N : Nat} {f : Nat → Int64} {i : Int32} {x : Int64} (hF : zF p s m args meth c D ka kb A cc own nL ret) (hB : zB D A s ws H locs) (q0 : Nat) (he : ws[q0]? = some (a, .inl (ka 1, N, .inr (.inl f)))) (j : Nat) (hj : i = nI j) (hlt : j < N) (hN : N < 2 ^ 31) (hdg : decode cc pc = .ok (.lastore, 1))
    (kk : ∀ (H1 : Heap) (locs1 : List Loc), zB D A s (ws.set q0 (a, .inl (ka 1, N, .inr (.inl (vp_updL f j x))))) H1 locs1 → W p l e R s m args below meth c H1 locs1 cells slots Q (F0 m (pc + 1) ls rest)) : W p l e R s m args below meth c H locs cells slots Q (F0 m pc ls (.long x :: .int i :: .ref a :: rest)) := by
  obtain ⟨h1, h2⟩ := zclamp hj hlt hN
  exact va_last hF.1.1 hF.1.2.1 hF.2.1 hB.1 hB.2.1 hB.2.2 q0 1 he rfl h1 hdg (fun H1 locs1 g1 g2 g3 => by rw [h2] at g1 g2; exact kk H1 locs1 ⟨g1, g2, g3⟩)
theorem zzast {a N : Nat} {f : Nat → Int32} {i x : Int32} (hF : zF p s m args meth c D ka kb A cc own nL ret) (hB : zB D A s ws H locs) (q0 : Nat) (he : ws[q0]? = some (a, .inl (ka 2, N, .inl f))) (j : Nat) (hj : i = nI j) (hlt : j < N) (hN : N < 2 ^ 31) (hx : x &&& 1 = x) (hdg : decode cc pc = .ok (.bastore, 1))
    (kk : ∀ (H1 : Heap) (locs1 : List Loc), zB D A s (ws.set q0 (a, .inl (ka 2, N, .inl (upd f j x)))) H1 locs1 → W p l e R s m args below meth c H1 locs1 cells slots Q (F0 m (pc + 1) ls rest)) : W p l e R s m args below meth c H locs cells slots Q (F0 m pc ls (.int x :: .int i :: .ref a :: rest)) := by
  obtain ⟨h1, h2⟩ := zclamp hj hlt hN
  exact va_zast hF.1.1 hF.1.2.1 hF.2.1 hB.1 hB.2.1 hB.2.2 q0 2 he rfl h1 hdg (fun H1 locs1 g1 g2 g3 => by
    rw [h2] at g1 g2
    first | exact kk H1 locs1 ⟨g1, g2, g3⟩ | (have e : vp_nar .boolean x = x := hx; rw [e] at g1 g2; exact kk H1 locs1 ⟨g1, g2, g3⟩) | (rw [hx] at g1 g2; exact kk H1 locs1 ⟨g1, g2, g3⟩))
/-! ends -/
theorem zreti {post : Int32 → S → Prop} {v : Int32} (hF : zF p s m args meth c D ka kb A cc own nL (some ty)) (hB : zB D A s ws H locs) (u : S) (hp : post v u) (hw : wf u = ws) (hn : narrow ty (.int v) = .int v) (hdg : decode cc pc = .ok (.ireturn, 1)) (hQ : Q = MQ below (va_Qi post (fun u t => va_P D vwCl (wf u) t.heap) A) args s cells slots A) :
    W p l e R s m args below meth c H locs cells slots Q (F0 m pc ls [.int v]) := by
  subst hQ
  have hlocks := hF.2.2.2.2.2
  exact W.zret (ty := ty) hF.1.1 hF.1.2.1 hF.2.2.2.2.1 hn (fun t ht hW => ⟨⟨v, u, rfl, hp, by show va_P D vwCl (wf u) t.heap; rw [ht, hw]; exact hB.1⟩, hB.2.2.F ht⟩) hB.2.2.2.2 hdg
theorem zretl {post : Int64 → S → Prop} {v : Int64} (hF : zF p s m args meth c D ka kb A cc own nL (some .long)) (hB : zB D A s ws H locs) (u : S) (hp : post v u) (hw : wf u = ws) (hdg : decode cc pc = .ok (.lreturn, 1)) (hQ : Q = MQ below (va_Ql post (fun u t => va_P D vwCl (wf u) t.heap) A) args s cells slots A) :
    W p l e R s m args below meth c H locs cells slots Q (F0 m pc ls [.long v]) := by
  subst hQ
  have hlocks := hF.2.2.2.2.2
  exact W.lret hF.1.1 hF.1.2.1 hF.2.2.2.2.1 (fun t ht hW => ⟨⟨v, u, rfl, hp, by show va_P D vwCl (wf u) t.heap; rw [ht, hw]; exact hB.1⟩, hB.2.2.F ht⟩) hB.2.2.2.2 hdg
theorem zretv {post : S → Prop} (hF : zF p s m args meth c D ka kb A cc own nL none) (hB : zB D A s ws H locs) (u : S) (hp : post u) (hw : wf u = ws) (hdg : decode cc pc = .ok (.return_, 1)) (hQ : Q = MQ below (va_Qv post (fun u t => va_P D vwCl (wf u) t.heap) A) args s cells slots A) :
    W p l e R s m args below meth c H locs cells slots Q (F0 m pc ls []) := by
  subst hQ
  have hlocks := hF.2.2.2.2.2
  exact W.vret hF.1.1 hF.1.2.1 hF.2.2.2.2.1 (fun t ht hW => ⟨⟨u, rfl, hp, by show va_P D vwCl (wf u) t.heap; rw [ht, hw]; exact hB.1⟩, hB.2.2.F ht⟩) hB.2.2.2.2 hdg
theorem zretr {post : S → Prop} {ad : S → Nat} {a : Nat} {n9 : String} (hF : zF p s m args meth c D ka kb A cc own nL (some (.object n9))) (hB : zB D A s ws H locs) (u : S) (hp : post u) (had : a = ad u) (hw : wf u = ws) (hdg : decode cc pc = .ok (.areturn, 1)) (hQ : Q = MQ below (va_Qr post (fun u a t => a = ad u ∧ va_P D vwCl (wf u) t.heap) A) args s cells slots A) :
    W p l e R s m args below meth c H locs cells slots Q (F0 m pc ls [.ref a]) := by
  subst hQ
  have hlocks := hF.2.2.2.2.2
  exact W.aret (rt := .object n9) hF.1.1 hF.1.2.1 hF.2.2.2.2.1 (Or.inl ⟨_, rfl⟩) (Or.inr ⟨_, rfl⟩) (fun t ht hW => ⟨⟨u, a, rfl, hp, had, by show va_P D vwCl (wf u) t.heap; rw [ht, hw]; exact hB.1⟩, hB.2.2.F ht⟩) hB.2.2.2.2 hdg
end ZR

