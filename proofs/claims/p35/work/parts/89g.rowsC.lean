/-! rows for constructors: new objects, new rows, a constructor's call, its end -/
theorem va_RA_eq {U : State} {a b : ClassId} {ty : FieldType} (h1 : va_RA U a ty) (h2 : va_RA U b ty) : a = b := by
  cases ty with
  | object C =>
    obtain ⟨_, _, _, _, _, h3⟩ := h1
    obtain ⟨_, _, _, _, _, h4⟩ := h2
    exact Option.some.inj (h3.symm.trans h4)
  | _ => exact Option.some.inj (Eq.trans (Eq.symm h1) h2)
theorem zka {D : va_G} {ka : Nat → ClassId} {s : State} {cA : ClassId} {ty : FieldType} (h : va_K D vwCl (zTy ka ++ [(cA, ty)]) s) (j : Nat) (hj : (zTy ka)[j]? = some (ka j, ty)) : cA = ka j := by
  have hl : j < (zTy ka).length := (List.getElem?_eq_some_iff.mp hj).1
  have h1 := h.2 j (ka j, ty) (by rw [List.getElem?_append_left hl]; exact hj)
  have h2 := h.2 5 (cA, ty) rfl
  exact va_RA_eq h2.2 h1.2
theorem zgrow {A : Nat → Prop} {D : va_G} {cl : List vw_C} {ws w1 : va_W} {x : Nat × va_E} {H H1 : Heap} (hP : va_P D cl (ws ++ [x]) H) (hD : va_D A (ws ++ [x])) (hk : ∀ q : Nat, q < H.size → ¬ va_A [x] H.size q → H1[q]? = H[q]?) (hf : ∀ q, va_A [x] H.size q → A q) (hP1 : va_P D cl w1 H1) (hD1 : va_D (va_A [x] H.size) w1) : va_P D cl (ws ++ w1) H1 ∧ va_D A (ws ++ w1) := by
  have at1 : ∀ (k : Nat) (q : Nat × va_E), ws[k]? = some q → (ws ++ [x])[k]? = some q ∧ k < ws.length := fun k q h => by
    have hl := (List.getElem?_eq_some_iff.mp h).1
    exact ⟨by rw [List.getElem?_append_left hl]; exact h, hl⟩
  have atx : (ws ++ [x])[ws.length]? = some x := by rw [List.getElem?_append_right (Nat.le_refl _), Nat.sub_self]; rfl
  have far : ∀ (k : Nat) (q : Nat × va_E), ws[k]? = some q → ¬ va_A [x] H.size q.1 := fun k q h h9 => by
    obtain ⟨h1, hl⟩ := at1 k q h
    rcases h9 with ⟨j, e, h9⟩ | h9
    · have hj : j < 1 := (List.getElem?_eq_some_iff.mp h9).1
      rw [show j = 0 by omega] at h9
      cases h9
      have := hD.1 k ws.length q _ h1 atx rfl
      omega
    · have := (hP k q h1).lt
      omega
  refine ⟨va_P.app (fun k q h => (hP k q (at1 k q h).1).kept (hk q.1 ((hP k q (at1 k q h).1).lt) (far k q h))) hP1, va_D.app ⟨fun i j p q hi hj hpq => hD.1 i j p q (at1 i p hi).1 (at1 j q hj).1 hpq, fun k q h => hD.2 k q (at1 k q h).1⟩ ⟨hD1.1, fun k q h => hf _ (hD1.2 k q h)⟩ (fun i j p q hi hj e => far i p hi (by rw [e]; exact hD1.2 j q hj))⟩
/-- a constructor's call: what the words say -/
def zMI (own : String) (idx : Nat) (y : MethodName) (cc : ByteArray) (nL : Nat) : Prop :=
  (GoodIn wsL_law (zWs y cc nL none) ∧ Cond.initialized y.cls ∈ wsL_law ∧ Cond.methodLink own idx y ∈ wsL_law ∧ Cond.instanceMethod y ∈ wsL_law ∧ y.name = "<init>") ∧ (y.cls ≠ "java/lang/invoke/MethodHandle" ∧ y.cls ≠ "java/lang/invoke/VarHandle" ∧ (parseMethodDescriptor y.desc).map (fun d => d.parameters.length) = some 0)
def zMN (y : MethodName) (cc : ByteArray) (nL : Nat) : Prop :=
  (GoodIn wsL_law (zWs y cc nL none) ∧ Cond.initialized y.cls ∈ wsL_law ∧ Cond.instanceMethod y ∈ wsL_law ∧ y.name = "<init>") ∧ (y.cls ≠ "java/lang/invoke/MethodHandle" ∧ y.cls ≠ "java/lang/invoke/VarHandle" ∧ (parseMethodDescriptor y.desc).map (fun d => d.parameters.length) = some 0)
def zNW (own : String) (idx ci : Nat) (C : String) (T : u_T) (N : Nat) (ty : Nat → FieldType) (fs : List Value) : Prop :=
  vwCl[ci]? = some (C, T, N) ∧ (∀ w ∈ u_ws C T N, w ∈ wsL_law) ∧ (∀ k, k < N → parseFieldDescriptor (T k).2.2.1 = some (ty k)) ∧ (∀ j, j < N → defaultValue (ty j) = vp_V fs j) ∧ Cond.classLink own idx C ∈ wsL_law ∧ Cond.instantiable C N ∈ wsL_law ∧ Cond.initialized C ∈ wsL_law
def zFF (own : String) (idx ci : Nat) (C : String) (T : u_T) (N k : Nat) (ty : FieldType) : Prop := zFS own idx ci C T N k ∧ (T k).2.2.2 = true ∧ (T k).1 = own ∧ parseFieldDescriptor (T k).2.2.1 = some ty ∧ (∃ ty0 : Nat → FieldType, ∀ k, k < N → parseFieldDescriptor (T k).2.2.1 = some (ty0 k)) ∧ ∀ a, a < N → ∀ b, b < N → a ≠ b → (T a).2.1 ≠ (T b).2.1
section ZRC
variable {S : Type} {p : Program} {l : Launch} {e : Env} {R : Room} {s : State} {m : MethodId} {args : Array Value} {below : List Frame} {meth : Method} {c : Code} {H : Heap} {locs : List Loc} {cells slots : Nat} {Q : State → Prop}
variable {D : va_G} {ka : Nat → ClassId} {kb : Nat → Nat} {A : Nat → Prop} {cc : ByteArray} {own : String} {nL : Nat} {ret : Option FieldType} {ws : va_W} {pc : Nat} {ls : Array Slot} {rest st0 : List Value} {idx : Nat}
theorem zobj {a : Nat} (hw : Cond.methodLink own idx objectInit ∈ wsL_law) (hF : zF p s m args meth c D ka kb A cc own nL ret) (hls : ls.size = nL) (hfr : 1 ≤ R.frames) (hlo : (rest.map fun v => v.category).sum + 12 ≤ R.locals) (hdg : decode cc pc = .ok (.invokespecial idx, 3)) (k : W p l e R s m args below meth c H locs cells slots Q (F0 m (pc + 3) ls rest)) : W p l e R s m args below meth c H locs cells slots Q (F0 m pc ls (.ref a :: rest)) := by
  refine W.objInit hF.1.1 hF.1.2.1 hF.1.2.2.2.1 (hF.1.2.2.2.2 _ hw) (hF.1.2.2.2.2 _ ww_1_7) (hF.1.2.2.2.2 _ ww_1_8) rfl (hls.trans hF.1.2.2.1.symm) rfl hdg hfr (by show 2 * 0 + _ + 12 ≤ _; omega) ?_
  exact W.eq (g2 := F0 m (pc + 3) ls rest) rfl k
theorem znewo {ci N : Nat} {C : String} {T : u_T} {ty : Nat → FieldType} {fs : List Value} (hN : zNW own idx ci C T N ty fs) (hF : zF p s m args meth c D ka kb A cc own nL ret) (hB : zB D A s ws H locs) (hc : cells + 1 ≤ R.cells) (hs : slots + N ≤ R.slots) (hdg : decode cc pc = .ok (.new idx, 3))
    (kk : ∀ (q : Nat) (H1 : Heap) (locs1 : List Loc), zB D A s (ws ++ [(q, .inr (ci, fs))]) H1 locs1 → W p l e R s m args below meth c H1 locs1 (cells + 1) (slots + N) Q (F0 m (pc + 3) ls (.ref q :: rest))) : W p l e R s m args below meth c H locs cells slots Q (F0 m pc ls rest) :=
  va_new (ci := ci) (fs := fs) (C := C) (T := T) (N := N) hF.1.1 hF.1.2.1 hF.1.2.2.2.2 hN.2.1 ty hN.2.2.1 hF.1.2.2.2.1 (hF.1.2.2.2.2 _ hN.2.2.2.2.1) (hF.1.2.2.2.2 _ hN.2.2.2.2.2.1) (hF.1.2.2.2.2 _ hN.2.2.2.2.2.2) hF.2.1 hB.1 hB.2.1 hB.2.2 hF.2.2.2.1 hN.1 hN.2.2.2.1 hc hs hdg (fun q H1 h1 h2 h3 => kk q H1 locs ⟨h1, h2, h3⟩)
theorem znewi {n : Int32} (N : Nat) (hF : zF p s m args meth c D ka kb A cc own nL ret) (hB : zB D A s ws H locs) (hn : ¬ n < 0) (hN : n.toNatClampNeg = N) (hby : N * 4 ≤ 536870912) (hc : cells + 1 ≤ R.cells) (hs : slots + N ≤ R.slots) (hdg : decode cc pc = .ok (.newarray .int, 2))
    (kk : ∀ (q : Nat) (H1 : Heap) (locs1 : List Loc), zB D A s (ws ++ [(q, .inl (ka 0, N, .inl (fun _ => 0)))]) H1 locs1 → W p l e R s m args below meth c H1 locs1 (cells + 1) (slots + N) Q (F0 m (pc + 2) ls (.ref q :: rest))) : W p l e R s m args below meth c H locs cells slots Q (F0 m pc ls (.int n :: rest)) :=
  va_newa (atype := .int) (ty := .int) (a0 := (N, .inl (fun _ => 0))) hF.1.1 hF.1.2.1 (hF.1.2.2.2.2 _ ww_3_7) rfl hF.2.1 hB.1 hB.2.1 hB.2.2 hF.2.2.2.1 (fun _ => rfl) hn hN hby hc hs hdg (fun q cA H1 hK h1 h2 h3 => by
    have e9 := zka hK 0 rfl
    subst e9
    exact kk q H1 locs ⟨h1, h2, h3⟩)
theorem znewz {n : Int32} (N : Nat) (hF : zF p s m args meth c D ka kb A cc own nL ret) (hB : zB D A s ws H locs) (hn : ¬ n < 0) (hN : n.toNatClampNeg = N) (hby : N * 1 ≤ 536870912) (hc : cells + 1 ≤ R.cells) (hs : slots + N ≤ R.slots) (hdg : decode cc pc = .ok (.newarray .boolean, 2))
    (kk : ∀ (q : Nat) (H1 : Heap) (locs1 : List Loc), zB D A s (ws ++ [(q, .inl (ka 2, N, .inl (fun _ => 0)))]) H1 locs1 → W p l e R s m args below meth c H1 locs1 (cells + 1) (slots + N) Q (F0 m (pc + 2) ls (.ref q :: rest))) : W p l e R s m args below meth c H locs cells slots Q (F0 m pc ls (.int n :: rest)) :=
  va_newa (atype := .boolean) (ty := .boolean) (a0 := (N, .inl (fun _ => 0))) hF.1.1 hF.1.2.1 (hF.1.2.2.2.2 _ ww_3_22) rfl hF.2.1 hB.1 hB.2.1 hB.2.2 hF.2.2.2.1 (fun _ => rfl) hn hN hby hc hs hdg (fun q cA H1 hK h1 h2 h3 => by
    have e9 := zka hK 2 rfl
    subst e9
    exact kk q H1 locs ⟨h1, h2, h3⟩)
theorem znewq {n : Int32} (N : Nat) (hw : Cond.classLink own idx RX1 ∈ wsL_law) (hF : zF p s m args meth c D ka kb A cc own nL ret) (hB : zB D A s ws H locs) (hn : ¬ n < 0) (hN : n.toNatClampNeg = N) (hby : N * 4 ≤ 536870912) (hc : cells + 1 ≤ R.cells) (hs : slots + N ≤ R.slots) (hdg : decode cc pc = .ok (.anewarray idx, 3))
    (kk : ∀ (q : Nat) (H1 : Heap) (locs1 : List Loc), zB D A s (ws ++ [(q, .inl (ka 3, N, .inr (.inr (.inr (.inr (fun _ => none))))))]) H1 locs1 → W p l e R s m args below meth c H1 locs1 (cells + 1) (slots + N) Q (F0 m (pc + 3) ls (.ref q :: rest))) : W p l e R s m args below meth c H locs cells slots Q (F0 m pc ls (.int n :: rest)) :=
  va_newq hF.1.1 hF.1.2.1 hF.1.2.2.2.1 (hF.1.2.2.2.2 _ hw) hF.2.2.1.1.2.2.2.2.2.2.2.2.2.2.2.1 hF.2.1 hB.1 hB.2.1 hB.2.2 hF.2.2.2.1 hn hN hby hc hs hdg (fun q cA H1 hK h1 h2 h3 => by
    have e9 := zka hK 3 rfl
    subst e9
    exact kk q H1 locs ⟨h1, h2, h3⟩)
theorem zmna (hw : Cond.classLink own idx "[[J" ∈ wsL_law) (hF : zF p s m args meth c D ka kb A cc own nL ret) (hB : zB D A s ws H locs) (hc : cells + 5 ≤ R.cells) (hs : slots + 164 ≤ R.slots) (hdg : decode cc pc = .ok (.multianewarray idx 2, 4))
    (kk : ∀ (q r0 r1 r2 r3 : Nat) (H1 : Heap) (locs1 : List Loc), zB D A s (ws ++ [(q, .inl (ka 4, 4, .inr (.inr (.inr (.inr (fun i => [r0, r1, r2, r3][i]?)))))), (r0, .inl (ka 1, 40, .inr (.inl (fun _ => 0)))), (r1, .inl (ka 1, 40, .inr (.inl (fun _ => 0)))), (r2, .inl (ka 1, 40, .inr (.inl (fun _ => 0)))), (r3, .inl (ka 1, 40, .inr (.inl (fun _ => 0))))]) H1 locs1 → W p l e R s m args below meth c H1 locs1 (cells + 5) (slots + 164) Q (F0 m (pc + 4) ls (.ref q :: rest))) : W p l e R s m args below meth c H locs cells slots Q (F0 m pc ls (.int 40 :: .int 4 :: rest)) := by
  have e0 : ws ++ va_pl [] (fun _ => (.inl (ka 0, 0, .inl (fun _ => 0)) : va_E)) = ws := List.append_nil _
  have hcy : s.vm.findClass (FieldType.array .long).toString = some (ka 1) := (hF.2.1.2 1 (ka 1, .long) rfl).2
  refine va_mna (X := ws) (L := []) (f := fun _ => .inl (ka 0, 0, .inl (fun _ => 0))) (ty := .long) (N' := 4) (K' := 40) (z := (40, .inr (.inl (fun _ => 0)))) hF.1.1 hF.1.2.1 hF.1.2.2.2.1 (hF.1.2.2.2.2 _ hw) hF.2.2.1.1.2.2.2.2.2.2.2.2.2.2.2.2 (hF.1.2.2.2.2 _ ww_5_8) hcy hF.2.1 (by rw [e0]; exact hB.1) (by rw [e0]; exact hB.2.1) hB.2.2 hF.2.2.2.1 (by decide) (by decide) (by decide) (by decide) (by decide) (by decide) (by decide) rfl rfl (by omega) (by omega) (fun cy => by rw [vp_cell_l, ← arrV_new] <;> rfl) hdg (fun q r cA H1 hinj hnl hK h1 h2 h3 => ?_)
  have e9 := zka hK 4 rfl
  subst e9
  have eL : ([] ++ (List.range 4).map r : List Nat) = [r 0, r 1, r 2, r 3] := rfl
  have eM : (List.range 4).map r = [r 0, r 1, r 2, r 3] := rfl
  have ef : (fun i => if i < 4 then some (r i) else none) = (fun i => [r 0, r 1, r 2, r 3][i]?) := funext fun i => by
    rcases (show i = 0 ∨ i = 1 ∨ i = 2 ∨ i = 3 ∨ 4 ≤ i by omega) with rfl | rfl | rfl | rfl | h
    · rfl
    · rfl
    · rfl
    · rfl
    · rw [if_neg (by omega), List.getElem?_eq_none (by simp; omega)]
  rw [eL, eM, ef] at h1 h2
  have eW : ∀ x : Nat × va_E, (ws ++ [x]) ++ va_pl [r 0, r 1, r 2, r 3] (vr_up (fun _ => .inl (ka 0, 0, .inl (fun _ => 0))) [r 0, r 1, r 2, r 3] (.inl (ka 1, 40, .inr (.inl (fun _ => 0))))) = ws ++ [x, (r 0, .inl (ka 1, 40, .inr (.inl (fun _ => 0)))), (r 1, .inl (ka 1, 40, .inr (.inl (fun _ => 0)))), (r 2, .inl (ka 1, 40, .inr (.inl (fun _ => 0)))), (r 3, .inl (ka 1, 40, .inr (.inl (fun _ => 0))))] := fun x => by
    simp [va_pl, vr_up]
  rw [eW] at h1 h2
  exact kk q (r 0) (r 1) (r 2) (r 3) H1 locs ⟨h1, h2, h3⟩
theorem zaast {a N v ci : Nat} {f : Nat → Option Nat} {i : Int32} {T : u_T} {N9 : Nat} {vs : List Value} (hF : zF p s m args meth c D ka kb A cc own nL ret) (hB : zB D A s ws H locs) (q0 qk : Nat) (he : ws[q0]? = some (a, .inl (ka 3, N, .inr (.inr (.inr (.inr f)))))) (hv : ws[qk]? = some (v, .inr (ci, vs))) (hc : vwCl[ci]? = some ("RotorBalancer$Num", T, N9)) (j : Nat) (hj : i = nI j) (hlt : j < N) (hN : N < 2 ^ 31) (hdg : decode cc pc = .ok (.aastore, 1))
    (kk : ∀ (H1 : Heap) (locs1 : List Loc), zB D A s (ws.set q0 (a, .inl (ka 3, N, .inr (.inr (.inr (.inr (va_up f j (some v)))))))) H1 locs1 → W p l e R s m args below meth c H1 locs1 cells slots Q (F0 m (pc + 1) ls rest)) : W p l e R s m args below meth c H locs cells slots Q (F0 m pc ls (.ref v :: .int i :: .ref a :: rest)) := by
  obtain ⟨h1, h2⟩ := zclamp hj hlt hN
  exact va_astq hF.1.1 hF.1.2.1 hF.2.1 hB.1 hB.2.1 hB.2.2 q0 3 qk ci he rfl hv hc h1 hdg (fun H1 locs1 g1 g2 g3 => by rw [h2] at g1 g2; exact kk H1 locs1 ⟨g1, g2, g3⟩)
theorem zput_F {ci : Nat} {T : u_T} {C : String} {N k a : Nat} {ty : FieldType} (hf : zFF own idx ci C T N k ty) (hin : meth.name = "<init>") (hF : zF p s m args meth c D ka kb A cc own nL ret) (hB : zB D A s ws H locs) (q0 : Nat) {fs : List Value} (he : ws[q0]? = some (a, .inr (ci, fs))) {v : Value} (hn : narrow ty v = v) (hfit : fits ty v = true) (hl : k < fs.length) (hdg : decode cc pc = .ok (.putfield idx, 3))
    (kk : ∀ (H1 : Heap) (locs1 : List Loc), zB D A s (ws.set q0 (a, .inr (ci, fs.set k v))) H1 locs1 → W p l e R s m args below meth c H1 locs1 cells slots Q (F0 m (pc + 3) ls rest)) : W p l e R s m args below meth c H locs cells slots Q (F0 m pc ls (v :: .ref a :: rest)) := by
  obtain ⟨hs, hfin, hdecl, hd, ⟨ty0, hty⟩, hnm⟩ := hf
  exact va_putF (D := D) (ci := ci) (C := C) (T := T) (N := N) (ref := (T k).1) hF.1.1 hF.1.2.1 hF.1.2.2.2.2 hs.2.2.1 ty0 hty hnm hF.1.2.2.2.1 hF.2.1 hB.1 hB.2.1 hB.2.2 q0 he hs.1 k hs.2.1 (hF.1.2.2.2.2 _ hs.2.2.2) (fun _ h => h) hfin hin hdecl hd hn hfit hl hdg (fun H1 locs1 h1 h2 h3 => kk H1 locs1 ⟨h1, h2, h3⟩)
variable {y : MethodName} {cy : ByteArray} {ny fr lo mc ms ci : Nat} {b : Nat} {fs : List Value} {post : S → Prop} {wf : S → va_W}
theorem zlast_sel {x : Nat × va_E} : [ws.length].map (fun i => (ws ++ [x])[i]?) = [x].map some := by simp
theorem zinI (hM : zMI own idx y cy ny) (hF : zF p s m args meth c D ka kb A cc own nL ret) (hB : zB D A s (ws ++ [(b, .inr (ci, fs))]) H locs) (hC : zC l D ka kb y cy ny fr lo mc ms [.ref b] [(b, .inr (ci, fs))] post wf)
    (hrm : fr + 1 ≤ R.frames ∧ 8 + (ny + 11) + lo ≤ R.locals) (hls : ls.size = nL) (hW : (rest.map fun v => v.category).sum ≤ 8) (hcs : cells + mc ≤ R.cells ∧ slots + ms ≤ R.slots) (hdg : decode cc pc = .ok (.invokespecial idx, 3))
    (kk : ∀ (u : S) (H1 : Heap) (locs1 : List Loc), post u → zB D A s (ws ++ wf u) H1 locs1 → W p l e R s m args below meth c H1 locs1 (cells + mc) (slots + ms) Q (F0 m (pc + 3) ls rest)) : W p l e R s m args below meth c H locs cells slots Q (F0 m pc ls (.ref b :: rest)) := by
  have hFc := va_free hB.2.1 hB.2.2 hF.2.2.2.1 [ws.length] zlast_sel
  refine va_callv (va_runI (As := []) (rest := rest) hF.1 (hC H.size) (cwI 0 hF.1.2.2.2.2 hM.1.1 rfl rfl rfl (hF.1.2.2.2.2 _ hM.1.2.1) (hF.1.2.2.2.2 _ hM.1.2.2.1) (hF.1.2.2.2.2 _ hM.1.2.2.2.1) hM.1.2.2.2.2 hM.2 hrm) ⟨zPre.blind, zpre hF hB [ws.length] zlast_sel (va_nd_1 _)⟩ rfl rfl hls rfl (lv_room hW) hdg hcs) hB.2.2 (fun q _ h => hFc q h) hFc (fun u t H1 locs1 ht hvm hp hB1 hz hk hS1 => ?_)
  rw [ht] at hB1
  obtain ⟨g1, g2⟩ := zgrow hB.1 hB.2.1 hk hFc hB1.1 hB1.2
  exact kk u H1 locs1 hp ⟨g1, g2, hS1⟩
theorem zinN {host : String} (hM : zMN y cy ny) (hN : va_Nw (.methodLinkNest own idx y host) s) (hF : zF p s m args meth c D ka kb A cc own nL ret) (hB : zB D A s (ws ++ [(b, .inr (ci, fs))]) H locs) (hC : zC l D ka kb y cy ny fr lo mc ms [.ref b] [(b, .inr (ci, fs))] post wf)
    (hrm : fr + 1 ≤ R.frames ∧ 8 + (ny + 11) + lo ≤ R.locals) (hls : ls.size = nL) (hW : (rest.map fun v => v.category).sum ≤ 8) (hcs : cells + mc ≤ R.cells ∧ slots + ms ≤ R.slots) (hdg : decode cc pc = .ok (.invokespecial idx, 3))
    (kk : ∀ (u : S) (H1 : Heap) (locs1 : List Loc), post u → zB D A s (ws ++ wf u) H1 locs1 → W p l e R s m args below meth c H1 locs1 (cells + mc) (slots + ms) Q (F0 m (pc + 3) ls rest)) : W p l e R s m args below meth c H locs cells slots Q (F0 m pc ls (.ref b :: rest)) := by
  have hFc := va_free hB.2.1 hB.2.2 hF.2.2.2.1 [ws.length] zlast_sel
  refine va_callv (va_runIN (As := []) (rest := rest) hF.1 (hC H.size) ⟨va_cnB 0 hF.1.2.2.2.2 hM.1.1 rfl rfl rfl hN (hF.1.2.2.2.2 _ hM.1.2.1) hM.2 hrm, hM.1.2.2.2, hF.1.2.2.2.2 _ hM.1.2.2.1⟩ ⟨zPre.blind, zpre hF hB [ws.length] zlast_sel (va_nd_1 _)⟩ rfl rfl hls rfl (lv_room hW) hdg hcs) hB.2.2 (fun q _ h => hFc q h) hFc (fun u t H1 locs1 ht hvm hp hB1 hz hk hS1 => ?_)
  rw [ht] at hB1
  obtain ⟨g1, g2⟩ := zgrow hB.1 hB.2.1 hk hFc hB1.1 hB1.2
  exact kk u H1 locs1 hp ⟨g1, g2, hS1⟩
theorem zretC (hF : zF p s m args meth c D ka kb A cc own nL none) (hB : zB D A s ws H locs) (u : S) (hp : post u) (hw : wf u = ws) (hdg : decode cc pc = .ok (.return_, 1)) (hQ : Q = MQ below (va_Qv post (fun u t => va_P D vwCl (wf u) t.heap ∧ va_D A (wf u)) A) args s cells slots A) :
    W p l e R s m args below meth c H locs cells slots Q (F0 m pc ls []) := by
  subst hQ
  have hlocks := hF.2.2.2.2.2
  exact W.vret hF.1.1 hF.1.2.1 hF.2.2.2.2.1 (fun t ht hW => ⟨⟨u, rfl, hp, by show va_P D vwCl (wf u) t.heap; rw [ht, hw]; exact hB.1, by show va_D A (wf u); rw [hw]; exact hB.2.1⟩, hB.2.2.F ht⟩) hB.2.2.2.2 hdg
end ZRC

-- @dv8
theorem zdv_X1 : ∀ j, j < 5 → defaultValue (tyX1 j) = vp_V [.long 0, .long 0, .long 0, .long 0, .long 0] j := fun j hj => by
  rcases (show j = 0 ∨ j = 1 ∨ j = 2 ∨ j = 3 ∨ j = 4 by omega) with rfl | rfl | rfl | rfl | rfl <;> rfl
theorem zn_X0_26 : zNW RX0 26 1 RX1 TX1 5 tyX1 [.long 0, .long 0, .long 0, .long 0, .long 0] := ⟨rfl, inlX1, tyX1_ok, zdv_X1, ww_4_0, ww_1_15, ww_1_16⟩
-- @dv2
theorem zdv_X2 : ∀ j, j < 4 → defaultValue (tyX2 j) = vp_V [.int 0, .null, .null, .null] j := fun j hj => by
  rcases (show j = 0 ∨ j = 1 ∨ j = 2 ∨ j = 3 by omega) with rfl | rfl | rfl | rfl <;> rfl
theorem zn_X0_9 : zNW RX0 9 2 RX2 TX2 4 tyX2 [.int 0, .null, .null, .null] := ⟨rfl, inlX2, tyX2_ok, zdv_X2, ww_3_19, ww_1_10, ww_1_11⟩
theorem zn_X2_9 : zNW RX2 9 1 RX1 TX1 5 tyX1 [.long 0, .long 0, .long 0, .long 0, .long 0] := ⟨rfl, inlX1, tyX1_ok, zdv_X1, ww_2_18, ww_1_15, ww_1_16⟩
theorem zn_X4_22 : zNW RX4 22 1 RX1 TX1 5 tyX1 [.long 0, .long 0, .long 0, .long 0, .long 0] := ⟨rfl, inlX1, tyX1_ok, zdv_X1, ww_4_15, ww_1_15, ww_1_16⟩
theorem zn_X4_9 : zNW RX4 9 2 RX2 TX2 4 tyX2 [.int 0, .null, .null, .null] := ⟨rfl, inlX2, tyX2_ok, zdv_X2, ww_4_12, ww_1_10, ww_1_11⟩
theorem zn_X6_9 : zNW RX6 9 1 RX1 TX1 5 tyX1 [.long 0, .long 0, .long 0, .long 0, .long 0] := ⟨rfl, inlX1, tyX1_ok, zdv_X1, ww_5_0, ww_1_15, ww_1_16⟩
theorem zn_X7_16 : zNW RX7 16 1 RX1 TX1 5 tyX1 [.long 0, .long 0, .long 0, .long 0, .long 0] := ⟨rfl, inlX1, tyX1_ok, zdv_X1, ww_1_13, ww_1_15, ww_1_16⟩
-- @dv3
theorem zdv_X3 : ∀ j, j < 8 → defaultValue (tyX3 j) = vp_V [.int 0, .null, .null, .null, .null, .null, .int 0, .int 0] j := fun j hj => by
  rcases (show j = 0 ∨ j = 1 ∨ j = 2 ∨ j = 3 ∨ j = 4 ∨ j = 5 ∨ j = 6 ∨ j = 7 by omega) with rfl | rfl | rfl | rfl | rfl | rfl | rfl | rfl <;> rfl
theorem zn_X7_30 : zNW RX7 30 3 RX3 TX3 8 tyX3 [.int 0, .null, .null, .null, .null, .null, .int 0, .int 0] := ⟨rfl, inlX3, tyX3_ok, zdv_X3, ww_1_19, ww_1_20, ww_1_21⟩
-- @dv0
theorem zdv_X0 : ∀ j, j < 10 → defaultValue (tyX0 j) = vp_V [.null, .null, .null, .null, .null, .null, .null, .null, .null, .null] j := fun j hj => by
  rcases (show j = 0 ∨ j = 1 ∨ j = 2 ∨ j = 3 ∨ j = 4 ∨ j = 5 ∨ j = 6 ∨ j = 7 ∨ j = 8 ∨ j = 9 by omega) with rfl | rfl | rfl | rfl | rfl | rfl | rfl | rfl | rfl | rfl <;> rfl
theorem zn_X7_37 : zNW RX7 37 0 RX0 TX0 10 tyX0 [.null, .null, .null, .null, .null, .null, .null, .null, .null, .null] := ⟨rfl, inlX0, tyX0_ok, zdv_X0, ww_1_23, ww_2_0, ww_2_1⟩
-- @dv4
theorem zdv_X4 : ∀ j, j < 14 → defaultValue (tyX4 j) = vp_V [.null, .null, .int 0, .int 0, .int 0, .int 0, .null, .null, .null, .int 0, .null, .null, .long 0, .long 0] j := fun j hj => by
  rcases (show j = 0 ∨ j = 1 ∨ j = 2 ∨ j = 3 ∨ j = 4 ∨ j = 5 ∨ j = 6 ∨ j = 7 ∨ j = 8 ∨ j = 9 ∨ j = 10 ∨ j = 11 ∨ j = 12 ∨ j = 13 by omega) with rfl | rfl | rfl | rfl | rfl | rfl | rfl | rfl | rfl | rfl | rfl | rfl | rfl | rfl <;> rfl
theorem zn_X7_44 : zNW RX7 44 4 RX4 TX4 14 tyX4 [.null, .null, .int 0, .int 0, .int 0, .int 0, .null, .null, .null, .int 0, .null, .null, .long 0, .long 0] := ⟨rfl, inlX4, tyX4_ok, zdv_X4, ww_2_3, ww_2_4, ww_2_5⟩
-- @dv6
theorem zdv_X6 : ∀ j, j < 4 → defaultValue (tyX6 j) = vp_V [.int 0, .int 0, .null, .null] j := fun j hj => by
  rcases (show j = 0 ∨ j = 1 ∨ j = 2 ∨ j = 3 by omega) with rfl | rfl | rfl | rfl <;> rfl
theorem zn_X7_51 : zNW RX7 51 6 RX6 TX6 4 tyX6 [.int 0, .int 0, .null, .null] := ⟨rfl, inlX6, tyX6_ok, zdv_X6, ww_2_7, ww_2_8, ww_2_9⟩
-- @dv5
theorem zdv_X5 : ∀ j, j < 3 → defaultValue (tyX5 j) = vp_V [.null, .null, .int 0] j := fun j hj => by
  rcases (show j = 0 ∨ j = 1 ∨ j = 2 by omega) with rfl | rfl | rfl <;> rfl
theorem zn_X7_58 : zNW RX7 58 5 RX5 TX5 3 tyX5 [.null, .null, .int 0] := ⟨rfl, inlX5, tyX5_ok, zdv_X5, ww_2_11, ww_2_12, ww_2_13⟩
theorem zn_X7_7 : zNW RX7 7 2 RX2 TX2 4 tyX2 [.int 0, .null, .null, .null] := ⟨rfl, inlX2, tyX2_ok, zdv_X2, ww_1_9, ww_1_10, ww_1_11⟩
theorem zmi_X7_39 : zMI RX7 39 yX0_init cX0_init 3 := ⟨⟨zgood (List.forall_mem_cons.mpr ⟨ww_3_17, fun _ h => h⟩), ww_2_1, ww_3_15, ww_3_16, rfl⟩, by decide +kernel⟩
theorem zmn_X1 : zMN yX1_init cX1_init 1 := ⟨⟨zgood (List.forall_mem_cons.mpr ⟨ww_2_23, fun _ h => h⟩), ww_1_16, ww_2_22, rfl⟩, by decide +kernel⟩
theorem zmn_X2 : zMN yX2_init cX2_init 1 := ⟨⟨zgood (List.forall_mem_cons.mpr ⟨ww_2_16, fun _ h => h⟩), ww_1_11, ww_2_15, rfl⟩, by decide +kernel⟩
theorem zmi_X7_32 : zMI RX7 32 yX3_init cX3_init 2 := ⟨⟨zgood (List.forall_mem_cons.mpr ⟨ww_3_4, fun _ h => h⟩), ww_1_21, ww_3_2, ww_3_3, rfl⟩, by decide +kernel⟩
theorem zmi_X7_46 : zMI RX7 46 yX4_init cX4_init 2 := ⟨⟨zgood (List.forall_mem_cons.mpr ⟨ww_4_10, fun _ h => h⟩), ww_2_5, ww_4_8, ww_4_9, rfl⟩, by decide +kernel⟩
theorem zmi_X7_60 : zMI RX7 60 yX5_init cX5_init 2 := ⟨⟨zgood (List.forall_mem_cons.mpr ⟨ww_5_5, fun _ h => h⟩), ww_2_13, ww_5_3, ww_5_4, rfl⟩, by decide +kernel⟩
theorem zmn_X6 : zMN yX6_init cX6_init 1 := ⟨⟨zgood (List.forall_mem_cons.mpr ⟨ww_4_22, fun _ h => h⟩), ww_2_9, ww_4_21, rfl⟩, by decide +kernel⟩
theorem zo_X0_12 : zFF RX0 12 0 RX0 TX0 10 0 (.object "RotorBalancer$Ring") := ⟨zf_X0_12, rfl, rfl, by decide +kernel, ⟨tyX0, tyX0_ok⟩, nmX0⟩
theorem zo_X0_18 : zFF RX0 18 0 RX0 TX0 10 1 (.array .int) := ⟨zf_X0_18, rfl, rfl, by decide +kernel, ⟨tyX0, tyX0_ok⟩, nmX0⟩
theorem zo_X0_22 : zFF RX0 22 0 RX0 TX0 10 2 (.array .boolean) := ⟨zf_X0_22, rfl, rfl, by decide +kernel, ⟨tyX0, tyX0_ok⟩, nmX0⟩
theorem zo_X0_28 : zFF RX0 28 0 RX0 TX0 10 3 (.array (.object "RotorBalancer$Num")) := ⟨zf_X0_28, rfl, rfl, by decide +kernel, ⟨tyX0, tyX0_ok⟩, nmX0⟩
theorem zo_X0_32 : zFF RX0 32 0 RX0 TX0 10 4 (.array (.object "RotorBalancer$Num")) := ⟨zf_X0_32, rfl, rfl, by decide +kernel, ⟨tyX0, tyX0_ok⟩, nmX0⟩
theorem zo_X0_35 : zFF RX0 35 0 RX0 TX0 10 5 (.array (.object "RotorBalancer$Num")) := ⟨zf_X0_35, rfl, rfl, by decide +kernel, ⟨tyX0, tyX0_ok⟩, nmX0⟩
theorem zo_X0_39 : zFF RX0 39 0 RX0 TX0 10 6 (.object "RotorBalancer$Num") := ⟨zf_X0_39, rfl, rfl, by decide +kernel, ⟨tyX0, tyX0_ok⟩, nmX0⟩
theorem zo_X0_43 : zFF RX0 43 0 RX0 TX0 10 7 (.object "RotorBalancer$Num") := ⟨zf_X0_43, rfl, rfl, by decide +kernel, ⟨tyX0, tyX0_ok⟩, nmX0⟩
theorem zo_X0_46 : zFF RX0 46 0 RX0 TX0 10 8 (.object "RotorBalancer$Num") := ⟨zf_X0_46, rfl, rfl, by decide +kernel, ⟨tyX0, tyX0_ok⟩, nmX0⟩
theorem zo_X0_49 : zFF RX0 49 0 RX0 TX0 10 9 (.object "RotorBalancer$Num") := ⟨zf_X0_49, rfl, rfl, by decide +kernel, ⟨tyX0, tyX0_ok⟩, nmX0⟩
theorem zo_X2_12 : zFF RX2 12 2 RX2 TX2 4 1 (.object "RotorBalancer$Num") := ⟨zf_X2_12, rfl, rfl, by decide +kernel, ⟨tyX2, tyX2_ok⟩, nmX2⟩
theorem zo_X2_18 : zFF RX2 18 2 RX2 TX2 4 2 (.object "RotorBalancer$Num") := ⟨zf_X2_18, rfl, rfl, by decide +kernel, ⟨tyX2, tyX2_ok⟩, nmX2⟩
theorem zo_X2_21 : zFF RX2 21 2 RX2 TX2 4 3 (.object "RotorBalancer$Num") := ⟨zf_X2_21, rfl, rfl, by decide +kernel, ⟨tyX2, tyX2_ok⟩, nmX2⟩
theorem zo_X3_15 : zFF RX3 15 3 RX3 TX3 8 1 (.array .int) := ⟨zf_X3_15, rfl, rfl, by decide +kernel, ⟨tyX3, tyX3_ok⟩, nmX3⟩
theorem zo_X3_19 : zFF RX3 19 3 RX3 TX3 8 2 (.array .int) := ⟨zf_X3_19, rfl, rfl, by decide +kernel, ⟨tyX3, tyX3_ok⟩, nmX3⟩
theorem zo_X3_22 : zFF RX3 22 3 RX3 TX3 8 3 (.array .int) := ⟨zf_X3_22, rfl, rfl, by decide +kernel, ⟨tyX3, tyX3_ok⟩, nmX3⟩
theorem zo_X3_25 : zFF RX3 25 3 RX3 TX3 8 4 (.array .int) := ⟨zf_X3_25, rfl, rfl, by decide +kernel, ⟨tyX3, tyX3_ok⟩, nmX3⟩
theorem zo_X3_28 : zFF RX3 28 3 RX3 TX3 8 5 (.array .int) := ⟨zf_X3_28, rfl, rfl, by decide +kernel, ⟨tyX3, tyX3_ok⟩, nmX3⟩
theorem zo_X4_12 : zFF RX4 12 4 RX4 TX4 14 0 (.object "RotorBalancer$Ring") := ⟨zf_X4_12, rfl, rfl, by decide +kernel, ⟨tyX4, tyX4_ok⟩, nmX4⟩
theorem zo_X4_18 : zFF RX4 18 4 RX4 TX4 14 1 (.array .int) := ⟨zf_X4_18, rfl, rfl, by decide +kernel, ⟨tyX4, tyX4_ok⟩, nmX4⟩
theorem zo_X4_24 : zFF RX4 24 4 RX4 TX4 14 6 (.array (.object "RotorBalancer$Num")) := ⟨zf_X4_24, rfl, rfl, by decide +kernel, ⟨tyX4, tyX4_ok⟩, nmX4⟩
theorem zo_X4_28 : zFF RX4 28 4 RX4 TX4 14 7 (.array .int) := ⟨zf_X4_28, rfl, rfl, by decide +kernel, ⟨tyX4, tyX4_ok⟩, nmX4⟩
theorem zo_X4_31 : zFF RX4 31 4 RX4 TX4 14 8 (.array .int) := ⟨zf_X4_31, rfl, rfl, by decide +kernel, ⟨tyX4, tyX4_ok⟩, nmX4⟩
theorem zo_X4_34 : zFF RX4 34 4 RX4 TX4 14 10 (.array .int) := ⟨zf_X4_34, rfl, rfl, by decide +kernel, ⟨tyX4, tyX4_ok⟩, nmX4⟩
theorem zo_X4_37 : zFF RX4 37 4 RX4 TX4 14 11 (.array .int) := ⟨zf_X4_37, rfl, rfl, by decide +kernel, ⟨tyX4, tyX4_ok⟩, nmX4⟩
theorem zo_X5_11 : zFF RX5 11 5 RX5 TX5 3 0 (.array (.array .long)) := ⟨zf_X5_11, rfl, rfl, by decide +kernel, ⟨tyX5, tyX5_ok⟩, nmX5⟩
theorem zo_X5_16 : zFF RX5 16 5 RX5 TX5 3 1 (.array .int) := ⟨zf_X5_16, rfl, rfl, by decide +kernel, ⟨tyX5, tyX5_ok⟩, nmX5⟩
theorem zo_X6_12 : zFF RX6 12 6 RX6 TX6 4 2 (.object "RotorBalancer$Num") := ⟨zf_X6_12, rfl, rfl, by decide +kernel, ⟨tyX6, tyX6_ok⟩, nmX6⟩
theorem zo_X6_18 : zFF RX6 18 6 RX6 TX6 4 3 (.object "RotorBalancer$Num") := ⟨zf_X6_18, rfl, rfl, by decide +kernel, ⟨tyX6, tyX6_ok⟩, nmX6⟩
theorem zo_X7_10 : zFF RX7 10 7 RX7 TX7 9 0 (.object "RotorBalancer$Ring") := ⟨zf_X7_10, rfl, rfl, by decide +kernel, ⟨tyX7, tyX7_ok⟩, nmX7⟩
theorem zo_X7_18 : zFF RX7 18 7 RX7 TX7 9 1 (.array (.object "RotorBalancer$Num")) := ⟨zf_X7_18, rfl, rfl, by decide +kernel, ⟨tyX7, tyX7_ok⟩, nmX7⟩
theorem zo_X7_23 : zFF RX7 23 7 RX7 TX7 9 2 (.object "RotorBalancer$Num") := ⟨zf_X7_23, rfl, rfl, by decide +kernel, ⟨tyX7, tyX7_ok⟩, nmX7⟩
theorem zo_X7_27 : zFF RX7 27 7 RX7 TX7 9 3 (.object "RotorBalancer$Num") := ⟨zf_X7_27, rfl, rfl, by decide +kernel, ⟨tyX7, tyX7_ok⟩, nmX7⟩
theorem zo_X7_33 : zFF RX7 33 7 RX7 TX7 9 4 (.object "RotorBalancer$Rotor") := ⟨zf_X7_33, rfl, rfl, by decide +kernel, ⟨tyX7, tyX7_ok⟩, nmX7⟩
theorem zo_X7_40 : zFF RX7 40 7 RX7 TX7 9 5 (.object "RotorBalancer$Bearings") := ⟨zf_X7_40, rfl, rfl, by decide +kernel, ⟨tyX7, tyX7_ok⟩, nmX7⟩
theorem zo_X7_47 : zFF RX7 47 7 RX7 TX7 9 6 (.object "RotorBalancer$Search") := ⟨zf_X7_47, rfl, rfl, by decide +kernel, ⟨tyX7, tyX7_ok⟩, nmX7⟩
theorem zo_X7_54 : zFF RX7 54 7 RX7 TX7 9 7 (.object "RotorBalancer$Splitter") := ⟨zf_X7_54, rfl, rfl, by decide +kernel, ⟨tyX7, tyX7_ok⟩, nmX7⟩
theorem zo_X7_61 : zFF RX7 61 7 RX7 TX7 9 8 (.object "RotorBalancer$Sheets") := ⟨zf_X7_61, rfl, rfl, by decide +kernel, ⟨tyX7, tyX7_ok⟩, nmX7⟩
