/-! my own layer: one environment, one world, a call in one row -/
abbrev zTy (ka : Nat → ClassId) : List (ClassId × FieldType) := [(ka 0, .int), (ka 1, .long), (ka 2, .boolean), (ka 3, .object "RotorBalancer$Num"), (ka 4, .array .long)]
def zways : List Int32 := [2, 0, 0, 0, 0, 1, 1, 0, 1, 0, 0, 1, 0, 0, 2, 0, -1, 0, 0, 1, 0, -1, 1, 0, -2, 0, 0, 0, 0, -1, -1, 0, -1, 0, 0, -1, 0, 0, -2, 0, 1, 0, 0, -1, 0, 1, -1, 0]
def zNs (U : State) : Prop :=
  va_Nw (.methodLinkNest "RotorBalancer" 9 yX2_init "RotorBalancer") U ∧ va_Nw (.methodLinkNest "RotorBalancer" 22 yX1_init "RotorBalancer") U ∧ va_Nw (.methodLinkNest "RotorBalancer" 53 yX6_init "RotorBalancer") U ∧
  va_Nw (.methodLinkNest "RotorBalancer$Bearings" 11 yX2_init "RotorBalancer") U ∧ va_Nw (.methodLinkNest "RotorBalancer$Bearings" 38 yX1_init "RotorBalancer") U ∧ va_Nw (.methodLinkNest "RotorBalancer$Ring" 11 yX1_init "RotorBalancer") U ∧
  va_Nw (.methodLinkNest "RotorBalancer$Search" 11 yX2_init "RotorBalancer") U ∧ va_Nw (.methodLinkNest "RotorBalancer$Search" 40 yX1_init "RotorBalancer") U ∧ va_Nw (.methodLinkNest "RotorBalancer$Splitter" 11 yX1_init "RotorBalancer") U ∧
  va_Nw (.fieldLinkNest "RotorBalancer$Num" 33 "RotorBalancer" "WAYS" "[I" "RotorBalancer") U ∧ True ∧
  va_AO "RotorBalancer$Num" U ∧ va_AOA .long U
theorem zAOA_moved {ty : FieldType} {U U' : State} (hal : U.vm.Alike U'.vm) (h : va_AOA ty U) : va_AOA ty U' := by
  unfold va_AOA at h ⊢
  simp only [Cond.before, Cond.holds, Cond.value] at h ⊢
  rw [hal.findClass]
  cases hf : U.vm.findClass (FieldType.array ty).toString with
  | none => rw [hf] at h; simp at h
  | some comp =>
    rw [hf] at h
    simp only [Option.bind_some] at h ⊢
    rw [hal.findIdx_congr _ (fun _ _ _ _ => rfl)]
    generalize hF : (U.vm.classes.findIdx? fun (x : Class) => match x.kind with | .array component _ => component == comp | _ => false) = fi at h ⊢
    cases fi with
    | none => simp at h
    | some c =>
      simp only [Option.bind_some] at h ⊢
      cases hk : U.vm.classes[c]? with
      | none => rw [hk] at h; simp at h
      | some k =>
        obtain ⟨k', hk', ek⟩ := hal.2.2 _ _ hk
        rw [hk] at h
        rw [hk', hal.findClass]
        have ekind : k'.kind = k.kind := by rw [ek]
        simp only [Option.map_some] at h ⊢
        rw [ekind]
        exact h
theorem zNs.warm {s U : State} (hW : s.WarmedH U.vm) (h : zNs s) : zNs U := by
  obtain ⟨a1, a2, a3, a4, a5, a6, a7, a8, a9, b1, b2, c1, c2⟩ := h
  exact ⟨a1.warmM hW, a2.warmM hW, a3.warmM hW, a4.warmM hW, a5.warmM hW, a6.warmM hW, a7.warmM hW, a8.warmM hW, a9.warmM hW, b1.warmF hW, trivial, c1.moved hW.alike, zAOA_moved hW.alike c2⟩
theorem zNs.same {u U : State} (h : u.vm = U.vm) (k : zNs u) : zNs U := by
  obtain ⟨a1, a2, a3, a4, a5, a6, a7, a8, a9, b1, b2, c1, c2⟩ := k
  have hal : u.vm.Alike U.vm := by rw [h]; exact Vm.Alike.refl U.vm
  exact ⟨a1.same rfl h, a2.same rfl h, a3.same rfl h, a4.same rfl h, a5.same rfl h, a6.same rfl h, a7.same rfl h, a8.same rfl h, a9.same rfl h, b1.same rfl h, trivial, c1.moved hal, zAOA_moved hal c2⟩
def zE (kb : Nat → Nat) (A : Nat → Prop) (U : State) (H : Heap) : Prop :=
  zNs U ∧ va_Z "RotorBalancer" "WAYS" "[I" (.ref (kb 0)) A U H ∧ va_T .int (kb 0) 48 (fun j => .int (zways.getD j 0)) A U H ∧ (va_X (kb 1) (kb 2) (fun j => nI (kb (3 + j))) U H ∧ kb 1 < H.size ∧ ¬ A (kb 1))
theorem zE.at_call {kb : Nat → Nat} {A B : Nat → Prop} {s U : State} {H : Heap} {locs : List Loc} (h : zE kb A s s.heap) (hS : va_S A s.heap H locs) (hB : ∀ q, B q → A q) (hW : s.WarmedH U.vm) : zE kb B U H :=
  ⟨h.1.warm hW, ((h.2.1.kept hS.2.1).narrow hB).moved hW.alike, ((h.2.2.1.kept hS.2.1).narrow hB).moved hW.alike, ((h.2.2.2.1.kept (hS.2.1 _ h.2.2.2.2.1 h.2.2.2.2.2)).moved hW.alike), Nat.lt_of_lt_of_le h.2.2.2.2.1 hS.1, fun hq => h.2.2.2.2.2 (hB _ hq)⟩
def zPre (D : va_G) (ka : Nat → ClassId) (kb : Nat → Nat) (ws : va_W) (sz : Nat) (U : State) : Prop := U.heap.size = sz ∧ va_P D vwCl ws U.heap ∧ va_K D vwCl (zTy ka) U ∧ va_D (fun _ => True) ws ∧ zE kb (va_A ws sz) U U.heap
theorem zPre.blind {D : va_G} {ka : Nat → ClassId} {kb : Nat → Nat} {ws : va_W} {sz : Nat} {av : List Value} : FrameBlind (va_Pc av (zPre D ka kb ws sz)) := fun a U g mk q => by
  obtain ⟨q0, q1, qP, qK, qD, e1, e2, e3, e4, e5⟩ := q
  have hal : U.vm.Alike (U.calling g mk a).vm := Vm.Alike.refl U.vm
  exact ⟨q0, q1, qP, va_K.moved (u := U) (U := U.calling g mk a) hal qK, qD, e1.same rfl, e2.moved (U := U.calling g mk a) hal, e3.moved (U := U.calling g mk a) hal, e4.moved (U := U.calling g mk a) hal, e5⟩
/-- what a walk has at hand all the time -/
def zF (p : Program) (s : State) (m : MethodId) (args : Array Value) (meth : Method) (c : Code) (D : va_G) (ka : Nat → ClassId) (kb : Nat → Nat) (A : Nat → Prop) (cc : ByteArray) (own : String) (nL : Nat) (ret : Option FieldType) : Prop :=
  CallFix p m c cc nL s args wsL_law own ∧ va_K D vwCl (zTy ka) s ∧ zE kb A s s.heap ∧ (∀ q, s.heap.size ≤ q → A q) ∧ meth.sig.returnType = ret ∧ meth.locks = false
/-- the world at a point of a walk -/
def zB (D : va_G) (A : Nat → Prop) (s : State) (ws : va_W) (H : Heap) (locs : List Loc) : Prop := va_P D vwCl ws H ∧ va_D A ws ∧ va_S A s.heap H locs
def zWs (y : MethodName) (cc : ByteArray) (nL : Nat) (ret : Option FieldType) : List Cond := Cond.code y cc nL ret :: wsL_law
def zRm (fr lo mc ms : Nat) : Room := { frames := fr, cells := mc, slots := ms, locals := lo }
/-- the contracts: an answer of int kind, a long, a reference, none; none with new cells -/
def zI {S : Type} (l : Launch) (D : va_G) (ka : Nat → ClassId) (kb : Nat → Nat) (y : MethodName) (cc : ByteArray) (nL : Nat) (ty : FieldType) (fr lo : Nat) (av : List Value) (ws : va_W) (post : Int32 → S → Prop) (wf : S → va_W) : Prop :=
  ∀ sz : Nat, Met l y (zWs y cc nL (some ty)) (zRm fr lo 0 0) (va_Pc av (zPre D ka kb ws sz)) (va_Qi post (fun u t => va_P D vwCl (wf u) t.heap) (va_A ws sz)) 0 0 (va_A ws sz)
def zL {S : Type} (l : Launch) (D : va_G) (ka : Nat → ClassId) (kb : Nat → Nat) (y : MethodName) (cc : ByteArray) (nL : Nat) (fr lo : Nat) (av : List Value) (ws : va_W) (post : Int64 → S → Prop) (wf : S → va_W) : Prop :=
  ∀ sz : Nat, Met l y (zWs y cc nL (some .long)) (zRm fr lo 0 0) (va_Pc av (zPre D ka kb ws sz)) (va_Ql post (fun u t => va_P D vwCl (wf u) t.heap) (va_A ws sz)) 0 0 (va_A ws sz)
def zR {S : Type} (l : Launch) (D : va_G) (ka : Nat → ClassId) (kb : Nat → Nat) (y : MethodName) (cc : ByteArray) (nL : Nat) (ty : FieldType) (fr lo : Nat) (av : List Value) (ws : va_W) (post : S → Prop) (ad : S → Nat) (wf : S → va_W) : Prop :=
  ∀ sz : Nat, Met l y (zWs y cc nL (some ty)) (zRm fr lo 0 0) (va_Pc av (zPre D ka kb ws sz)) (va_Qr post (fun u a t => a = ad u ∧ va_P D vwCl (wf u) t.heap) (va_A ws sz)) 0 0 (va_A ws sz)
def zV {S : Type} (l : Launch) (D : va_G) (ka : Nat → ClassId) (kb : Nat → Nat) (y : MethodName) (cc : ByteArray) (nL : Nat) (fr lo : Nat) (av : List Value) (ws : va_W) (post : S → Prop) (wf : S → va_W) : Prop :=
  ∀ sz : Nat, Met l y (zWs y cc nL none) (zRm fr lo 0 0) (va_Pc av (zPre D ka kb ws sz)) (va_Qv post (fun u t => va_P D vwCl (wf u) t.heap) (va_A ws sz)) 0 0 (va_A ws sz)
def zC {S : Type} (l : Launch) (D : va_G) (ka : Nat → ClassId) (kb : Nat → Nat) (y : MethodName) (cc : ByteArray) (nL : Nat) (fr lo mc ms : Nat) (av : List Value) (ws : va_W) (post : S → Prop) (wf : S → va_W) : Prop :=
  ∀ sz : Nat, Met l y (zWs y cc nL none) (zRm fr lo mc ms) (va_Pc av (zPre D ka kb ws sz)) (va_Qv post (fun u t => va_P D vwCl (wf u) t.heap ∧ va_D (va_A ws sz) (wf u)) (va_A ws sz)) mc ms (va_A ws sz)
section ZMK
variable {S : Type} {l : Launch} {D : va_G} {ka : Nat → ClassId} {kb : Nat → Nat} {y : MethodName} {cc : ByteArray} {nL : Nat} {ty : FieldType} {fr lo : Nat} {av : List Value} {ws : va_W} {own : String}
theorem zEnter {p : Program} {e : Env} {s : State} {m : MethodId} {args : Array Value} {below : List Frame} {meth : Method} {c : Code} {s₁ : State} {ret : Option FieldType} {rm : Room} {sz : Nat} (hown : y.cls = own) (hn : (lg_sl av).length ≤ nL)
    (B : BodyLoose p l y (headSpec (zWs y cc nL ret) rm) cc nL ret e s m args below meth c s₁) (hml : c.maxLocals = nL) (hv : va_Pc av (zPre D ka kb ws sz) args s) :
    args = av.toArray ∧ s.heap.size = sz ∧ zF p s m args meth c D ka kb (va_A ws sz) cc own nL ret ∧ zB D (va_A ws sz) s ws s.heap [] ∧ ∃ ls : Array Slot, lv_has ls nL (lv_args 0 av) ∧ entryFrame m args nL = F0 m 0 ls [] := by
  obtain ⟨rfl, hsz, hP, hK, hD0, hE⟩ := hv
  subst hsz
  have hts := atoms_spec (ws := zWs y cc nL ret) B.pre
  refine ⟨rfl, rfl, ⟨⟨B.exec, B.bytes, hml, by rw [← hown]; exact findClass_of_methodNamed B.named, fun w h => hts w (List.mem_cons_of_mem _ h)⟩, hK, hE, fun q h => Or.inr h, B.returns, B.notSynchronized⟩, ⟨hP, hD0.self, va_S.rf⟩, _, lv_entry av hn, lg_entry_eq m av nL⟩
theorem zI.mk {post : Int32 → S → Prop} {wf : S → va_W} (own : String) (hy : plainName y.cls = true) (hown : y.cls = own) (hn : (lg_sl av).length ≤ nL)
    (body : ∀ (p : Program) (e : Env) (s : State) (m : MethodId) (below : List Frame) (meth : Method) (c : Code) (A : Nat → Prop) (ls : Array Slot) (args : Array Value) (Q : State → Prop), Q = MQ below (va_Qi post (fun u t => va_P D vwCl (wf u) t.heap) A) args s 0 0 A → p.tables.exec = Jvm.exec → c.code = cc → zF p s m args meth c D ka kb A cc own nL (some ty) → zB D A s ws s.heap [] → lv_has ls nL (lv_args 0 av) →
      W p l e (zRm fr lo 0 0) s m args below meth c s.heap [] 0 0 Q (F0 m 0 ls [])) : zI l D ka kb y cc nL ty fr lo av ws post wf := by
  intro sz
  refine Met.ofW (cc := cc) (maxL := nL) (ret := some ty) hy rfl ?_
  intro p e s m args below meth c s₁ B hml hv
  obtain ⟨rfl, rfl, hF, hB, ls, hl, he⟩ := zEnter (own := own) hown hn B hml hv
  rw [he]
  exact body p e s m below meth c _ ls _ _ rfl hF.1.1 hF.1.2.1 hF hB hl
theorem zL.mk {post : Int64 → S → Prop} {wf : S → va_W} (own : String) (hy : plainName y.cls = true) (hown : y.cls = own) (hn : (lg_sl av).length ≤ nL)
    (body : ∀ (p : Program) (e : Env) (s : State) (m : MethodId) (below : List Frame) (meth : Method) (c : Code) (A : Nat → Prop) (ls : Array Slot) (args : Array Value) (Q : State → Prop), Q = MQ below (va_Ql post (fun u t => va_P D vwCl (wf u) t.heap) A) args s 0 0 A → p.tables.exec = Jvm.exec → c.code = cc → zF p s m args meth c D ka kb A cc own nL (some .long) → zB D A s ws s.heap [] → lv_has ls nL (lv_args 0 av) →
      W p l e (zRm fr lo 0 0) s m args below meth c s.heap [] 0 0 Q (F0 m 0 ls [])) : zL l D ka kb y cc nL fr lo av ws post wf := by
  intro sz
  refine Met.ofW (cc := cc) (maxL := nL) (ret := some .long) hy rfl ?_
  intro p e s m args below meth c s₁ B hml hv
  obtain ⟨rfl, rfl, hF, hB, ls, hl, he⟩ := zEnter (own := own) hown hn B hml hv
  rw [he]
  exact body p e s m below meth c _ ls _ _ rfl hF.1.1 hF.1.2.1 hF hB hl
theorem zR.mk {post : S → Prop} {ad : S → Nat} {wf : S → va_W} (own : String) (hy : plainName y.cls = true) (hown : y.cls = own) (hn : (lg_sl av).length ≤ nL)
    (body : ∀ (p : Program) (e : Env) (s : State) (m : MethodId) (below : List Frame) (meth : Method) (c : Code) (A : Nat → Prop) (ls : Array Slot) (args : Array Value) (Q : State → Prop), Q = MQ below (va_Qr post (fun u a t => a = ad u ∧ va_P D vwCl (wf u) t.heap) A) args s 0 0 A → p.tables.exec = Jvm.exec → c.code = cc → zF p s m args meth c D ka kb A cc own nL (some ty) → zB D A s ws s.heap [] → lv_has ls nL (lv_args 0 av) →
      W p l e (zRm fr lo 0 0) s m args below meth c s.heap [] 0 0 Q (F0 m 0 ls [])) : zR l D ka kb y cc nL ty fr lo av ws post ad wf := by
  intro sz
  refine Met.ofW (cc := cc) (maxL := nL) (ret := some ty) hy rfl ?_
  intro p e s m args below meth c s₁ B hml hv
  obtain ⟨rfl, rfl, hF, hB, ls, hl, he⟩ := zEnter (own := own) hown hn B hml hv
  rw [he]
  exact body p e s m below meth c _ ls _ _ rfl hF.1.1 hF.1.2.1 hF hB hl
theorem zV.mk {post : S → Prop} {wf : S → va_W} (own : String) (hy : plainName y.cls = true) (hown : y.cls = own) (hn : (lg_sl av).length ≤ nL)
    (body : ∀ (p : Program) (e : Env) (s : State) (m : MethodId) (below : List Frame) (meth : Method) (c : Code) (A : Nat → Prop) (ls : Array Slot) (args : Array Value) (Q : State → Prop), Q = MQ below (va_Qv post (fun u t => va_P D vwCl (wf u) t.heap) A) args s 0 0 A → p.tables.exec = Jvm.exec → c.code = cc → zF p s m args meth c D ka kb A cc own nL none → zB D A s ws s.heap [] → lv_has ls nL (lv_args 0 av) →
      W p l e (zRm fr lo 0 0) s m args below meth c s.heap [] 0 0 Q (F0 m 0 ls [])) : zV l D ka kb y cc nL fr lo av ws post wf := by
  intro sz
  refine Met.ofW (cc := cc) (maxL := nL) (ret := none) hy rfl ?_
  intro p e s m args below meth c s₁ B hml hv
  obtain ⟨rfl, rfl, hF, hB, ls, hl, he⟩ := zEnter (own := own) hown hn B hml hv
  rw [he]
  exact body p e s m below meth c _ ls _ _ rfl hF.1.1 hF.1.2.1 hF hB hl
theorem zC.mk {post : S → Prop} {wf : S → va_W} {mc ms : Nat} (own : String) (hy : plainName y.cls = true) (hown : y.cls = own) (hn : (lg_sl av).length ≤ nL)
    (body : ∀ (p : Program) (e : Env) (s : State) (m : MethodId) (below : List Frame) (meth : Method) (c : Code) (A : Nat → Prop) (ls : Array Slot) (args : Array Value) (Q : State → Prop), Q = MQ below (va_Qv post (fun u t => va_P D vwCl (wf u) t.heap ∧ va_D A (wf u)) A) args s mc ms A → p.tables.exec = Jvm.exec → c.code = cc → zF p s m args meth c D ka kb A cc own nL none → zB D A s ws s.heap [] → lv_has ls nL (lv_args 0 av) → meth.name = y.name →
      W p l e (zRm fr lo mc ms) s m args below meth c s.heap [] 0 0 Q (F0 m 0 ls [])) : zC l D ka kb y cc nL fr lo mc ms av ws post wf := by
  intro sz
  refine Met.ofW (cc := cc) (maxL := nL) (ret := none) hy rfl ?_
  intro p e s m args below meth c s₁ B hml hv
  obtain ⟨rfl, rfl, hF, hB, ls, hl, he⟩ := zEnter (own := own) hown hn B hml hv
  rw [he]
  exact body p e s m below meth c _ ls _ _ rfl hF.1.1 hF.1.2.1 hF hB hl (name_of_methodNamed B.named B.method).1
end ZMK
/-! cells put in their places -/
def zput : va_W → List Nat → va_W → va_W
  | ws, i :: is, c :: cs => zput (ws.set i c) is cs
  | ws, _, _ => ws
theorem zput_get : ∀ (is : List Nat) (cs ws : va_W), is.length = cs.length → ∀ (k : Nat) (q : Nat × va_E), (zput ws is cs)[k]? = some q → q ∈ cs ∨ (k ∉ is ∧ ws[k]? = some q)
  | [], cs, ws, _, k, q, h => by
    refine Or.inr ⟨List.not_mem_nil, ?_⟩
    unfold zput at h
    exact h
  | i :: is, [], ws, hl, _, _, _ => by simp at hl
  | i :: is, c :: cs, ws, hl, k, q, h => by
    have h1 : (zput (ws.set i c) is cs)[k]? = some q := h
    rcases zput_get is cs (ws.set i c) (by simpa using hl) k q h1 with h2 | ⟨h2, h3⟩
    · exact Or.inl (List.mem_cons_of_mem _ h2)
    · rw [List.getElem?_set] at h3
      by_cases e : i = k
      · rw [if_pos e] at h3
        split at h3
        · cases h3
          exact Or.inl List.mem_cons_self
        · cases h3
      · rw [if_neg e] at h3
        exact Or.inr ⟨fun h9 => by rcases List.mem_cons.mp h9 with h9 | h9; exact e h9.symm; exact h2 h9, h3⟩
theorem zput_ads : ∀ (is : List Nat) (cs ws : va_W), (∀ (j i : Nat) (c : Nat × va_E), is[j]? = some i → cs[j]? = some c → (ws.map (·.1))[i]? = some c.1) → (zput ws is cs).map (·.1) = ws.map (·.1)
  | [], cs, ws, _ => by unfold zput; rfl
  | i :: is, [], ws, _ => by unfold zput; rfl
  | i :: is, c :: cs, ws, h => by
    have e : (ws.set i c).map (·.1) = ws.map (·.1) := by
      rw [List.map_set]
      have h0 := h 0 i c rfl rfl
      apply List.ext_getElem?
      intro j
      rw [List.getElem?_set]
      by_cases e : i = j
      · subst e
        rw [if_pos rfl, h0]
        have hlt : i < (ws.map (·.1)).length := (List.getElem?_eq_some_iff.mp h0).1
        rw [if_pos hlt]
      · rw [if_neg e]
    have h2 := zput_ads is cs (ws.set i c) (fun j i' c' h3 h4 => by rw [e]; exact h (j + 1) i' c' h3 h4)
    exact h2.trans e
theorem zD_of {A : Nat → Prop} {ws ws' : va_W} (h : ws'.map (·.1) = ws.map (·.1)) (hD : va_D A ws) : va_D A ws' := by
  have key : ∀ (i : Nat) (p : Nat × va_E), ws'[i]? = some p → ∃ p', ws[i]? = some p' ∧ p'.1 = p.1 := by
    intro i p hp
    have h1 : (ws'.map (·.1))[i]? = some p.1 := by rw [List.getElem?_map, hp]; rfl
    rw [h, List.getElem?_map] at h1
    cases hw : ws[i]? with
    | none => rw [hw] at h1; cases h1
    | some p' => rw [hw] at h1; exact ⟨p', rfl, Option.some.inj h1⟩
  refine ⟨fun i j p q hi hj hpq => ?_, fun k q hk => ?_⟩
  · obtain ⟨p', h1, h2⟩ := key i p hi
    obtain ⟨q', h3, h4⟩ := key j q hj
    exact hD.1 i j p' q' h1 h3 (by rw [h2, h4]; exact hpq)
  · obtain ⟨q', h1, h2⟩ := key k q hk
    rw [← h2]
    exact hD.2 k q' h1
theorem zsel {ws wc : va_W} {is : List Nat} (hs : is.map (fun i => ws[i]?) = wc.map some) (k : Nat) (q : Nat × va_E) (hq : wc[k]? = some q) : ∃ i, is[k]? = some i ∧ ws[i]? = some q := by
  have h1 : (is.map (fun i => ws[i]?))[k]? = some (some q) := by rw [hs, List.getElem?_map, hq]; rfl
  rw [List.getElem?_map] at h1
  cases hi : is[k]? with
  | none => rw [hi] at h1; cases h1
  | some i => rw [hi] at h1; exact ⟨i, rfl, Option.some.inj h1⟩
theorem zjoin {A0 : Nat → Prop} {D : va_G} {cl : List vw_C} {ws wc w1 : va_W} {H H1 : Heap} (hP : va_P D cl ws H) (hD : va_D A0 ws) (isC : List Nat) (hC : isC.map (fun i => ws[i]?) = wc.map some) (ha : w1.map (·.1) = wc.map (·.1))
    (hk : ∀ q : Nat, q < H.size → ¬ va_A wc H.size q → H1[q]? = H[q]?) (hP1 : va_P D cl w1 H1) : va_P D cl (zput ws isC w1) H1 ∧ va_D A0 (zput ws isC w1) := by
  have hlen : isC.length = w1.length := by
    have e1 := congrArg List.length hC
    have e2 := congrArg List.length ha
    simp only [List.length_map] at e1 e2
    omega
  refine ⟨fun k q hq => ?_, zD_of (zput_ads isC w1 ws (fun j i c h1 h2 => ?_)) hD⟩
  · rcases zput_get isC w1 ws hlen k q hq with h | ⟨h1, h2⟩
    · obtain ⟨j, hj⟩ := List.mem_iff_getElem?.mp h
      exact hP1 j q hj
    · have hl := (hP k q h2).lt
      refine (hP k q h2).kept (hk q.1 hl fun h9 => ?_)
      rcases h9 with ⟨k2, e, h9⟩ | h9
      · obtain ⟨i, h3, h4⟩ := zsel hC k2 (q.1, e) h9
        have hij := hD.1 k i q (q.1, e) h2 h4 rfl
        subst hij
        exact h1 (List.mem_of_getElem? h3)
      · omega
  · have h3 : (w1.map (·.1))[j]? = some c.1 := by rw [List.getElem?_map, h2]; rfl
    rw [ha, List.getElem?_map] at h3
    cases hw : wc[j]? with
    | none => rw [hw] at h3; cases h3
    | some c' =>
      rw [hw] at h3
      obtain ⟨i', h4, h5⟩ := zsel hC j c' hw
      rw [h1] at h4
      cases h4
      rw [List.getElem?_map, h5]
      exact h3
theorem zPsub {D : va_G} {cl : List vw_C} {ws wc : va_W} {H : Heap} (hP : va_P D cl ws H) (isC : List Nat) (hC : isC.map (fun i => ws[i]?) = wc.map some) : va_P D cl wc H := fun k q hq => by
  obtain ⟨i, -, h⟩ := zsel hC k q hq
  exact hP i q h

