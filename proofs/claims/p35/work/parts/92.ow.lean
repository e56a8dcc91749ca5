/-- the rows of the sheets -/
def nB (bd : Nat → Nat) : Nat → Option Nat := fun j => some (bd (26 + j))
abbrev JT : Type := (Nat → Int32) × Int32 × Bool × Bool × Bool × Int32 × Int32 × Int32 × Int32 × bT × (Nat → Int32) × (Nat → Int32) × (Nat → Int32) × Int32 × Int32 × (Nat → Nat → Int64)
abbrev ST : Type := Nat × (Nat → Int32) × (Nat → Int32) × (Nat → Int32) × (Nat → Int32) × (Nat → Int32) × Int32 × Int32 × (Nat → Bool) × (Nat → Int32) × (Nat → N5) × JT
abbrev jbb (j : JT) : bT := j.2.2.2.2.2.2.2.2.2.1
def OF (ka : Nat → ClassId) (bd na : Nat → Nat) (v : ST) : va_W := [((bd 31), .inr (7, [.ref (bd 0), .ref (bd 1), .ref (na 6), .ref (na 7), .ref (bd 2), .ref (bd 3), .ref (bd 4), .ref (bd 5), .ref (bd 6)])), ((bd 0), .inr (2, [.int (bI v.2.2.2.2.2.2.2.2.2.2.2.2.2.1), .ref (na 25), .ref (na 26), .ref (na 27)])), ((bd 1), .inl (ka 3, 6, .inr (.inr (.inr (.inr (nR na 0)))))), ((bd 2), .inr (3, [.int (nI v.1), .ref (bd 7), .ref (bd 8), .ref (bd 9), .ref (bd 10), .ref (bd 11), .int v.2.2.2.2.2.2.1, .int v.2.2.2.2.2.2.2.1])), ((bd 7), .inl (ka 0, 8, .inl v.2.1)), ((bd 8), .inl (ka 0, 8, .inl v.2.2.1)), ((bd 9), .inl (ka 0, 8, .inl v.2.2.2.1)), ((bd 10), .inl (ka 0, 24, .inl v.2.2.2.2.1)), ((bd 11), .inl (ka 0, 2, .inl v.2.2.2.2.2.1)), ((bd 3), .inr (0, [.ref (bd 12), .ref (bd 13), .ref (bd 14), .ref (bd 15), .ref (bd 16), .ref (bd 17), .ref (na 21), .ref (na 22), .ref (na 23), .ref (na 24)])), ((bd 12), .inr (2, [.int (bI v.2.2.2.2.2.2.2.2.2.2.2.2.2.2.1), .ref (na 28), .ref (na 29), .ref (na 30)])), ((bd 13), .inl (ka 0, 8, .inl v.2.2.2.2.2.2.2.2.2.1)), ((bd 14), .inl (ka 2, 3, .inl (kI v.2.2.2.2.2.2.2.2.1))), ((bd 15), .inl (ka 3, 6, .inr (.inr (.inr (.inr (nR na 8)))))), ((bd 16), .inl (ka 3, 3, .inr (.inr (.inr (.inr (nR na 14)))))), ((bd 17), .inl (ka 3, 4, .inr (.inr (.inr (.inr (nR na 17)))))), ((bd 4), .inr (4, [.ref (bd 18), .ref (bd 19), .int v.2.2.2.2.2.2.2.2.2.2.2.2.2.2.2.2.1, .int v.2.2.2.2.2.2.2.2.2.2.2.2.2.2.2.2.2.1, .int v.2.2.2.2.2.2.2.2.2.2.2.2.2.2.2.2.2.2.1, .int v.2.2.2.2.2.2.2.2.2.2.2.2.2.2.2.2.2.2.2.1, .ref (bd 20), .ref (bd 21), .ref (bd 22), .int v.2.2.2.2.2.2.2.2.2.2.2.2.2.2.2.2.2.2.2.2.1.1, .ref (bd 23), .ref (bd 24), .long (Int64.ofInt v.2.2.2.2.2.2.2.2.2.2.2.2.2.2.2.2.2.2.2.2.1.2.1), .long (Int64.ofInt v.2.2.2.2.2.2.2.2.2.2.2.2.2.2.2.2.2.2.2.2.1.2.2.1)])), ((bd 18), .inr (2, [.int (bI v.2.2.2.2.2.2.2.2.2.2.2.2.2.2.2.1), .ref (na 31), .ref (na 32), .ref (na 33)])), ((bd 19), .inl (ka 0, 3, .inl v.2.2.2.2.2.2.2.2.2.2.2.2.2.2.2.2.2.2.2.2.2.1)), ((bd 20), .inl (ka 3, 5, .inr (.inr (.inr (.inr (nR na 34)))))), ((bd 21), .inl (ka 0, 4, .inl v.2.2.2.2.2.2.2.2.2.2.2.2.2.2.2.2.2.2.2.2.2.2.1)), ((bd 22), .inl (ka 0, 4, .inl v.2.2.2.2.2.2.2.2.2.2.2.2.2.2.2.2.2.2.2.2.2.2.2.1)), ((bd 23), .inl (ka 0, 4, .inl v.2.2.2.2.2.2.2.2.2.2.2.2.2.2.2.2.2.2.2.2.1.2.2.2.1)), ((bd 24), .inl (ka 0, 4, .inl v.2.2.2.2.2.2.2.2.2.2.2.2.2.2.2.2.2.2.2.2.1.2.2.2.2)), ((bd 5), .inr (6, [.int v.2.2.2.2.2.2.2.2.2.2.2.2.2.2.2.2.2.2.2.2.2.2.2.2.1, .int v.2.2.2.2.2.2.2.2.2.2.2.2.2.2.2.2.2.2.2.2.2.2.2.2.2.1, .ref (na 39), .ref (na 40)])), ((bd 6), .inr (5, [.ref (bd 25), .ref (bd 30), .int v.2.2.2.2.2.2.2.2.2.2.2.2.1])), ((bd 25), .inl (ka 4, 4, .inr (.inr (.inr (.inr (nB bd)))))), ((bd 26), .inl (ka 1, 40, .inr (.inl (v.2.2.2.2.2.2.2.2.2.2.2.2.2.2.2.2.2.2.2.2.2.2.2.2.2.2 0)))), ((bd 27), .inl (ka 1, 40, .inr (.inl (v.2.2.2.2.2.2.2.2.2.2.2.2.2.2.2.2.2.2.2.2.2.2.2.2.2.2 1)))), ((bd 28), .inl (ka 1, 40, .inr (.inl (v.2.2.2.2.2.2.2.2.2.2.2.2.2.2.2.2.2.2.2.2.2.2.2.2.2.2 2)))), ((bd 29), .inl (ka 1, 40, .inr (.inl (v.2.2.2.2.2.2.2.2.2.2.2.2.2.2.2.2.2.2.2.2.2.2.2.2.2.2 3)))), ((bd 30), .inl (ka 0, 4, .inl v.2.2.2.2.2.2.2.2.2.2.2.1))]
def OW (ka : Nat → ClassId) (bd na : Nat → Nat) (v : ST) : va_W := OF ka bd na v ++ nP na v.2.2.2.2.2.2.2.2.2.2.1
theorem OW_ad {ka : Nat → ClassId} {bd na : Nat → Nat} (v : ST) : (OW ka bd na v).map (·.1) = [(bd 31), (bd 0), (bd 1), (bd 2), (bd 7), (bd 8), (bd 9), (bd 10), (bd 11), (bd 3), (bd 12), (bd 13), (bd 14), (bd 15), (bd 16), (bd 17), (bd 4), (bd 18), (bd 19), (bd 20), (bd 21), (bd 22), (bd 23), (bd 24), (bd 5), (bd 6), (bd 25), (bd 26), (bd 27), (bd 28), (bd 29), (bd 30)] ++ nA na := zad_pool (Fc := OF ka bd na v) rfl
theorem OW_len {ka : Nat → ClassId} {bd na : Nat → Nat} (v : ST) : (OW ka bd na v).length = 73 := by
  unfold OW
  rw [List.length_append, nP_len]
  rfl
theorem zsel_pre : ∀ (F ws : va_W), ((List.range ws.length).map (fun k => F.length + k)).map (fun i => (F ++ ws)[i]?) = ws.map some := by
  intro F ws
  rw [List.map_map]
  apply List.ext_getElem?
  intro i
  rw [List.getElem?_map, List.getElem?_map]
  by_cases h : i < ws.length
  · rw [List.getElem?_range h]
    show some ((F ++ ws)[F.length + i]?) = Option.map some ws[i]?
    rw [List.getElem?_append_right (by omega), show F.length + i - F.length = i by omega, List.getElem?_eq_getElem h]
    rfl
  · rw [List.getElem?_eq_none (by simpa using h), List.getElem?_eq_none (by omega)]
    rfl
theorem va_nd_pre (a n : Nat) : va_nd ((List.range n).map (fun k => a + k)) = true := by
  refine va_nd_of ?_
  unfold List.Nodup
  rw [List.pairwise_map]
  exact List.Pairwise.imp (fun h e => h (by omega)) (List.nodup_range (n := n))
section ZOW
variable {S : Type} {p : Program} {l : Launch} {e : Env} {R : Room} {s : State} {m : MethodId} {args : Array Value} {below : List Frame} {meth : Method} {c : Code} {H : Heap} {locs : List Loc} {cells slots : Nat} {Q : State → Prop}
variable {D : va_G} {ka : Nat → ClassId} {kb : Nat → Nat} {A : Nat → Prop} {cc : ByteArray} {own : String} {nL : Nat} {ret : Option FieldType} {pc : Nat} {ls : Array Slot} {rest st0 : List Value}
variable {idx : Nat} {y : MethodName} {cy : ByteArray} {ny : Nat} {ty : FieldType} {n fr lo : Nat} {As : List Value} {F : va_W} {bd na : Nat → Nat} {v : ST} {f : S → ST}
theorem OW_0 : (F ++ OW ka bd na v)[F.length + 0]? = some (bd 31, .inr (7, [.ref (bd 0), .ref (bd 1), .ref (na 6), .ref (na 7), .ref (bd 2), .ref (bd 3), .ref (bd 4), .ref (bd 5), .ref (bd 6)])) := by
  rw [List.getElem?_append_right (by omega), show F.length + 0 - F.length = 0 by omega]
  rfl
theorem OW_put (w : ST) : zput (F ++ OW ka bd na v) ((List.range (OW ka bd na v).length).map (fun k => F.length + k)) (OW ka bd na w) = F ++ OW ka bd na w := zput_tail _ _ F (by rw [OW_len, OW_len])
/-- a method of the class, over its whole world -/
theorem zWi {post : Int32 → S → Prop} (hM : zMV own idx RX7 y cy ny (some ty) n) (hF : zF p s m args meth c D ka kb A cc own nL ret) (hB : zB D A s (F ++ OW ka bd na v) H locs) (hC : zI l D ka kb y cy ny ty fr lo (.ref (bd 31) :: As) (OW ka bd na v) post (fun u => OW ka bd na (f u)))
    (hn : As.length = n) (hrm : fr + 1 ≤ R.frames ∧ 8 + (ny + 11) + lo ≤ R.locals) (hst : st0 = As.reverse ++ .ref (bd 31) :: rest) (hls : ls.size = nL) (hW : (rest.map fun v => v.category).sum ≤ 8) (hcs : cells ≤ R.cells ∧ slots ≤ R.slots) (hdg : decode cc pc = .ok (.invokevirtual idx, 3))
    (kk : ∀ (r : Int32) (u : S) (H1 : Heap) (locs1 : List Loc), post r u → zB D A s (F ++ OW ka bd na (f u)) H1 locs1 → W p l e R s m args below meth c H1 locs1 cells slots Q (F0 m (pc + 3) ls (.int r :: rest))) : W p l e R s m args below meth c H locs cells slots Q (F0 m pc ls st0) :=
  zVi hM hF hB hC _ (zsel_pre F (OW ka bd na v)) (va_nd_pre _ _) _ (fun u => OW_ad (f u)) (OW_ad v) (F.length + 0) 7 rfl OW_0 hn hrm hst hls hW hcs hdg (fun r u H1 locs1 hp hB1 => kk r u H1 locs1 hp (by rw [OW_put] at hB1; exact hB1))
theorem zWl {post : Int64 → S → Prop} (hM : zMV own idx RX7 y cy ny (some .long) n) (hF : zF p s m args meth c D ka kb A cc own nL ret) (hB : zB D A s (F ++ OW ka bd na v) H locs) (hC : zL l D ka kb y cy ny fr lo (.ref (bd 31) :: As) (OW ka bd na v) post (fun u => OW ka bd na (f u)))
    (hn : As.length = n) (hrm : fr + 1 ≤ R.frames ∧ 8 + (ny + 11) + lo ≤ R.locals) (hst : st0 = As.reverse ++ .ref (bd 31) :: rest) (hls : ls.size = nL) (hW : (rest.map fun v => v.category).sum ≤ 8) (hcs : cells ≤ R.cells ∧ slots ≤ R.slots) (hdg : decode cc pc = .ok (.invokevirtual idx, 3))
    (kk : ∀ (r : Int64) (u : S) (H1 : Heap) (locs1 : List Loc), post r u → zB D A s (F ++ OW ka bd na (f u)) H1 locs1 → W p l e R s m args below meth c H1 locs1 cells slots Q (F0 m (pc + 3) ls (.long r :: rest))) : W p l e R s m args below meth c H locs cells slots Q (F0 m pc ls st0) :=
  zVl hM hF hB hC _ (zsel_pre F (OW ka bd na v)) (va_nd_pre _ _) _ (fun u => OW_ad (f u)) (OW_ad v) (F.length + 0) 7 rfl OW_0 hn hrm hst hls hW hcs hdg (fun r u H1 locs1 hp hB1 => kk r u H1 locs1 hp (by rw [OW_put] at hB1; exact hB1))
/-- a method of the law's own, over the object's whole world -/
theorem zWs9 {post : Int32 → S → Prop} (hM : zMS own idx y cy ny (some ty) n) (hF : zF p s m args meth c D ka kb A cc own nL ret) (hB : zB D A s (F ++ OW ka bd na v) H locs) (hC : zI l D ka kb y cy ny ty fr lo As (OW ka bd na v) post (fun u => OW ka bd na (f u)))
    (hn : As.length = n) (hrm : fr + 1 ≤ R.frames ∧ 8 + (ny + 11) + lo ≤ R.locals) (hst : st0 = As.reverse ++ rest) (hls : ls.size = nL) (hW : (rest.map fun v => v.category).sum ≤ 8) (hcs : cells ≤ R.cells ∧ slots ≤ R.slots) (hdg : decode cc pc = .ok (.invokestatic idx, 3))
    (kk : ∀ (r : Int32) (u : S) (H1 : Heap) (locs1 : List Loc), post r u → zB D A s (F ++ OW ka bd na (f u)) H1 locs1 → W p l e R s m args below meth c H1 locs1 cells slots Q (F0 m (pc + 3) ls (.int r :: rest))) : W p l e R s m args below meth c H locs cells slots Q (F0 m pc ls st0) :=
  zSi hM hF hB hC _ (zsel_pre F (OW ka bd na v)) (va_nd_pre _ _) _ (fun u => OW_ad (f u)) (OW_ad v) hn hrm hst hls hW hcs hdg (fun r u H1 locs1 hp hB1 => kk r u H1 locs1 hp (by rw [OW_put] at hB1; exact hB1))
end ZOW
