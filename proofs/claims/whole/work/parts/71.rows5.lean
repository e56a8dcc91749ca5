section ZR5
variable {S : Type} {p : Program} {l : Launch} {e : Env} {R : Room} {s : State} {m : MethodId} {args : Array Value} {below : List Frame} {meth : Method} {c : Code} {H : Heap} {locs : List Loc} {cells slots : Nat} {Q : State → Prop}
variable {D : va_G} {ka : Nat → ClassId} {kb : Nat → Nat} {A : Nat → Prop} {cc : ByteArray} {own : String} {nL : Nat} {ret : Option FieldType} {ws : va_W} {pc : Nat} {ls : Array Slot} {rest st0 : List Value} {idx : Nat}
/-- a place of an array of arrays -/
theorem zaaldA {a N r : Nat} {f : Nat → Option Nat} {i : Int32} (hF : zF p s m args meth c D ka kb A cc own nL ret) (hB : zB D A s ws H locs) (q0 : Nat) (he : ws[q0]? = some (a, .inl (ka 4, N, .inr (.inr (.inr (.inr f)))))) (j : Nat) (hj : i = nI j) (hlt : j < N) (hN : N < 2 ^ 31) (hv : f j = some r) (hdg : decode cc pc = .ok (.aaload, 1))
    (kk : W p l e R s m args below meth c H locs cells slots Q (F0 m (pc + 1) ls (.ref r :: rest))) : W p l e R s m args below meth c H locs cells slots Q (F0 m pc ls (.int i :: .ref a :: rest)) := by
  obtain ⟨hin, h2⟩ := zclamp hj hlt hN
  have hlt2 : i.toNatClampNeg < N := Nat.not_le.mp fun q => hin (Or.inr q)
  exact W.aald (v := va_rf (f i.toNatClampNeg)) (ty := .array .long) hF.1.1 hF.1.2.1 (hB.1 q0 _ he) ((hF.2.1.2 4 _ rfl).1 N (fun j => va_rf (f j))) rfl (fun q => by cases q) (by show ¬ (i < 0 ∨ (arrV _ _ _).slots.size ≤ _); rw [arrV_size]; exact hin) (by show (arrV _ _ _).slots[_]? = _; rw [arrV_read _ _ hlt2]) rfl rfl hdg (by rw [h2, hv]; exact kk)
/-- a stretch of longs laid into a row, which may be the same -/
theorem zcopyl {a0 a n0 n1 : Nat} {f g : Nat → Int64} (hw : Cond.methodLink own idx arraycopyName ∈ wsL_law) (hw2 : Cond.native arraycopyName ∈ wsL_law) (hw3 : Cond.static arraycopyName ∈ wsL_law) (hw4 : Cond.initialized "java/lang/System" ∈ wsL_law) (hF : zF p s m args meth c D ka kb A cc own nL ret) (hls : ls.size = nL) (hB : zB D A s ws H locs) (q0 q1 : Nat) (ha0 : ws[q0]? = some (a0, .inl (ka 1, n0, .inr (.inl f)))) (ha1 : ws[q1]? = some (a, .inl (ka 1, n1, .inr (.inl g)))) (sp dp n : Nat) (h4 : sp + n ≤ n0) (h5 : dp + n ≤ n1) (hn0 : n0 < 2 ^ 31) (hn1 : n1 < 2 ^ 31)
    (hframes : 1 ≤ R.frames) (hlocals : (rest.map fun v => v.category).sum + (nativeFrameWords "java/lang/System" "arraycopy" 5 + 11) ≤ R.locals) (hdg : decode cc pc = .ok (.invokestatic idx, 3))
    (kk : ∀ (H1 : Heap) (locs1 : List Loc), zB D A s (ws.set q1 (a, .inl (ka 1, n1, .inr (.inl (va_cpy f g sp dp n))))) H1 locs1 → W p l e R s m args below meth c H1 locs1 cells slots Q (F0 m (pc + 3) ls rest)) : W p l e R s m args below meth c H locs cells slots Q (F0 m pc ls (.int (nI n) :: .int (nI dp) :: .ref a :: .int (nI sp) :: .ref a0 :: rest)) := by
  have cl : ∀ k : Nat, k < 2 ^ 31 → (nI k).toNatClampNeg = k := fun k hk => nI_clamp hk
  have ng : ∀ k : Nat, k < 2 ^ 31 → ¬ nI k < 0 := fun k hk h => by
    have h9 := Int32.lt_iff_toInt_lt.mp h
    rw [nI_toInt (by omega), show (0 : Int32).toInt = 0 from rfl] at h9
    omega
  have e1 := cl sp (by omega)
  have e2 := cl dp (by omega)
  have e3 := cl n (by omega)
  refine va_copyl (ty := .long) hF.1.1 hF.1.2.1 (hF.1.2.2.1.trans hls.symm) hF.1.2.2.2.1 (hF.1.2.2.2.2 _ hw) (hF.1.2.2.2.2 _ hw2) (hF.1.2.2.2.2 _ hw3) (hF.1.2.2.2.2 _ hw4) hF.2.1 hB.1 hB.2.1 hB.2.2 q0 q1 1 1 ha0 ha1 rfl rfl rfl (ng sp (by omega)) (ng dp (by omega)) (ng n (by omega)) (by rw [e1, e3]; exact h4) (by rw [e2, e3]; exact h5) (fun _ _ => rfl) hframes hlocals hdg (fun H1 locs1 g1 g2 g3 => ?_)
  rw [e1, e2, e3] at g1 g2
  exact kk H1 locs1 ⟨g1, g2, g3⟩
end ZR5
