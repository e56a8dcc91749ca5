section ZR2
variable {p : Program} {l : Launch} {e : Env} {R : Room} {s : State} {m : MethodId} {args : Array Value} {below : List Frame} {meth : Method} {c : Code} {H : Heap} {locs : List Loc} {cells slots : Nat} {Q : State → Prop}
variable {D : va_G} {ka : Nat → ClassId} {kb : Nat → Nat} {A : Nat → Prop} {cc : ByteArray} {own : String} {nL : Nat} {ret : Option FieldType} {ws : va_W} {pc : Nat} {ls : Array Slot} {rest st0 : List Value} {idx : Nat}
/-- the top of the stack by another name -/
theorem ztop {x y : Value} (h : x = y) (k : W p l e R s m args below meth c H locs cells slots Q (F0 m pc ls (y :: rest))) : W p l e R s m args below meth c H locs cells slots Q (F0 m pc ls (x :: rest)) := by rw [h]; exact k
theorem ztopi {x y : Int32} (h : x = y) (k : W p l e R s m args below meth c H locs cells slots Q (F0 m pc ls (.int y :: rest))) : W p l e R s m args below meth c H locs cells slots Q (F0 m pc ls (.int x :: rest)) := by rw [h]; exact k
theorem ztopl {x y : Int64} (h : x = y) (k : W p l e R s m args below meth c H locs cells slots Q (F0 m pc ls (.long y :: rest))) : W p l e R s m args below meth c H locs cells slots Q (F0 m pc ls (.long x :: rest)) := by rw [h]; exact k
theorem zldc2 {v : Int64} (hw : Cond.constantLong own idx v ∈ wsL_law) (hF : zF p s m args meth c D ka kb A cc own nL ret) (hdg : decode cc pc = .ok (.ldc2_w idx, 3)) (k : W p l e R s m args below meth c H locs cells slots Q (F0 m (pc + 3) ls (.long v :: rest))) : W p l e R s m args below meth c H locs cells slots Q (F0 m pc ls rest) :=
  lv_ldc2 hF.1.1 hF.1.2.1 hF.1.2.2.2.1 (hF.1.2.2.2.2 _ hw) hdg k
theorem zldc {v : Int32} (hw : Cond.constant own idx v ∈ wsL_law) (hF : zF p s m args meth c D ka kb A cc own nL ret) (hdg : decode cc pc = .ok (.ldc idx, 2)) (k : W p l e R s m args below meth c H locs cells slots Q (F0 m (pc + 2) ls (.int v :: rest))) : W p l e R s m args below meth c H locs cells slots Q (F0 m pc ls rest) :=
  lv_ldc hF.1.1 hF.1.2.1 hF.1.2.2.2.1 (hF.1.2.2.2.2 _ hw) hdg k
theorem zldcw {v : Int32} (hw : Cond.constant own idx v ∈ wsL_law) (hF : zF p s m args meth c D ka kb A cc own nL ret) (hdg : decode cc pc = .ok (.ldc_w idx, 3)) (k : W p l e R s m args below meth c H locs cells slots Q (F0 m (pc + 3) ls (.int v :: rest))) : W p l e R s m args below meth c H locs cells slots Q (F0 m pc ls rest) :=
  lv_ldcw hF.1.1 hF.1.2.1 hF.1.2.2.2.1 (hF.1.2.2.2.2 _ hw) hdg k
theorem zabsl {x : Int64} (hw : Cond.methodLink own idx Lib.MathLoose.abs_long.x ∈ wsL_law) (hF : zF p s m args meth c D ka kb A cc own nL ret) (hls : ls.size = nL) (hframes : 1 ≤ R.frames) (hlocals : (rest.map fun v => v.category).sum + 13 ≤ R.locals) (hcs : cells ≤ R.cells ∧ slots ≤ R.slots) (hdg : decode cc pc = .ok (.invokestatic idx, 3)) (k : W p l e R s m args below meth c H locs cells slots Q (F0 m (pc + 3) ls (.long (if 0 < x then x else -x) :: rest))) : W p l e R s m args below meth c H locs cells slots Q (F0 m pc ls (.long x :: rest)) :=
  va_mabs_long hF.1.1 hF.1.2.1 (hF.1.2.2.1.trans hls.symm) hF.1.2.2.2.1 (hF.1.2.2.2.2 _ hw) (hF.1.2.2.2.2 _ ww_6_23) (hF.1.2.2.2.2 _ ww_7_0) (hF.1.2.2.2.2 _ ww_7_1) hframes hlocals hcs.1 hcs.2 hdg k
/-- the final tables of the class: a place of them -/
theorem zways_get (hF : zF p s m args meth c D ka kb A cc "RotorBalancer$Num" nL ret) (hB : zB D A s ws H locs) (hdg : decode cc pc = .ok (.getstatic 33, 3)) (k : W p l e R s m args below meth c H locs cells slots Q (F0 m (pc + 3) ls (.ref (kb 0) :: rest))) : W p l e R s m args below meth c H locs cells slots Q (F0 m pc ls rest) :=
  va_getsN hF.1.1 hF.1.2.1 hF.2.2.1.2.1 hB.2.2 hF.1.2.2.2.1 (va_Nw.use rfl hF.2.2.1.1.2.2.2.2.2.2.2.2.2.1) (fun _ h => h) hdg k
theorem zways_at {i : Int32} (hF : zF p s m args meth c D ka kb A cc own nL ret) (hB : zB D A s ws H locs) (j : Nat) (hj : i = nI j) (hlt : j < 48) (hdg : decode cc pc = .ok (.iaload, 1)) (k : W p l e R s m args below meth c H locs cells slots Q (F0 m (pc + 1) ls (.int (zways.getD j 0) :: rest))) : W p l e R s m args below meth c H locs cells slots Q (F0 m pc ls (.int i :: .ref (kb 0) :: rest)) := by
  obtain ⟨h1, h2⟩ := zclamp hj hlt (by decide)
  exact va_ti hF.1.1 hF.1.2.1 hF.2.2.1.2.2.1 hB.2.2 h1 (v := .int (zways.getD j 0)) (by rw [h2]) hdg k
end ZR2

