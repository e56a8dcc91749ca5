/-! a method of the law's own that makes rows of its own and forgets them -/
def zN {S : Type} (l : Launch) (D : va_G) (ka : Nat → ClassId) (kb : Nat → Nat) (y : MethodName) (cc : ByteArray) (nL : Nat) (ty : FieldType) (fr lo mc ms : Nat) (av : List Value) (ws : va_W) (post : Int32 → S → Prop) (wf : S → va_W) : Prop :=
  ∀ sz : Nat, Met l y (zWs y cc nL (some ty)) (zRm fr lo mc ms) (va_Pc av (zPre D ka kb ws sz)) (va_Qi post (fun u t => va_P D vwCl (wf u) t.heap) (va_A ws sz)) mc ms (va_A ws sz)
section ZNK
variable {S : Type} {l : Launch} {D : va_G} {ka : Nat → ClassId} {kb : Nat → Nat} {y : MethodName} {cc : ByteArray} {nL : Nat} {ty : FieldType} {fr lo mc ms : Nat} {av : List Value} {ws : va_W} {own : String}
theorem zN.mk {post : Int32 → S → Prop} {wf : S → va_W} (own : String) (hy : plainName y.cls = true) (hown : y.cls = own) (hn : (lg_sl av).length ≤ nL)
    (body : ∀ (p : Program) (e : Env) (s : State) (m : MethodId) (below : List Frame) (meth : Method) (c : Code) (A : Nat → Prop) (ls : Array Slot) (args : Array Value) (Q : State → Prop), Q = MQ below (va_Qi post (fun u t => va_P D vwCl (wf u) t.heap) A) args s mc ms A → p.tables.exec = Jvm.exec → c.code = cc → zF p s m args meth c D ka kb A cc own nL (some ty) → zB D A s ws s.heap [] → lv_has ls nL (lv_args 0 av) →
      W p l e (zRm fr lo mc ms) s m args below meth c s.heap [] 0 0 Q (F0 m 0 ls [])) : zN l D ka kb y cc nL ty fr lo mc ms av ws post wf := by
  intro sz
  refine Met.ofW (cc := cc) (maxL := nL) (ret := some ty) hy rfl ?_
  intro p e s m args below meth c s₁ B hml hv
  obtain ⟨rfl, rfl, hF, hB, ls, hl, he⟩ := zEnter (own := own) hown hn B hml hv
  rw [he]
  exact body p e s m below meth c _ ls _ _ rfl hF.1.1 hF.1.2.1 hF hB hl
end ZNK
theorem zB_drop {D : va_G} {A : Nat → Prop} {s : State} {x : Nat × va_E} {ws : va_W} {H : Heap} {locs : List Loc} (hB : zB D A s (x :: ws) H locs) : zB D A s ws H locs :=
  ⟨fun k q h => hB.1 (k + 1) q h, ⟨fun i j p q hi hj e => Nat.succ.inj (hB.2.1.1 (i + 1) (j + 1) p q hi hj e), fun k q h => hB.2.1.2 (k + 1) q h⟩, hB.2.2⟩
section ZNR
variable {S : Type} {p : Program} {l : Launch} {e : Env} {R : Room} {s : State} {m : MethodId} {args : Array Value} {below : List Frame} {meth : Method} {c : Code} {H : Heap} {locs : List Loc} {cells slots : Nat} {Q : State → Prop}
variable {D : va_G} {ka : Nat → ClassId} {kb : Nat → Nat} {A : Nat → Prop} {cc : ByteArray} {own : String} {nL : Nat} {ret : Option FieldType} {ws wc : va_W} {pc : Nat} {ls : Array Slot} {rest st0 : List Value}
variable {idx : Nat} {y : MethodName} {cy : ByteArray} {ny : Nat} {ty : FieldType} {n fr lo mc ms : Nat} {As : List Value} {F : va_W} {bd na : Nat → Nat} {v : ST} {f : S → ST} {wf : S → va_W}
theorem zSin {post : Int32 → S → Prop} (hM : zMS own idx y cy ny (some ty) n) (hF : zF p s m args meth c D ka kb A cc own nL ret) (hB : zB D A s ws H locs) (hC : zN l D ka kb y cy ny ty fr lo mc ms As wc post wf) (isC : List Nat) (hi : isC.map (fun i => ws[i]?) = wc.map some) (hnd : va_nd isC = true) (as : List Nat) (ha1 : ∀ u, (wf u).map (·.1) = as) (ha2 : wc.map (·.1) = as)
    (hn : As.length = n) (hrm : fr + 1 ≤ R.frames ∧ 8 + (ny + 11) + lo ≤ R.locals) (hst : st0 = As.reverse ++ rest) (hls : ls.size = nL) (hW : (rest.map fun v => v.category).sum ≤ 8) (hcs : cells + mc ≤ R.cells ∧ slots + ms ≤ R.slots) (hdg : decode cc pc = .ok (.invokestatic idx, 3))
    (kk : ∀ (r : Int32) (u : S) (H1 : Heap) (locs1 : List Loc), post r u → zB D A s (zput ws isC (wf u)) H1 locs1 → W p l e R s m args below meth c H1 locs1 (cells + mc) (slots + ms) Q (F0 m (pc + 3) ls (.int r :: rest))) : W p l e R s m args below meth c H locs cells slots Q (F0 m pc ls st0) := by
  have hFc := va_free hB.2.1 hB.2.2 hF.2.2.2.1 isC hi
  refine va_calli (va_runS (As := As) (rest := rest) hF.1 (hC H.size) (va_cwS n hF.1.2.2.2.2 hM.1 rfl rfl rfl hM.2 hrm) ⟨zPre.blind, zpre hF hB isC hi hnd⟩ rfl hn hls hst (lv_room hW) hdg ⟨hcs.1, hcs.2⟩) hB.2.2 (fun q _ h => hFc q h) hFc (fun r u t H1 locs1 ht hvm hp hB1 hz hk hS1 => ?_)
  exact kk r u H1 locs1 hp (zback hF hB isC hi ((ha1 u).trans ha2.symm) ht hB1 hk hS1)
theorem zWn9 {post : Int32 → S → Prop} (hM : zMS own idx y cy ny (some ty) n) (hF : zF p s m args meth c D ka kb A cc own nL ret) (hB : zB D A s (F ++ OW ka bd na v) H locs) (hC : zN l D ka kb y cy ny ty fr lo mc ms As (OW ka bd na v) post (fun u => OW ka bd na (f u)))
    (hn : As.length = n) (hrm : fr + 1 ≤ R.frames ∧ 8 + (ny + 11) + lo ≤ R.locals) (hst : st0 = As.reverse ++ rest) (hls : ls.size = nL) (hW : (rest.map fun v => v.category).sum ≤ 8) (hcs : cells + mc ≤ R.cells ∧ slots + ms ≤ R.slots) (hdg : decode cc pc = .ok (.invokestatic idx, 3))
    (kk : ∀ (r : Int32) (u : S) (H1 : Heap) (locs1 : List Loc), post r u → zB D A s (F ++ OW ka bd na (f u)) H1 locs1 → W p l e R s m args below meth c H1 locs1 (cells + mc) (slots + ms) Q (F0 m (pc + 3) ls (.int r :: rest))) : W p l e R s m args below meth c H locs cells slots Q (F0 m pc ls st0) :=
  zSin hM hF hB hC _ (zsel_pre F (OW ka bd na v)) (va_nd_pre _ _) _ (fun u => OW_ad (f u)) (OW_ad v) hn hrm hst hls hW hcs hdg (fun r u H1 locs1 hp hB1 => kk r u H1 locs1 hp (by rw [OW_put] at hB1; exact hB1))
end ZNR
/-! the four acts of reckon -/
theorem rk_1 {w r s t : Nat} {G : Nat → N5} (hw : w < 4) (hr : r < 6) (hs : s < 6) (ht : t < 6) (hz : ¬ (nI w = 3 ∧ zeroN (G s) = true)) (ho : opO (nI w) (G r) (G s) = false) : rkV (nI w) (nI r) (nI s) (nI t) G = (1, some (t, opV (nI w) (G r) (G s))) := by
  have er : (nI r).toInt.toNat = r := by rw [nI_toInt (by omega)]; rfl
  have es : (nI s).toInt.toNat = s := by rw [nI_toInt (by omega)]; rfl
  have et : (nI t).toInt.toNat = t := by rw [nI_toInt (by omega)]; rfl
  unfold rkV
  rw [if_neg (fun h => h ⟨inI_k hw (by decide), inI_k hr (by decide), inI_k hs (by decide), inI_k ht (by decide)⟩), er, es, et, if_neg hz, ho, if_neg (by decide)]
theorem rk_z {r s t : Nat} {G : Nat → N5} (hr : r < 6) (hs : s < 6) (ht : t < 6) (hz : zeroN (G s) = true) : rkV (nI 3) (nI r) (nI s) (nI t) G = (-6, none) := by
  have es : (nI s).toInt.toNat = s := by rw [nI_toInt (by omega)]; rfl
  unfold rkV
  rw [if_neg (fun h => h ⟨inI_k (by decide) (by decide), inI_k hr (by decide), inI_k hs (by decide), inI_k ht (by decide)⟩), es, if_pos ⟨rfl, hz⟩]
theorem opk_0 (X Y : N5) : opO (nI 0) X Y = sumO false X Y ∧ opV (nI 0) X Y = sumV false X Y := by
  have h : dB ((nI 0) = 1) = false := dB_f.mpr (by decide)
  unfold opO opV
  rw [if_pos (by decide), if_pos (by decide), h]
  exact ⟨rfl, rfl⟩
theorem opk_1 (X Y : N5) : opO (nI 1) X Y = sumO true X Y ∧ opV (nI 1) X Y = sumV true X Y := by
  have h : dB ((nI 1) = 1) = true := dB_t.mpr (by decide)
  unfold opO opV
  rw [if_pos (by decide), if_pos (by decide), h]
  exact ⟨rfl, rfl⟩
theorem opk_2 (X Y : N5) : opO (nI 2) X Y = prodO X Y ∧ opV (nI 2) X Y = prodV X Y := by
  unfold opO opV
  rw [if_neg (by decide), if_pos (by decide), if_neg (by decide), if_pos (by decide)]
  exact ⟨rfl, rfl⟩
theorem opk_3 (X Y : N5) : opO (nI 3) X Y = quoO X Y ∧ opV (nI 3) X Y = quoV X Y := by
  unfold opO opV
  rw [if_neg (by decide), if_neg (by decide), if_neg (by decide), if_neg (by decide)]
  exact ⟨rfl, rfl⟩
theorem cmpV_cg {G G2 : Nat → N5} {r s : Nat} (hr : r < 6) (hs : s < 6) (h1 : G r = G2 r) (h2 : G s = G2 s) : cmpV (nI r) (nI s) G = cmpV (nI r) (nI s) G2 := by
  have er : (nI r).toInt.toNat = r := by rw [nI_toInt (by omega)]; rfl
  have es : (nI s).toInt.toNat = s := by rw [nI_toInt (by omega)]; rfl
  unfold cmpV
  rw [er, es, h1, h2]
theorem i_up {r : Int32} {n : Nat} (h : ∃ k, k < n ∧ r = nI k) (hn : n < 2 ^ 31) : 0 ≤ r.toInt ∧ r.toInt < (n : Int) := by
  obtain ⟨k, h1, h2⟩ := h
  rw [h2, nI_toInt (by omega)]
  omega
theorem i_ups {r : Int32} {n m : Nat} (h : ∃ k, k < n ∧ r = nI k) (hn : n ≤ 1000) (hm : m ≤ 1000) : (r - nI m).toInt = r.toInt - (m : Int) := by
  have h1 := i_up h (by omega)
  rw [i32_sub (by rw [nI_toInt (by omega)]; omega), nI_toInt (by omega)]
theorem i_upa {r : Int32} {n : Nat} (h : ∃ k, k < n ∧ r = nI k) (hn : n ≤ 1000) : (1 + r).toInt = 1 + r.toInt := by
  obtain ⟨k, h1, h2⟩ := h
  rw [h2, show (1 : Int32) = nI 1 from rfl, nI_add, nI_toInt (by omega), nI_toInt (by omega)]
  rfl
