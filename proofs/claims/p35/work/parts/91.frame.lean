/-! a contract over a greater world: what it doesn't name stays -/
theorem zE.narrow {kb : Nat → Nat} {A B : Nat → Prop} {U : State} {H : Heap} (h : zE kb A U H) (hB : ∀ q, B q → A q) : zE kb B U H :=
  ⟨h.1, h.2.1.narrow hB, h.2.2.1.narrow hB, h.2.2.2.1, h.2.2.2.2.1, fun hq => h.2.2.2.2.2 (hB _ hq)⟩
theorem zsubA {ws wc : va_W} {isC : List Nat} {sz : Nat} (hi : isC.map (fun i => ws[i]?) = wc.map some) : ∀ q, va_A wc sz q → va_A ws sz q := fun q h => by
  rcases h with ⟨k, e, h⟩ | h
  · obtain ⟨i, -, h2⟩ := zsel hi k (q, e) h
    exact Or.inl ⟨i, e, h2⟩
  · exact Or.inr h
section ZFR
variable {S S2 : Type} {l : Launch} {D : va_G} {ka : Nat → ClassId} {kb : Nat → Nat} {y : MethodName} {cc : ByteArray} {nL : Nat} {ty : FieldType} {fr lo : Nat} {av : List Value} {wc ws : va_W}
theorem zPre.narrow {sz : Nat} {isC : List Nat} (hi : isC.map (fun i => ws[i]?) = wc.map some) (hnd : va_nd isC = true) {args : Array Value} {U : State} (h : va_Pc av (zPre D ka kb ws sz) args U) : va_Pc av (zPre D ka kb wc sz) args U := by
  obtain ⟨h0, h1, hP, hK, hD, hE⟩ := h
  exact ⟨h0, h1, zPsub hP isC hi, hK, hD.sub isC hnd hi |>.weaken (fun _ _ _ _ => trivial), hE.narrow (zsubA hi)⟩
theorem zI.frame {post : Int32 → S → Prop} {wf : S → va_W} (hC : zI l D ka kb y cc nL ty fr lo av wc post wf) (ws : va_W) (isC : List Nat) (hi : isC.map (fun i => ws[i]?) = wc.map some) (hnd : va_nd isC = true) (as : List Nat) (ha1 : ∀ u, (wf u).map (·.1) = as) (ha2 : wc.map (·.1) = as) :
    zI l D ka kb y cc nL ty fr lo av ws post (fun u => zput ws isC (wf u)) := by
  intro sz p e ha hc hk s m args below hf happ hpre hK
  obtain ⟨n, o, h1, h2, h3, ⟨⟨r, u, ho, hp, hPu⟩, hFa⟩, Lc, hFE, hL⟩ := hC sz p e ha hc hk s m args below hf happ (zPre.narrow hi hnd hpre) trivial
  obtain ⟨h0, hsz, hP, hKK, hD, hE⟩ := hpre
  subst hsz
  have hj := zjoin hP hD isC hi ((ha1 u).trans ha2.symm) hFa.2 hPu
  exact ⟨n, o, h1, h2, h3, ⟨⟨r, u, ho, hp, hj.1⟩, hFa.1, fun q hq hn => hFa.2 q hq (fun h9 => hn (zsubA hi q h9))⟩, Lc, hFE, fun q hq => zsubA hi _ (hL q hq)⟩
theorem zL.frame {post : Int64 → S → Prop} {wf : S → va_W} (hC : zL l D ka kb y cc nL fr lo av wc post wf) (ws : va_W) (isC : List Nat) (hi : isC.map (fun i => ws[i]?) = wc.map some) (hnd : va_nd isC = true) (as : List Nat) (ha1 : ∀ u, (wf u).map (·.1) = as) (ha2 : wc.map (·.1) = as) :
    zL l D ka kb y cc nL fr lo av ws post (fun u => zput ws isC (wf u)) := by
  intro sz p e ha hc hk s m args below hf happ hpre hK
  obtain ⟨n, o, h1, h2, h3, ⟨⟨r, u, ho, hp, hPu⟩, hFa⟩, Lc, hFE, hL⟩ := hC sz p e ha hc hk s m args below hf happ (zPre.narrow hi hnd hpre) trivial
  obtain ⟨h0, hsz, hP, hKK, hD, hE⟩ := hpre
  subst hsz
  have hj := zjoin hP hD isC hi ((ha1 u).trans ha2.symm) hFa.2 hPu
  exact ⟨n, o, h1, h2, h3, ⟨⟨r, u, ho, hp, hj.1⟩, hFa.1, fun q hq hn => hFa.2 q hq (fun h9 => hn (zsubA hi q h9))⟩, Lc, hFE, fun q hq => zsubA hi _ (hL q hq)⟩
theorem zI.map {post : Int32 → S → Prop} {wf : S → va_W} {post2 : Int32 → S2 → Prop} {wf2 : S2 → va_W} (f : S → S2) (hC : zI l D ka kb y cc nL ty fr lo av ws post wf) (hp2 : ∀ r u, post r u → post2 r (f u)) (hw : ∀ r u, post r u → wf u = wf2 (f u)) : zI l D ka kb y cc nL ty fr lo av ws post2 wf2 := by
  intro sz p e ha hc hk s m args below hf happ hpre hK
  obtain ⟨n, o, h1, h2, h3, ⟨⟨r, u, ho, hp, hPu⟩, hFa⟩, hR⟩ := hC sz p e ha hc hk s m args below hf happ hpre hK
  exact ⟨n, o, h1, h2, h3, ⟨⟨r, f u, ho, hp2 r u hp, by show va_P D vwCl (wf2 (f u)) _; rw [← hw r u hp]; exact hPu⟩, hFa⟩, hR⟩
theorem zL.map {post : Int64 → S → Prop} {wf : S → va_W} {post2 : Int64 → S2 → Prop} {wf2 : S2 → va_W} (f : S → S2) (hC : zL l D ka kb y cc nL fr lo av ws post wf) (hp2 : ∀ r u, post r u → post2 r (f u)) (hw : ∀ r u, post r u → wf u = wf2 (f u)) : zL l D ka kb y cc nL fr lo av ws post2 wf2 := by
  intro sz p e ha hc hk s m args below hf happ hpre hK
  obtain ⟨n, o, h1, h2, h3, ⟨⟨r, u, ho, hp, hPu⟩, hFa⟩, hR⟩ := hC sz p e ha hc hk s m args below hf happ hpre hK
  exact ⟨n, o, h1, h2, h3, ⟨⟨r, f u, ho, hp2 r u hp, by show va_P D vwCl (wf2 (f u)) _; rw [← hw r u hp]; exact hPu⟩, hFa⟩, hR⟩
end ZFR
