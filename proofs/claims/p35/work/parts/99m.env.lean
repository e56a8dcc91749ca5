theorem zAOA_spec {ty : FieldType} {U : State} (h : va_AOA ty U) : ∃ (comp c : ClassId) (k : Class), U.vm.findClass (FieldType.array ty).toString = some comp ∧ U.vm.classes[c]? = some k ∧ k.kind = .array comp (.array ty) ∧ U.vm.findClass ("[" ++ (FieldType.array ty).toString) = some c := by
  unfold va_AOA at h
  simp only [Cond.before, Cond.holds, Cond.value, beq_iff_eq] at h
  cases hc : U.vm.findClass (FieldType.array ty).toString with
  | none => simp [hc] at h
  | some comp =>
    simp only [hc, Option.bind_some, Option.bind_eq_some_iff, Option.map_eq_some_iff] at h
    obtain ⟨c, hi, k, hk, hb⟩ := h
    obtain ⟨_, hp, _⟩ := Array.findIdx?_eq_some_iff_getElem.mp hi
    rw [(Array.getElem?_eq_some_iff.mp hk).2] at hp
    cases hkind : k.kind with
    | array component t2 =>
      rw [hkind] at hb hp
      simp at hb hp
      exact ⟨comp, c, k, rfl, hk, by rw [hkind, hp, hb.1], hb.2⟩
    | _ => rw [hkind] at hb; simp at hb
set_option maxHeartbeats 4000000 in
theorem env_K {args : Array Value} {s : State} (hts : ∀ w ∈ lw_tbl, w.before args s = true) : ∃ (D : va_G) (ka : Nat → ClassId), va_K D vwCl (zTy ka) s := by
  have hw : ∀ w ∈ wsL_law, w.before args s = true := fun w h => hts w (wsL_law_in w h)
  obtain ⟨c0, i0, k0⟩ := u_known (C := RX0) (T := TX0) (N := 10) (n := 10) hw inlX0 (hw _ ww_2_0)
  obtain ⟨c1, i1, k1⟩ := u_known (C := RX1) (T := TX1) (N := 5) (n := 5) hw inlX1 (hw _ ww_1_15)
  obtain ⟨c2, i2, k2⟩ := u_known (C := RX2) (T := TX2) (N := 4) (n := 4) hw inlX2 (hw _ ww_1_10)
  obtain ⟨c3, i3, k3⟩ := u_known (C := RX3) (T := TX3) (N := 8) (n := 8) hw inlX3 (hw _ ww_1_20)
  obtain ⟨c4, i4, k4⟩ := u_known (C := RX4) (T := TX4) (N := 14) (n := 14) hw inlX4 (hw _ ww_2_4)
  obtain ⟨c5, i5, k5⟩ := u_known (C := RX5) (T := TX5) (N := 3) (n := 3) hw inlX5 (hw _ ww_2_12)
  obtain ⟨c6, i6, k6⟩ := u_known (C := RX6) (T := TX6) (N := 4) (n := 4) hw inlX6 (hw _ ww_2_8)
  obtain ⟨c7, i7, k7⟩ := u_known (C := RX7) (T := TX7) (N := 9) (n := 9) hw inlX7 (hw _ ww_1_1)
  obtain ⟨a0, g0, p0, h0, m0, n0⟩ := Cond.arrayClass_spec (hts _ (wtb_1 _ (List.mem_of_getElem? (i := 104) rfl)))
  obtain ⟨a1, g1, p1, h1, m1, n1⟩ := Cond.arrayClass_spec (hts _ (wtb_1 _ (List.mem_of_getElem? (i := 237) rfl)))
  obtain ⟨a2, g2, p2, h2, m2, n2⟩ := Cond.arrayClass_spec (hts _ (wtb_1 _ (List.mem_of_getElem? (i := 146) rfl)))
  obtain ⟨p3, a3, g3, q3, _, m3, n3, h3⟩ := Cond.arrayOver_spec (hts _ (wtb_1 _ (List.mem_of_getElem? (i := 71) rfl)))
  obtain ⟨p4, a4, g4, q4, m4, n4, h4⟩ := zAOA_spec (va_AOA.of (hts _ (wtb_1 _ (List.mem_of_getElem? (i := 226) rfl))))
  refine ⟨(fun k => ([c0, c1, c2, c3, c4, c5, c6, c7] : List ClassId).getD k c0, fun k => ([i0, i1, i2, i3, i4, i5, i6, i7] : List (Nat → Nat)).getD k i0), fun k => ([a0, a1, a2, a3, a4] : List ClassId).getD k a0, ?_, ?_⟩
  · intro k q hq
    match k, hq with
    | 0, hq => cases hq; exact k0
    | 1, hq => cases hq; exact k1
    | 2, hq => cases hq; exact k2
    | 3, hq => cases hq; exact k3
    | 4, hq => cases hq; exact k4
    | 5, hq => cases hq; exact k5
    | 6, hq => cases hq; exact k6
    | 7, hq => cases hq; exact k7
    | k + 8, hq => simp at hq
  · intro k q hq
    match k, hq with
    | 0, hq => cases hq; exact ⟨fun n z => ⟨(fun k h => by cases h), g0, m0, p0, n0⟩, h0⟩
    | 1, hq => cases hq; exact ⟨fun n z => ⟨(fun k h => by cases h), g1, m1, p1, n1⟩, h1⟩
    | 2, hq => cases hq; exact ⟨fun n z => ⟨(fun k h => by cases h), g2, m2, p2, n2⟩, h2⟩
    | 3, hq => cases hq; exact ⟨fun n z => ⟨(fun k h => by cases h), g3, m3, p3, n3⟩, g3, p3, m3, n3, q3, h3⟩
    | 4, hq => cases hq; exact ⟨fun n z => ⟨(fun k h => by cases h), g4, m4, p4, n4⟩, h4⟩
    | k + 5, hq => simp at hq
theorem env_Ns {args : Array Value} {s : State} (hts : ∀ w ∈ lw_tbl, w.before args s = true) : zNs s :=
  ⟨va_Nw.of rfl (hts _ (wtb_1 _ (List.mem_of_getElem? (i := 22) rfl))), va_Nw.of rfl (hts _ (wtb_1 _ (List.mem_of_getElem? (i := 72) rfl))), va_Nw.of rfl (hts _ (wtb_1 _ (List.mem_of_getElem? (i := 202) rfl))), va_Nw.of rfl (hts _ (wtb_1 _ (List.mem_of_getElem? (i := 112) rfl))), va_Nw.of rfl (hts _ (wtb_1 _ (List.mem_of_getElem? (i := 114) rfl))), va_Nw.of rfl (hts _ (wtb_1 _ (List.mem_of_getElem? (i := 28) rfl))), va_Nw.of rfl (hts _ (wtb_1 _ (List.mem_of_getElem? (i := 154) rfl))), va_Nw.of rfl (hts _ (wtb_1 _ (List.mem_of_getElem? (i := 156) rfl))), va_Nw.of rfl (hts _ (wtb_1 _ (List.mem_of_getElem? (i := 207) rfl))), va_Nw.of rfl (hts _ (wtb_2 _ (List.mem_of_getElem? (i := 156) rfl))), trivial, va_AO.of (hts _ (wtb_1 _ (List.mem_of_getElem? (i := 71) rfl))), va_AOA.of (hts _ (wtb_1 _ (List.mem_of_getElem? (i := 226) rfl)))⟩
theorem nI_bv (x : Int32) : nI x.toBitVec.toNat = x := by
  apply Int32.toBitVec_inj.mp
  show BitVec.ofNat 32 x.toBitVec.toNat = x.toBitVec
  exact BitVec.eq_of_toNat_eq (by rw [BitVec.toNat_ofNat]; exact Nat.mod_eq_of_lt x.toBitVec.isLt)
set_option maxHeartbeats 4000000 in
set_option maxRecDepth 100000 in
theorem env_E {args : Array Value} {s : State} (hts : ∀ w ∈ lw_tbl, w.before args s = true) (hgv : (Jvm.Cond.and given_1 narrow_1).before args s = true) {b L : Nat} {xs : Nat → Int32} (hX : va_X b L xs s s.heap) (hbl : b < s.heap.size) : ∃ kb : Nat → Nat, kb 1 = b ∧ kb 2 = L ∧ zE kb (fun q => s.heap.size ≤ q) s s.heap := by
  have hg := flat_of_before _ hgv
  have hs0 : ∀ j, j < 48 → (Cond.eq (.elem (.static "RotorBalancer" "WAYS" "[I") (.int (Int32.ofNat j))) (.int (zways.getD j 0))) ∈ flatC (Jvm.Cond.and given_1 narrow_1) := by decide +kernel
  obtain ⟨t0, ht0, hT0⟩ := va_Tof (tm := (.static "RotorBalancer" "WAYS" "[I")) (ty := .int) (N := 48) (f := fun j => .int (zways.getD j 0)) (A := fun q => s.heap.size ≤ q) (by decide) (hg _ (by decide +kernel)) (va_eqt (hg (Cond.eq (.length (.static "RotorBalancer" "WAYS" "[I")) (.int 48)) (by decide +kernel))) (fun j hj => va_eqt (hg _ (hs0 j hj))) (fun a h => Nat.not_le.mpr h)
  have hA : ∀ a : Nat, a < s.heap.size → ¬ (s.heap.size ≤ a) := fun a h => Nat.not_le.mpr h
  have hi : (Cond.initialized "RotorBalancer").before args s = true := (hts _ (wtb_1 _ (List.mem_of_getElem? (i := 1) rfl)))
  refine ⟨fun k => if k = 0 then t0 else if k = 1 then b else if k = 2 then L else (xs (k - 3)).toBitVec.toNat, rfl, rfl, env_Ns hts, va_Zref (A := fun q => s.heap.size ≤ q) (hts _ (wtb_2 _ (List.mem_of_getElem? (i := 157) rfl))) hi ht0 hA, hT0, ?_, hbl, hA b hbl⟩
  have e : (fun j => nI (if 3 + j = 0 then t0 else if 3 + j = 1 then b else if 3 + j = 2 then L else (xs (3 + j - 3)).toBitVec.toNat)) = xs := funext fun j => by
    rw [if_neg (by omega), if_neg (by omega), if_neg (by omega), show 3 + j - 3 = j by omega, nI_bv]
  show va_X b L (fun j => nI (if 3 + j = 0 then t0 else if 3 + j = 1 then b else if 3 + j = 2 then L else (xs (3 + j - 3)).toBitVec.toNat)) s s.heap
  rw [e]
  exact hX
