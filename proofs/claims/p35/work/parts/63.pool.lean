/-! the class's NUMBERS: one pool of cells -/
abbrev nF (X : N5) : List Value := [.long X.1, .long X.2.1, .long X.2.2.1, .long X.2.2.2.1, .long X.2.2.2.2]
def nP (na : Nat → Nat) (N : Nat → N5) : va_W := (List.range 41).map (fun i => (na i, .inr (1, nF (N i))))
def nA (na : Nat → Nat) : List Nat := (List.range 41).map na
def upN (N : Nat → N5) (i : Nat) (X : N5) : Nat → N5 := fun k => if k = i then X else N k
def npr (n : Nat) : List Nat := (List.range 41).map (fun k => n + k)
theorem upN_eq {N : Nat → N5} {i : Nat} {X : N5} : upN N i X i = X := if_pos rfl
theorem upN_ne {N : Nat → N5} {i k : Nat} {X : N5} (h : k ≠ i) : upN N i X k = N k := if_neg h
theorem upN_id {N : Nat → N5} {i : Nat} : upN N i (N i) = N := funext fun k => by
  unfold upN
  by_cases h : k = i
  · rw [if_pos h, h]
  · rw [if_neg h]
theorem upN_up {N : Nat → N5} {i : Nat} {X Y : N5} : upN (upN N i X) i Y = upN N i Y := funext fun k => by
  unfold upN
  by_cases h : k = i
  · rw [if_pos h, if_pos h]
  · rw [if_neg h, if_neg h, if_neg h]
theorem nP_len {na : Nat → Nat} {N : Nat → N5} : (nP na N).length = 41 := by unfold nP; rw [List.length_map, List.length_range]
theorem nP_get {na : Nat → Nat} {N : Nat → N5} {i : Nat} (hi : i < 41) : (nP na N)[i]? = some (na i, .inr (1, nF (N i))) := by
  unfold nP
  rw [List.getElem?_map, List.getElem?_range hi]
  rfl
theorem nP_out {na : Nat → Nat} {N : Nat → N5} {i : Nat} (hi : ¬ i < 41) : (nP na N)[i]? = none := List.getElem?_eq_none (by rw [nP_len]; omega)
theorem nP_at {F : va_W} {na : Nat → Nat} {N : Nat → N5} {i : Nat} (hi : i < 41) : (F ++ nP na N)[F.length + i]? = some (na i, .inr (1, nF (N i))) := by
  rw [List.getElem?_append_right (by omega), show F.length + i - F.length = i by omega]
  exact nP_get hi
theorem nP_set0 {na : Nat → Nat} {N : Nat → N5} {i : Nat} {X : N5} (hi : i < 41) : (nP na N).set i (na i, .inr (1, nF X)) = nP na (upN N i X) := by
  apply List.ext_getElem?
  intro k
  rw [List.getElem?_set, nP_len]
  by_cases h : i = k
  · subst h
    rw [if_pos rfl, if_pos hi, nP_get hi, upN_eq]
  · rw [if_neg h]
    by_cases hk : k < 41
    · rw [nP_get hk, nP_get hk, upN_ne (fun e => h e.symm)]
    · rw [nP_out hk, nP_out hk]
theorem nP_set {F : va_W} {na : Nat → Nat} {N : Nat → N5} {i : Nat} {X : N5} (hi : i < 41) : (F ++ nP na N).set (F.length + i) (na i, .inr (1, nF X)) = F ++ nP na (upN N i X) := by
  rw [List.set_append_right _ _ (by omega), show F.length + i - F.length = i by omega, nP_set0 hi]
theorem nP_ad {na : Nat → Nat} {N : Nat → N5} : (nP na N).map (·.1) = nA na := by
  unfold nP nA
  rw [List.map_map]
  rfl
theorem zad_pool {Fc : va_W} {na : Nat → Nat} {N : Nat → N5} {as : List Nat} (h : Fc.map (·.1) = as) : (Fc ++ nP na N).map (·.1) = as ++ nA na := by
  rw [List.map_append, nP_ad, h]
theorem zsel_lt {F Fc : va_W} {isC : List Nat} (hi : isC.map (fun i => F[i]?) = Fc.map some) {i : Nat} (h : i ∈ isC) : i < F.length := by
  have h1 : F[i]? ∈ isC.map (fun i => F[i]?) := List.mem_map.mpr ⟨i, h, rfl⟩
  rw [hi] at h1
  obtain ⟨c, _, hc⟩ := List.mem_map.mp h1
  exact (List.getElem?_eq_some_iff.mp hc.symm).1
theorem zsel_pool {F Fc : va_W} {na : Nat → Nat} {N : Nat → N5} {isC : List Nat} {n : Nat} (hn : F.length = n) (hi : isC.map (fun i => F[i]?) = Fc.map some) : (isC ++ npr n).map (fun i => (F ++ nP na N)[i]?) = (Fc ++ nP na N).map some := by
  subst hn
  rw [List.map_append, List.map_append]
  congr 1
  · rw [← hi]
    apply List.map_congr_left
    intro i h
    exact List.getElem?_append_left (zsel_lt hi h)
  · unfold npr
    rw [List.map_map]
    show _ = List.map some (nP na N)
    conv => rhs; unfold nP
    rw [List.map_map]
    apply List.map_congr_left
    intro k hk
    exact nP_at (List.mem_range.mp hk)
theorem zput_tail : ∀ (L L2 F : va_W), L.length = L2.length → zput (F ++ L) ((List.range L.length).map (fun k => F.length + k)) L2 = F ++ L2
  | [], [], F, _ => by unfold zput; rfl
  | [], _ :: _, _, h => by simp at h
  | _ :: _, [], _, h => by simp at h
  | a :: L, c :: L2, F, h => by
    rw [List.length_cons, List.range_succ_eq_map, List.map_cons, List.map_map]
    show zput ((F ++ a :: L).set (F.length + 0) c) _ L2 = _
    rw [List.set_append_right _ _ (by omega), show F.length + 0 - F.length = 0 by omega]
    show zput (F ++ c :: L) _ L2 = F ++ c :: L2
    have h1 := zput_tail L L2 (F ++ [c]) (by simpa using h)
    rw [List.append_assoc, List.append_assoc] at h1
    rw [← show ((List.range L.length).map fun k => (F ++ [c]).length + k) = (List.range L.length).map ((fun k => F.length + k) ∘ Nat.succ) from List.map_congr_left (fun k _ => by show (F ++ [c]).length + k = F.length + (k + 1); rw [List.length_append]; show F.length + 1 + k = _; omega)]
    exact h1
theorem zput_pool {na : Nat → Nat} {N N2 : Nat → N5} {n : Nat} : ∀ (isC : List Nat) (Fc F : va_W), F.length = n → (∀ i, i ∈ isC → i < n) → isC.length = Fc.length → zput (F ++ nP na N) (isC ++ npr n) (Fc ++ nP na N2) = zput F isC Fc ++ nP na N2
  | [], [], F, hn, _, _ => by
    subst hn
    have h := zput_tail (nP na N) (nP na N2) F (by rw [nP_len, nP_len])
    rw [nP_len] at h
    show zput (F ++ nP na N) (npr F.length) (nP na N2) = F ++ nP na N2
    exact h
  | [], _ :: _, _, _, _, h => by simp at h
  | _ :: _, [], _, _, _, h => by simp at h
  | i :: isC, c :: Fc, F, hn, hlt, h => by
    show zput ((F ++ nP na N).set i c) (isC ++ npr n) (Fc ++ nP na N2) = zput (F.set i c) isC Fc ++ nP na N2
    rw [List.set_append_left _ _ (by rw [hn]; exact hlt i (List.mem_cons_self ..))]
    exact zput_pool isC Fc (F.set i c) (by rw [List.length_set]; exact hn) (fun j hj => hlt j (List.mem_cons_of_mem _ hj)) (by simpa using h)
theorem va_nd_of : ∀ {l : List Nat}, l.Nodup → va_nd l = true
  | [], _ => rfl
  | a :: l, h => by
    have h2 := List.nodup_cons.mp h
    show (decide (a ∉ l) && va_nd l) = true
    rw [va_nd_of h2.2, decide_eq_true h2.1]
    rfl
theorem va_nd_to : ∀ {l : List Nat}, va_nd l = true → l.Nodup
  | [], _ => List.nodup_nil
  | a :: l, h => by
    have h2 : (decide (a ∉ l) && va_nd l) = true := h
    rw [Bool.and_eq_true, decide_eq_true_eq] at h2
    exact List.nodup_cons.mpr ⟨h2.1, va_nd_to h2.2⟩
theorem npr_nodup (n : Nat) : (npr n).Nodup := by
  unfold npr
  unfold List.Nodup
  rw [List.pairwise_map]
  exact List.Pairwise.imp (fun h e => h (by omega)) (List.nodup_range (n := 41))
theorem va_nd_pool {isC : List Nat} {n : Nat} (h : va_nd isC = true) (hlt : isC.all (fun i => Nat.blt i n) = true) : va_nd (isC ++ npr n) = true := by
  refine va_nd_of (List.nodup_append.mpr ⟨va_nd_to h, npr_nodup n, fun a ha b hb e => ?_⟩)
  subst e
  have h1 := List.all_eq_true.mp hlt a ha
  unfold npr at hb
  obtain ⟨k, _, hk⟩ := List.mem_map.mp hb
  have h2 := Nat.blt_eq.mp h1
  omega
theorem zlt_all {isC : List Nat} {n : Nat} (hlt : isC.all (fun i => Nat.blt i n) = true) : ∀ i, i ∈ isC → i < n := fun i hi => Nat.blt_eq.mp (List.all_eq_true.mp hlt i hi)
section ZRP
variable {S : Type} {p : Program} {l : Launch} {e : Env} {R : Room} {s : State} {m : MethodId} {args : Array Value} {below : List Frame} {meth : Method} {c : Code} {H : Heap} {locs : List Loc} {cells slots : Nat} {Q : State → Prop}
variable {D : va_G} {ka : Nat → ClassId} {kb : Nat → Nat} {A : Nat → Prop} {cc : ByteArray} {own : String} {nL : Nat} {ret : Option FieldType} {ws : va_W} {pc : Nat} {ls : Array Slot} {rest st0 : List Value}
variable {idx : Nat} {C : String} {y : MethodName} {cy : ByteArray} {ny : Nat} {ty : FieldType} {n fr lo : Nat} {b : Nat} {As : List Value} {wc : va_W} {wf : S → va_W} {F : va_W} {na : Nat → Nat} {N : Nat → N5} {i : Nat}
theorem zB_pool {Fc F2 : va_W} {N2 : Nat → N5} {isC : List Nat} (hB : zB D A s (zput (F ++ nP na N) (isC ++ npr n) (Fc ++ nP na N2)) H locs) (hn : F.length = n) (hlt : isC.all (fun i => Nat.blt i n) = true) (hl : isC.length = Fc.length) (h2 : zput F isC Fc = F2) : zB D A s (F2 ++ nP na N2) H locs := by
  rw [zput_pool isC Fc F hn (zlt_all hlt) hl, h2] at hB
  exact hB
theorem zB_num {X : N5} (hB : zB D A s (zput (F ++ nP na N) [n + i] [(na i, .inr (1, nF X))]) H locs) (hn : F.length = n) (hi : i < 41) : zB D A s (F ++ nP na (upN N i X)) H locs := by
  subst hn
  have h : zput (F ++ nP na N) [F.length + i] [(na i, .inr (1, nF X))] = (F ++ nP na N).set (F.length + i) (na i, .inr (1, nF X)) := rfl
  rw [h, nP_set hi] at hB
  exact hB
theorem zsel_num (hn : F.length = n) (hi : i < 41) : [n + i].map (fun i => (F ++ nP na N)[i]?) = [(na i, .inr (1, nF (N i)))].map some := by
  subst hn
  show [(F ++ nP na N)[F.length + i]?] = _
  rw [nP_at hi]
  rfl
theorem nP_atn (hn : F.length = n) (hi : i < 41) : (F ++ nP na N)[n + i]? = some (na i, .inr (1, nF (N i))) := by
  subst hn
  exact nP_at hi
theorem va_nd_1 (a : Nat) : va_nd [a] = true := va_nd_of (List.nodup_cons.mpr ⟨List.not_mem_nil, List.nodup_nil⟩)
theorem zgetN {T : u_T} {M k : Nat} (hf : zFS own idx 1 C T M k) (hF : zF p s m args meth c D ka kb A cc own nL ret) (hB : zB D A s (F ++ nP na N) H locs) (i : Nat) (hi : i < 41) {v : Value} (hv : (nF (N i))[k]? = some v) (hdg : decode cc pc = .ok (.getfield idx, 3))
    (kk : W p l e R s m args below meth c H locs cells slots Q (F0 m (pc + 3) ls (v :: rest))) : W p l e R s m args below meth c H locs cells slots Q (F0 m pc ls (.ref (na i) :: rest)) :=
  zget hf hF hB (F.length + i) (nP_at hi) hv hdg kk
theorem zputN4 {T : u_T} {M : Nat} {v : Int64} (hf : zFP own idx 1 C T M 4 .long) (hF : zF p s m args meth c D ka kb A cc own nL ret) (hB : zB D A s (F ++ nP na N) H locs) (i : Nat) (hi : i < 41) (hdg : decode cc pc = .ok (.putfield idx, 3))
    (kk : ∀ (H1 : Heap) (locs1 : List Loc), zB D A s (F ++ nP na (upN N i ((N i).1, (N i).2.1, (N i).2.2.1, (N i).2.2.2.1, v))) H1 locs1 → W p l e R s m args below meth c H1 locs1 cells slots Q (F0 m (pc + 3) ls rest)) : W p l e R s m args below meth c H locs cells slots Q (F0 m pc ls (.long v :: .ref (na i) :: rest)) := by
  refine zput_f hf hF hB (F.length + i) (nP_at hi) rfl rfl (by show 4 < 5; omega) hdg (fun H1 locs1 h => kk H1 locs1 ?_)
  rw [← nP_set hi]
  exact h
end ZRP
/-- a row of NUMBERS of the pool, from place k on -/
def nR (na : Nat → Nat) (k : Nat) : Nat → Option Nat := fun j => some (na (k + j))
theorem nR_0 (na : Nat → Nat) (j : Nat) : nR na 0 j = some (na j) := by show some (na (0 + j)) = _; rw [Nat.zero_add]
/-! the class's Euclid -/
theorem lN_int {n : Nat} (h : n < 2 ^ 63) : (lN n).toInt = (n : Int) := lg_ofNat_toInt (by omega)
theorem lN_pos {n : Nat} (h : n < 2 ^ 63) : 0 < lN n ↔ 0 < n := by
  rw [Int64.lt_iff_toInt_lt, lN_int h, show (0 : Int64).toInt = 0 from rfl]
  omega
theorem lN_of {x : Int64} (h : 0 ≤ x.toInt) : x = lN x.toInt.natAbs := by
  have h1 := i64_rng x
  rw [i64_eq, lN_int (by omega)]
  omega
theorem lN_rem {u v : Nat} (hu : u < 2 ^ 63) (hv : v < 2 ^ 63) (h0 : 0 < v) : lN u - lN u / lN v * lN v = lN (u % v) := by
  have h1 := Nat.mod_lt u h0
  rw [i64_eq, i64_rem _ _ (lN_ne0 hv h0), lN_int hu, lN_int hv, lN_int (by omega)]
  rfl
theorem abs_rem {x : Int64} {u : Nat} (hu : u < 2 ^ 63) (h0 : 0 < u) : (if 0 < x - x / lN u * lN u then x - x / lN u * lN u else -(x - x / lN u * lN u)) = lN (x.toInt.natAbs % u) := by
  have h1 : (x - x / lN u * lN u).toInt = x.toInt.tmod (u : Int) := by rw [i64_rem _ _ (lN_ne0 hu h0), lN_int hu]
  have hm := Nat.mod_lt x.toInt.natAbs h0
  have hb := i64_rng x
  generalize x - x / lN u * lN u = y at h1
  have h2 : x.toInt.tmod (u : Int) = if 0 ≤ x.toInt then ((x.toInt.natAbs % u : Nat) : Int) else -((x.toInt.natAbs % u : Nat) : Int) := by
    split
    · have e : x.toInt = ((x.toInt.natAbs : Nat) : Int) := by omega
      rw [e]; rfl
    · have e : x.toInt = -((x.toInt.natAbs : Nat) : Int) := by omega
      rw [e, Int.neg_tmod, Int.natAbs_neg]; rfl
  rw [h2] at h1
  by_cases h3 : 0 < y
  · rw [if_pos h3, i64_eq, lN_int (by omega)]
    rw [Int64.lt_iff_toInt_lt, show (0 : Int64).toInt = 0 from rfl] at h3
    split at h1 <;> omega
  · rw [if_neg h3]
    rw [Int64.lt_iff_toInt_lt, show (0 : Int64).toInt = 0 from rfl] at h3
    have h4 : y.toInt = -((x.toInt.natAbs % u : Nat) : Int) := by split at h1 <;> omega
    have h5 : y = Int64.ofInt (-((x.toInt.natAbs % u : Nat) : Int)) := by
      rw [i64_eq, Int64.toInt_ofInt_of_le (by omega) (by omega), h4]
    rw [h5, ← Int64.ofInt_neg, Int.neg_neg]
    rfl

