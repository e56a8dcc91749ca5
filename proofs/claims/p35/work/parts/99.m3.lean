/-! when nothing can be found; what registers answer -/
theorem wv_eq {a b : Nat} (ha : a < 12) (hb : b < 12) {g h : Int} (hg : 0 ≤ g) (hh : 0 ≤ h) : d4 (s4 g (wv a)) (s4 h (wv b)) = z4 ↔ g = h ∧ (g = 0 ∨ a = b) := by
  have hd : ∀ x y : I4, d4 x y = z4 ↔ x = y := fun x y => by
    constructor
    · intro e
      simp only [d4, z4, Prod.mk.injEq] at e
      obtain ⟨e1, e2, e3, e4⟩ := e
      exact i4_ext (by omega) (by omega) (by omega) (by omega)
    · rintro rfl
      apply i4_ext <;> simp only [d4, z4] <;> omega
  rw [hd]
  constructor
  · intro e
    have e2 := congrArg (fun x => m4 x (wv ((12 - b) % 12))) e
    simp only [m4_s] at e2
    rw [wv_m a ha _ (Nat.mod_lt _ (by decide)), wv_m b hb _ (Nat.mod_lt _ (by decide)), s4_s, s4_s, show (b + (12 - b) % 12) % 12 = 0 by omega, Int.mul_comm g, Int.mul_comm h, ← s4_s, ← s4_s] at e2
    have e3 := s4_inj (by omega) e2
    obtain ⟨c, hc⟩ : ∃ c, c = (a + (12 - b) % 12) % 12 := ⟨_, rfl⟩
    rw [← hc] at e3
    have hc2 : c < 12 := by omega
    have ht : ∀ c, c < 12 → (c = 0 ∧ wv c = (2, 0, 0, 0)) ∨ (c = 6 ∧ wv c = (-2, 0, 0, 0)) ∨ (wv c).2.1 = 1 ∨ (wv c).2.1 = -1 ∨ (wv c).2.2.2 = 1 ∨ (wv c).2.2.2 = -1 ∨ (wv c).2.2.1 = 2 ∨ (wv c).2.2.1 = -2 := by decide +kernel
    have h0 : wv 0 = (2, 0, 0, 0) := rfl
    rw [h0] at e3
    have k1 : g * (wv c).1 = h * 2 := congrArg (·.1) e3
    have k2 : g * (wv c).2.1 = h * 0 := congrArg (·.2.1) e3
    have k3 : g * (wv c).2.2.1 = h * 0 := congrArg (·.2.2.1) e3
    have k4 : g * (wv c).2.2.2 = h * 0 := congrArg (·.2.2.2) e3
    rcases ht c hc2 with ⟨q, w⟩ | ⟨q, w⟩ | w | w | w | w | w | w
    · rw [w] at k1
      simp only at k1
      exact ⟨by omega, Or.inr (by omega)⟩
    · rw [w] at k1
      simp only at k1
      exact ⟨by omega, Or.inl (by omega)⟩
    · rw [w] at k2
      have g0 : g = 0 := by omega
      rw [g0, Int.zero_mul] at k1
      exact ⟨by omega, Or.inl g0⟩
    · rw [w] at k2
      have g0 : g = 0 := by omega
      rw [g0, Int.zero_mul] at k1
      exact ⟨by omega, Or.inl g0⟩
    · rw [w] at k4
      have g0 : g = 0 := by omega
      rw [g0, Int.zero_mul] at k1
      exact ⟨by omega, Or.inl g0⟩
    · rw [w] at k4
      have g0 : g = 0 := by omega
      rw [g0, Int.zero_mul] at k1
      exact ⟨by omega, Or.inl g0⟩
    · rw [w] at k3
      have g0 : g = 0 := by omega
      rw [g0, Int.zero_mul] at k1
      exact ⟨by omega, Or.inl g0⟩
    · rw [w] at k3
      have g0 : g = 0 := by omega
      rw [g0, Int.zero_mul] at k1
      exact ⟨by omega, Or.inl g0⟩
  · rintro ⟨rfl, h | rfl⟩
    · rw [h, s4_0, s4_0]
    · rfl
theorem D4_z {ga lg : Nat → Int32} (h : sU ga lg) : D4 ga lg = z4 ↔ ((ga 0).toInt * (ga 3).toInt = (ga 1).toInt * (ga 2).toInt ∧ ((ga 0).toInt * (ga 3).toInt = 0 ∨ (aN (lg 0) + aN (lg 3)) % 12 = (aN (lg 1) + aN (lg 2)) % 12)) := by
  obtain ⟨a0, b0⟩ := h 0 (by decide)
  obtain ⟨a1, b1⟩ := h 1 (by decide)
  obtain ⟨a2, b2⟩ := h 2 (by decide)
  obtain ⟨a3, b3⟩ := h 3 (by decide)
  exact wv_eq (Nat.mod_lt _ (by decide)) (Nat.mod_lt _ (by decide)) (Int.mul_nonneg a0.1 a3.1) (Int.mul_nonneg a1.1 a2.1)
/-! registers -/
/-- what the law puts -/
def rgX (X : N5) : Prop := ∃ (A : I4) (D : Int), Rq X A D ∧ bd4 A 49 ∧ D ≤ 30
theorem rgX.bd {X : N5} (h : rgX X) : bdN X 49 30 := by
  obtain ⟨A, D, h1, h2, h3⟩ := h
  exact bd_le (bd4_N h1 h2) (Int.le_refl _) h3
theorem rg_put {a b c e d : Int32} (h1 : -49 ≤ a.toInt ∧ a.toInt ≤ 49) (h2 : -49 ≤ b.toInt ∧ b.toInt ≤ 49) (h3 : -49 ≤ c.toInt ∧ c.toInt ≤ 49) (h4 : -49 ≤ e.toInt ∧ e.toInt ≤ 49) (h5 : 1 ≤ d.toInt ∧ d.toInt ≤ 30) : rgX (lowN a.toInt64 b.toInt64 c.toInt64 e.toInt64 d.toInt64) := by
  have E : ∀ x : Int32, x.toInt64.toInt = x.toInt := fun x => by
    have := i32_rng x
    rw [i64_w, ofI_i (by omega)]
  have k := Rq_low (a := a.toInt64) (b := b.toInt64) (c := c.toInt64) (e := e.toInt64) (d := d.toInt64) (by rw [E]; omega)
  rw [E, E, E, E, E] at k
  exact ⟨_, _, k, ⟨h1, h2, h3, h4⟩, h5.2⟩
theorem rg_sum {X Y : N5} (hx : rgX X) (hy : rgX Y) : sumO false X Y = false ∧ sumO true (sumV false X Y) Y = false ∧ sumV true (sumV false X Y) Y = X ∧ sumO true (sumV false X Y) X = false ∧ sumV true (sumV false X Y) X = Y := by
  have bx := hx.bd
  have b2 := hy.bd
  obtain ⟨A, D, h1, _, _⟩ := hx
  obtain ⟨B, E, k1, _, _⟩ := hy
  have r1 := Rq_sc h1 k1.2.1
  have r2 := Rq_sc k1 h1.2.1
  rw [Int.mul_comm] at r2
  obtain ⟨o1, c1⟩ := sum_bd bx b2 (by omega) (by omega) (by omega)
  have s := Rq_sum r1 r2 o1
  have o2 : sumO true (sumV false X Y) Y = false := sum_of c1 b2 (by omega) (by omega) (by omega)
  have o3 : sumO true (sumV false X Y) X = false := sum_of c1 bx (by omega) (by omega) (by omega)
  have t1 := Rq_sub s r2 o2
  have t2 := Rq_sub s r1 o3
  rw [show ∀ x y : I4, d4 (a4 x y) y = x from fun x y => by apply i4_ext <;> simp only [a4, d4] <;> omega] at t1
  rw [show ∀ x y : I4, d4 (a4 x y) x = y from fun x y => by apply i4_ext <;> simp only [a4, d4] <;> omega] at t2
  exact ⟨o1, o2, Rq_uniq t1 r1, o3, Rq_uniq t2 r2⟩
theorem rg_prod {X Y : N5} (hx : rgX X) (hy : rgX Y) : prodO X Y = false ∧ prodO Y X = false ∧ prodV X Y = prodV Y X ∧ bdN (prodV X Y) 19208 900 ∧ lw (prodV X Y) ∧ (zeroN Y = false → quoO (prodV X Y) Y = false ∧ quoV (prodV X Y) Y = X) := by
  have bx := hx.bd
  have b2 := hy.bd
  obtain ⟨A, D, h1, _, _⟩ := hx
  obtain ⟨B, E, k1, _, _⟩ := hy
  obtain ⟨o1, c1⟩ := prod_of bx b2 (by omega) (by omega) (by omega) (by omega)
  obtain ⟨o2, c2⟩ := prod_of b2 bx (by omega) (by omega) (by omega) (by omega)
  have r1 := Rq_prod h1 k1 o1
  have r2 := Rq_prod k1 h1 o2
  rw [m4_comm, Int.mul_comm] at r2
  refine ⟨o1, o2, Rq_uniq r1 r2, c1, r1.2.2.1, fun hz => ?_⟩
  have o3 : quoO (prodV X Y) Y = false := quo_of c1 (bd_le b2 (by omega) (Int.le_refl 30)) (by omega) hz (by omega) (by omega) (by omega) (by omega)
  exact ⟨o3, Rq_uniq (Rq_quo r1 k1 o3 hz h1.2.1 rfl) h1⟩
/-! signs turn with the two -/
def ngN (X : N5) : N5 := (-X.1, -X.2.1, -X.2.2.1, -X.2.2.2.1, X.2.2.2.2)
theorem ng_i {x : Int64} (h : -1000000000 ≤ x.toInt ∧ x.toInt ≤ 1000000000) : (-x).toInt = -x.toInt := neg_i (B := 1000000000) (by omega) h
theorem Rq_ng {X : N5} {A : I4} {D B Dm : Int} (h : Rq X A D) (hb : bdN X B Dm) (hB : B ≤ 1000000000) : Rq (ngN X) (s4 (-1) A) D := by
  obtain ⟨x1, x2, x3, x4, x5⟩ := hb
  have e1 := ng_i (x := X.1) (by omega)
  have e2 := ng_i (x := X.2.1) (by omega)
  have e3 := ng_i (x := X.2.2.1) (by omega)
  have e4 := ng_i (x := X.2.2.2.1) (by omega)
  obtain ⟨h1, h2, h3, h4⟩ := h
  refine ⟨h1, h2, ?_, ?_⟩
  · unfold lw gc ngN at *
    simp only [e1, e2, e3, e4, Int.natAbs_neg]
    exact h3
  · have en : nm (ngN X) = s4 (-1) (nm X) := by
      unfold nm ngN
      simp only [e1, e2, e3, e4]
      apply i4_ext <;> simp only [s4] <;> omega
    rw [en, s4_s, Int.mul_comm D, ← s4_s, h4, s4_s, Int.mul_comm (-1), ← s4_s]
    rfl
theorem sgI1_ng (z : Int) : sgI1 (-z) = -sgI1 z := by
  unfold sgI1
  rcases Int.lt_trichotomy z 0 with h | h | h
  · rw [if_neg (by omega), if_pos (by omega), if_pos h]; rfl
  · rw [h]; rfl
  · rw [if_pos (by omega), if_neg (by omega), if_pos h]
theorem sgI1_3 (z : Int) : sgI1 z = -1 ∨ sgI1 z = 0 ∨ sgI1 z = 1 := by
  unfold sgI1
  split
  · exact Or.inl rfl
  · split
    · exact Or.inr (Or.inr rfl)
    · exact Or.inr (Or.inl rfl)
theorem sgI_3 (a b : Int) : sgI a b = -1 ∨ sgI a b = 0 ∨ sgI a b = 1 := by
  unfold sgI
  split
  · exact sgI1_3 a
  · split
    · exact sgI1_3 b
    · split
      · exact sgI1_3 a
      · exact sgI1_3 b
theorem sgI_ng (a b : Int) : sgI (-a) (-b) = -sgI a b := by
  have h1 := sgI1_3 a
  have h2 := sgI1_3 b
  unfold sgI
  rw [sgI1_ng, sgI1_ng, show 3 * -b * -b = 3 * b * b by grind, show -a * -a = a * a by grind]
  generalize sgI1 a = x at *
  generalize sgI1 b = y at *
  by_cases h : 3 * b * b < a * a
  · simp only [h, if_true]
    rcases h1 with rfl | rfl | rfl <;> rcases h2 with rfl | rfl | rfl <;> decide
  · simp only [h, if_false]
    rcases h1 with rfl | rfl | rfl <;> rcases h2 with rfl | rfl | rfl <;> decide
theorem cmp_of {G : Nat → N5} {r s : Nat} (hr : r < 6) (hs : s < 6) {B D : Int} (ho : sumO true (G r) (G s) = false) (hb : bdN (sumV true (G r) (G s)) B D) (hB : B ≤ 1000000000) : cmpV (nI r) (nI s) G = if ¬ ((sumV true (G r) (G s)).2.2.1 = 0 ∧ (sumV true (G r) (G s)).2.2.2.1 = 0) then -3 else sgI (sumV true (G r) (G s)).1.toInt (sumV true (G r) (G s)).2.1.toInt := by
  have er : (nI r).toInt.toNat = r := by rw [nI_toInt (by omega)]; rfl
  have es : (nI s).toInt.toNat = s := by rw [nI_toInt (by omega)]; rfl
  unfold cmpV
  rw [if_neg (fun h => h ⟨inI_k hr (by decide), inI_k hs (by decide)⟩), er, es, if_neg (by rw [ho]; decide)]
  generalize sumV true (G r) (G s) = T at *
  obtain ⟨t1, t2, _⟩ := hb
  have sm : smA T.1.toInt T.2.1.toInt := ⟨by omega, by omega⟩
  have q1 := sgSq_I sm
  have q2 := signV_I sm
  rw [← i64_of, ← i64_of] at q2
  have q3 : sgSq T.1 T.2.1 = false := by have := q1.1; rw [← i64_of, ← i64_of] at this; exact this
  rw [q3, q2, Bool.and_false]
  simp only [Bool.false_eq_true, if_false]
theorem cmp_pair {G : Nat → N5} (hx : rgX (G 0)) (hy : rgX (G 1)) : (cmpV (nI 0) (nI 1) G = -3 ∧ cmpV (nI 1) (nI 0) G = -3) ∨ (cmpV (nI 0) (nI 1) G ≠ -3 ∧ cmpV (nI 1) (nI 0) G = -cmpV (nI 0) (nI 1) G) := by
  have bx := hx.bd
  have b2 := hy.bd
  obtain ⟨A, D, h1, ha, hD⟩ := hx
  obtain ⟨B, E, k1, kb, kE⟩ := hy
  have r1 := Rq_sc h1 k1.2.1
  have r2 := Rq_sc k1 h1.2.1
  rw [Int.mul_comm] at r2
  have o1 : sumO true (G 0) (G 1) = false := sum_of bx b2 (by omega) (by omega) (by omega)
  have o2 : sumO true (G 1) (G 0) = false := sum_of b2 bx (by omega) (by omega) (by omega)
  have t1 := Rq_sub r1 r2 o1
  have t2 := Rq_sub r2 r1 o2
  have hd0 := h1.2.1
  have he0 := k1.2.1
  have q1 : bd4 (s4 E A) 1470 := bd4_s (C := 30) (by omega) ha rfl
  have q2 : bd4 (s4 D B) 1470 := bd4_s (C := 30) (by omega) kb rfl
  have c1 := bd4_N t1 (bd4_d q1 q2)
  have c2 := bd4_N t2 (bd4_d q2 q1)
  have tn := Rq_ng t1 c1 (by omega)
  rw [show ∀ x y : I4, s4 (-1) (d4 x y) = d4 y x from fun x y => by apply i4_ext <;> simp only [s4, d4] <;> omega] at tn
  have hn := Rq_uniq t2 tn
  rw [cmp_of (by decide) (by decide) o1 c1 (by omega), cmp_of (by decide) (by decide) o2 c2 (by omega), hn]
  generalize sumV true (G 0) (G 1) = T at *
  obtain ⟨w1, w2, w3, w4, _⟩ := c1
  have z : ∀ x : Int64, -1000000000 ≤ x.toInt ∧ x.toInt ≤ 1000000000 → (-x = 0 ↔ x = 0) := fun x hx => by
    rw [i64_eq, i64_eq, ng_i hx, show (0 : Int64).toInt = 0 from rfl]
    omega
  have z3 := z T.2.2.1 (by omega)
  have z4 := z T.2.2.2.1 (by omega)
  show (_ ∧ (if ¬ (-T.2.2.1 = 0 ∧ -T.2.2.2.1 = 0) then (-3 : Int32) else sgI (-T.1).toInt (-T.2.1).toInt) = -3) ∨ (_ ∧ (if ¬ (-T.2.2.1 = 0 ∧ -T.2.2.2.1 = 0) then (-3 : Int32) else sgI (-T.1).toInt (-T.2.1).toInt) = _)
  rw [ng_i (x := T.1) (by omega), ng_i (x := T.2.1) (by omega), sgI_ng]
  by_cases h : ¬ (T.2.2.1 = 0 ∧ T.2.2.2.1 = 0)
  · rw [if_pos h, if_pos (fun e => h ⟨z3.mp e.1, z4.mp e.2⟩)]
    exact Or.inl ⟨rfl, rfl⟩
  · rw [if_neg h, if_neg (fun e => h (fun e9 => e ⟨z3.mpr e9.1, z4.mpr e9.2⟩))]
    refine Or.inr ⟨fun e => ?_, rfl⟩
    rcases sgI_3 T.1.toInt T.2.1.toInt with q | q | q <;> rw [q] at e <;> exact absurd e (by decide)
theorem cmp_same {G : Nat → N5} {r s : Nat} (hr : r < 6) (hs : s < 6) (e : G r = G s) (hl : lw (G r)) {B D : Int} (hb : bdN (G r) B D) (hB : B * D ≤ 1000000000000) (hD : D * D ≤ 1000000000000) : cmpV (nI r) (nI s) G = 0 := by
  have hd0 : 0 < dn (G r) := by have := hb.2.2.2.2; show 0 < (G r).2.2.2.2.toInt; omega
  have r0 : Rq (G r) (nm (G r)) (dn (G r)) := ⟨hd0, hd0, hl, rfl⟩
  have o1 : sumO true (G r) (G s) = false := by rw [← e]; exact sum_of hb hb (by omega) (by omega) (by omega)
  have t := Rq_sub r0 (by rw [← e]; exact r0) o1
  have hz : d4 (nm (G r)) (nm (G r)) = z4 := by apply i4_ext <;> simp only [d4, z4] <;> omega
  rw [hz] at t
  have b0 : bd4 z4 0 := ⟨by decide, by decide, by decide, by decide⟩
  have c := bd4_N t b0
  rw [cmp_of hr hs o1 c (by omega)]
  obtain ⟨w1, w2, w3, w4, _⟩ := c
  have z : ∀ x : Int64, -0 ≤ x.toInt ∧ x.toInt ≤ 0 → x = 0 := fun x hx => by
    rw [i64_eq, show (0 : Int64).toInt = 0 from rfl]
    omega
  rw [if_neg (fun h => h ⟨z _ w3, z _ w4⟩), z _ w1, z _ w2]
  rfl
