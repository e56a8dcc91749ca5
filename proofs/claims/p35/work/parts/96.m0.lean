/-! numbers as quotients of whole ones: A by D -/
abbrev I4 : Type := Int × Int × Int × Int
def m4 (x y : I4) : I4 := (x.1 * y.1 + 3 * x.2.1 * y.2.1 - (x.2.2.1 * y.2.2.1 + 3 * x.2.2.2 * y.2.2.2), x.1 * y.2.1 + x.2.1 * y.1 - (x.2.2.1 * y.2.2.2 + x.2.2.2 * y.2.2.1), x.1 * y.2.2.1 + 3 * x.2.1 * y.2.2.2 + x.2.2.1 * y.1 + 3 * x.2.2.2 * y.2.1, x.1 * y.2.2.2 + x.2.1 * y.2.2.1 + x.2.2.1 * y.2.1 + x.2.2.2 * y.1)
def s4 (k : Int) (x : I4) : I4 := (k * x.1, k * x.2.1, k * x.2.2.1, k * x.2.2.2)
def a4 (x y : I4) : I4 := (x.1 + y.1, x.2.1 + y.2.1, x.2.2.1 + y.2.2.1, x.2.2.2 + y.2.2.2)
def d4 (x y : I4) : I4 := (x.1 - y.1, x.2.1 - y.2.1, x.2.2.1 - y.2.2.1, x.2.2.2 - y.2.2.2)
def z4 : I4 := (0, 0, 0, 0)
theorem i4_ext {x y : I4} (h1 : x.1 = y.1) (h2 : x.2.1 = y.2.1) (h3 : x.2.2.1 = y.2.2.1) (h4 : x.2.2.2 = y.2.2.2) : x = y := by
  obtain ⟨a, b, c, e⟩ := x
  obtain ⟨f, g, h, k⟩ := y
  simp only at h1 h2 h3 h4
  rw [h1, h2, h3, h4]
theorem m4_assoc (x y z : I4) : m4 (m4 x y) z = m4 x (m4 y z) := by
  apply i4_ext <;> simp only [m4] <;> grind
theorem m4_comm (x y : I4) : m4 x y = m4 y x := by
  apply i4_ext <;> simp only [m4] <;> grind
theorem m4_s (k : Int) (x y : I4) : m4 (s4 k x) y = s4 k (m4 x y) := by
  apply i4_ext <;> simp only [m4, s4] <;> grind
theorem m4_sr (k : Int) (x y : I4) : m4 x (s4 k y) = s4 k (m4 x y) := by rw [m4_comm, m4_s, m4_comm]
theorem m4_a (x y z : I4) : m4 (a4 x y) z = a4 (m4 x z) (m4 y z) := by
  apply i4_ext <;> simp only [m4, a4] <;> grind
theorem m4_d (x y z : I4) : m4 (d4 x y) z = d4 (m4 x z) (m4 y z) := by
  apply i4_ext <;> simp only [m4, d4] <;> grind
theorem s4_s (j k : Int) (x : I4) : s4 j (s4 k x) = s4 (j * k) x := by
  apply i4_ext <;> simp only [s4] <;> grind
theorem s4_a (k : Int) (x y : I4) : s4 k (a4 x y) = a4 (s4 k x) (s4 k y) := by
  apply i4_ext <;> simp only [s4, a4] <;> grind
theorem s4_d (k : Int) (x y : I4) : s4 k (d4 x y) = d4 (s4 k x) (s4 k y) := by
  apply i4_ext <;> simp only [s4, d4] <;> grind
theorem s4_1 (x : I4) : s4 1 x = x := by
  apply i4_ext <;> simp only [s4] <;> omega
theorem s4_inj {k : Int} (hk : 0 < k) {x y : I4} (h : s4 k x = s4 k y) : x = y := by
  simp only [s4, Prod.mk.injEq] at h
  obtain ⟨h1, h2, h3, h4⟩ := h
  have hk0 : k ≠ 0 := by omega
  exact i4_ext (Int.eq_of_mul_eq_mul_left hk0 h1) (Int.eq_of_mul_eq_mul_left hk0 h2) (Int.eq_of_mul_eq_mul_left hk0 h3) (Int.eq_of_mul_eq_mul_left hk0 h4)
def nm (X : N5) : I4 := (X.1.toInt, X.2.1.toInt, X.2.2.1.toInt, X.2.2.2.1.toInt)
def dn (X : N5) : Int := X.2.2.2.2.toInt
def lw (X : N5) : Prop := gc X.1 X.2.1 X.2.2.1 X.2.2.2.1 X.2.2.2.2 = 1
/-- X is A by D, and in lowest terms -/
def Rq (X : N5) (A : I4) (D : Int) : Prop := 0 < dn X ∧ 0 < D ∧ lw X ∧ s4 D (nm X) = s4 (dn X) A
theorem dv_ex {x : Int64} {g : Nat} (hg : 0 < g) (hg2 : g < 2 ^ 63) (hd : g ∣ x.toInt.natAbs) : (x / lN g).toInt * (g : Int) = x.toInt := by
  obtain ⟨q, hq⟩ := Int.ofNat_dvd_left.mpr hd
  have hr := i64_rng x
  have h3 : q.natAbs ≤ x.toInt.natAbs := by
    rw [hq, Int.natAbs_mul]
    exact Nat.le_mul_of_pos_left _ (by omega)
  have h5 : ¬ q = 9223372036854775808 := fun e => by
    rw [e] at hq
    have h6 : (1 : Int) * 9223372036854775808 ≤ (g : Int) * 9223372036854775808 := Int.mul_le_mul_of_nonneg_right (by omega) (by omega)
    omega
  have h4 : (x / lN g).toInt = q := by
    rw [Int64.toInt_div, pk_lT (by omega), hq, Int.mul_comm (g : Int) q, Int.mul_tdiv_cancel _ (by omega), i64_bmod (by unfold outL; rw [dB_f]; omega)]
  rw [h4, hq, Int.mul_comm]
theorem gc_dd (a b c e d : Int64) : gc a b c e d ∣ d.toInt.natAbs := by
  unfold gc
  exact Nat.dvd_trans (Nat.gcd_dvd_left _ _) (Nat.dvd_trans (Nat.gcd_dvd_left _ _) (Nat.dvd_trans (Nat.gcd_dvd_left _ _) (Nat.gcd_dvd_left _ _)))
theorem gc_to {a b c e d : Int64} {n : Nat} (h1 : n ∣ a.toInt.natAbs) (h2 : n ∣ b.toInt.natAbs) (h3 : n ∣ c.toInt.natAbs) (h4 : n ∣ e.toInt.natAbs) (h5 : n ∣ d.toInt.natAbs) : n ∣ gc a b c e d := by
  unfold gc
  exact Nat.dvd_gcd (Nat.dvd_gcd (Nat.dvd_gcd (Nat.dvd_gcd h5 h1) h2) h3) h4
theorem gc_mul {a b c e d : Int64} {n m : Nat} (h1 : n ∣ m * a.toInt.natAbs) (h2 : n ∣ m * b.toInt.natAbs) (h3 : n ∣ m * c.toInt.natAbs) (h4 : n ∣ m * e.toInt.natAbs) (h5 : n ∣ m * d.toInt.natAbs) : n ∣ m * gc a b c e d := by
  unfold gc
  rw [← Nat.gcd_mul_left, ← Nat.gcd_mul_left, ← Nat.gcd_mul_left, ← Nat.gcd_mul_left]
  exact Nat.dvd_gcd (Nat.dvd_gcd (Nat.dvd_gcd (Nat.dvd_gcd h5 h1) h2) h3) h4
theorem lw_low {a b c e d : Int64} (hd : 0 < d.toInt) : lw (lowN a b c e d) := by
  obtain ⟨h1, h2⟩ := gc_le (a := a) (b := b) (c := c) (e := e) hd
  have hr := i64_rng d
  obtain ⟨d1, d2, d3, d4⟩ := gc_dv a b c e d
  have d5 := gc_dd a b c e d
  unfold lw lowN
  have e0 : ∀ x : Int64, gc a b c e d ∣ x.toInt.natAbs → ∀ n, n ∣ (x / lN (gc a b c e d)).toInt.natAbs → n * gc a b c e d ∣ x.toInt.natAbs := fun x hx n hn => by
    have h := dv_ex h1 (by omega) hx
    rw [← h, Int.natAbs_mul]
    exact Nat.mul_dvd_mul hn (Nat.dvd_refl _)
  generalize hn : gc (a / lN (gc a b c e d)) (b / lN (gc a b c e d)) (c / lN (gc a b c e d)) (e / lN (gc a b c e d)) (d / lN (gc a b c e d)) = n
  have q := gc_dv (a / lN (gc a b c e d)) (b / lN (gc a b c e d)) (c / lN (gc a b c e d)) (e / lN (gc a b c e d)) (d / lN (gc a b c e d))
  have q5 := gc_dd (a / lN (gc a b c e d)) (b / lN (gc a b c e d)) (c / lN (gc a b c e d)) (e / lN (gc a b c e d)) (d / lN (gc a b c e d))
  rw [hn] at q q5
  have k : n * gc a b c e d ∣ gc a b c e d := gc_to (e0 a d1 n q.1) (e0 b d2 n q.2.1) (e0 c d3 n q.2.2.1) (e0 e d4 n q.2.2.2) (e0 d d5 n q5)
  have k2 := Nat.le_of_dvd h1 k
  have k3 : n * gc a b c e d ≤ 1 * gc a b c e d := by omega
  have k4 := Nat.le_of_mul_le_mul_right k3 h1
  have k5 : n ≠ 0 := fun e9 => by
    rw [e9, Nat.zero_mul] at k
    have := Nat.eq_zero_of_zero_dvd k
    omega
  omega
theorem Rq_low {a b c e d : Int64} (hd : 0 < d.toInt) : Rq (lowN a b c e d) (a.toInt, b.toInt, c.toInt, e.toInt) d.toInt := by
  obtain ⟨h1, h2⟩ := gc_le (a := a) (b := b) (c := c) (e := e) hd
  have hr := i64_rng d
  obtain ⟨d1, d2, d3, d4⟩ := gc_dv a b c e d
  have d5 := gc_dd a b c e d
  refine ⟨lowN_d hd, hd, lw_low hd, ?_⟩
  have e1 := dv_ex h1 (by omega) d1
  have e2 := dv_ex h1 (by omega) d2
  have e3 := dv_ex h1 (by omega) d3
  have e4 := dv_ex h1 (by omega) d4
  have e5 := dv_ex h1 (by omega) d5
  unfold nm dn lowN
  generalize gc a b c e d = g at *
  apply i4_ext
  · show d.toInt * (a / lN g).toInt = (d / lN g).toInt * a.toInt
    rw [← e5, ← e1]; grind
  · show d.toInt * (b / lN g).toInt = (d / lN g).toInt * b.toInt
    rw [← e5, ← e2]; grind
  · show d.toInt * (c / lN g).toInt = (d / lN g).toInt * c.toInt
    rw [← e5, ← e3]; grind
  · show d.toInt * (e / lN g).toInt = (d / lN g).toInt * e.toInt
    rw [← e5, ← e4]; grind
theorem Rq_k {X : N5} {A : I4} {D : Int} (h : Rq X A D) : ∃ k : Int, 0 < k ∧ D = k * dn X ∧ A = s4 k (nm X) := by
  obtain ⟨h1, h2, h3, h4⟩ := h
  have e1 : D * X.1.toInt = dn X * A.1 := congrArg (·.1) h4
  have e2 : D * X.2.1.toInt = dn X * A.2.1 := congrArg (·.2.1) h4
  have e3 : D * X.2.2.1.toInt = dn X * A.2.2.1 := congrArg (·.2.2.1) h4
  have e4 : D * X.2.2.2.1.toInt = dn X * A.2.2.2 := congrArg (·.2.2.2) h4
  have E : ∀ x z : Int, D * x = dn X * z → (dn X).natAbs ∣ D.natAbs * x.natAbs := fun x z e => by
    rw [← Int.natAbs_mul, e, Int.natAbs_mul]
    exact Nat.dvd_mul_right _ _
  have g := gc_mul (E _ _ e1) (E _ _ e2) (E _ _ e3) (E _ _ e4) (show (dn X).natAbs ∣ D.natAbs * X.2.2.2.2.toInt.natAbs from Nat.dvd_mul_left _ _)
  rw [h3, Nat.mul_one] at g
  obtain ⟨k, hk⟩ := Int.natAbs_dvd_natAbs.mp g
  have hk0 : 0 < k := by
    have h9 : 0 < k * dn X := by rw [Int.mul_comm, ← hk]; exact h2
    exact Int.pos_of_mul_pos_left h9 h1
  refine ⟨k, hk0, by rw [hk, Int.mul_comm], ?_⟩
  refine (s4_inj h1 ?_)
  rw [← h4, s4_s, hk]
theorem Rq_uniq {X Y : N5} {A : I4} {D : Int} (hx : Rq X A D) (hy : Rq Y A D) : X = Y := by
  have c1 : s4 (dn Y) (nm X) = s4 (dn X) (nm Y) := by
    apply s4_inj hx.2.1
    have h1 := hx.2.2.2
    have h2 := hy.2.2.2
    rw [s4_s, s4_s, Int.mul_comm D (dn Y), Int.mul_comm D (dn X), ← s4_s, ← s4_s, h1, h2, s4_s, s4_s, Int.mul_comm]
  obtain ⟨k, k1, k2, k3⟩ := Rq_k (show Rq X (nm Y) (dn Y) from ⟨hx.1, hy.1, hx.2.2.1, c1⟩)
  obtain ⟨j, j1, j2, j3⟩ := Rq_k (show Rq Y (nm X) (dn X) from ⟨hy.1, hx.1, hy.2.2.1, c1.symm⟩)
  have m1 : 1 * dn X ≤ k * dn X := Int.mul_le_mul_of_nonneg_right (by omega) (Int.le_of_lt hx.1)
  have m2 : 1 * dn Y ≤ j * dn Y := Int.mul_le_mul_of_nonneg_right (by omega) (Int.le_of_lt hy.1)
  have ed : dn X = dn Y := by omega
  have ek : k = 1 := by
    have h9 : k * dn X = 1 * dn X := by omega
    exact Int.eq_of_mul_eq_mul_right (by have := hx.1; omega) h9
  rw [ek, s4_1] at k3
  obtain ⟨a, b, c, e, d⟩ := X
  obtain ⟨f, g, h, i, l⟩ := Y
  simp only [nm, dn, Prod.mk.injEq, Int64.toInt_inj] at k3 ed
  obtain ⟨q1, q2, q3, q4⟩ := k3
  rw [q1, q2, q3, q4, ed]
theorem Rq_to {X : N5} {A C : I4} {D F : Int} (h : Rq X A D) (hF : 0 < F) (e : s4 F A = s4 D C) : Rq X C F := by
  refine ⟨h.1, hF, h.2.2.1, ?_⟩
  apply s4_inj h.2.1
  have h1 := h.2.2.2
  rw [s4_s, Int.mul_comm D F, ← s4_s, h1, s4_s, Int.mul_comm F (dn X), ← s4_s, e, s4_s, s4_s, Int.mul_comm]
theorem Rq_sc {X : N5} {A : I4} {D k : Int} (h : Rq X A D) (hk : 0 < k) : Rq X (s4 k A) (k * D) := Rq_to h (Int.mul_pos hk h.2.1) (by rw [s4_s, Int.mul_comm])
theorem Rq_le {X : N5} {A : I4} {D : Int} (h : Rq X A D) : (X.1.toInt.natAbs ≤ A.1.natAbs ∧ X.2.1.toInt.natAbs ≤ A.2.1.natAbs ∧ X.2.2.1.toInt.natAbs ≤ A.2.2.1.natAbs ∧ X.2.2.2.1.toInt.natAbs ≤ A.2.2.2.natAbs) ∧ 1 ≤ dn X ∧ dn X ≤ D := by
  obtain ⟨k, k1, k2, k3⟩ := Rq_k h
  have E : ∀ x : Int, x.natAbs ≤ (k * x).natAbs := fun x => by
    rw [Int.natAbs_mul]
    exact Nat.le_mul_of_pos_left _ (by omega)
  have m1 : 1 * dn X ≤ k * dn X := Int.mul_le_mul_of_nonneg_right (by omega) (Int.le_of_lt h.1)
  rw [k3]
  exact ⟨⟨E _, E _, E _, E _⟩, h.1, by omega⟩
theorem Rq_bd {X : N5} {A : I4} {D B : Int} (h : Rq X A D) (h1 : -B ≤ A.1 ∧ A.1 ≤ B) (h2 : -B ≤ A.2.1 ∧ A.2.1 ≤ B) (h3 : -B ≤ A.2.2.1 ∧ A.2.2.1 ≤ B) (h4 : -B ≤ A.2.2.2 ∧ A.2.2.2 ≤ B) : bdN X B D := by
  obtain ⟨⟨e1, e2, e3, e4⟩, e5⟩ := Rq_le h
  exact ⟨by omega, by omega, by omega, by omega, e5⟩
theorem Rq_z {X : N5} {A : I4} {D : Int} (h : Rq X A D) : zeroN X = true ↔ A = z4 := by
  obtain ⟨k, k1, k2, k3⟩ := Rq_k h
  unfold zeroN
  rw [dB_t]
  have E : ∀ x : Int64, x = 0 ↔ x.toInt = 0 := fun x => i64_eq
  rw [E, E, E, E]
  constructor
  · rintro ⟨h1, h2, h3, h4⟩
    rw [k3]
    simp only [s4, nm, z4, h1, h2, h3, h4, Int.mul_zero]
  · intro e
    rw [k3] at e
    simp only [s4, nm, z4, Prod.mk.injEq] at e
    obtain ⟨h1, h2, h3, h4⟩ := e
    have hk0 : k ≠ 0 := by omega
    exact ⟨(Int.mul_eq_zero.mp h1).resolve_left hk0, (Int.mul_eq_zero.mp h2).resolve_left hk0, (Int.mul_eq_zero.mp h3).resolve_left hk0, (Int.mul_eq_zero.mp h4).resolve_left hk0⟩
/-! sums, products, quotients -/
theorem ssV_i {mi : Bool} {a d f l : Int64} (h : ssO mi a d f l = false) : (ssV mi a d f l).toInt = if mi = true then a.toInt * l.toInt - f.toInt * d.toInt else a.toInt * l.toInt + f.toInt * d.toInt := by
  unfold ssO at h
  rw [Bool.or_eq_false_iff, Bool.or_eq_false_iff] at h
  obtain ⟨⟨h1, h2⟩, h3⟩ := h
  cases mi
  · show (a * l + f * d).toInt = a.toInt * l.toInt + f.toInt * d.toInt
    rw [i64_add h3, i64_mul h1, i64_mul h2]
  · show (a * l - f * d).toInt = a.toInt * l.toInt - f.toInt * d.toInt
    rw [i64_sub h3, i64_mul h1, i64_mul h2]
theorem s4_cr {D E x y : Int} {X Y A B : I4} (h1 : s4 D X = s4 x A) (h2 : s4 E Y = s4 y B) : s4 (D * E) (m4 X Y) = s4 (x * y) (m4 A B) := by
  rw [← s4_s, ← m4_sr, h2, m4_sr, s4_s, Int.mul_comm D y, ← s4_s, ← m4_s, h1, m4_s, s4_s, Int.mul_comm y x]
theorem Rq_sum {X Y : N5} {A B : I4} {D : Int} (hx : Rq X A D) (hy : Rq Y B D) (h : sumO false X Y = false) : Rq (sumV false X Y) (a4 A B) D := by
  unfold sumO at h
  simp only [Bool.or_eq_false_iff] at h
  obtain ⟨⟨⟨⟨h1, h2⟩, h3⟩, h4⟩, h5⟩ := h
  have hd : 0 < (X.2.2.2.2 * Y.2.2.2.2).toInt := by rw [i64_mul h5]; exact Int.mul_pos hx.1 hy.1
  refine Rq_to (Rq_low hd) hx.2.1 ?_
  rw [ssV_i h1, ssV_i h2, ssV_i h3, ssV_i h4, i64_mul h5]
  have e1 := hx.2.2.2
  have e2 := hy.2.2.2
  simp only [s4, nm, dn, Prod.mk.injEq] at e1 e2
  obtain ⟨a1, a2, a3, a4'⟩ := e1
  obtain ⟨b1, b2, b3, b4⟩ := e2
  apply i4_ext <;> simp only [s4, a4, Bool.false_eq_true, if_false] <;> grind
theorem Rq_sub {X Y : N5} {A B : I4} {D : Int} (hx : Rq X A D) (hy : Rq Y B D) (h : sumO true X Y = false) : Rq (sumV true X Y) (d4 A B) D := by
  unfold sumO at h
  simp only [Bool.or_eq_false_iff] at h
  obtain ⟨⟨⟨⟨h1, h2⟩, h3⟩, h4⟩, h5⟩ := h
  have hd : 0 < (X.2.2.2.2 * Y.2.2.2.2).toInt := by rw [i64_mul h5]; exact Int.mul_pos hx.1 hy.1
  refine Rq_to (Rq_low hd) hx.2.1 ?_
  rw [ssV_i h1, ssV_i h2, ssV_i h3, ssV_i h4, i64_mul h5]
  have e1 := hx.2.2.2
  have e2 := hy.2.2.2
  simp only [s4, nm, dn, Prod.mk.injEq] at e1 e2
  obtain ⟨a1, a2, a3, a4'⟩ := e1
  obtain ⟨b1, b2, b3, b4⟩ := e2
  apply i4_ext <;> simp only [s4, d4, if_true] <;> grind
theorem prC_toInt {a b c e f g h k : Int64} (hh : prCo a b c e f g h k = false) : (prC a b c e f g h k).toInt = a.toInt * h.toInt + 3 * b.toInt * k.toInt + c.toInt * f.toInt + 3 * e.toInt * g.toInt := by
  unfold prCo at hh
  simp only [Bool.or_eq_false_iff] at hh
  obtain ⟨⟨⟨⟨⟨⟨h1, h2⟩, h3⟩, h4⟩, h5⟩, h6⟩, h7⟩ := hh
  unfold prC
  rw [i64_add h7, i64_add h5, i64_add h3, i64_mul h1, i64_mul h4, thV_toInt h2, thV_toInt h6]
theorem prE_toInt {a b c e f g h k : Int64} (hh : prEo a b c e f g h k = false) : (prE a b c e f g h k).toInt = a.toInt * k.toInt + b.toInt * h.toInt + c.toInt * g.toInt + e.toInt * f.toInt := by
  unfold prEo at hh
  simp only [Bool.or_eq_false_iff] at hh
  obtain ⟨⟨⟨⟨⟨⟨h1, h2⟩, h3⟩, h4⟩, h5⟩, h6⟩, h7⟩ := hh
  unfold prE
  rw [i64_add h7, i64_add h5, i64_add h3, i64_mul h1, i64_mul h4, i64_mul h2, i64_mul h6]
theorem Rq_prod0 {X Y : N5} (hx : 0 < dn X) (hy : 0 < dn Y) (h : prodO X Y = false) : Rq (prodV X Y) (m4 (nm X) (nm Y)) (dn X * dn Y) := by
  unfold prodO at h
  simp only [Bool.or_eq_false_iff] at h
  obtain ⟨⟨⟨⟨h1, h2⟩, h3⟩, h4⟩, h5⟩ := h
  have hd : 0 < (X.2.2.2.2 * Y.2.2.2.2).toInt := by rw [i64_mul h5]; exact Int.mul_pos hx hy
  have k := Rq_low (a := prA X.1 X.2.1 X.2.2.1 X.2.2.2.1 Y.1 Y.2.1 Y.2.2.1 Y.2.2.2.1) (b := prB X.1 X.2.1 X.2.2.1 X.2.2.2.1 Y.1 Y.2.1 Y.2.2.1 Y.2.2.2.1) (c := prC X.1 X.2.1 X.2.2.1 X.2.2.2.1 Y.1 Y.2.1 Y.2.2.1 Y.2.2.2.1) (e := prE X.1 X.2.1 X.2.2.1 X.2.2.2.1 Y.1 Y.2.1 Y.2.2.1 Y.2.2.2.1) hd
  rw [prA_toInt h1, prB_toInt h2, prC_toInt h3, prE_toInt h4, i64_mul h5] at k
  exact k
theorem Rq_prod {X Y : N5} {A B : I4} {D E : Int} (hx : Rq X A D) (hy : Rq Y B E) (h : prodO X Y = false) : Rq (prodV X Y) (m4 A B) (D * E) :=
  Rq_to (Rq_prod0 hx.1 hy.1 h) (Int.mul_pos hx.2.1 hy.2.1) (s4_cr hx.2.2.2 hy.2.2.2)
/-- the reciprocal: R by T, and R times Y is T -/
theorem Rq_rec {Y : N5} (h : recO Y = false) (hz : zeroN Y = false) : ∃ (R : I4) (T : Int), Rq (recV Y) R T ∧ m4 R (nm Y) = s4 (T * dn Y) (1, 0, 0, 0) := by
  have hq := recO_f h
  have hT := rcT_pos hq.1 hq.2.1 hq.2.2 hz
  unfold recO at h
  simp only [Bool.or_eq_false_iff] at h
  obtain ⟨⟨⟨⟨⟨h1, h2⟩, h3⟩, h4⟩, h5⟩, h6⟩ := h
  refine ⟨_, _, Rq_low hT, ?_⟩
  unfold rcMo at h1
  rw [Bool.or_eq_false_iff] at h1
  have z0 : (0 : Int64).toInt = 0 := rfl
  have mc := i64_sub h1.1
  have me := i64_sub h1.2
  rw [z0] at mc me
  have m1 := i64_sub h4
  rw [z0] at m1
  have eN := rcN_eq Y
  unfold rcNo prodO rcU rcM at h2
  simp only [Bool.or_eq_false_iff] at h2
  obtain ⟨⟨⟨⟨n1, n2⟩, n3⟩, n4⟩, n5⟩ := h2
  have t1 : (rcN Y).1.toInt = _ := (congrArg (fun x : N5 => x.1.toInt) eN).trans (prA_toInt n1)
  have t2 : (rcN Y).2.1.toInt = _ := (congrArg (fun x : N5 => x.2.1.toInt) eN).trans (prB_toInt n2)
  rw [mc, me] at t1 t2
  have tT : (rcT Y).toInt = (rcN Y).1.toInt * (rcN Y).1.toInt - 3 * (rcN Y).2.1.toInt * (rcN Y).2.1.toInt := by
    unfold rcTo at h3
    simp only [Bool.or_eq_false_iff] at h3
    unfold rcT
    rw [i64_sub h3.2, i64_mul h3.1.1, thV_toInt h3.1.2]
  have e4 : rc4 Y = (prA Y.1 Y.2.1 (0 - Y.2.2.1) (0 - Y.2.2.2.1) (rcN Y).1 (0 - (rcN Y).2.1) 0 0, prB Y.1 Y.2.1 (0 - Y.2.2.1) (0 - Y.2.2.2.1) (rcN Y).1 (0 - (rcN Y).2.1) 0 0, prC Y.1 Y.2.1 (0 - Y.2.2.1) (0 - Y.2.2.2.1) (rcN Y).1 (0 - (rcN Y).2.1) 0 0, prE Y.1 Y.2.1 (0 - Y.2.2.1) (0 - Y.2.2.2.1) (rcN Y).1 (0 - (rcN Y).2.1) 0 0, 1) := by
    unfold rc4 prodV rcM rcC
    exact lowN_1 _ _ _ _
  unfold rc4o prodO rcM rcC at h5
  simp only [Bool.or_eq_false_iff] at h5
  obtain ⟨⟨⟨⟨p1, p2⟩, p3⟩, p4⟩, p5⟩ := h5
  have u1 : (rc4 Y).1.toInt = _ := (congrArg (fun x : N5 => x.1.toInt) e4).trans (prA_toInt p1)
  have u2 : (rc4 Y).2.1.toInt = _ := (congrArg (fun x : N5 => x.2.1.toInt) e4).trans (prB_toInt p2)
  have u3 : (rc4 Y).2.2.1.toInt = _ := (congrArg (fun x : N5 => x.2.2.1.toInt) e4).trans (prC_toInt p3)
  have u4 : (rc4 Y).2.2.2.1.toInt = _ := (congrArg (fun x : N5 => x.2.2.2.1.toInt) e4).trans (prE_toInt p4)
  rw [mc, me, m1, z0] at u1 u2 u3 u4
  have e5 : rc5 Y = (prA (rc4 Y).1 (rc4 Y).2.1 (rc4 Y).2.2.1 (rc4 Y).2.2.2.1 Y.2.2.2.2 0 0 0, prB (rc4 Y).1 (rc4 Y).2.1 (rc4 Y).2.2.1 (rc4 Y).2.2.2.1 Y.2.2.2.2 0 0 0, prC (rc4 Y).1 (rc4 Y).2.1 (rc4 Y).2.2.1 (rc4 Y).2.2.2.1 Y.2.2.2.2 0 0 0, prE (rc4 Y).1 (rc4 Y).2.1 (rc4 Y).2.2.1 (rc4 Y).2.2.2.1 Y.2.2.2.2 0 0 0, 1) := by
    unfold rc5 prodV rcD
    rw [show (rc4 Y).2.2.2.2 = 1 from congrArg (fun x : N5 => x.2.2.2.2) e4]
    exact lowN_1 _ _ _ _
  unfold rc5o prodO rcD at h6
  simp only [Bool.or_eq_false_iff] at h6
  obtain ⟨⟨⟨⟨q1, q2⟩, q3⟩, q4⟩, q5⟩ := h6
  have v1 : (rc5 Y).1.toInt = _ := (congrArg (fun x : N5 => x.1.toInt) e5).trans (prA_toInt q1)
  have v2 : (rc5 Y).2.1.toInt = _ := (congrArg (fun x : N5 => x.2.1.toInt) e5).trans (prB_toInt q2)
  have v3 : (rc5 Y).2.2.1.toInt = _ := (congrArg (fun x : N5 => x.2.2.1.toInt) e5).trans (prC_toInt q3)
  have v4 : (rc5 Y).2.2.2.1.toInt = _ := (congrArg (fun x : N5 => x.2.2.2.1.toInt) e5).trans (prE_toInt q4)
  rw [z0] at v1 v2 v3 v4
  rw [v1, v2, v3, v4, u1, u2, u3, u4, tT, t1, t2]
  apply i4_ext <;> simp only [m4, nm, dn, s4] <;> grind
theorem Rq_quo {X Y : N5} {A B C : I4} {D E F : Int} (hx : Rq X A D) (hy : Rq Y B E) (h : quoO X Y = false) (hz : zeroN Y = false) (hF : 0 < F) (e : s4 D (m4 C B) = s4 (F * E) A) : Rq (quoV X Y) C F := by
  unfold quoO at h
  rw [Bool.or_eq_false_iff] at h
  obtain ⟨R, T, hr, hm⟩ := Rq_rec h.1 hz
  have hp := Rq_prod hx hr h.2
  refine Rq_to hp hF ?_
  apply s4_inj (Int.mul_pos hy.1 hy.2.1)
  have hE := hy.2.2.2
  have k1 : s4 (dn Y * E) (s4 F (m4 A R)) = s4 (dn Y) (m4 (s4 (F * E) A) R) := by
    rw [m4_s, s4_s, s4_s, Int.mul_assoc, Int.mul_comm E F]
  have k2 : m4 (s4 (dn Y) (m4 C B)) R = s4 (T * dn Y * E) C := by
    rw [← m4_sr, ← hE, m4_sr, m4_s, m4_assoc, m4_comm (nm Y) R, hm, m4_sr, s4_s]
    rw [show m4 C (1, 0, 0, 0) = C from by apply i4_ext <;> simp only [m4] <;> omega, Int.mul_comm E]
  rw [k1, ← e]
  show s4 (dn Y) (m4 (s4 D (m4 C B)) R) = s4 (dn Y * E) (s4 (D * T) C)
  rw [m4_s, s4_s, Int.mul_comm (dn Y) D, ← s4_s, ← m4_s, k2, s4_s, s4_s]
  congr 1
  grind
