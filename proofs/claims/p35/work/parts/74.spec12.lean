/-! lowest terms are kept -/
theorem dv_abs {x : Int64} {g : Nat} (hg : 0 < g) (hg2 : g < 2 ^ 63) (hd : g ∣ x.toInt.natAbs) : (x / lN g).toInt.natAbs = x.toInt.natAbs / g ∨ (g = 1 ∧ (x / lN g) = x) := by
  have hr := i64_rng x
  by_cases e : g = 1
  · subst e
    exact Or.inr ⟨rfl, i64_div1 x⟩
  · refine Or.inl ?_
    obtain ⟨q, hq⟩ := Int.ofNat_dvd_left.mpr hd
    have h3 : x.toInt.natAbs = g * q.natAbs := by rw [hq, Int.natAbs_mul]; rfl
    have h4 : q.natAbs * 2 ≤ x.toInt.natAbs := by rw [h3, Nat.mul_comm]; exact Nat.mul_le_mul_right _ (by omega)
    rw [Int64.toInt_div, pk_lT (by omega), hq, Int.mul_comm, Int.mul_tdiv_cancel _ (by omega), i64_bmod (by unfold outL; rw [dB_f]; omega), Int.natAbs_mul, show ((g : Int)).natAbs = g from rfl, Nat.mul_div_cancel _ hg]
theorem dv_abs2 {x : Int64} {g : Nat} (hg : 0 < g) (hg2 : g < 2 ^ 63) (hd : g ∣ x.toInt.natAbs) : (x / lN g).toInt.natAbs = x.toInt.natAbs / g := by
  rcases dv_abs hg hg2 hd with h | ⟨h, h2⟩
  · exact h
  · rw [h2, h, Nat.div_one]
theorem gc_dvd (a b c e d : Int64) : gc a b c e d ∣ d.toInt.natAbs := by
  unfold gc
  exact Nat.dvd_trans (Nat.gcd_dvd_left _ _) (Nat.dvd_trans (Nat.gcd_dvd_left _ _) (Nat.dvd_trans (Nat.gcd_dvd_left _ _) (Nat.gcd_dvd_left _ _)))
theorem gc_low {a b c e d : Int64} (hd : 0 < d.toInt) : gc (lowN a b c e d).1 (lowN a b c e d).2.1 (lowN a b c e d).2.2.1 (lowN a b c e d).2.2.2.1 (lowN a b c e d).2.2.2.2 = 1 := by
  obtain ⟨h1, h2⟩ := gc_le (a := a) (b := b) (c := c) (e := e) hd
  have hr := i64_rng d
  obtain ⟨d1, d2, d3, d4⟩ := gc_dv a b c e d
  have d5 := gc_dvd a b c e d
  have hg2 : gc a b c e d < 2 ^ 63 := by omega
  have hself : gc a b c e d = Nat.gcd (Nat.gcd (Nat.gcd (Nat.gcd d.toInt.natAbs a.toInt.natAbs) b.toInt.natAbs) c.toInt.natAbs) e.toInt.natAbs := rfl
  show Nat.gcd (Nat.gcd (Nat.gcd (Nat.gcd (d / lN (gc a b c e d)).toInt.natAbs (a / lN (gc a b c e d)).toInt.natAbs) (b / lN (gc a b c e d)).toInt.natAbs) (c / lN (gc a b c e d)).toInt.natAbs) (e / lN (gc a b c e d)).toInt.natAbs = 1
  rw [dv_abs2 h1 hg2 d1, dv_abs2 h1 hg2 d2, dv_abs2 h1 hg2 d3, dv_abs2 h1 hg2 d4, dv_abs2 h1 hg2 d5]
  generalize gc a b c e d = g at *
  rw [Nat.gcd_div d5 d1, Nat.gcd_div (Nat.dvd_gcd d5 d1) d2, Nat.gcd_div (Nat.dvd_gcd (Nat.dvd_gcd d5 d1) d2) d3, Nat.gcd_div (Nat.dvd_gcd (Nat.dvd_gcd (Nat.dvd_gcd d5 d1) d2) d3) d4, ← hself]
  exact Nat.div_self h1
theorem lowN_of1 {a b c e d : Int64} (h : gc a b c e d = 1) : lowN a b c e d = (a, b, c, e, d) := by
  unfold lowN
  rw [h, i64_div1, i64_div1, i64_div1, i64_div1, i64_div1]
/-- a number in lowest terms -/
def isL (X : N5) : Prop := gc X.1 X.2.1 X.2.2.1 X.2.2.2.1 X.2.2.2.2 = 1
theorem isL_low {a b c e d : Int64} (hd : 0 < d.toInt) : isL (lowN a b c e d) := gc_low hd
def zer : N5 := (0, 0, 0, 0, 1)
theorem i64_m1 (x : Int64) : x * 1 = x := Int64.mul_one x
theorem i64_0m (x : Int64) : 0 * x = 0 := Int64.zero_mul
theorem sum_zl {X : N5} (h : isL X) : sumV false zer X = X := by
  unfold sumV ssV sgV zer
  rw [if_neg (by decide), if_neg (by decide), if_neg (by decide), if_neg (by decide)]
  show lowN (0 * X.2.2.2.2 + X.1 * 1) (0 * X.2.2.2.2 + X.2.1 * 1) (0 * X.2.2.2.2 + X.2.2.1 * 1) (0 * X.2.2.2.2 + X.2.2.2.1 * 1) (1 * X.2.2.2.2) = X
  rw [i64_0m, i64_m1, i64_m1, i64_m1, i64_m1, Int64.one_mul, Int64.zero_add, Int64.zero_add, Int64.zero_add, Int64.zero_add]
  exact lowN_of1 h
theorem sum_zr {X : N5} (h : isL X) : sumV false X zer = X := by
  unfold sumV ssV sgV zer
  rw [if_neg (by decide), if_neg (by decide), if_neg (by decide), if_neg (by decide)]
  show lowN (X.1 * 1 + 0 * X.2.2.2.2) (X.2.1 * 1 + 0 * X.2.2.2.2) (X.2.2.1 * 1 + 0 * X.2.2.2.2) (X.2.2.2.1 * 1 + 0 * X.2.2.2.2) (X.2.2.2.2 * 1) = X
  rw [i64_0m, i64_m1, i64_m1, i64_m1, i64_m1, i64_m1, Int64.add_zero, Int64.add_zero, Int64.add_zero, Int64.add_zero]
  exact lowN_of1 h
theorem sumO_z {X : N5} (h : 0 < X.2.2.2.2.toInt) : sumO false zer X = false := by
  have e1 : ∀ x : Int64, tOv x 1 = false := fun x => by
    unfold tOv
    have := i64_rng x
    rw [show (1 : Int64).toInt = 1 from rfl, Int.mul_one]
    exact outL_of (by omega)
  have e2 : ∀ x : Int64, tOv 1 x = false := fun x => by
    unfold tOv
    have := i64_rng x
    rw [show (1 : Int64).toInt = 1 from rfl, Int.one_mul]
    exact outL_of (by omega)
  have e3 : ∀ x : Int64, pOv 0 x = false := fun x => by
    unfold pOv
    have := i64_rng x
    rw [show (0 : Int64).toInt = 0 from rfl, Int.zero_add]
    exact outL_of (by omega)
  have e4 : ∀ x : Int64, ssO false 0 1 x X.2.2.2.2 = false := fun x => by
    unfold ssO sgO
    rw [tOv_0x rfl, e1, i64_0m, if_neg (by decide), e3]
    rfl
  unfold sumO zer
  show (((ssO false 0 1 X.1 X.2.2.2.2 || ssO false 0 1 X.2.1 X.2.2.2.2) || ssO false 0 1 X.2.2.1 X.2.2.2.2) || ssO false 0 1 X.2.2.2.1 X.2.2.2.2 || tOv 1 X.2.2.2.2) = false
  rw [e4, e4, e4, e4, e2]
  rfl
/-- the class's way is the reference's -/
theorem bw_wy (t : Int32) (a : Nat) : bwN t a = wyN t.toInt a := by
  unfold bwN awN wyN
  show lowN (0 + t.toInt64 * (zways.getD (4 * a) 0).toInt64) (0 + t.toInt64 * (zways.getD (4 * a + 1) 0).toInt64) (0 + t.toInt64 * (zways.getD (4 * a + 2) 0).toInt64) (0 + t.toInt64 * (zways.getD (4 * a + 3) 0).toInt64) 2 = _
  rw [Int64.zero_add, Int64.zero_add, Int64.zero_add, Int64.zero_add, i64_w, i64_w, i64_w, i64_w, i64_w, ofI_mul, ofI_mul, ofI_mul, ofI_mul]
  rfl
theorem wy_0 (a : Nat) : wyN 0 a = zer := by
  unfold wyN
  rw [Int.zero_mul, Int.zero_mul, Int.zero_mul, Int.zero_mul]
  decide
theorem rd1_0 {P : Nat → Int} {a : Nat} : rd1 P 0 a = plN P := by
  unfold rd1
  rw [wy_0]
  exact sum_zr (isL_low (by decide))
theorem rd2_L {P : Nat → Int} {y g : Int} {a l : Nat} (h : bdP P) (ha : a < 12) (hy : 0 ≤ y ∧ y ≤ 99) (hg : 0 ≤ g ∧ g ≤ 9) (hl : l < 12) : isL (rd2 P y a g l) := by
  have h1 := (rd1_o h ha hy).2.2.2.2.2
  have h2 := (wyN_bd hl (y := g) (Y := 9) (by omega) (by omega)).2.2.2.2
  have h3 := prodO_d (rd2_o h ha hy hg hl).1
  refine isL_low ?_
  rw [i64_mul h3]
  exact Int.mul_pos (by omega) (by omega)

