/-! the reciprocal: its steps, and that T is above 0 -/
theorem sq_nn (x : Int) : 0 ≤ x * x := by
  rcases Int.le_total 0 x with h | h
  · exact Int.mul_nonneg h h
  · exact Int.mul_nonneg_of_nonpos_of_nonpos h h
theorem sq3_nat : ∀ (n x y : Nat), x ≤ n → x * x = 3 * (y * y) → x = 0
  | 0, x, y, h, _ => by omega
  | n + 1, x, y, h, e => by
    rcases Nat.eq_zero_or_pos x with h0 | h0
    · exact h0
    · exfalso
      have hm : (x % 3) * (x % 3) % 3 = 0 := by
        rw [← Nat.mul_mod, e]
        omega
      have hx : x % 3 = 0 := by
        have h3 := Nat.mod_lt x (show 3 > 0 by decide)
        rcases (show x % 3 = 0 ∨ x % 3 = 1 ∨ x % 3 = 2 by omega) with h4 | h4 | h4 <;> rw [h4] at hm
        · exact h4
        · exact absurd hm (by decide)
        · exact absurd hm (by decide)
      obtain ⟨q, rfl⟩ : ∃ q, x = 3 * q := ⟨x / 3, by omega⟩
      have e2 : y * y = 3 * (q * q) := by
        have e3 : 3 * q * (3 * q) = 3 * (3 * (q * q)) := by
          rw [Nat.mul_assoc 3 q, Nat.mul_left_comm q 3 q]
        omega
      have hy : y < 3 * q := by
        refine Nat.lt_of_not_le fun h9 => ?_
        have h5 := Nat.mul_le_mul h9 h9
        have h6 : 0 < y * y := Nat.mul_pos (by omega) (by omega)
        omega
      have hy0 := sq3_nat n y q (by omega) e2
      subst hy0
      have : 0 < q * q := Nat.mul_pos (by omega) (by omega)
      omega
theorem sq3 {x y : Int} (h : x * x = 3 * (y * y)) : x = 0 ∧ y = 0 := by
  have e : x.natAbs * x.natAbs = 3 * (y.natAbs * y.natAbs) := by
    have h1 : ((x.natAbs * x.natAbs : Nat) : Int) = ((3 * (y.natAbs * y.natAbs) : Nat) : Int) := by
      rw [Int.natAbs_mul_self, Int.natCast_mul, Int.natAbs_mul_self]
      exact h
    exact Int.ofNat.inj h1
  have h1 := sq3_nat _ _ _ (Nat.le_refl _) e
  have hx : x = 0 := Int.natAbs_eq_zero.mp h1
  subst hx
  refine ⟨rfl, ?_⟩
  rcases Int.mul_eq_zero.mp (show y * y = 0 by omega) with h | h <;> exact h
theorem t_id (a b c e : Int) : (a * a + 3 * b * b - (c * (0 - c) + 3 * e * (0 - e))) * (a * a + 3 * b * b - (c * (0 - c) + 3 * e * (0 - e))) - 3 * (a * b + b * a - (c * (0 - e) + e * (0 - c))) * (a * b + b * a - (c * (0 - e) + e * (0 - c))) = (a * a - 3 * (b * b)) * (a * a - 3 * (b * b)) + (c * c - 3 * (e * e)) * (c * c - 3 * (e * e)) + 2 * ((a * c - 3 * (b * e)) * (a * c - 3 * (b * e))) + 6 * ((a * e - b * c) * (a * e - b * c)) := by grind
theorem t_pos {a b c e : Int} (h : ¬ (a = 0 ∧ b = 0 ∧ c = 0 ∧ e = 0)) : 0 < (a * a + 3 * b * b - (c * (0 - c) + 3 * e * (0 - e))) * (a * a + 3 * b * b - (c * (0 - c) + 3 * e * (0 - e))) - 3 * (a * b + b * a - (c * (0 - e) + e * (0 - c))) * (a * b + b * a - (c * (0 - e) + e * (0 - c))) := by
  rw [t_id]
  have h1 := sq_nn (a * a - 3 * (b * b))
  have h2 := sq_nn (c * c - 3 * (e * e))
  have h3 := sq_nn (a * c - 3 * (b * e))
  have h4 := sq_nn (a * e - b * c)
  refine Int.lt_iff_le_and_ne.mpr ⟨by omega, fun h9 => h ?_⟩
  have z1 : (a * a - 3 * (b * b)) * (a * a - 3 * (b * b)) = 0 := by omega
  have z2 : (c * c - 3 * (e * e)) * (c * c - 3 * (e * e)) = 0 := by omega
  have y1 : a * a - 3 * (b * b) = 0 := by rcases Int.mul_eq_zero.mp z1 with h | h <;> exact h
  have y2 : c * c - 3 * (e * e) = 0 := by rcases Int.mul_eq_zero.mp z2 with h | h <;> exact h
  obtain ⟨r1, r2⟩ := sq3 (x := a) (y := b) (by omega)
  obtain ⟨r3, r4⟩ := sq3 (x := c) (y := e) (by omega)
  exact ⟨r1, r2, r3, r4⟩
theorem lN_1' : lN 1 = 1 := rfl
theorem i64_div1 (x : Int64) : x / lN 1 = x := by
  rw [lN_1', i64_eq, Int64.toInt_div, show (1 : Int64).toInt = 1 from rfl, Int.tdiv_one]
  exact i64_bmod (by unfold outL; rw [dB_f]; have := i64_rng x; omega)
theorem gc_1 (a b c e : Int64) : gc a b c e 1 = 1 := by
  unfold gc
  rw [show (1 : Int64).toInt.natAbs = 1 from rfl]
  simp
theorem lowN_1 (a b c e : Int64) : lowN a b c e 1 = (a, b, c, e, 1) := by
  unfold lowN
  rw [gc_1, i64_div1, i64_div1, i64_div1, i64_div1, i64_div1]
theorem thV_toInt {x y : Int64} (h : thO x y = false) : (thV x y).toInt = 3 * x.toInt * y.toInt := by
  unfold thO at h
  rw [Bool.or_eq_false_iff] at h
  unfold thV
  rw [i64_mul h.2, i64_mul h.1]
  rfl
theorem prA_toInt {a b c e f g h k : Int64} (hh : prAo a b c e f g h k = false) : (prA a b c e f g h k).toInt = a.toInt * f.toInt + 3 * b.toInt * g.toInt - (c.toInt * h.toInt + 3 * e.toInt * k.toInt) := by
  unfold prAo at hh
  simp only [Bool.or_eq_false_iff] at hh
  obtain ⟨⟨⟨⟨h1, h2⟩, h3⟩, ⟨h4, h5⟩, h6⟩, h7⟩ := hh
  unfold prA
  rw [i64_sub h7, i64_add h3, i64_add h6, i64_mul h1, i64_mul h4, thV_toInt h2, thV_toInt h5]
theorem prB_toInt {a b c e f g h k : Int64} (hh : prBo a b c e f g h k = false) : (prB a b c e f g h k).toInt = a.toInt * g.toInt + b.toInt * f.toInt - (c.toInt * k.toInt + e.toInt * h.toInt) := by
  unfold prBo at hh
  simp only [Bool.or_eq_false_iff] at hh
  obtain ⟨⟨⟨⟨h1, h2⟩, h3⟩, ⟨h4, h5⟩, h6⟩, h7⟩ := hh
  unfold prB
  rw [i64_sub h7, i64_add h3, i64_add h6, i64_mul h1, i64_mul h2, i64_mul h4, i64_mul h5]
def rcU (X : N5) : N5 := (X.1, X.2.1, X.2.2.1, X.2.2.2.1, 1)
def rcM (X : N5) : N5 := (X.1, X.2.1, 0 - X.2.2.1, 0 - X.2.2.2.1, 1)
noncomputable def rcMo (X : N5) : Bool := mOv 0 X.2.2.1 || mOv 0 X.2.2.2.1
def rcN (X : N5) : N5 := prodV (rcU X) (rcM X)
noncomputable def rcNo (X : N5) : Bool := prodO (rcU X) (rcM X)
def rcT (X : N5) : Int64 := (rcN X).1 * (rcN X).1 - thV (rcN X).2.1 (rcN X).2.1
noncomputable def rcTo (X : N5) : Bool := (tOv (rcN X).1 (rcN X).1 || thO (rcN X).2.1 (rcN X).2.1) || mOv ((rcN X).1 * (rcN X).1) (thV (rcN X).2.1 (rcN X).2.1)
def rcC (X : N5) : N5 := ((rcN X).1, 0 - (rcN X).2.1, 0, 0, 1)
def rc4 (X : N5) : N5 := prodV (rcM X) (rcC X)
noncomputable def rc4o (X : N5) : Bool := prodO (rcM X) (rcC X)
def rcD (X : N5) : N5 := (X.2.2.2.2, 0, 0, 0, 1)
def rc5 (X : N5) : N5 := prodV (rc4 X) (rcD X)
noncomputable def rc5o (X : N5) : Bool := prodO (rc4 X) (rcD X)
def recV (X : N5) : N5 := lowN (rc5 X).1 (rc5 X).2.1 (rc5 X).2.2.1 (rc5 X).2.2.2.1 (rcT X)
noncomputable def recO (X : N5) : Bool := ((((rcMo X || rcNo X) || rcTo X) || mOv 0 (rcN X).2.1) || rc4o X) || rc5o X
noncomputable def quoO (X Y : N5) : Bool := recO Y || prodO X (recV Y)
def quoV (X Y : N5) : N5 := prodV X (recV Y)
theorem rcN_eq (X : N5) : rcN X = (prA X.1 X.2.1 X.2.2.1 X.2.2.2.1 X.1 X.2.1 (0 - X.2.2.1) (0 - X.2.2.2.1), prB X.1 X.2.1 X.2.2.1 X.2.2.2.1 X.1 X.2.1 (0 - X.2.2.1) (0 - X.2.2.2.1), prC X.1 X.2.1 X.2.2.1 X.2.2.2.1 X.1 X.2.1 (0 - X.2.2.1) (0 - X.2.2.2.1), prE X.1 X.2.1 X.2.2.1 X.2.2.2.1 X.1 X.2.1 (0 - X.2.2.1) (0 - X.2.2.2.1), 1) := by
  unfold rcN prodV rcU rcM
  exact lowN_1 _ _ _ _
theorem rcT_pos {X : N5} (h1 : rcMo X = false) (h2 : rcNo X = false) (h3 : rcTo X = false) (h0 : zeroN X = false) : 0 < (rcT X).toInt := by
  have e := rcN_eq X
  unfold rcT
  unfold rcTo at h3
  rw [Bool.or_eq_false_iff, Bool.or_eq_false_iff] at h3
  rw [i64_sub h3.2, i64_mul h3.1.1, thV_toInt h3.1.2, e]
  show 0 < (prA _ _ _ _ _ _ _ _).toInt * (prA _ _ _ _ _ _ _ _).toInt - 3 * (prB _ _ _ _ _ _ _ _).toInt * (prB _ _ _ _ _ _ _ _).toInt
  unfold rcNo prodO rcU rcM at h2
  simp only [Bool.or_eq_false_iff] at h2
  unfold rcMo at h1
  rw [Bool.or_eq_false_iff] at h1
  rw [prA_toInt h2.1.1.1.1, prB_toInt h2.1.1.1.2, i64_sub h1.1, i64_sub h1.2]
  refine t_pos fun h9 => ?_
  have h8 := dB_f.mp h0
  exact h8 ⟨i64_eq.mpr h9.1, i64_eq.mpr h9.2.1, i64_eq.mpr h9.2.2.1, i64_eq.mpr h9.2.2.2⟩
theorem lowN_d {a b c e d : Int64} (hd : 0 < d.toInt) : 0 < (lowN a b c e d).2.2.2.2.toInt := by
  obtain ⟨h1, h2⟩ := gc_le (a := a) (b := b) (c := c) (e := e) hd
  have hr := i64_rng d
  show 0 < (d / lN (gc a b c e d)).toInt
  generalize hg : gc a b c e d = g at h1 h2 ⊢
  have hdv : g ∣ d.toInt.natAbs := by
    rw [← hg]
    unfold gc
    exact Nat.dvd_trans (Nat.gcd_dvd_left _ _) (Nat.dvd_trans (Nat.gcd_dvd_left _ _) (Nat.dvd_trans (Nat.gcd_dvd_left _ _) (Nat.gcd_dvd_left _ _)))
  obtain ⟨q, hq⟩ := hdv
  have hdq : d.toInt = (g : Int) * (q : Int) := by
    have : ((d.toInt.natAbs : Nat) : Int) = ((g * q : Nat) : Int) := by rw [hq]
    rw [Int.natCast_mul] at this
    omega
  have hq0 : 0 < q := by
    rcases Nat.eq_zero_or_pos q with h | h
    · subst h; rw [Int.natCast_zero, Int.mul_zero] at hdq; omega
    · exact h
  have hqd : (q : Int) ≤ d.toInt := by
    rw [hdq]
    have : q * 1 ≤ q * g := Nat.mul_le_mul_left q h1
    have h3 : ((q : Nat) : Int) ≤ ((g * q : Nat) : Int) := by rw [Nat.mul_comm g q]; exact_mod_cast (by omega : q ≤ q * g)
    rw [Int.natCast_mul] at h3
    exact h3
  rw [Int64.toInt_div, pk_lT (by omega), hdq, Int.mul_comm, Int.mul_tdiv_cancel _ (by omega), i64_bmod (by unfold outL; rw [dB_f]; omega)]
  omega
/-- only these rows of five may have changed -/
def keepN (l : List Nat) (nu u : Nat → Int64) : Prop := ∀ j : Nat, j / 5 ∉ l → u j = nu j
theorem keepN.rf {l : List Nat} {nu : Nat → Int64} : keepN l nu nu := fun _ _ => rfl
theorem keepN.set {l : List Nat} {nu u : Nat → Int64} (h : keepN l nu u) {i : Nat} (hi : i ∈ l) (v : N5) : keepN l nu (setN u i v) := fun j hj => by
  rw [setN_ne _ _ _ _ (fun e => hj (e ▸ hi))]
  exact h j hj
