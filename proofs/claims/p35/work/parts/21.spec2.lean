/-! numbers in lowest terms -/
abbrev N5 : Type := Int64 × Int64 × Int64 × Int64 × Int64
noncomputable def inI (v : Int32) (n : Nat) : Bool := dB (0 ≤ v.toInt ∧ v.toInt < (n : Int))
theorem inI_of {v : Int32} {n : Nat} (h : inI v n = true) (hn : n < 2 ^ 31) : ∃ k, k < n ∧ v = nI k := by
  have h1 := dB_t.mp h
  refine ⟨v.toInt.toNat, by omega, ?_⟩
  rw [← Int32.toInt_inj, nI_toInt (by omega)]
  omega
theorem i64_ofInt {z : Int} (h : outL z = false) : (Int64.ofInt z).toInt = z := by rw [Int64.toInt_ofInt]; exact i64_bmod h
theorem i64_rem (x y : Int64) (hy : y ≠ 0) : (x - x / y * y).toInt = x.toInt.tmod y.toInt := by
  have hx := i64_rng x
  have hyr := i64_rng y
  have hy' : y.toInt ≠ 0 := fun h => hy (i64_eq.mpr (by rw [h]; rfl))
  rw [Int64.toInt_sub, Int64.toInt_mul, Int64.toInt_div]
  have e1 : (((x.toInt.tdiv y.toInt).bmod (2 ^ 64) * y.toInt).bmod (2 ^ 64)) = ((x.toInt.tdiv y.toInt * y.toInt).bmod (2 ^ 64)) := by
    rw [Int.bmod_mul_bmod]
  rw [e1, Int.sub_bmod_bmod]
  have e2 : x.toInt - x.toInt.tdiv y.toInt * y.toInt = x.toInt.tmod y.toInt := by
    have := Int.mul_tdiv_add_tmod x.toInt y.toInt
    rw [Int.mul_comm] at this
    omega
  rw [e2]
  apply i64_bmod
  have h3 : (x.toInt.tmod y.toInt).natAbs < y.toInt.natAbs := by
    rw [Int.natAbs_tmod]
    exact Nat.mod_lt _ (by omega)
  unfold outL
  rw [dB_f]
  omega
def gInv (k u v : Nat) : Prop := (k = 0 ∧ u * v ≤ 2 ^ 126) ∨ (v < u ∧ u * v * 2 ^ k ≤ 2 ^ 127)
theorem two_mod {u v : Nat} (h : v ≤ u) (h0 : 0 < v) : 2 * (u % v) ≤ u := by
  have h1 := Nat.mod_lt u h0
  have h2 := Nat.div_add_mod u v
  have h3 : 1 ≤ u / v := (Nat.one_le_div_iff h0).mpr h
  have h4 : v * 1 ≤ v * (u / v) := Nat.mul_le_mul_left v h3
  omega
theorem gInv_step {k u v : Nat} (h : gInv k u v) (h0 : 0 < v) : gInv (k + 1) v (u % v) := by
  refine Or.inr ⟨Nat.mod_lt _ h0, ?_⟩
  rcases h with ⟨rfl, h⟩ | ⟨h1, h2⟩
  · have h1 : v * (u % v) ≤ u * v := by
      rw [Nat.mul_comm u v]
      exact Nat.mul_le_mul_left v (Nat.mod_le u v)
    rw [Nat.zero_add, Nat.pow_one]
    omega
  · have h3 := two_mod (Nat.le_of_lt h1) h0
    have h4 : v * (2 * (u % v)) ≤ v * u := Nat.mul_le_mul_left v h3
    have h5 : v * (u % v) * 2 ^ (k + 1) = v * (2 * (u % v)) * 2 ^ k := by
      rw [Nat.pow_succ, Nat.mul_comm (2 ^ k) 2, ← Nat.mul_assoc, Nat.mul_assoc v, Nat.mul_comm (u % v) 2]
    rw [h5]
    refine Nat.le_trans (Nat.mul_le_mul_right _ h4) ?_
    rw [Nat.mul_comm v u]
    exact h2
theorem gInv_end {k u v : Nat} (h : gInv k u v) (hk : 128 ≤ k) : v = 0 := by
  rcases h with ⟨rfl, h⟩ | ⟨h1, h2⟩
  · omega
  · rcases Nat.eq_zero_or_pos v with h0 | h0
    · exact h0
    · exfalso
      have h3 : 1 ≤ u * v := Nat.mul_pos (by omega) h0
      have h4 : 2 ^ 128 ≤ 2 ^ k := Nat.pow_le_pow_right (by decide) hk
      have h5 : 1 * 2 ^ k ≤ u * v * 2 ^ k := Nat.mul_le_mul_right _ h3
      have h6 : (2 : Nat) ^ 127 < 2 ^ 128 := by decide
      omega
theorem gInv_0 {u v : Nat} (hu : u ≤ 2 ^ 63) (hv : v ≤ 2 ^ 63) : gInv 0 u v := Or.inl ⟨rfl, by
  have := Nat.mul_le_mul hu hv
  have e : (2 : Nat) ^ 63 * 2 ^ 63 = 2 ^ 126 := by decide
  omega⟩
def gc (a b c e d : Int64) : Nat := Nat.gcd (Nat.gcd (Nat.gcd (Nat.gcd d.toInt.natAbs a.toInt.natAbs) b.toInt.natAbs) c.toInt.natAbs) e.toInt.natAbs
def lowN (a b c e d : Int64) : N5 := (a / lN (gc a b c e d), b / lN (gc a b c e d), c / lN (gc a b c e d), e / lN (gc a b c e d), d / lN (gc a b c e d))
def setN (nu : Nat → Int64) (i : Nat) (v : N5) : Nat → Int64 := vp_updL (vp_updL (vp_updL (vp_updL (vp_updL nu (5 * i) v.1) (5 * i + 1) v.2.1) (5 * i + 2) v.2.2.1) (5 * i + 3) v.2.2.2.1) (5 * i + 4) v.2.2.2.2
theorem setN_ne (nu : Nat → Int64) (i j : Nat) (v : N5) (h : j / 5 ≠ i) : setN nu i v j = nu j := by
  unfold setN vp_updL
  rw [if_neg (by omega), if_neg (by omega), if_neg (by omega), if_neg (by omega), if_neg (by omega)]
theorem gc_le {a b c e d : Int64} (hd : 0 < d.toInt) : 0 < gc a b c e d ∧ (gc a b c e d : Int) ≤ d.toInt := by
  have h0 : 0 < d.toInt.natAbs := by omega
  have h1 := Nat.gcd_le_left a.toInt.natAbs h0
  have p1 : 0 < Nat.gcd d.toInt.natAbs a.toInt.natAbs := Nat.gcd_pos_of_pos_left _ h0
  have h2 := Nat.gcd_le_left b.toInt.natAbs p1
  have p2 : 0 < Nat.gcd (Nat.gcd d.toInt.natAbs a.toInt.natAbs) b.toInt.natAbs := Nat.gcd_pos_of_pos_left _ p1
  have h3 := Nat.gcd_le_left c.toInt.natAbs p2
  have p3 : 0 < Nat.gcd (Nat.gcd (Nat.gcd d.toInt.natAbs a.toInt.natAbs) b.toInt.natAbs) c.toInt.natAbs := Nat.gcd_pos_of_pos_left _ p2
  have h4 := Nat.gcd_le_left e.toInt.natAbs p3
  have p4 : 0 < Nat.gcd (Nat.gcd (Nat.gcd (Nat.gcd d.toInt.natAbs a.toInt.natAbs) b.toInt.natAbs) c.toInt.natAbs) e.toInt.natAbs := Nat.gcd_pos_of_pos_left _ p3
  unfold gc
  omega
theorem lN_ne0 {n : Nat} (h : n < 2 ^ 63) (h0 : 0 < n) : lN n ≠ 0 := fun h9 => by
  have := congrArg Int64.toInt h9
  rw [pk_lT h] at this
  have e : (0 : Int64).toInt = 0 := rfl
  omega
/-! sums, products: values and what goes beyond longs -/
def sgV (mi : Bool) (u v : Int64) : Int64 := if mi then u - v else u + v
noncomputable def sgO (mi : Bool) (u v : Int64) : Bool := if mi then mOv u v else pOv u v
def ssV (mi : Bool) (a d f l : Int64) : Int64 := sgV mi (a * l) (f * d)
noncomputable def ssO (mi : Bool) (a d f l : Int64) : Bool := (tOv a l || tOv f d) || sgO mi (a * l) (f * d)
noncomputable def sumO (mi : Bool) (X Y : N5) : Bool := (((ssO mi X.1 X.2.2.2.2 Y.1 Y.2.2.2.2 || ssO mi X.2.1 X.2.2.2.2 Y.2.1 Y.2.2.2.2) || ssO mi X.2.2.1 X.2.2.2.2 Y.2.2.1 Y.2.2.2.2) || ssO mi X.2.2.2.1 X.2.2.2.2 Y.2.2.2.1 Y.2.2.2.2) || tOv X.2.2.2.2 Y.2.2.2.2
def sumV (mi : Bool) (X Y : N5) : N5 := lowN (ssV mi X.1 X.2.2.2.2 Y.1 Y.2.2.2.2) (ssV mi X.2.1 X.2.2.2.2 Y.2.1 Y.2.2.2.2) (ssV mi X.2.2.1 X.2.2.2.2 Y.2.2.1 Y.2.2.2.2) (ssV mi X.2.2.2.1 X.2.2.2.2 Y.2.2.2.1 Y.2.2.2.2) (X.2.2.2.2 * Y.2.2.2.2)
def thV (x y : Int64) : Int64 := 3 * x * y
noncomputable def thO (x y : Int64) : Bool := tOv 3 x || tOv (3 * x) y
def prA (a b c e f g h k : Int64) : Int64 := (a * f + thV b g) - (c * h + thV e k)
def prB (a b c e f g h k : Int64) : Int64 := (a * g + b * f) - (c * k + e * h)
def prC (a b c e f g h k : Int64) : Int64 := a * h + thV b k + c * f + thV e g
def prE (a b c e f g h k : Int64) : Int64 := a * k + b * h + c * g + e * f
noncomputable def prAo (a b c e f g h k : Int64) : Bool := (((tOv a f || thO b g) || pOv (a * f) (thV b g)) || ((tOv c h || thO e k) || pOv (c * h) (thV e k))) || mOv (a * f + thV b g) (c * h + thV e k)
noncomputable def prBo (a b c e f g h k : Int64) : Bool := (((tOv a g || tOv b f) || pOv (a * g) (b * f)) || ((tOv c k || tOv e h) || pOv (c * k) (e * h))) || mOv (a * g + b * f) (c * k + e * h)
noncomputable def prCo (a b c e f g h k : Int64) : Bool := ((((tOv a h || thO b k) || pOv (a * h) (thV b k)) || tOv c f) || pOv (a * h + thV b k) (c * f) || thO e g) || pOv (a * h + thV b k + c * f) (thV e g)
noncomputable def prEo (a b c e f g h k : Int64) : Bool := ((((tOv a k || tOv b h) || pOv (a * k) (b * h)) || tOv c g) || pOv (a * k + b * h) (c * g) || tOv e f) || pOv (a * k + b * h + c * g) (e * f)
noncomputable def prodO (X Y : N5) : Bool := (((prAo X.1 X.2.1 X.2.2.1 X.2.2.2.1 Y.1 Y.2.1 Y.2.2.1 Y.2.2.2.1 || prBo X.1 X.2.1 X.2.2.1 X.2.2.2.1 Y.1 Y.2.1 Y.2.2.1 Y.2.2.2.1) || prCo X.1 X.2.1 X.2.2.1 X.2.2.2.1 Y.1 Y.2.1 Y.2.2.1 Y.2.2.2.1) || prEo X.1 X.2.1 X.2.2.1 X.2.2.2.1 Y.1 Y.2.1 Y.2.2.1 Y.2.2.2.1) || tOv X.2.2.2.2 Y.2.2.2.2
def prodV (X Y : N5) : N5 := lowN (prA X.1 X.2.1 X.2.2.1 X.2.2.2.1 Y.1 Y.2.1 Y.2.2.1 Y.2.2.2.1) (prB X.1 X.2.1 X.2.2.1 X.2.2.2.1 Y.1 Y.2.1 Y.2.2.1 Y.2.2.2.1) (prC X.1 X.2.1 X.2.2.1 X.2.2.2.1 Y.1 Y.2.1 Y.2.2.1 Y.2.2.2.1) (prE X.1 X.2.1 X.2.2.1 X.2.2.2.1 Y.1 Y.2.1 Y.2.2.1 Y.2.2.2.1) (X.2.2.2.2 * Y.2.2.2.2)
/-! the reference's object -/
