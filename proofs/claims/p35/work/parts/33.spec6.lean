/-! pulls, by whole numbers -/
theorem zsw (x : Int32) (lo hi : Int) : (x.toInt < lo ∨ hi < x.toInt) ∨ (lo ≤ x.toInt ∧ x.toInt ≤ hi) := by omega
def wI (a k : Nat) : Int := (zways.getD (4 * a + k) 0).toInt
def siN (f : Nat → Int) : Nat → Int
  | 0 => 0
  | n + 1 => siN f n + f n
def aN (x : Int32) : Nat := x.toInt.toNat
def lumpT (p : Nat) (mo pl : Nat → Int32) (i : Nat) : Int := (mo i).toInt * (if p = 0 then 10 - (pl i).toInt else (pl i).toInt)
def lumpS (p : Nat) (mo an pl : Nat → Int32) (k n : Nat) : Int := siN (fun i => lumpT p mo pl i * wI (aN (an i)) k) n
def holeS (p : Nat) (ho : Nat → Int32) (k n : Nat) : Int := siN (fun j => -10 * (ho (12 * p + j)).toInt * wI j k) n
def pulI (p L : Nat) (mo an pl ho : Nat → Int32) (k : Nat) : Int := lumpS p mo an pl k L + holeS p ho k 12
def okL (L : Nat) (mo an pl : Nat → Int32) : Prop := L ≤ 8 ∧ ∀ i, i < L → (1 ≤ (mo i).toInt ∧ (mo i).toInt ≤ 99) ∧ (∃ a, a < 12 ∧ an i = nI a) ∧ (0 ≤ (pl i).toInt ∧ (pl i).toInt ≤ 10)
def okH (ho : Nat → Int32) : Prop := ∀ j, j < 24 → 0 ≤ (ho j).toInt ∧ (ho j).toInt ≤ 9
theorem i64_w (x : Int32) : x.toInt64 = Int64.ofInt x.toInt := by
  rw [i64_eq, i32_w, Int64.toInt_ofInt]
  have h := i32_rng x
  exact (i64_bmod (by unfold outL; rw [dB_f]; omega)).symm
theorem ofI_add (a b : Int) : Int64.ofInt a + Int64.ofInt b = Int64.ofInt (a + b) := (Int64.ofInt_add a b).symm
theorem ofI_mul (a b : Int) : Int64.ofInt a * Int64.ofInt b = Int64.ofInt (a * b) := (Int64.ofInt_mul a b).symm
theorem aN_nI {a : Nat} (h : a < 12) : aN (nI a) = a := by unfold aN; rw [nI_toInt (by omega)]; rfl
/-- the squares of a pull by twentieths, and what they are set against -/
def sqV (a b c e : Int64) (k : Nat) : Int64 := if k = 0 then a * a + 3 * b * b + c * c + 3 * e * e else 2 * a * b + 2 * c * e

