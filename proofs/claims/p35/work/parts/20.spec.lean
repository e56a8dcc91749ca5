/-! pure words: a flag, what goes beyond longs, a number in lowest terms -/
def bI (b : Bool) : Int32 := if b then 1 else 0
theorem bI_ne0 {b : Bool} (h : ¬ bI b = 0) : b = true := by cases b; exact absurd rfl h; rfl
theorem bI_eq0 {b : Bool} (h : bI b = 0) : b = false := by cases b; rfl; exact absurd h (by decide)
theorem bI_1 {b : Bool} (h : b = true) : (1 : Int32) = bI b := by rw [h]; rfl
theorem bI_0 {b : Bool} (h : b = false) : (0 : Int32) = bI b := by rw [h]; rfl
theorem zbI_n (b : Bool) : narrow .boolean (.int (bI b)) = .int (bI b) := by cases b <;> rfl
/-- whether p, as a Bool that nothing unfolds -/
noncomputable def dB (p : Prop) : Bool := @decide p (Classical.propDecidable p)
theorem dB_t {p : Prop} : dB p = true ↔ p := by unfold dB; exact @decide_eq_true_iff p (Classical.propDecidable p)
theorem dB_f {p : Prop} : dB p = false ↔ ¬ p := by unfold dB; exact @decide_eq_false_iff_not p (Classical.propDecidable p)
def lMin : Int64 := -9223372036854775808
noncomputable def outL (z : Int) : Bool := dB (z < -9223372036854775808 ∨ 9223372036854775807 < z)
noncomputable def tOv (x y : Int64) : Bool := outL (x.toInt * y.toInt)
noncomputable def pOv (x y : Int64) : Bool := outL (x.toInt + y.toInt)
noncomputable def mOv (x y : Int64) : Bool := outL (x.toInt - y.toInt)
theorem i64_rng (x : Int64) : -9223372036854775808 ≤ x.toInt ∧ x.toInt ≤ 9223372036854775807 := by
  have h1 := x.toBitVec.le_toInt
  have h2 := x.toBitVec.toInt_lt
  have e : x.toInt = x.toBitVec.toInt := rfl
  rw [e]
  simp at h1 h2
  omega
theorem i64_bmod {z : Int} (h : outL z = false) : z.bmod (2 ^ 64) = z := by
  have h2 := dB_f.mp h
  rw [Int.bmod_def]
  split <;> omega
theorem i64_add {x y : Int64} (h : pOv x y = false) : (x + y).toInt = x.toInt + y.toInt := by
  rw [Int64.toInt_add]; exact i64_bmod h
theorem i64_sub {x y : Int64} (h : mOv x y = false) : (x - y).toInt = x.toInt - y.toInt := by
  rw [Int64.toInt_sub]; exact i64_bmod h
theorem i64_mul {x y : Int64} (h : tOv x y = false) : (x * y).toInt = x.toInt * y.toInt := by
  rw [Int64.toInt_mul]; exact i64_bmod h
theorem i64_neg_iff (x : Int64) : x < 0 ↔ x.toBitVec.msb = true := by
  rw [Int64.lt_iff_toInt_lt, BitVec.msb_eq_toInt]
  show x.toBitVec.toInt < 0 ↔ _
  simp
theorem i64_xor_neg (x y : Int64) : x ^^^ y < 0 ↔ ¬ (x < 0 ↔ y < 0) := by
  rw [i64_neg_iff, i64_neg_iff, i64_neg_iff, show (x ^^^ y).toBitVec = x.toBitVec ^^^ y.toBitVec from rfl, BitVec.msb_xor]
  cases x.toBitVec.msb <;> cases y.toBitVec.msb <;> simp
theorem i64_and_neg (x y : Int64) : x &&& y < 0 ↔ (x < 0 ∧ y < 0) := by
  rw [i64_neg_iff, i64_neg_iff, i64_neg_iff, show (x &&& y).toBitVec = x.toBitVec &&& y.toBitVec from rfl, BitVec.msb_and]
  cases x.toBitVec.msb <;> cases y.toBitVec.msb <;> simp
theorem i64_neg_i (x : Int64) : x < 0 ↔ x.toInt < 0 := by
  rw [Int64.lt_iff_toInt_lt]; rfl
theorem pOv_iff (x y : Int64) : ((x ^^^ (x + y)) &&& (y ^^^ (x + y))) < 0 ↔ pOv x y = true := by
  rw [i64_and_neg, i64_xor_neg, i64_xor_neg, i64_neg_i, i64_neg_i, i64_neg_i, Int64.toInt_add]
  have h1 := i64_rng x
  have h2 := i64_rng y
  unfold pOv outL
  rw [dB_t, Int.bmod_def]
  split <;> omega
theorem mOv_iff (x y : Int64) : ((x ^^^ y) &&& (x ^^^ (x - y))) < 0 ↔ mOv x y = true := by
  rw [i64_and_neg, i64_xor_neg, i64_xor_neg, i64_neg_i, i64_neg_i, i64_neg_i, Int64.toInt_sub]
  have h1 := i64_rng x
  have h2 := i64_rng y
  unfold mOv outL
  rw [dB_t, Int.bmod_def]
  split <;> omega
theorem tdiv_rem (a b : Int) (hb : b ≠ 0) : ∃ r : Int, a = b * a.tdiv b + r ∧ r.natAbs < b.natAbs := by
  refine ⟨a.tmod b, ?_, ?_⟩
  · have := Int.mul_tdiv_add_tmod a b
    omega
  · rw [Int.natAbs_tmod]
    exact Nat.mod_lt _ (by omega)
theorem i64_eq {x y : Int64} : x = y ↔ x.toInt = y.toInt := Int64.toInt_inj.symm
theorem tOv_iff {x y : Int64} (hy : y ≠ 0) (hm : ¬ (y = -1 ∧ x = lMin)) : (x * y) / y = x ↔ tOv x y = false := by
  have hy' : y.toInt ≠ 0 := fun h => hy (i64_eq.mpr (by rw [h]; rfl))
  have hx := i64_rng x
  have hyr := i64_rng y
  have hv := i64_rng (x * y)
  rw [i64_eq, Int64.toInt_div]
  constructor
  · intro h
    cases ht : tOv x y with
    | false => rfl
    | true =>
      exfalso
      have hb : (x * y).toInt = (x.toInt * y.toInt).bmod (2 ^ 64) := Int64.toInt_mul x y
      have hout := dB_t.mp ht
      obtain ⟨r, hr1, hr2⟩ := tdiv_rem (x * y).toInt y.toInt hy'
      generalize hq : (x * y).toInt.tdiv y.toInt = q at h hr1
      generalize hw : (x * y).toInt = w at hb hr1 hv hq
      have hbd : ∃ k : Int, w = x.toInt * y.toInt + 18446744073709551616 * k := by
        refine ⟨-((x.toInt * y.toInt - w) / 18446744073709551616), ?_⟩
        have e : (x.toInt * y.toInt - w) % 18446744073709551616 = 0 := by
          rw [hb, Int.bmod_def]
          split <;> omega
        omega
      obtain ⟨k, hk⟩ := hbd
      by_cases hqo : outL q = false
      · rw [i64_bmod hqo] at h
        subst h
        rw [Int.mul_comm y.toInt] at hr1
        omega
      · have hq2 := dB_t.mp (by simpa using hqo : outL q = true)
        have hqa : q.natAbs ≤ w.natAbs := by rw [← hq, Int.natAbs_tdiv]; exact Nat.div_le_self _ _
        have hwm : w = -9223372036854775808 ∧ q = 9223372036854775808 := by omega
        obtain ⟨hw1, hq1⟩ := hwm
        subst hq1
        have hy1 : y.toInt = -1 := by
          rw [hw1] at hr1
          omega
        rw [show ((9223372036854775808 : Int).bmod (2 ^ 64)) = -9223372036854775808 by decide] at h
        exact hm ⟨i64_eq.mpr (by rw [hy1]; rfl), i64_eq.mpr (by rw [← h]; rfl)⟩
  · intro h
    rw [i64_mul h, Int.mul_tdiv_cancel _ hy']
    exact i64_bmod (by unfold outL; rw [dB_f]; omega)
theorem tOv_0x {x y : Int64} (h : x = 0) : tOv x y = false := by
  subst h; unfold tOv outL; rw [show (0 : Int64).toInt = 0 from rfl, Int.zero_mul, dB_f]; decide
theorem tOv_0y {x y : Int64} (h : y = 0) : tOv x y = false := by
  subst h; unfold tOv outL; rw [show (0 : Int64).toInt = 0 from rfl, Int.mul_zero, dB_f]; decide
theorem tOv_m1 {x y : Int64} (h : y = -1) (h2 : x = lMin) : tOv x y = true := by subst h; subst h2; unfold tOv outL; rw [dB_t]; decide
