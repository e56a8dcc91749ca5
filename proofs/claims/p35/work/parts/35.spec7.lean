/-! signs and squares, by whole numbers -/
def sgI1 (z : Int) : Int32 := if z < 0 then -1 else if 0 < z then 1 else 0
def sgI (a b : Int) : Int32 := if sgI1 a = sgI1 b ∨ sgI1 b = 0 then sgI1 a else if sgI1 a = 0 then sgI1 b else if 3 * b * b < a * a then sgI1 a else sgI1 b
def sqI (P : Nat → Int) (k : Nat) : Int := if k = 0 then P 0 * P 0 + 3 * P 1 * P 1 + P 2 * P 2 + 3 * P 3 * P 3 else 2 * P 0 * P 1 + 2 * P 2 * P 3
def bdP (P : Nat → Int) : Prop := (-19000 ≤ P 0 ∧ P 0 ≤ 19000) ∧ (-9500 ≤ P 1 ∧ P 1 ≤ 9500) ∧ (-19000 ≤ P 2 ∧ P 2 ≤ 19000) ∧ (-9500 ≤ P 3 ∧ P 3 ≤ 9500)
noncomputable def quB (P : Nat → Int) (li : Int) : Bool := dB (sgI (sqI P 0 - 400 * li * li) (sqI P 1) ≤ 0)
theorem mul_bd {x y X Y : Int} (hx : -X ≤ x ∧ x ≤ X) (hy : -Y ≤ y ∧ y ≤ Y) : -(X * Y) ≤ x * y ∧ x * y ≤ X * Y := by
  have h1 : x.natAbs ≤ X.toNat := by omega
  have h2 : y.natAbs ≤ Y.toNat := by omega
  have h3 : (x * y).natAbs ≤ X.toNat * Y.toNat := by rw [Int.natAbs_mul]; exact Nat.mul_le_mul h1 h2
  have h4 : ((X.toNat * Y.toNat : Nat) : Int) = X * Y := by rw [Int.natCast_mul, Int.toNat_of_nonneg (by omega), Int.toNat_of_nonneg (by omega)]
  have h5 : (((x * y).natAbs : Nat) : Int) ≤ X * Y := by rw [← h4]; exact Int.ofNat_le.mpr h3
  omega
theorem outL_of {z : Int} (h : -9223372036854775808 ≤ z ∧ z ≤ 9223372036854775807) : outL z = false := by unfold outL; rw [dB_f]; omega
theorem sgnL_I {z : Int} (h : outL z = false) : sgnL (Int64.ofInt z) = sgI1 z := by
  unfold sgnL sgI1
  have e : (Int64.ofInt z).toInt = z := i64_ofInt h
  have e0 : (0 : Int64).toInt = 0 := rfl
  have h1 : (Int64.ofInt z < 0) ↔ z < 0 := by rw [Int64.lt_iff_toInt_lt, e, e0]
  have h2 : (0 < Int64.ofInt z) ↔ 0 < z := by rw [Int64.lt_iff_toInt_lt, e, e0]
  by_cases c1 : z < 0
  · rw [if_pos c1, if_pos (h1.mpr c1)]
  · rw [if_neg c1, if_neg (fun h9 => c1 (h1.mp h9))]
    by_cases c2 : 0 < z
    · rw [if_pos c2, if_pos (h2.mpr c2)]
    · rw [if_neg c2, if_neg (fun h9 => c2 (h2.mp h9))]
/-- squares of these are longs -/
def smA (a b : Int) : Prop := (-1600000000 ≤ a ∧ a ≤ 1600000000) ∧ (-1500000000 ≤ b ∧ b ≤ 1500000000)
theorem sgSq_I {a b : Int} (h : smA a b) : sgSq (Int64.ofInt a) (Int64.ofInt b) = false ∧ (Int64.ofInt a * Int64.ofInt a).toInt = a * a ∧ (thV (Int64.ofInt b) (Int64.ofInt b)).toInt = 3 * b * b := by
  have ea : (Int64.ofInt a).toInt = a := i64_ofInt (outL_of (by have := h.1; omega))
  have eb : (Int64.ofInt b).toInt = b := i64_ofInt (outL_of (by have := h.2; omega))
  have h1 := mul_bd h.1 h.1
  have h2 := mul_bd h.2 h.2
  have t1 : tOv (Int64.ofInt a) (Int64.ofInt a) = false := by unfold tOv; rw [ea]; exact outL_of (by omega)
  have t2 : thO (Int64.ofInt b) (Int64.ofInt b) = false := by
    unfold thO
    have e3 : tOv 3 (Int64.ofInt b) = false := by unfold tOv; rw [eb, show (3 : Int64).toInt = 3 from rfl]; exact outL_of (by have := h.2; omega)
    rw [e3, Bool.false_or]
    unfold tOv
    rw [i64_mul e3, eb, show (3 : Int64).toInt = 3 from rfl, Int.mul_assoc]
    exact outL_of (by omega)
  refine ⟨by unfold sgSq; rw [t1, t2]; rfl, by rw [i64_mul t1, ea], by rw [thV_toInt t2, eb]⟩
theorem signV_I {a b : Int} (h : smA a b) : signV (Int64.ofInt a) (Int64.ofInt b) = sgI a b := by
  obtain ⟨-, h1, h2⟩ := sgSq_I h
  have s1 := sgnL_I (z := a) (outL_of (by have := h.1; omega))
  have s2 := sgnL_I (z := b) (outL_of (by have := h.2; omega))
  have hc : (thV (Int64.ofInt b) (Int64.ofInt b) < Int64.ofInt a * Int64.ofInt a) ↔ 3 * b * b < a * a := by rw [Int64.lt_iff_toInt_lt, h1, h2]
  unfold signV sgI
  rw [s1, s2]
  by_cases c : sgI1 a = sgI1 b ∨ sgI1 b = 0
  · rw [if_pos c, if_neg, if_pos c]
    intro h9
    have h8 := dB_t.mp h9
    rw [s1, s2] at h8
    exact c.elim h8.1 h8.2.1
  · simp only [if_neg c]
    by_cases c2 : sgI1 a = 0
    · rw [if_pos c2, if_neg]
      intro h9
      have h8 := dB_t.mp h9
      rw [s1] at h8
      exact h8.2.2 c2
    · rw [if_neg c2, if_pos]
      · by_cases c3 : 3 * b * b < a * a
        · rw [if_pos c3, if_pos (hc.mpr c3)]
        · rw [if_neg c3, if_neg (fun h9 => c3 (hc.mp h9))]
      · exact dB_t.mpr (by rw [s1, s2]; exact ⟨fun e => c (Or.inl e), fun e => c (Or.inr e), c2⟩)
theorem sqV_I {P : Nat → Int} (k : Nat) : sqV (Int64.ofInt (P 0)) (Int64.ofInt (P 1)) (Int64.ofInt (P 2)) (Int64.ofInt (P 3)) k = Int64.ofInt (sqI P k) := by
  unfold sqV sqI
  rw [show (3 : Int64) = Int64.ofInt 3 from rfl, show (2 : Int64) = Int64.ofInt 2 from rfl]
  simp only [ofI_mul, ofI_add]
  split <;> rfl
theorem sq_bd {P : Nat → Int} (h : bdP P) : (0 ≤ sqI P 0 ∧ sqI P 0 ≤ 1270000000) ∧ (-730000000 ≤ sqI P 1 ∧ sqI P 1 ≤ 730000000) := by
  obtain ⟨h0, h1, h2, h3⟩ := h
  have a0 := mul_bd h0 h0
  have a1 := mul_bd h1 h1
  have a2 := mul_bd h2 h2
  have a3 := mul_bd h3 h3
  have b1 := mul_bd h0 h1
  have b2 := mul_bd h2 h3
  have n0 := sq_nn (P 0)
  have n1 := sq_nn (P 1)
  have n2 := sq_nn (P 2)
  have n3 := sq_nn (P 3)
  show (0 ≤ P 0 * P 0 + 3 * P 1 * P 1 + P 2 * P 2 + 3 * P 3 * P 3 ∧ P 0 * P 0 + 3 * P 1 * P 1 + P 2 * P 2 + 3 * P 3 * P 3 ≤ _) ∧ (_ ≤ 2 * P 0 * P 1 + 2 * P 2 * P 3 ∧ 2 * P 0 * P 1 + 2 * P 2 * P 3 ≤ _)
  rw [Int.mul_assoc 3, Int.mul_assoc 3, Int.mul_assoc 2, Int.mul_assoc 2]
  omega
theorem wI_bd : ∀ a, a < 12 → ((-2 ≤ wI a 0 ∧ wI a 0 ≤ 2) ∧ (-1 ≤ wI a 1 ∧ wI a 1 ≤ 1) ∧ (-2 ≤ wI a 2 ∧ wI a 2 ≤ 2) ∧ (-1 ≤ wI a 3 ∧ wI a 3 ≤ 1)) := by decide
def wB (k : Nat) : Int := if k = 0 ∨ k = 2 then 2 else 1
theorem wI_B {a k : Nat} (ha : a < 12) (hk : k < 4) : -(wB k) ≤ wI a k ∧ wI a k ≤ wB k := by
  have h := wI_bd a ha
  rcases (show k = 0 ∨ k = 1 ∨ k = 2 ∨ k = 3 by omega) with rfl | rfl | rfl | rfl
  · exact h.1
  · exact h.2.1
  · exact h.2.2.1
  · exact h.2.2.2
theorem siN_bd {f : Nat → Int} {B : Int} : ∀ n : Nat, (∀ i, i < n → -B ≤ f i ∧ f i ≤ B) → -(B * n) ≤ siN f n ∧ siN f n ≤ B * n
  | 0, _ => by rw [siN]; omega
  | n + 1, h => by
    have h1 := siN_bd n (fun i hi => h i (by omega))
    have h2 := h n (by omega)
    show -(B * ((n + 1 : Nat) : Int)) ≤ siN f n + f n ∧ siN f n + f n ≤ B * ((n + 1 : Nat) : Int)
    rw [Int.natCast_add, Int.mul_add]
    omega
theorem lumpT_bd {p L : Nat} {mo an pl : Nat → Int32} (h : okL L mo an pl) {i : Nat} (hi : i < L) : -990 ≤ lumpT p mo pl i ∧ lumpT p mo pl i ≤ 990 := by
  obtain ⟨h1, -, h3⟩ := h.2 i hi
  unfold lumpT
  have := mul_bd (X := 99) (Y := 10) (x := (mo i).toInt) (y := if p = 0 then 10 - (pl i).toInt else (pl i).toInt) (by omega) (by split <;> omega)
  omega
theorem pulI_B {p L : Nat} {mo an pl ho : Nat → Int32} (hp : p < 2) (h : okL L mo an pl) (hh : okH ho) {k : Nat} (hk : k < 4) : -(9000 * wB k) ≤ pulI p L mo an pl ho k ∧ pulI p L mo an pl ho k ≤ 9000 * wB k := by
  have hw : 0 ≤ wB k ∧ wB k ≤ 2 := by unfold wB; split <;> omega
  have h1 := siN_bd (f := fun i => lumpT p mo pl i * wI (aN (an i)) k) (B := 990 * wB k) L (fun i hi => by
    obtain ⟨a, ha, e⟩ := (h.2 i hi).2.1
    have e2 : aN (an i) = a := by rw [e, aN_nI ha]
    show _ ≤ lumpT p mo pl i * wI (aN (an i)) k ∧ _
    rw [e2]
    exact mul_bd (lumpT_bd h hi) (wI_B ha hk))
  have h2 := siN_bd (f := fun j => -10 * (ho (12 * p + j)).toInt * wI j k) (B := 90 * wB k) 12 (fun j hj => by
    have h3 := hh (12 * p + j) (by omega)
    exact mul_bd (X := 90) (Y := wB k) (by omega) (wI_B hj hk))
  have hL := h.1
  unfold pulI lumpS holeS
  have h4 : 990 * wB k * (L : Int) ≤ 990 * wB k * 8 := Int.mul_le_mul_of_nonneg_left (by omega) (by omega)
  omega
theorem pulI_bd {p L : Nat} {mo an pl ho : Nat → Int32} (hp : p < 2) (h : okL L mo an pl) (hh : okH ho) : bdP (pulI p L mo an pl ho) := by
  have h0 := pulI_B hp h hh (k := 0) (by decide)
  have h1 := pulI_B hp h hh (k := 1) (by decide)
  have h2 := pulI_B hp h hh (k := 2) (by decide)
  have h3 := pulI_B hp h hh (k := 3) (by decide)
  have w0 : wB 0 = 2 := rfl
  have w1 : wB 1 = 1 := rfl
  have w2 : wB 2 = 2 := rfl
  have w3 : wB 3 = 1 := rfl
  unfold bdP
  omega
def cmp5 (X : N5) (k : Nat) : Int64 := if k = 0 then X.1 else if k = 1 then X.2.1 else if k = 2 then X.2.2.1 else if k = 3 then X.2.2.2.1 else X.2.2.2.2
def plN (P : Nat → Int) : N5 := lowN (Int64.ofInt (P 0)) (Int64.ofInt (P 1)) (Int64.ofInt (P 2)) (Int64.ofInt (P 3)) 20
def sqN (P : Nat → Int) : N5 := lowN (Int64.ofInt (sqI P 0)) (Int64.ofInt (sqI P 1)) 0 0 400
def hcnt (p : Nat) (ho : Nat → Int32) : Nat → Nat
  | 0 => 0
  | n + 1 => hcnt p ho n + (if 0 < (ho (12 * p + n)).toInt then 1 else 0)
def lgX (m : Int32) (a : Nat) : Int32 := (m >>> (nI a &&& 31)) &&& 1
noncomputable def frB (p : Nat) (a : Nat) (le ho : Nat → Int32) : Bool := dB (lgX (le p) a = 1 ∧ ho (12 * p + a) = 0)
def bcnt (v : Int32) : Nat → Int32
  | 0 => 0
  | n + 1 => bcnt v n + lgX v n

