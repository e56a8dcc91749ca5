/-! lengths in the ring with root three, by a Pell pair: p p = 3 q q + 1, q great -/
theorem sq_le {x y : Int} (hy : 0 ≤ y) (h : x * x ≤ y * y) : x ≤ y := by
  refine Int.not_lt.mp fun hlt => ?_
  have h1 : (y + 1) * (y + 1) ≤ x * x := Int.mul_le_mul (by omega) (by omega) (by omega) (by omega)
  have h2 : (y + 1) * (y + 1) = y * y + 2 * y + 1 := by grind
  omega
theorem sq_lt {x y : Int} (hy : 0 ≤ y) (h : x * x < y * y) : x < y := by
  refine Int.not_le.mp fun hle => ?_
  have h1 : y * y ≤ x * x := Int.mul_le_mul hle hle hy (by omega)
  omega
theorem sq_ge1 {x : Int} (h : x ≠ 0) : 1 ≤ x * x := by
  have h1 := sq_nn x
  have h2 : x * x ≠ 0 := fun e => h ((Int.mul_eq_zero.mp e).elim id id)
  omega
theorem ph_sq {p q c0 c1 : Int} (hp : p * p = 3 * (q * q) + 1) (hq : 0 < q) (hp0 : 0 < p) (hb : -q < 2 * c0 * c1 ∧ 2 * c0 * c1 < q) (h : ¬ (c0 = 0 ∧ c1 = 0)) : 0 < (c0 * c0 + 3 * c1 * c1) * q + 2 * c0 * c1 * p := by
  have hS : 0 ≤ c0 * c0 + 3 * c1 * c1 := by have := sq_nn c0; have := sq_nn c1; rw [Int.mul_assoc]; omega
  have hS0 : 0 < c0 * c0 + 3 * c1 * c1 := by
    by_cases e : c0 = 0
    · have := sq_ge1 (x := c1) (fun e1 => h ⟨e, e1⟩); have := sq_nn c0; rw [Int.mul_assoc]; omega
    · have := sq_ge1 (x := c0) e; have := sq_nn c1; rw [Int.mul_assoc]; omega
  have hN : c0 * c0 - 3 * c1 * c1 ≠ 0 := fun e => by
    have e2 := sq3 (x := c0) (y := c1) (by rw [← Int.mul_assoc]; omega)
    exact h e2
  have hN2 := sq_ge1 hN
  have hS2 : (c0 * c0 + 3 * c1 * c1) * (c0 * c0 + 3 * c1 * c1) = (c0 * c0 - 3 * c1 * c1) * (c0 * c0 - 3 * c1 * c1) + 3 * ((2 * c0 * c1) * (2 * c0 * c1)) := by grind
  generalize 2 * c0 * c1 = T at *
  generalize c0 * c0 + 3 * c1 * c1 = S at *
  generalize c0 * c0 - 3 * c1 * c1 = Nn at *
  refine Int.not_le.mp fun hle => ?_
  by_cases hT : 0 ≤ T
  · have h1 := Int.mul_pos hS0 hq
    have h2 := Int.mul_nonneg hT (Int.le_of_lt hp0)
    omega
  · have h1 : S * q ≤ -T * p := by rw [Int.neg_mul]; omega
    have h0 : 0 ≤ S * q := Int.mul_nonneg hS (Int.le_of_lt hq)
    have h2 : (S * q) * (S * q) ≤ (-T * p) * (-T * p) := Int.mul_le_mul h1 h1 h0 (by omega)
    have h3 : (S * q) * (S * q) = (Nn * Nn + 3 * (T * T)) * (q * q) := by rw [← hS2]; grind
    have h4 : (-T * p) * (-T * p) = T * T * (3 * (q * q) + 1) := by rw [← hp]; grind
    rw [h3, h4] at h2
    have h5 : (Nn * Nn + 3 * (T * T)) * (q * q) = Nn * Nn * (q * q) + 3 * (T * T) * (q * q) := by grind
    have h6 : T * T * (3 * (q * q) + 1) = 3 * (T * T) * (q * q) + T * T := by grind
    have h7 : 1 * (q * q) ≤ Nn * Nn * (q * q) := Int.mul_le_mul_of_nonneg_right hN2 (sq_nn q)
    have h8 : q * q ≤ (-T) * (-T) := by rw [Int.neg_mul_neg]; omega
    have h9 := sq_le (by omega) h8
    omega
theorem sg_ph {p q a b : Int} (hp : p * p = 3 * (q * q) + 1) (hq : 0 < q) (hp0 : 0 < p) (hb : -q < b ∧ b < q) : sgI a b ≤ 0 ↔ a * q + b * p ≤ 0 := by
  have m1 : ((-1 : Int32) ≤ 0) := by decide
  have m0 : ((0 : Int32) ≤ 0) := by decide
  have m2 : ¬ ((1 : Int32) ≤ 0) := by decide
  have key : ∀ x y : Int, 0 ≤ x → 0 ≤ y → y < q → (3 * (y * y) < x * x → y * p < x * q) ∧ (x * x ≤ 3 * (y * y) → 0 < y → x * q < y * p) := fun x y hx hy hyq => by
    have hyp : (y * p) * (y * p) = 3 * (y * y) * (q * q) + y * y := by
      have : (y * p) * (y * p) = y * y * (p * p) := by grind
      rw [this, hp]; grind
    have hxq : (x * q) * (x * q) = x * x * (q * q) := by grind
    refine ⟨fun h1 => sq_lt (Int.mul_nonneg hx (Int.le_of_lt hq)) ?_, fun h1 h0 => sq_lt (Int.mul_nonneg hy (Int.le_of_lt hp0)) ?_⟩
    · rw [hyp, hxq]
      have h2 : (3 * (y * y) + 1) * (q * q) ≤ x * x * (q * q) := Int.mul_le_mul_of_nonneg_right (by omega) (sq_nn q)
      have h3 : (3 * (y * y) + 1) * (q * q) = 3 * (y * y) * (q * q) + q * q := by grind
      have h4 : y * y < q * q := Int.lt_of_le_of_lt (Int.mul_le_mul_of_nonneg_left (Int.le_of_lt hyq) hy) (Int.mul_lt_mul_of_pos_right hyq hq)
      omega
    · rw [hyp, hxq]
      have h2 : x * x * (q * q) ≤ 3 * (y * y) * (q * q) := Int.mul_le_mul_of_nonneg_right h1 (sq_nn q)
      have h3 := Int.mul_pos h0 h0
      omega
  have sn : ∀ z : Int, z < 0 → sgI1 z = -1 := fun z h => if_pos h
  have sp : ∀ z : Int, 0 < z → sgI1 z = 1 := fun z h => (if_neg (by omega)).trans (if_pos h)
  have s0 : sgI1 0 = 0 := rfl
  unfold sgI
  rcases Int.lt_trichotomy a 0 with ha | ha | ha <;> rcases Int.lt_trichotomy b 0 with h0 | h0 | h0
  · have h1 := Int.mul_neg_of_neg_of_pos ha hq
    have h2 := Int.mul_neg_of_neg_of_pos h0 hp0
    rw [sn a ha, sn b h0, if_pos (Or.inl rfl)]
    exact ⟨fun _ => by omega, fun _ => m1⟩
  · subst h0
    have h1 := Int.mul_neg_of_neg_of_pos ha hq
    rw [sn a ha, s0, if_pos (Or.inr rfl), Int.zero_mul]
    exact ⟨fun _ => by omega, fun _ => m1⟩
  · rw [sn a ha, sp b h0, if_neg (by decide), if_neg (by decide)]
    have hk := key (-a) b (by omega) (by omega) hb.2
    rw [Int.neg_mul_neg, Int.neg_mul] at hk
    by_cases h3 : 3 * b * b < a * a
    · rw [if_pos h3]
      have := hk.1 (by rw [← Int.mul_assoc]; exact h3)
      exact ⟨fun _ => by omega, fun _ => m1⟩
    · rw [if_neg h3]
      have := hk.2 (by rw [← Int.mul_assoc]; omega) h0
      exact ⟨fun e => absurd e m2, fun _ => by omega⟩
  · subst ha
    have h2 := Int.mul_neg_of_neg_of_pos h0 hp0
    rw [sn b h0, s0, if_neg (by decide), if_pos rfl, Int.zero_mul]
    exact ⟨fun _ => by omega, fun _ => m1⟩
  · subst ha; subst h0
    rw [s0, if_pos (Or.inl rfl), Int.zero_mul, Int.zero_mul]
    exact ⟨fun _ => by omega, fun _ => m0⟩
  · subst ha
    have h2 := Int.mul_pos h0 hp0
    rw [sp b h0, s0, if_neg (by decide), if_pos rfl, Int.zero_mul]
    exact ⟨fun e => absurd e m2, fun _ => by omega⟩
  · rw [sp a ha, sn b h0, if_neg (by decide), if_neg (by decide)]
    have hk := key a (-b) (by omega) (by omega) (by omega)
    rw [Int.neg_mul_neg, Int.neg_mul] at hk
    by_cases h3 : 3 * b * b < a * a
    · rw [if_pos h3]
      have := hk.1 (by rw [← Int.mul_assoc]; exact h3)
      exact ⟨fun e => absurd e m2, fun _ => by omega⟩
    · rw [if_neg h3]
      have := hk.2 (by rw [← Int.mul_assoc]; omega) (by omega)
      exact ⟨fun _ => by omega, fun _ => m1⟩
  · subst h0
    have h1 := Int.mul_pos ha hq
    rw [sp a ha, s0, if_pos (Or.inr rfl), Int.zero_mul]
    exact ⟨fun e => absurd e m2, fun _ => by omega⟩
  · have h1 := Int.mul_pos ha hq
    have h2 := Int.mul_pos h0 hp0
    rw [sp a ha, sp b h0, if_pos (Or.inl rfl)]
    exact ⟨fun e => absurd e m2, fun _ => by omega⟩
/-- a hole is no longer than its size: behind it within L, before it within L and the size -/
theorem tri_ph {p q : Int} (hp : p * p = 3 * (q * q) + 1) (hq0 : 1000000000000000000000 < q) (hp0 : 0 < p) {x0 x1 x2 x3 w0 w1 w2 w3 L s : Int} (hL : 0 ≤ L) (hs : 0 ≤ s)
    (b0 : -19000 ≤ x0 ∧ x0 ≤ 19000) (b1 : -19000 ≤ x1 ∧ x1 ≤ 19000) (b2 : -19000 ≤ x2 ∧ x2 ≤ 19000) (b3 : -19000 ≤ x3 ∧ x3 ≤ 19000) (c0 : -2 ≤ w0 ∧ w0 ≤ 2) (c1 : -2 ≤ w1 ∧ w1 ≤ 2) (c2 : -2 ≤ w2 ∧ w2 ≤ 2) (c3 : -2 ≤ w3 ∧ w3 ≤ 2)
    (hw0 : w0 * w0 + 3 * w1 * w1 + w2 * w2 + 3 * w3 * w3 = 4) (hw1 : w0 * w1 + w2 * w3 = 0)
    (h : (x0 * x0 + 3 * x1 * x1 + x2 * x2 + 3 * x3 * x3 - 400 * L * L) * q + (2 * x0 * x1 + 2 * x2 * x3) * p ≤ 0) :
    ((x0 + 10 * s * w0) * (x0 + 10 * s * w0) + 3 * (x1 + 10 * s * w1) * (x1 + 10 * s * w1) + (x2 + 10 * s * w2) * (x2 + 10 * s * w2) + 3 * (x3 + 10 * s * w3) * (x3 + 10 * s * w3) - 400 * (L + s) * (L + s)) * q + (2 * (x0 + 10 * s * w0) * (x1 + 10 * s * w1) + 2 * (x2 + 10 * s * w2) * (x3 + 10 * s * w3)) * p ≤ 0 := by
  have hq : 0 < q := by omega
  obtain ⟨u, hu⟩ : ∃ u, u = x0 * w0 + 3 * x1 * w1 + x2 * w2 + 3 * x3 * w3 := ⟨_, rfl⟩
  obtain ⟨v, hv⟩ : ∃ v, v = x0 * w1 + x1 * w0 + x2 * w3 + x3 * w2 := ⟨_, rfl⟩
  obtain ⟨y, hy⟩ : ∃ y, y = x0 * w2 + 3 * x1 * w3 - (x2 * w0 + 3 * x3 * w1) := ⟨_, rfl⟩
  obtain ⟨z, hz⟩ : ∃ z, z = x0 * w3 + x1 * w2 - (x2 * w1 + x3 * w0) := ⟨_, rfl⟩
  obtain ⟨n0, hn0⟩ : ∃ n, n = x0 * x0 + 3 * x1 * x1 + x2 * x2 + 3 * x3 * x3 := ⟨_, rfl⟩
  obtain ⟨n1, hn1⟩ : ∃ n, n = 2 * x0 * x1 + 2 * x2 * x3 := ⟨_, rfl⟩
  have I0 : (u * u + 3 * v * v) + (y * y + 3 * z * z) = n0 * (w0 * w0 + 3 * w1 * w1 + w2 * w2 + 3 * w3 * w3) + 3 * n1 * (2 * (w0 * w1 + w2 * w3)) := by rw [hu, hv, hy, hz, hn0, hn1]; grind
  have I1 : 2 * u * v + 2 * y * z = n0 * (2 * (w0 * w1 + w2 * w3)) + n1 * (w0 * w0 + 3 * w1 * w1 + w2 * w2 + 3 * w3 * w3) := by rw [hu, hv, hy, hz, hn0, hn1]; grind
  rw [hw0, hw1] at I0 I1
  have E0 : (x0 + 10 * s * w0) * (x0 + 10 * s * w0) + 3 * (x1 + 10 * s * w1) * (x1 + 10 * s * w1) + (x2 + 10 * s * w2) * (x2 + 10 * s * w2) + 3 * (x3 + 10 * s * w3) * (x3 + 10 * s * w3) = n0 + 20 * s * u + 100 * s * s * (w0 * w0 + 3 * w1 * w1 + w2 * w2 + 3 * w3 * w3) := by rw [hu, hn0]; grind
  have E1 : 2 * (x0 + 10 * s * w0) * (x1 + 10 * s * w1) + 2 * (x2 + 10 * s * w2) * (x3 + 10 * s * w3) = n1 + 20 * s * v + 200 * s * s * (w0 * w1 + w2 * w3) := by rw [hv, hn1]; grind
  rw [E0, E1, hw0, hw1]
  rw [← hn0, ← hn1] at h
  -- what is to be shown of D
  have hgoal : u * q + v * p ≤ 40 * L * q → (n0 + 20 * s * u + 100 * s * s * 4 - 400 * (L + s) * (L + s)) * q + (n1 + 20 * s * v + 200 * s * s * 0) * p ≤ 0 := fun hD => by
    have h1 : (20 * s) * (u * q + v * p) ≤ (20 * s) * (40 * L * q) := Int.mul_le_mul_of_nonneg_left hD (by omega)
    have h2 : (n0 + 20 * s * u + 100 * s * s * 4 - 400 * (L + s) * (L + s)) * q + (n1 + 20 * s * v + 200 * s * s * 0) * p = ((n0 - 400 * L * L) * q + n1 * p) + ((20 * s) * (u * q + v * p) - (20 * s) * (40 * L * q)) := by grind
    rw [h2]
    omega
  refine hgoal ?_
  -- bounds
  have mb : ∀ x w : Int, (-19000 ≤ x ∧ x ≤ 19000) → (-2 ≤ w ∧ w ≤ 2) → -38000 ≤ x * w ∧ x * w ≤ 38000 := fun x w hx hw => by
    have := mul_bd hx hw; omega
  have a00 := mb x0 w0 b0 c0
  have a01 := mb x0 w1 b0 c1
  have a02 := mb x0 w2 b0 c2
  have a03 := mb x0 w3 b0 c3
  have a10 := mb x1 w0 b1 c0
  have a11 := mb x1 w1 b1 c1
  have a12 := mb x1 w2 b1 c2
  have a13 := mb x1 w3 b1 c3
  have a20 := mb x2 w0 b2 c0
  have a21 := mb x2 w1 b2 c1
  have a22 := mb x2 w2 b2 c2
  have a23 := mb x2 w3 b2 c3
  have a30 := mb x3 w0 b3 c0
  have a31 := mb x3 w1 b3 c1
  have a32 := mb x3 w2 b3 c2
  have a33 := mb x3 w3 b3 c3
  rw [Int.mul_assoc 3, Int.mul_assoc 3] at hu hy
  have hub : -400000 ≤ u ∧ u ≤ 400000 := by omega
  have hvb : -400000 ≤ v ∧ v ≤ 400000 := by omega
  have hyb : -400000 ≤ y ∧ y ≤ 400000 := by omega
  have hzb : -400000 ≤ z ∧ z ≤ 400000 := by omega
  have hyz := mul_bd hyb hzb
  have hvv := mul_bd hvb hvb
  have h4 : (u * u + 3 * v * v) * q + 2 * u * v * p + ((y * y + 3 * z * z) * q + 2 * y * z * p) = 4 * (n0 * q + n1 * p) := by
    have e1 : (u * u + 3 * v * v) * q + 2 * u * v * p + ((y * y + 3 * z * z) * q + 2 * y * z * p) = ((u * u + 3 * v * v) + (y * y + 3 * z * z)) * q + (2 * u * v + 2 * y * z) * p := by grind
    rw [e1, I0, I1]; grind
  have hC : 0 ≤ (y * y + 3 * z * z) * q + 2 * y * z * p := by
    by_cases e : y = 0 ∧ z = 0
    · rw [e.1, e.2]; simp
    · exact Int.le_of_lt (ph_sq hp hq hp0 (by rw [Int.mul_assoc]; omega) e)
  have h5 : (n0 - 400 * L * L) * q + n1 * p = (n0 * q + n1 * p) - 400 * L * L * q := by grind
  rw [h5] at h
  have h6 : (u * u + 3 * v * v) * q + 2 * u * v * p ≤ 1600 * L * L * q := by
    have e : 1600 * L * L * q = 4 * (400 * L * L * q) := by grind
    rw [e]; omega
  have h7 : ((u * u + 3 * v * v) * q + 2 * u * v * p) * q = (u * q + v * p) * (u * q + v * p) - v * v := by
    have e : (u * q + v * p) * (u * q + v * p) = u * u * (q * q) + 2 * u * v * p * q + v * v * (p * p) := by grind
    rw [e, hp]; grind
  have h8 : ((u * u + 3 * v * v) * q + 2 * u * v * p) * q ≤ 1600 * L * L * q * q := Int.mul_le_mul_of_nonneg_right h6 (Int.le_of_lt hq)
  rw [h7] at h8
  have h9 : 1600 * L * L * q * q = (40 * L * q) * (40 * L * q) := by grind
  rw [h9] at h8
  by_cases hL0 : L = 0
  · subst hL0
    -- the pull behind is nothing
    have hx : x0 = 0 ∧ x1 = 0 ∧ x2 = 0 ∧ x3 = 0 := by
      have g01 := mul_bd b0 b1
      have g23 := mul_bd b2 b3
      have k0 : n0 * q + n1 * p = ((x0 * x0 + 3 * x1 * x1) * q + 2 * x0 * x1 * p) + ((x2 * x2 + 3 * x3 * x3) * q + 2 * x2 * x3 * p) := by rw [hn0, hn1]; grind
      have k1 : n0 * q + n1 * p ≤ 0 := by
        have e : (400 : Int) * 0 * 0 * q = 0 := by simp
        rw [e] at h; omega
      rw [k0] at k1
      have p1 : ¬ (x0 = 0 ∧ x1 = 0) → 0 < (x0 * x0 + 3 * x1 * x1) * q + 2 * x0 * x1 * p := fun e => ph_sq hp hq hp0 (by rw [Int.mul_assoc]; omega) e
      have p2 : ¬ (x2 = 0 ∧ x3 = 0) → 0 < (x2 * x2 + 3 * x3 * x3) * q + 2 * x2 * x3 * p := fun e => ph_sq hp hq hp0 (by rw [Int.mul_assoc]; omega) e
      have z1 : (x0 = 0 ∧ x1 = 0) → (x0 * x0 + 3 * x1 * x1) * q + 2 * x0 * x1 * p = 0 := fun e => by rw [e.1, e.2]; simp
      have z2 : (x2 = 0 ∧ x3 = 0) → (x2 * x2 + 3 * x3 * x3) * q + 2 * x2 * x3 * p = 0 := fun e => by rw [e.1, e.2]; simp
      by_cases e1 : x0 = 0 ∧ x1 = 0
      · by_cases e2 : x2 = 0 ∧ x3 = 0
        · exact ⟨e1.1, e1.2, e2.1, e2.2⟩
        · have := p2 e2; have := z1 e1; omega
      · by_cases e2 : x2 = 0 ∧ x3 = 0
        · have := p1 e1; have := z2 e2; omega
        · have := p1 e1; have := p2 e2; omega
    obtain ⟨rfl, rfl, rfl, rfl⟩ := hx
    have hu0 : u = 0 := by rw [hu]; simp
    have hv0 : v = 0 := by rw [hv]; simp
    rw [hu0, hv0]; simp
  · refine Int.not_lt.mp fun hlt => ?_
    have hK : 0 ≤ 40 * L * q := Int.mul_nonneg (by omega) (Int.le_of_lt hq)
    have hK2 : 1 * q ≤ 40 * L * q := Int.mul_le_mul_of_nonneg_right (by omega) (Int.le_of_lt hq)
    have h10 : (40 * L * q + 1) * (40 * L * q + 1) ≤ (u * q + v * p) * (u * q + v * p) := Int.mul_le_mul (by omega) (by omega) (by omega) (by omega)
    have h11 : (40 * L * q + 1) * (40 * L * q + 1) = (40 * L * q) * (40 * L * q) + 2 * (40 * L * q) + 1 := by grind
    omega

