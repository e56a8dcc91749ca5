theorem sumV_d {mi : Bool} {X Y : N5} (h : sumO mi X Y = false) (hx : 0 < X.2.2.2.2.toInt) (hy : 0 < Y.2.2.2.2.toInt) : 0 < (sumV mi X Y).2.2.2.2.toInt := by
  unfold sumO at h
  rw [Bool.or_eq_false_iff] at h
  refine lowN_d ?_
  rw [i64_mul h.2]
  exact Int.mul_pos hx hy
theorem prodV_d {X Y : N5} (h : prodO X Y = false) (hx : 0 < X.2.2.2.2.toInt) (hy : 0 < Y.2.2.2.2.toInt) : 0 < (prodV X Y).2.2.2.2.toInt := by
  unfold prodO at h
  rw [Bool.or_eq_false_iff] at h
  refine lowN_d ?_
  rw [i64_mul h.2]
  exact Int.mul_pos hx hy
theorem recV_d {X : N5} (h : recO X = false) (hz : zeroN X = false) : 0 < (recV X).2.2.2.2.toInt := by
  have hq := recO_f h
  exact lowN_d (rcT_pos hq.1 hq.2.1 hq.2.2 hz)
theorem quoV_d {X Y : N5} (h : quoO X Y = false) (hx : 0 < X.2.2.2.2.toInt) (hz : zeroN Y = false) : 0 < (quoV X Y).2.2.2.2.toInt := by
  unfold quoO at h
  rw [Bool.or_eq_false_iff] at h
  exact prodV_d h.2 hx (recV_d h.1 hz)
theorem i64_dvz {x : Int64} {g : Nat} (hg : 0 < g) (hg2 : g < 2 ^ 63) (hd : g ∣ x.toInt.natAbs) (hx : x.toInt ≠ 0) : x / lN g ≠ 0 := fun e => by
  have e1 : (x / lN g).toInt = 0 := by rw [e]; rfl
  have hr := i64_rng x
  obtain ⟨q, hq⟩ := Int.ofNat_dvd_left.mpr hd
  have hq0 : q ≠ 0 := fun e9 => hx (by rw [hq, e9, Int.mul_zero])
  have h3 : q.natAbs ≤ x.toInt.natAbs := by
    rw [hq, Int.natAbs_mul]
    exact Nat.le_mul_of_pos_left _ (by omega)
  rw [Int64.toInt_div, pk_lT (by omega), hq, Int.mul_comm, Int.mul_tdiv_cancel _ (by omega)] at e1
  by_cases h9 : q = 9223372036854775808
  · rw [h9] at e1; exact absurd e1 (by decide)
  · rw [i64_bmod (by unfold outL; rw [dB_f]; omega)] at e1
    exact hq0 e1
theorem gc_dv (a b c e d : Int64) : gc a b c e d ∣ a.toInt.natAbs ∧ gc a b c e d ∣ b.toInt.natAbs ∧ gc a b c e d ∣ c.toInt.natAbs ∧ gc a b c e d ∣ e.toInt.natAbs := by
  unfold gc
  exact ⟨Nat.dvd_trans (Nat.gcd_dvd_left _ _) (Nat.dvd_trans (Nat.gcd_dvd_left _ _) (Nat.dvd_trans (Nat.gcd_dvd_left _ _) (Nat.gcd_dvd_right _ _))), Nat.dvd_trans (Nat.gcd_dvd_left _ _) (Nat.dvd_trans (Nat.gcd_dvd_left _ _) (Nat.gcd_dvd_right _ _)), Nat.dvd_trans (Nat.gcd_dvd_left _ _) (Nat.gcd_dvd_right _ _), Nat.gcd_dvd_right _ _⟩
theorem lowN_nz {a b c e d : Int64} (hd : 0 < d.toInt) (h : a.toInt ≠ 0 ∨ b.toInt ≠ 0 ∨ c.toInt ≠ 0 ∨ e.toInt ≠ 0) : zeroN (lowN a b c e d) = false := by
  obtain ⟨h1, h2⟩ := gc_le (a := a) (b := b) (c := c) (e := e) hd
  have hr := i64_rng d
  obtain ⟨d1, d2, d3, d4⟩ := gc_dv a b c e d
  unfold zeroN lowN
  rw [dB_f]
  rintro ⟨z1, z2, z3, z4⟩
  rcases h with h | h | h | h
  · exact i64_dvz h1 (by omega) d1 h z1
  · exact i64_dvz h1 (by omega) d2 h z2
  · exact i64_dvz h1 (by omega) d3 h z3
  · exact i64_dvz h1 (by omega) d4 h z4
theorem wI_nz : ∀ a, a < 12 → wI a 0 ≠ 0 ∨ wI a 1 ≠ 0 ∨ wI a 2 ≠ 0 ∨ wI a 3 ≠ 0 := by decide +kernel
theorem wyN_nz {y : Int} {a : Nat} (ha : a < 12) (hy : 1 ≤ y ∧ y ≤ 99) : zeroN (wyN y a) = false := by
  obtain ⟨b0, b1, b2, b3⟩ := wI_bd a ha
  have E : ∀ w : Int, -2 ≤ w ∧ w ≤ 2 → w ≠ 0 → (Int64.ofInt (y * w)).toInt ≠ 0 := fun w hw h0 => by
    have hm := mul_bd (x := y) (X := 99) (y := w) (Y := 2) (by omega) hw
    rw [i64_ofInt (outL_of (by omega))]
    exact Int.mul_ne_zero (by omega) h0
  refine lowN_nz (by decide) ?_
  rcases wI_nz a ha with h | h | h | h
  · exact Or.inl (E _ (by omega) h)
  · exact Or.inr (Or.inl (E _ (by omega) h))
  · exact Or.inr (Or.inr (Or.inl (E _ (by omega) h)))
  · exact Or.inr (Or.inr (Or.inr (E _ (by omega) h)))
/-- an effect, and the determinants of two of them -/
def efS (G : Nat → N5) (p b : Nat) : N5 := sumV true (G (6 + 2 * (p + 1) + b)) (G (6 + b))
noncomputable def efO (G : Nat → N5) (m : Nat → Int32) (a : Nat → Int32) (p b : Nat) : Bool := sumO true (G (6 + 2 * (p + 1) + b)) (G (6 + b)) || quoO (efS G p b) (wyN (m (p + 1)).toInt (aN (a (p + 1))))
def efV (G : Nat → N5) (m : Nat → Int32) (a : Nat → Int32) (p b : Nat) : N5 := quoV (efS G p b) (wyN (m (p + 1)).toInt (aN (a (p + 1))))
noncomputable def crO (X Y Z W : N5) : Bool := (prodO X Y || prodO Z W) || sumO true (prodV X Y) (prodV Z W)
def crV (X Y Z W : N5) : N5 := sumV true (prodV X Y) (prodV Z W)
theorem efV_d {G : Nat → N5} {m a : Nat → Int32} {p b : Nat} (h : efO G m a p b = false) (h1 : 0 < (G (6 + 2 * (p + 1) + b)).2.2.2.2.toInt) (h2 : 0 < (G (6 + b)).2.2.2.2.toInt) (ha : aN (a (p + 1)) < 12) (hm : 1 ≤ (m (p + 1)).toInt ∧ (m (p + 1)).toInt ≤ 99) : 0 < (efV G m a p b).2.2.2.2.toInt := by
  unfold efO at h
  rw [Bool.or_eq_false_iff] at h
  exact quoV_d h.2 (sumV_d h.1 h1 h2) (wyN_nz ha hm)
theorem crV_d {X Y Z W : N5} (h : crO X Y Z W = false) (h1 : 0 < X.2.2.2.2.toInt) (h2 : 0 < Y.2.2.2.2.toInt) (h3 : 0 < Z.2.2.2.2.toInt) (h4 : 0 < W.2.2.2.2.toInt) : 0 < (crV X Y Z W).2.2.2.2.toInt := by
  unfold crO at h
  rw [Bool.or_eq_false_iff, Bool.or_eq_false_iff] at h
  exact sumV_d h.2 (prodV_d h.1.1 h1 h2) (prodV_d h.1.2 h3 h4)

