/-! a pull's square: the class multiplies by the mirrored, the reference sums up -/
def mirN (X : N5) : N5 := (X.1, X.2.1, -X.2.2.1, -X.2.2.2.1, X.2.2.2.2)
theorem neg_i {x : Int64} {B : Int} (hB : B ≤ 9000000000000000000) (h : -B ≤ x.toInt ∧ x.toInt ≤ B) : (-x).toInt = -x.toInt := by
  have h4 : -x = 0 - x := (Int64.zero_sub x).symm
  rw [h4, i64_sub (by unfold mOv outL; rw [dB_f, show (0 : Int64).toInt = 0 from rfl]; omega), show (0 : Int64).toInt = 0 from rfl]
  omega
theorem mir_bd {X : N5} {B Dm : Int} (hB : B ≤ 9000000000000000000) (h : bdN X B Dm) : bdN (mirN X) B Dm := by
  obtain ⟨h1, h2, h3, h4, h5⟩ := h
  have e3 := neg_i hB h3
  have e4 := neg_i hB h4
  refine ⟨h1, h2, ?_, ?_, h5⟩
  · show -B ≤ (-X.2.2.1).toInt ∧ (-X.2.2.1).toInt ≤ B
    rw [e3]; omega
  · show -B ≤ (-X.2.2.2.1).toInt ∧ (-X.2.2.2.1).toInt ≤ B
    rw [e4]; omega
theorem ofI_i {z : Int} (h : -9000000000000000000 ≤ z ∧ z ≤ 9000000000000000000) : (Int64.ofInt z).toInt = z := i64_ofInt (outL_of (by omega))
theorem div_sc {x : Int} {G m : Nat} (hG : 0 < G) (hm : 0 < m) (h : -9000000000000000000 ≤ x * m ∧ x * m ≤ 9000000000000000000) (hx : -9000000000000000000 ≤ x ∧ x ≤ 9000000000000000000) (hg : G * m < 2 ^ 63) : Int64.ofInt (x * m) / lN (G * m) = Int64.ofInt x / lN G := by
  have hg2 : G < 2 ^ 63 := Nat.lt_of_le_of_lt (Nat.le_mul_of_pos_right G hm) hg
  rw [i64_eq, Int64.toInt_div, Int64.toInt_div, pk_lT hg, pk_lT hg2, ofI_i h, ofI_i hx, Int.natCast_mul, Int.mul_tdiv_mul_of_pos_left _ _ (by omega)]
theorem lowN_sc {x y w : Int} {m : Nat} (hm : 0 < m) (hw : 0 < w) (h1 : -9000000000000000000 ≤ x * m ∧ x * m ≤ 9000000000000000000) (h2 : -9000000000000000000 ≤ y * m ∧ y * m ≤ 9000000000000000000) (h3 : w * m ≤ 9000000000000000000) (b1 : -9000000000000000000 ≤ x ∧ x ≤ 9000000000000000000) (b2 : -9000000000000000000 ≤ y ∧ y ≤ 9000000000000000000) (b3 : w ≤ 9000000000000000000) :
    lowN (Int64.ofInt (x * m)) (Int64.ofInt (y * m)) 0 0 (Int64.ofInt (w * m)) = lowN (Int64.ofInt x) (Int64.ofInt y) 0 0 (Int64.ofInt w) := by
  have hwm : 0 < w * m := Int.mul_pos hw (by omega)
  have hg : gc (Int64.ofInt (x * m)) (Int64.ofInt (y * m)) 0 0 (Int64.ofInt (w * m)) = gc (Int64.ofInt x) (Int64.ofInt y) 0 0 (Int64.ofInt w) * m := by
    unfold gc
    rw [ofI_i h1, ofI_i h2, ofI_i (z := w * m) (by omega), ofI_i b1, ofI_i b2, ofI_i (z := w) (by omega), Int.natAbs_mul, Int.natAbs_mul, Int.natAbs_mul, show ((m : Int)).natAbs = m from rfl, Nat.gcd_mul_right, Nat.gcd_mul_right, show (0 : Int64).toInt.natAbs = 0 from rfl, Nat.gcd_zero_right, Nat.gcd_zero_right, Nat.gcd_zero_right, Nat.gcd_zero_right]
  have hd1 : 0 < (Int64.ofInt w).toInt := by rw [ofI_i (z := w) (by omega)]; exact hw
  have hd2 : 0 < (Int64.ofInt (w * m)).toInt := by rw [ofI_i (z := w * m) (by omega)]; exact hwm
  obtain ⟨g1, g2⟩ := gc_le (a := Int64.ofInt x) (b := Int64.ofInt y) (c := 0) (e := 0) hd1
  obtain ⟨g3, g4⟩ := gc_le (a := Int64.ofInt (x * m)) (b := Int64.ofInt (y * m)) (c := 0) (e := 0) hd2
  rw [hg] at g4
  rw [ofI_i (z := w * m) (by omega)] at g4
  unfold lowN
  rw [hg]
  generalize gc (Int64.ofInt x) (Int64.ofInt y) 0 0 (Int64.ofInt w) = G at *
  have hz : ∀ k : Nat, 0 < k → k < 2 ^ 63 → (0 : Int64) / lN k = 0 := fun k _ hk => by
    rw [i64_eq, Int64.toInt_div, pk_lT hk, show (0 : Int64).toInt = 0 from rfl, Int.zero_tdiv]; rfl
  have hGm : G * m < 2 ^ 63 := by omega
  have hG : G < 2 ^ 63 := Nat.lt_of_le_of_lt (Nat.le_mul_of_pos_right G hm) hGm
  rw [div_sc g1 hm h1 b1 hGm, div_sc g1 hm h2 b2 hGm, div_sc g1 hm (x := w) (by omega) (by omega) hGm, hz _ (Nat.mul_pos g1 hm) hGm, hz _ g1 hG]
theorem low_ex {z : Int} {g : Nat} (hg : 0 < g) (hg2 : g < 2 ^ 62) (hz : -9000000000000000000 ≤ z ∧ z ≤ 9000000000000000000) (hd : g ∣ (Int64.ofInt z).toInt.natAbs) : z = (Int64.ofInt z / lN g).toInt * (g : Int) := by
  rw [ofI_i hz] at hd
  obtain ⟨q, hq⟩ := Int.ofNat_dvd_left.mpr hd
  have h3 : z.natAbs = g * q.natAbs := by rw [hq, Int.natAbs_mul]; rfl
  have h4 : q.natAbs ≤ z.natAbs := by rw [h3]; exact Nat.le_mul_of_pos_left _ hg
  have e : (Int64.ofInt z / lN g).toInt = q := by
    rw [Int64.toInt_div, pk_lT (by omega), ofI_i hz, hq, Int.mul_comm, Int.mul_tdiv_cancel _ (by omega), i64_bmod (by unfold outL; rw [dB_f]; omega)]
  rw [e, hq, Int.mul_comm]
theorem i64_of (x : Int64) : x = Int64.ofInt x.toInt := (Int64.ofInt_toInt x).symm
theorem pl_sq {P : Nat → Int} (h : bdP P) : prodV (plN P) (mirN (plN P)) = sqN P ∧ prodO (plN P) (mirN (plN P)) = false := by
  have hb := plN_bd h
  have hm := mir_bd (by omega) hb
  have hpO := (prod_bd hb hm (by omega) (by omega) (by omega) (by omega)).1
  refine ⟨?_, hpO⟩
  have hsq := sq_bd h
  obtain ⟨h0, h1, h2, h3⟩ := h
  have hd20 : 0 < (20 : Int64).toInt := by decide
  obtain ⟨g1, g2⟩ := gc_le (a := Int64.ofInt (P 0)) (b := Int64.ofInt (P 1)) (c := Int64.ofInt (P 2)) (e := Int64.ofInt (P 3)) hd20
  obtain ⟨d1, d2, d3, d4⟩ := gc_dv (Int64.ofInt (P 0)) (Int64.ofInt (P 1)) (Int64.ofInt (P 2)) (Int64.ofInt (P 3)) 20
  have d5 := gc_dvd (Int64.ofInt (P 0)) (Int64.ofInt (P 1)) (Int64.ofInt (P 2)) (Int64.ofInt (P 3)) 20
  have hX : plN P = (Int64.ofInt (P 0) / lN (gc (Int64.ofInt (P 0)) (Int64.ofInt (P 1)) (Int64.ofInt (P 2)) (Int64.ofInt (P 3)) 20), Int64.ofInt (P 1) / lN (gc (Int64.ofInt (P 0)) (Int64.ofInt (P 1)) (Int64.ofInt (P 2)) (Int64.ofInt (P 3)) 20), Int64.ofInt (P 2) / lN (gc (Int64.ofInt (P 0)) (Int64.ofInt (P 1)) (Int64.ofInt (P 2)) (Int64.ofInt (P 3)) 20), Int64.ofInt (P 3) / lN (gc (Int64.ofInt (P 0)) (Int64.ofInt (P 1)) (Int64.ofInt (P 2)) (Int64.ofInt (P 3)) 20), 20 / lN (gc (Int64.ofInt (P 0)) (Int64.ofInt (P 1)) (Int64.ofInt (P 2)) (Int64.ofInt (P 3)) 20)) := rfl
  have e20 : (20 : Int64).toInt = 20 := rfl
  generalize gc (Int64.ofInt (P 0)) (Int64.ofInt (P 1)) (Int64.ofInt (P 2)) (Int64.ofInt (P 3)) 20 = g at *
  have q0 := low_ex g1 (by omega) (by omega) d1
  have q1 := low_ex g1 (by omega) (by omega) d2
  have q2 := low_ex g1 (by omega) (by omega) d3
  have q3 := low_ex g1 (by omega) (by omega) d4
  have q4 := low_ex (z := 20) g1 (by omega) (by omega) d5
  have q4 : (20 : Int) = ((20 : Int64) / lN g).toInt * (g : Int) := q4
  rw [hX] at hb hm hpO ⊢
  generalize Int64.ofInt (P 0) / lN g = a at *
  generalize Int64.ofInt (P 1) / lN g = b at *
  generalize Int64.ofInt (P 2) / lN g = c at *
  generalize Int64.ofInt (P 3) / lN g = e at *
  generalize (20 : Int64) / lN g = d at *
  obtain ⟨ba, bb, bc, be, bd⟩ := hb
  replace ba : -19000 ≤ a.toInt ∧ a.toInt ≤ 19000 := ba
  replace bb : -19000 ≤ b.toInt ∧ b.toInt ≤ 19000 := bb
  replace bc : -19000 ≤ c.toInt ∧ c.toInt ≤ 19000 := bc
  replace be : -19000 ≤ e.toInt ∧ e.toInt ≤ 19000 := be
  replace bd : 1 ≤ d.toInt ∧ d.toInt ≤ 20 := bd
  have nc := neg_i (by omega) bc
  have ne := neg_i (by omega) be
  have hpO2 : (((prAo a b c e a b (-c) (-e) || prBo a b c e a b (-c) (-e)) || prCo a b c e a b (-c) (-e)) || prEo a b c e a b (-c) (-e) || tOv d d) = false := hpO
  rw [Bool.or_eq_false_iff, Bool.or_eq_false_iff, Bool.or_eq_false_iff, Bool.or_eq_false_iff] at hpO2
  obtain ⟨⟨⟨⟨oA, oB⟩, oC⟩, oE⟩, oD⟩ := hpO2
  have tA := prA_toInt oA
  have tB := prB_toInt oB
  rw [nc, ne] at tA tB
  have tD := i64_mul oD
  have vC : prC a b c e a b (-c) (-e) = 0 := by unfold prC thV; grind
  have vE : prE a b c e a b (-c) (-e) = 0 := by unfold prE; grind
  have hG : ((g * g : Nat) : Int) = (g : Int) * (g : Int) := Int.natCast_mul g g
  have s0 : (prA a b c e a b (-c) (-e)).toInt * ((g * g : Nat) : Int) = sqI P 0 := by
    rw [tA, hG]
    show _ = P 0 * P 0 + 3 * P 1 * P 1 + P 2 * P 2 + 3 * P 3 * P 3
    rw [q0, q1, q2, q3]
    grind
  have s1 : (prB a b c e a b (-c) (-e)).toInt * ((g * g : Nat) : Int) = sqI P 1 := by
    rw [tB, hG]
    show _ = 2 * P 0 * P 1 + 2 * P 2 * P 3
    rw [q0, q1, q2, q3]
    grind
  have s4 : (d * d).toInt * ((g * g : Nat) : Int) = 400 := by
    rw [tD, hG]
    have : (20 : Int) * 20 = (d.toInt * (g : Int)) * (d.toInt * (g : Int)) := by rw [← q4]
    grind
  have hdd : 1 ≤ (d * d).toInt := by
    rw [tD]
    have := Int.mul_pos (a := d.toInt) (b := d.toInt) (by omega) (by omega)
    omega
  have hdd2 : (d * d).toInt ≤ 9000000000000000000 := by
    rw [tD]
    have := mul_bd (x := d.toInt) (y := d.toInt) (X := 20) (Y := 20) (by omega) (by omega)
    omega
  have bA := (prod_bd (B1 := 19000) (B2 := 19000) (D1 := 20) (D2 := 20) (X := (a, b, c, e, d)) (Y := (a, b, -c, -e, d)) ⟨ba, bb, bc, be, bd⟩ hm (by omega) (by omega) (by omega) (by omega)).1
  have hgg : 1 ≤ ((g * g : Nat) : Int) := by
    have := Nat.mul_pos g1 g1
    omega
  have hle : ∀ x : Int, -1300000000 ≤ x * ((g * g : Nat) : Int) ∧ x * ((g * g : Nat) : Int) ≤ 1300000000 → -1300000000 ≤ x ∧ x ≤ 1300000000 := fun x hx => by
    generalize ((g * g : Nat) : Int) = m at *
    have h1 : x.natAbs ≤ (x * m).natAbs := by
      rw [Int.natAbs_mul]
      exact Nat.le_mul_of_pos_right _ (by omega)
    omega
  have b0 := hle _ (by rw [s0]; omega)
  have b1 := hle _ (by rw [s1]; omega)
  show lowN (prA a b c e a b (-c) (-e)) (prB a b c e a b (-c) (-e)) (prC a b c e a b (-c) (-e)) (prE a b c e a b (-c) (-e)) (d * d) = lowN (Int64.ofInt (sqI P 0)) (Int64.ofInt (sqI P 1)) 0 0 400
  rw [vC, vE, ← s0, ← s1, show (400 : Int64) = Int64.ofInt 400 from rfl, ← s4, lowN_sc (m := g * g) (Nat.mul_pos g1 g1) (by omega) (by rw [s0]; omega) (by rw [s1]; omega) (by rw [s4]; omega) (by omega) (by omega) hdd2, ← i64_of, ← i64_of, ← i64_of]

