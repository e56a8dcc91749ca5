/-! readings stay far from where longs end -/
def bdN (X : N5) (B Dm : Int) : Prop := (-B ≤ X.1.toInt ∧ X.1.toInt ≤ B) ∧ (-B ≤ X.2.1.toInt ∧ X.2.1.toInt ≤ B) ∧ (-B ≤ X.2.2.1.toInt ∧ X.2.2.1.toInt ≤ B) ∧ (-B ≤ X.2.2.2.1.toInt ∧ X.2.2.2.1.toInt ≤ B) ∧ (1 ≤ X.2.2.2.2.toInt ∧ X.2.2.2.2.toInt ≤ Dm)
theorem div_bd {x : Int64} {g : Nat} {B : Int} (hg : 0 < g) (hg2 : g < 2 ^ 63) (h : -B ≤ x.toInt ∧ x.toInt ≤ B) : -B ≤ (x / lN g).toInt ∧ (x / lN g).toInt ≤ B := by
  have h1 : (x.toInt.tdiv (g : Int)).natAbs ≤ x.toInt.natAbs := by rw [Int.natAbs_tdiv]; exact Nat.div_le_self _ _
  have h2 := i64_rng x
  have h3 : x.toInt.tdiv (g : Int) ≤ 9223372036854775807 := by
    by_cases e : x.toInt = -9223372036854775808
    · have : x.toInt.tdiv (g : Int) ≤ 0 := by
        rw [e, show (-9223372036854775808 : Int) = -(9223372036854775808 : Int) from rfl, Int.neg_tdiv]
        have := Int.tdiv_nonneg (a := 9223372036854775808) (b := (g : Int)) (by omega) (by omega)
        omega
      omega
    · omega
  rw [Int64.toInt_div, pk_lT hg2, i64_bmod (outL_of (by omega))]
  omega
theorem lowN_bd {a b c e d : Int64} {B Dm : Int} (ha : -B ≤ a.toInt ∧ a.toInt ≤ B) (hb : -B ≤ b.toInt ∧ b.toInt ≤ B) (hc : -B ≤ c.toInt ∧ c.toInt ≤ B) (he : -B ≤ e.toInt ∧ e.toInt ≤ B) (hd : 1 ≤ d.toInt ∧ d.toInt ≤ Dm) : bdN (lowN a b c e d) B Dm := by
  obtain ⟨h1, h2⟩ := gc_le (a := a) (b := b) (c := c) (e := e) (d := d) (by omega)
  have hr := i64_rng d
  have hg2 : gc a b c e d < 2 ^ 63 := by omega
  refine ⟨div_bd h1 hg2 ha, div_bd h1 hg2 hb, div_bd h1 hg2 hc, div_bd h1 hg2 he, ?_, ?_⟩
  · have := lowN_d (a := a) (b := b) (c := c) (e := e) (d := d) (by omega)
    omega
  · exact (div_bd (B := Dm) h1 hg2 (by omega)).2
theorem tO_bd {x y : Int64} {X Y : Int} (hx : -X ≤ x.toInt ∧ x.toInt ≤ X) (hy : -Y ≤ y.toInt ∧ y.toInt ≤ Y) (h : X * Y ≤ 1000000000000000000) : tOv x y = false ∧ (-(X * Y) ≤ (x * y).toInt ∧ (x * y).toInt ≤ X * Y) := by
  have h1 := mul_bd hx hy
  have h2 : tOv x y = false := by unfold tOv; exact outL_of (by omega)
  exact ⟨h2, by rw [i64_mul h2]; exact h1⟩
theorem pO_bd {x y : Int64} {X Y : Int} (hx : -X ≤ x.toInt ∧ x.toInt ≤ X) (hy : -Y ≤ y.toInt ∧ y.toInt ≤ Y) (h : X + Y ≤ 9000000000000000000) : pOv x y = false ∧ (-(X + Y) ≤ (x + y).toInt ∧ (x + y).toInt ≤ X + Y) := by
  have h2 : pOv x y = false := by unfold pOv; exact outL_of (by omega)
  exact ⟨h2, by rw [i64_add h2]; omega⟩
theorem mO_bd {x y : Int64} {X Y : Int} (hx : -X ≤ x.toInt ∧ x.toInt ≤ X) (hy : -Y ≤ y.toInt ∧ y.toInt ≤ Y) (h : X + Y ≤ 9000000000000000000) : mOv x y = false ∧ (-(X + Y) ≤ (x - y).toInt ∧ (x - y).toInt ≤ X + Y) := by
  have h2 : mOv x y = false := by unfold mOv; exact outL_of (by omega)
  exact ⟨h2, by rw [i64_sub h2]; omega⟩
theorem thO_bd {x y : Int64} {X Y : Int} (hx : -X ≤ x.toInt ∧ x.toInt ≤ X) (hy : -Y ≤ y.toInt ∧ y.toInt ≤ Y) (h0 : X ≤ 1000000000000000) (h : 3 * X * Y ≤ 1000000000000000000) : thO x y = false ∧ (-(3 * X * Y) ≤ (thV x y).toInt ∧ (thV x y).toInt ≤ 3 * X * Y) := by
  have t3 : (3 : Int64).toInt = 3 := rfl
  obtain ⟨h1, h2⟩ := tO_bd (x := 3) (y := x) (X := 3) (Y := X) (by omega) hx (by omega)
  obtain ⟨h3, h4⟩ := tO_bd (x := 3 * x) (y := y) h2 hy h
  exact ⟨by unfold thO; rw [h1, h3]; rfl, h4⟩
theorem ssO_bd {a d f l : Int64} {A D F L : Int} (ha : -A ≤ a.toInt ∧ a.toInt ≤ A) (hd : -D ≤ d.toInt ∧ d.toInt ≤ D) (hf : -F ≤ f.toInt ∧ f.toInt ≤ F) (hl : -L ≤ l.toInt ∧ l.toInt ≤ L) (h1 : A * L ≤ 1000000000000000000) (h2 : F * D ≤ 1000000000000000000) : ssO false a d f l = false ∧ (-(A * L + F * D) ≤ (ssV false a d f l).toInt ∧ (ssV false a d f l).toInt ≤ A * L + F * D) := by
  obtain ⟨t1, b1⟩ := tO_bd ha hl h1
  obtain ⟨t2, b2⟩ := tO_bd hf hd h2
  obtain ⟨t3, b3⟩ := pO_bd b1 b2 (by omega)
  exact ⟨by unfold ssO sgO; rw [t1, t2]; exact t3, b3⟩
theorem sum_bd {X Y : N5} {B1 D1 B2 D2 : Int} (hx : bdN X B1 D1) (hy : bdN Y B2 D2) (h1 : B1 * D2 ≤ 1000000000000000000) (h2 : B2 * D1 ≤ 1000000000000000000) (h3 : D1 * D2 ≤ 1000000000000000000) : sumO false X Y = false ∧ bdN (sumV false X Y) (B1 * D2 + B2 * D1) (D1 * D2) := by
  obtain ⟨x1, x2, x3, x4, x5⟩ := hx
  obtain ⟨y1, y2, y3, y4, y5⟩ := hy
  have xd : -D1 ≤ X.2.2.2.2.toInt ∧ X.2.2.2.2.toInt ≤ D1 := by omega
  have yd : -D2 ≤ Y.2.2.2.2.toInt ∧ Y.2.2.2.2.toInt ≤ D2 := by omega
  obtain ⟨s1, b1⟩ := ssO_bd x1 xd y1 yd h1 h2
  obtain ⟨s2, b2⟩ := ssO_bd x2 xd y2 yd h1 h2
  obtain ⟨s3, b3⟩ := ssO_bd x3 xd y3 yd h1 h2
  obtain ⟨s4, b4⟩ := ssO_bd x4 xd y4 yd h1 h2
  obtain ⟨t5, b5⟩ := tO_bd xd yd h3
  refine ⟨by unfold sumO; rw [s1, s2, s3, s4, t5]; rfl, lowN_bd b1 b2 b3 b4 ⟨?_, b5.2⟩⟩
  rw [i64_mul t5]
  have := Int.mul_pos (a := X.2.2.2.2.toInt) (b := Y.2.2.2.2.toInt) (by omega) (by omega)
  omega
theorem prod_bd {X Y : N5} {B1 D1 B2 D2 : Int} (hx : bdN X B1 D1) (hy : bdN Y B2 D2) (h0 : B1 ≤ 1000000000000000) (h1 : B1 * B2 ≤ 100000000000000000) (h2 : 0 ≤ B1 * B2) (h3 : D1 * D2 ≤ 1000000000000000000) : prodO X Y = false ∧ bdN (prodV X Y) (8 * (B1 * B2)) (D1 * D2) := by
  obtain ⟨x1, x2, x3, x4, x5⟩ := hx
  obtain ⟨y1, y2, y3, y4, y5⟩ := hy
  have xd : -D1 ≤ X.2.2.2.2.toInt ∧ X.2.2.2.2.toInt ≤ D1 := by omega
  have yd : -D2 ≤ Y.2.2.2.2.toInt ∧ Y.2.2.2.2.toInt ≤ D2 := by omega
  have h8 : B1 * B2 ≤ 1000000000000000000 := by omega
  have h9 : 3 * B1 * B2 ≤ 1000000000000000000 := by rw [Int.mul_assoc]; omega
  have e3 : 3 * B1 * B2 = 3 * (B1 * B2) := Int.mul_assoc 3 B1 B2
  obtain ⟨a1, c1⟩ := tO_bd x1 y1 h8
  obtain ⟨a2, c2⟩ := thO_bd x2 y2 h0 h9
  obtain ⟨a3, c3⟩ := tO_bd x3 y3 h8
  obtain ⟨a4, c4⟩ := thO_bd x4 y4 h0 h9
  obtain ⟨a5, c5⟩ := pO_bd c1 c2 (by omega)
  obtain ⟨a6, c6⟩ := pO_bd c3 c4 (by omega)
  obtain ⟨a7, c7⟩ := mO_bd c5 c6 (by omega)
  obtain ⟨p1, q1⟩ := tO_bd x1 y2 h8
  obtain ⟨p2, q2⟩ := tO_bd x2 y1 h8
  obtain ⟨p3, q3⟩ := tO_bd x3 y4 h8
  obtain ⟨p4, q4⟩ := tO_bd x4 y3 h8
  obtain ⟨p5, q5⟩ := pO_bd q1 q2 (by omega)
  obtain ⟨p6, q6⟩ := pO_bd q3 q4 (by omega)
  obtain ⟨p7, q7⟩ := mO_bd q5 q6 (by omega)
  obtain ⟨r1, s1⟩ := tO_bd x1 y3 h8
  obtain ⟨r2, s2⟩ := thO_bd x2 y4 h0 h9
  obtain ⟨r3, s3⟩ := tO_bd x3 y1 h8
  obtain ⟨r4, s4⟩ := thO_bd x4 y2 h0 h9
  obtain ⟨r5, s5⟩ := pO_bd s1 s2 (by omega)
  obtain ⟨r6, s6⟩ := pO_bd s5 s3 (by omega)
  obtain ⟨r7, s7⟩ := pO_bd s6 s4 (by omega)
  obtain ⟨t1, u1⟩ := tO_bd x1 y4 h8
  obtain ⟨t2, u2⟩ := tO_bd x2 y3 h8
  obtain ⟨t3, u3⟩ := tO_bd x3 y2 h8
  obtain ⟨t4, u4⟩ := tO_bd x4 y1 h8
  obtain ⟨t5, u5⟩ := pO_bd u1 u2 (by omega)
  obtain ⟨t6, u6⟩ := pO_bd u5 u3 (by omega)
  obtain ⟨t7, u7⟩ := pO_bd u6 u4 (by omega)
  obtain ⟨v5, w5⟩ := tO_bd xd yd h3
  refine ⟨?_, lowN_bd ?_ ?_ ?_ ?_ ⟨?_, w5.2⟩⟩
  · unfold prodO prAo prBo prCo prEo
    rw [a1, a2, a3, a4, a5, a6, a7, p1, p2, p3, p4, p5, p6, p7, r1, r2, r3, r4, r5, r6, r7, t1, t2, t3, t4, t5, t6, t7, v5]
    rfl
  · unfold prA; omega
  · unfold prB; omega
  · unfold prC; omega
  · unfold prE; omega
  · rw [i64_mul v5]
    have := Int.mul_pos (a := X.2.2.2.2.toInt) (b := Y.2.2.2.2.toInt) (by omega) (by omega)
    omega
def wyN (y : Int) (a : Nat) : N5 := lowN (Int64.ofInt (y * wI a 0)) (Int64.ofInt (y * wI a 1)) (Int64.ofInt (y * wI a 2)) (Int64.ofInt (y * wI a 3)) 2
theorem ofI_bd {z B : Int} (hB : B ≤ 9000000000000000000) (h : -B ≤ z ∧ z ≤ B) : -B ≤ (Int64.ofInt z).toInt ∧ (Int64.ofInt z).toInt ≤ B := by
  rw [i64_ofInt (outL_of (by omega))]; exact h
theorem wyN_bd {y Y : Int} {a : Nat} (ha : a < 12) (h : -Y ≤ y ∧ y ≤ Y) (hY : Y ≤ 1000000) : bdN (wyN y a) (2 * Y) 2 := by
  obtain ⟨h0, h1, h2, h3⟩ := wI_bd a ha
  have w1 : -2 ≤ wI a 1 ∧ wI a 1 ≤ 2 := by omega
  have w3 : -2 ≤ wI a 3 ∧ wI a 3 ≤ 2 := by omega
  have m0 := mul_bd h h0
  have m1 := mul_bd h w1
  have m2 := mul_bd h h2
  have m3 := mul_bd h w3
  have e2 : (2 : Int64).toInt = 2 := rfl
  exact lowN_bd (ofI_bd (by omega) (by omega)) (ofI_bd (by omega) (by omega)) (ofI_bd (by omega) (by omega)) (ofI_bd (by omega) (by omega)) (by omega)
theorem plN_bd {P : Nat → Int} (h : bdP P) : bdN (plN P) 19000 20 := by
  obtain ⟨h0, h1, h2, h3⟩ := h
  have e2 : (20 : Int64).toInt = 20 := rfl
  exact lowN_bd (ofI_bd (by omega) (by omega)) (ofI_bd (by omega) (by omega)) (ofI_bd (by omega) (by omega)) (ofI_bd (by omega) (by omega)) (by omega)
/-- a plane's pull with what was put there, through gain and lag -/
def rd1 (P : Nat → Int) (y : Int) (a : Nat) : N5 := sumV false (plN P) (wyN y a)
def rd2 (P : Nat → Int) (y : Int) (a : Nat) (g : Int) (l : Nat) : N5 := prodV (rd1 P y a) (wyN g l)
def rd3 (P0 P1 : Nat → Int) (y0 y1 : Int) (a : Nat) (g0 : Int) (l0 : Nat) (g1 : Int) (l1 : Nat) : N5 := sumV false (rd2 P0 y0 a g0 l0) (rd2 P1 y1 a g1 l1)
theorem rd1_o {P : Nat → Int} {y : Int} {a : Nat} (h : bdP P) (ha : a < 12) (hy : 0 ≤ y ∧ y ≤ 99) : sumO false (plN P) (wyN y a) = false ∧ bdN (rd1 P y a) 41960 40 := by
  have h1 := sum_bd (plN_bd h) (wyN_bd ha (y := y) (Y := 99) (by omega) (by omega)) (by omega) (by omega) (by omega)
  exact h1
theorem rd2_o {P : Nat → Int} {y g : Int} {a l : Nat} (h : bdP P) (ha : a < 12) (hy : 0 ≤ y ∧ y ≤ 99) (hg : 0 ≤ g ∧ g ≤ 9) (hl : l < 12) : prodO (rd1 P y a) (wyN g l) = false ∧ bdN (rd2 P y a g l) 6042240 80 := by
  have h1 := prod_bd (rd1_o h ha hy).2 (wyN_bd hl (y := g) (Y := 9) (by omega) (by omega)) (by omega) (by omega) (by omega) (by omega)
  exact h1
theorem rd3_o {P0 P1 : Nat → Int} {y0 y1 g0 g1 : Int} {a l0 l1 : Nat} (h0 : bdP P0) (h1 : bdP P1) (ha : a < 12) (hy0 : 0 ≤ y0 ∧ y0 ≤ 99) (hy1 : 0 ≤ y1 ∧ y1 ≤ 99) (hg0 : 0 ≤ g0 ∧ g0 ≤ 9) (hg1 : 0 ≤ g1 ∧ g1 ≤ 9) (hl0 : l0 < 12) (hl1 : l1 < 12) : sumO false (rd2 P0 y0 a g0 l0) (rd2 P1 y1 a g1 l1) = false ∧ bdN (rd3 P0 P1 y0 y1 a g0 l0 g1 l1) 966758400 6400 := by
  have h2 := sum_bd (rd2_o h0 ha hy0 hg0 hl0).2 (rd2_o h1 ha hy1 hg1 hl1).2 (by omega) (by omega) (by omega)
  exact h2

