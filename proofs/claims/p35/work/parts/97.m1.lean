/-! nothing is beyond longs -/
theorem ss_of {mi : Bool} {a d f l : Int64} {A D F L : Int} (ha : -A ≤ a.toInt ∧ a.toInt ≤ A) (hd : -D ≤ d.toInt ∧ d.toInt ≤ D) (hf : -F ≤ f.toInt ∧ f.toInt ≤ F) (hl : -L ≤ l.toInt ∧ l.toInt ≤ L) (h1 : A * L ≤ 1000000000000000000) (h2 : F * D ≤ 1000000000000000000) : ssO mi a d f l = false := by
  obtain ⟨t1, b1⟩ := tO_bd ha hl h1
  obtain ⟨t2, b2⟩ := tO_bd hf hd h2
  obtain ⟨t3, _⟩ := pO_bd b1 b2 (by omega)
  obtain ⟨t4, _⟩ := mO_bd b1 b2 (by omega)
  unfold ssO sgO
  rw [t1, t2]
  cases mi
  · exact t3
  · exact t4
theorem sum_of {mi : Bool} {X Y : N5} {B1 D1 B2 D2 : Int} (hx : bdN X B1 D1) (hy : bdN Y B2 D2) (h1 : B1 * D2 ≤ 1000000000000000000) (h2 : B2 * D1 ≤ 1000000000000000000) (h3 : D1 * D2 ≤ 1000000000000000000) : sumO mi X Y = false := by
  obtain ⟨x1, x2, x3, x4, x5⟩ := hx
  obtain ⟨y1, y2, y3, y4, y5⟩ := hy
  have xd : -D1 ≤ X.2.2.2.2.toInt ∧ X.2.2.2.2.toInt ≤ D1 := by omega
  have yd : -D2 ≤ Y.2.2.2.2.toInt ∧ Y.2.2.2.2.toInt ≤ D2 := by omega
  have s1 := ss_of (mi := mi) x1 xd y1 yd h1 h2
  have s2 := ss_of (mi := mi) x2 xd y2 yd h1 h2
  have s3 := ss_of (mi := mi) x3 xd y3 yd h1 h2
  have s4 := ss_of (mi := mi) x4 xd y4 yd h1 h2
  obtain ⟨t5, b5⟩ := tO_bd xd yd h3
  unfold sumO
  rw [s1, s2, s3, s4, t5]
  rfl
theorem th_of {x y : Int64} {X Y : Int} (hx : -X ≤ x.toInt ∧ x.toInt ≤ X) (hy : -Y ≤ y.toInt ∧ y.toInt ≤ Y) (h0 : X ≤ 300000000000000000) (h : 3 * X * Y ≤ 1000000000000000000) : thO x y = false ∧ (-(3 * X * Y) ≤ (thV x y).toInt ∧ (thV x y).toInt ≤ 3 * X * Y) := by
  have t3 : (3 : Int64).toInt = 3 := rfl
  obtain ⟨h1, h2⟩ := tO_bd (x := 3) (y := x) (X := 3) (Y := X) (by omega) hx (by omega)
  obtain ⟨h3, h4⟩ := tO_bd (x := 3 * x) (y := y) h2 hy h
  exact ⟨by unfold thO; rw [h1, h3]; rfl, h4⟩
theorem prod_of {X Y : N5} {B1 D1 B2 D2 : Int} (hx : bdN X B1 D1) (hy : bdN Y B2 D2) (h0 : B1 ≤ 300000000000000000) (h1 : B1 * B2 ≤ 300000000000000000) (h2 : 0 ≤ B1 * B2) (h3 : D1 * D2 ≤ 1000000000000000000) : prodO X Y = false ∧ bdN (prodV X Y) (8 * (B1 * B2)) (D1 * D2) := by
  obtain ⟨x1, x2, x3, x4, x5⟩ := hx
  obtain ⟨y1, y2, y3, y4, y5⟩ := hy
  have xd : -D1 ≤ X.2.2.2.2.toInt ∧ X.2.2.2.2.toInt ≤ D1 := by omega
  have yd : -D2 ≤ Y.2.2.2.2.toInt ∧ Y.2.2.2.2.toInt ≤ D2 := by omega
  have h8 : B1 * B2 ≤ 1000000000000000000 := by omega
  have h9 : 3 * B1 * B2 ≤ 1000000000000000000 := by rw [Int.mul_assoc]; omega
  have e3 : 3 * B1 * B2 = 3 * (B1 * B2) := Int.mul_assoc 3 B1 B2
  obtain ⟨a1, c1⟩ := tO_bd x1 y1 h8
  obtain ⟨a2, c2⟩ := th_of x2 y2 h0 h9
  obtain ⟨a3, c3⟩ := tO_bd x3 y3 h8
  obtain ⟨a4, c4⟩ := th_of x4 y4 h0 h9
  obtain ⟨a5, c5⟩ := pO_bd c1 c2 (by omega)
  obtain ⟨a6, c6⟩ := pO_bd c3 c4 (by omega)
  obtain ⟨a7, c7⟩ := mO_bd c5 c6 (by omega)
  obtain ⟨p1, q1⟩ := tO_bd x1 y2 h8
  obtain ⟨p2, q2⟩ := tO_bd x2 y1 h8
  obtain ⟨p3, q3⟩ := tO_bd x3 y4 h8
  obtain ⟨p4, q4⟩ := tO_bd x4 y3 h8
  obtain ⟨p5, q5⟩ := pO_bd q1 q2 (by omega)
  obtain ⟨p6, q6⟩ := pO_bd q3 q4 (by omega)
  obtain ⟨p7, q7⟩ := mO_bd q5 q6 (by omega)
  obtain ⟨r1, s1⟩ := tO_bd x1 y3 h8
  obtain ⟨r2, s2⟩ := th_of x2 y4 h0 h9
  obtain ⟨r3, s3⟩ := tO_bd x3 y1 h8
  obtain ⟨r4, s4⟩ := th_of x4 y2 h0 h9
  obtain ⟨r5, s5⟩ := pO_bd s1 s2 (by omega)
  obtain ⟨r6, s6⟩ := pO_bd s5 s3 (by omega)
  obtain ⟨r7, s7⟩ := pO_bd s6 s4 (by omega)
  obtain ⟨t1, u1⟩ := tO_bd x1 y4 h8
  obtain ⟨t2, u2⟩ := tO_bd x2 y3 h8
  obtain ⟨t3, u3⟩ := tO_bd x3 y2 h8
  obtain ⟨t4, u4⟩ := tO_bd x4 y1 h8
  obtain ⟨t5, u5⟩ := pO_bd u1 u2 (by omega)
  obtain ⟨t6, u6⟩ := pO_bd u5 u3 (by omega)
  obtain ⟨t7, u7⟩ := pO_bd u6 u4 (by omega)
  obtain ⟨v5, w5⟩ := tO_bd xd yd h3
  refine ⟨?_, lowN_bd ?_ ?_ ?_ ?_ ⟨?_, w5.2⟩⟩
  · unfold prodO prAo prBo prCo prEo
    rw [a1, a2, a3, a4, a5, a6, a7, p1, p2, p3, p4, p5, p6, p7, r1, r2, r3, r4, r5, r6, r7, t1, t2, t3, t4, t5, t6, t7, v5]
    rfl
  · unfold prA; omega
  · unfold prB; omega
  · unfold prC; omega
  · unfold prE; omega
  · rw [i64_mul v5]
    have := Int.mul_pos (a := X.2.2.2.2.toInt) (b := Y.2.2.2.2.toInt) (by omega) (by omega)
    omega
/-- the reciprocal of a number that isn't great -/
theorem rec_of {Y : N5} {Dm : Int} (h : bdN Y 324 Dm) (hD : Dm ≤ 30) (hz : zeroN Y = false) : recO Y = false ∧ bdN (recV Y) (2176782336 * Dm) 705277476864 := by
  obtain ⟨y1, y2, y3, y4, y5⟩ := h
  have z0 : (0 : Int64).toInt = 0 := rfl
  have o1 : (1 : Int64).toInt = 1 := rfl
  obtain ⟨mc, bc⟩ := mO_bd (x := 0) (y := Y.2.2.1) (X := 0) (Y := 324) (by omega) y3 (by omega)
  obtain ⟨me, be⟩ := mO_bd (x := 0) (y := Y.2.2.2.1) (X := 0) (Y := 324) (by omega) y4 (by omega)
  have hM : rcMo Y = false := by unfold rcMo; rw [mc, me]; rfl
  have bU : bdN (rcU Y) 324 1 := ⟨y1, y2, y3, y4, by show 1 ≤ (1 : Int64).toInt ∧ (1 : Int64).toInt ≤ 1; omega⟩
  have bM : bdN (rcM Y) 324 1 := ⟨y1, y2, by show -324 ≤ (0 - Y.2.2.1).toInt ∧ (0 - Y.2.2.1).toInt ≤ 324; omega, by show -324 ≤ (0 - Y.2.2.2.1).toInt ∧ (0 - Y.2.2.2.1).toInt ≤ 324; omega, by show 1 ≤ (1 : Int64).toInt ∧ (1 : Int64).toInt ≤ 1; omega⟩
  obtain ⟨hN, bN⟩ := prod_of bU bM (by omega) (by omega) (by omega) (by omega)
  have hN : rcNo Y = false := hN
  have bN : bdN (rcN Y) 839808 1 := bN
  obtain ⟨n1, n2, _, _, _⟩ := bN
  obtain ⟨a1, b1⟩ := tO_bd n1 n1 (by omega)
  obtain ⟨a2, b2⟩ := th_of n2 n2 (by omega) (by omega)
  obtain ⟨a3, b3⟩ := mO_bd b1 b2 (by omega)
  have hT : rcTo Y = false := by unfold rcTo; rw [a1, a2, a3]; rfl
  have hTp := rcT_pos hM hN hT hz
  have hTv : (rcT Y).toInt ≤ 705277476864 := by
    unfold rcT
    rw [i64_sub a3, thV_toInt a2, Int.mul_assoc]
    have := sq_nn (rcN Y).2.1.toInt
    omega
  obtain ⟨m1, bm⟩ := mO_bd (x := 0) (y := (rcN Y).2.1) (X := 0) (Y := 839808) (by omega) n2 (by omega)
  have bC : bdN (rcC Y) 839808 1 := ⟨n1, by show -839808 ≤ (0 - (rcN Y).2.1).toInt ∧ (0 - (rcN Y).2.1).toInt ≤ 839808; omega, by show -839808 ≤ (0 : Int64).toInt ∧ (0 : Int64).toInt ≤ 839808; omega, by show -839808 ≤ (0 : Int64).toInt ∧ (0 : Int64).toInt ≤ 839808; omega, by show 1 ≤ (1 : Int64).toInt ∧ (1 : Int64).toInt ≤ 1; omega⟩
  obtain ⟨h4, b4⟩ := prod_of bM bC (by omega) (by omega) (by omega) (by omega)
  have h4 : rc4o Y = false := h4
  have b4 : bdN (rc4 Y) 2176782336 1 := b4
  have bD : bdN (rcD Y) Dm 1 := ⟨by show -Dm ≤ Y.2.2.2.2.toInt ∧ Y.2.2.2.2.toInt ≤ Dm; omega, by show -Dm ≤ (0 : Int64).toInt ∧ (0 : Int64).toInt ≤ Dm; omega, by show -Dm ≤ (0 : Int64).toInt ∧ (0 : Int64).toInt ≤ Dm; omega, by show -Dm ≤ (0 : Int64).toInt ∧ (0 : Int64).toInt ≤ Dm; omega, by show 1 ≤ (1 : Int64).toInt ∧ (1 : Int64).toInt ≤ 1; omega⟩
  obtain ⟨h5, _⟩ := prod_of b4 bD (by omega) (by omega) (by omega) (by omega)
  have h5 : rc5o Y = false := h5
  refine ⟨by unfold recO; rw [hM, hN, hT, m1, h4, h5]; rfl, ?_⟩
  have e5 : rc5 Y = (prA (rc4 Y).1 (rc4 Y).2.1 (rc4 Y).2.2.1 (rc4 Y).2.2.2.1 Y.2.2.2.2 0 0 0, prB (rc4 Y).1 (rc4 Y).2.1 (rc4 Y).2.2.1 (rc4 Y).2.2.2.1 Y.2.2.2.2 0 0 0, prC (rc4 Y).1 (rc4 Y).2.1 (rc4 Y).2.2.1 (rc4 Y).2.2.2.1 Y.2.2.2.2 0 0 0, prE (rc4 Y).1 (rc4 Y).2.1 (rc4 Y).2.2.1 (rc4 Y).2.2.2.1 Y.2.2.2.2 0 0 0, 1) := by
    have e4 : (rc4 Y).2.2.2.2 = 1 := by
      unfold rc4 prodV rcM rcC
      exact congrArg (fun x : N5 => x.2.2.2.2) (lowN_1 _ _ _ _)
    unfold rc5 prodV rcD
    rw [e4]
    exact lowN_1 _ _ _ _
  unfold rc5o prodO rcD at h5
  simp only [Bool.or_eq_false_iff] at h5
  obtain ⟨⟨⟨⟨q1, q2⟩, q3⟩, q4⟩, q5⟩ := h5
  have v1 : (rc5 Y).1.toInt = _ := (congrArg (fun x : N5 => x.1.toInt) e5).trans (prA_toInt q1)
  have v2 : (rc5 Y).2.1.toInt = _ := (congrArg (fun x : N5 => x.2.1.toInt) e5).trans (prB_toInt q2)
  have v3 : (rc5 Y).2.2.1.toInt = _ := (congrArg (fun x : N5 => x.2.2.1.toInt) e5).trans (prC_toInt q3)
  have v4 : (rc5 Y).2.2.2.1.toInt = _ := (congrArg (fun x : N5 => x.2.2.2.1.toInt) e5).trans (prE_toInt q4)
  rw [z0] at v1 v2 v3 v4
  simp only [Int.mul_zero, Int.add_zero, Int.sub_zero, Int.zero_add] at v1 v2 v3 v4
  obtain ⟨c1, c2, c3, c4, _⟩ := b4
  have yd : -Dm ≤ Y.2.2.2.2.toInt ∧ Y.2.2.2.2.toInt ≤ Dm := by omega
  have w1 := mul_bd c1 yd
  have w2 := mul_bd c2 yd
  have w3 := mul_bd c3 yd
  have w4 := mul_bd c4 yd
  rw [← v1] at w1
  rw [← v2] at w2
  rw [← v3] at w3
  rw [← v4] at w4
  exact lowN_bd w1 w2 w3 w4 (by omega)
theorem quo_of {X Y : N5} {B D Dm : Int} (hx : bdN X B D) (h : bdN Y 324 Dm) (hD : Dm ≤ 30) (hz : zeroN Y = false) (h0 : B ≤ 300000000000000000) (h1 : B * (2176782336 * Dm) ≤ 300000000000000000) (h2 : 0 ≤ B * (2176782336 * Dm)) (h3 : D * 705277476864 ≤ 1000000000000000000) : quoO X Y = false := by
  obtain ⟨r1, r2⟩ := rec_of h hD hz
  unfold quoO
  rw [r1, (prod_of hx r2 h0 h1 h2 h3).1]
  rfl
theorem bd_le {X : N5} {B D B2 D2 : Int} (h : bdN X B D) (h1 : B ≤ B2) (h2 : D ≤ D2) : bdN X B2 D2 := by
  obtain ⟨x1, x2, x3, x4, x5⟩ := h
  exact ⟨by omega, by omega, by omega, by omega, by omega⟩
def bd4 (x : I4) (B : Int) : Prop := (-B ≤ x.1 ∧ x.1 ≤ B) ∧ (-B ≤ x.2.1 ∧ x.2.1 ≤ B) ∧ (-B ≤ x.2.2.1 ∧ x.2.2.1 ≤ B) ∧ (-B ≤ x.2.2.2 ∧ x.2.2.2 ≤ B)
theorem bd4_N {X : N5} {A : I4} {D B : Int} (h : Rq X A D) (hb : bd4 A B) : bdN X B D := Rq_bd h hb.1 hb.2.1 hb.2.2.1 hb.2.2.2
theorem bd4_m {x y : I4} {B C K : Int} (hx : bd4 x B) (hy : bd4 y C) (hK : 8 * (B * C) = K) : bd4 (m4 x y) K := by
  obtain ⟨x1, x2, x3, x4⟩ := hx
  obtain ⟨y1, y2, y3, y4⟩ := hy
  have T : ∀ u v : Int, (-B ≤ u ∧ u ≤ B) → (-C ≤ v ∧ v ≤ C) → -(B * C) ≤ u * v ∧ u * v ≤ B * C := fun u v hu hv => mul_bd hu hv
  refine ⟨?_, ?_, ?_, ?_⟩
  · have k1 := T _ _ x1 y1
    have k2 := T _ _ x2 y2
    have k3 := T _ _ x3 y3
    have k4 := T _ _ x4 y4
    show -K ≤ x.1 * y.1 + 3 * x.2.1 * y.2.1 - (x.2.2.1 * y.2.2.1 + 3 * x.2.2.2 * y.2.2.2) ∧ x.1 * y.1 + 3 * x.2.1 * y.2.1 - (x.2.2.1 * y.2.2.1 + 3 * x.2.2.2 * y.2.2.2) ≤ K
    rw [Int.mul_assoc, Int.mul_assoc]
    omega
  · have k1 := T _ _ x1 y2
    have k2 := T _ _ x2 y1
    have k3 := T _ _ x3 y4
    have k4 := T _ _ x4 y3
    show -K ≤ x.1 * y.2.1 + x.2.1 * y.1 - (x.2.2.1 * y.2.2.2 + x.2.2.2 * y.2.2.1) ∧ x.1 * y.2.1 + x.2.1 * y.1 - (x.2.2.1 * y.2.2.2 + x.2.2.2 * y.2.2.1) ≤ K
    omega
  · have k1 := T _ _ x1 y3
    have k2 := T _ _ x2 y4
    have k3 := T _ _ x3 y1
    have k4 := T _ _ x4 y2
    show -K ≤ x.1 * y.2.2.1 + 3 * x.2.1 * y.2.2.2 + x.2.2.1 * y.1 + 3 * x.2.2.2 * y.2.1 ∧ x.1 * y.2.2.1 + 3 * x.2.1 * y.2.2.2 + x.2.2.1 * y.1 + 3 * x.2.2.2 * y.2.1 ≤ K
    rw [Int.mul_assoc, Int.mul_assoc]
    omega
  · have k1 := T _ _ x1 y4
    have k2 := T _ _ x2 y3
    have k3 := T _ _ x3 y2
    have k4 := T _ _ x4 y1
    show -K ≤ x.1 * y.2.2.2 + x.2.1 * y.2.2.1 + x.2.2.1 * y.2.1 + x.2.2.2 * y.1 ∧ x.1 * y.2.2.2 + x.2.1 * y.2.2.1 + x.2.2.1 * y.2.1 + x.2.2.2 * y.1 ≤ K
    omega
theorem bd4_s {x : I4} {B k C K : Int} (hk : -C ≤ k ∧ k ≤ C) (hx : bd4 x B) (hK : C * B = K) : bd4 (s4 k x) K := by
  obtain ⟨x1, x2, x3, x4⟩ := hx
  rw [← hK]
  exact ⟨mul_bd hk x1, mul_bd hk x2, mul_bd hk x3, mul_bd hk x4⟩
theorem bd4_d {x y : I4} {B C : Int} (hx : bd4 x B) (hy : bd4 y C) : bd4 (d4 x y) (B + C) := by
  obtain ⟨x1, x2, x3, x4⟩ := hx
  obtain ⟨y1, y2, y3, y4⟩ := hy
  refine ⟨?_, ?_, ?_, ?_⟩ <;> simp only [d4] <;> omega
