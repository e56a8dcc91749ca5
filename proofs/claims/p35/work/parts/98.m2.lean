/-! trials: effects are gains by the ways of lags, what is found is what pulls -/
def wv (l : Nat) : I4 := (wI l 0, wI l 1, wI l 2, wI l 3)
def pv (P : Nat → Int) : I4 := (P 0, P 1, P 2, P 3)
theorem wv_bd {a : Nat} (ha : a < 12) : bd4 (wv a) 2 := by
  obtain ⟨h0, h1, h2, h3⟩ := wI_bd a ha
  exact ⟨h0, by show -2 ≤ wI a 1 ∧ wI a 1 ≤ 2; omega, h2, by show -2 ≤ wI a 3 ∧ wI a 3 ≤ 2; omega⟩
theorem pv_bd {P : Nat → Int} (h : bdP P) : bd4 (pv P) 19000 := by
  obtain ⟨h0, h1, h2, h3⟩ := h
  exact ⟨h0, by show -19000 ≤ P 1 ∧ P 1 ≤ 19000; omega, h2, by show -19000 ≤ P 3 ∧ P 3 ≤ 19000; omega⟩
theorem Rq_wy {y : Int} {a : Nat} (ha : a < 12) (hy : -1000000 ≤ y ∧ y ≤ 1000000) : Rq (wyN y a) (s4 y (wv a)) 2 := by
  obtain ⟨h0, h1, h2, h3⟩ := wI_bd a ha
  have m0 := mul_bd hy h0
  have m1 := mul_bd hy h1
  have m2 := mul_bd hy h2
  have m3 := mul_bd hy h3
  have k := Rq_low (a := Int64.ofInt (y * wI a 0)) (b := Int64.ofInt (y * wI a 1)) (c := Int64.ofInt (y * wI a 2)) (e := Int64.ofInt (y * wI a 3)) (d := 2) (by decide)
  rw [ofI_i (by omega), ofI_i (by omega), ofI_i (by omega), ofI_i (by omega)] at k
  exact k
theorem Rq_pl {P : Nat → Int} (h : bdP P) : Rq (plN P) (pv P) 20 := by
  obtain ⟨h0, h1, h2, h3⟩ := h
  have k := Rq_low (a := Int64.ofInt (P 0)) (b := Int64.ofInt (P 1)) (c := Int64.ofInt (P 2)) (e := Int64.ofInt (P 3)) (d := 20) (by decide)
  rw [ofI_i (by omega), ofI_i (by omega), ofI_i (by omega), ofI_i (by omega)] at k
  exact k
theorem Rq_rd1 {P : Nat → Int} {y : Int} {a : Nat} (h : bdP P) (ha : a < 12) (hy : 0 ≤ y ∧ y ≤ 99) : Rq (rd1 P y a) (a4 (pv P) (s4 (10 * y) (wv a))) 20 := by
  have k := Rq_sc (k := 10) (Rq_wy (y := y) ha (by omega)) (by omega)
  rw [s4_s] at k
  exact Rq_sum (Rq_pl h) k (rd1_o h ha hy).1
theorem Rq_rd2 {P : Nat → Int} {y g : Int} {a l : Nat} (h : bdP P) (ha : a < 12) (hy : 0 ≤ y ∧ y ≤ 99) (hg : 0 ≤ g ∧ g ≤ 9) (hl : l < 12) : Rq (rd2 P y a g l) (m4 (a4 (pv P) (s4 (10 * y) (wv a))) (s4 g (wv l))) 40 :=
  Rq_prod (Rq_rd1 h ha hy) (Rq_wy hl (by omega)) (rd2_o h ha hy hg hl).1
theorem Rq_rd3 {P0 P1 : Nat → Int} {y0 y1 g0 g1 : Int} {a l0 l1 : Nat} (h0 : bdP P0) (h1 : bdP P1) (ha : a < 12) (hy0 : 0 ≤ y0 ∧ y0 ≤ 99) (hy1 : 0 ≤ y1 ∧ y1 ≤ 99) (hg0 : 0 ≤ g0 ∧ g0 ≤ 9) (hg1 : 0 ≤ g1 ∧ g1 ≤ 9) (hl0 : l0 < 12) (hl1 : l1 < 12) :
    Rq (rd3 P0 P1 y0 y1 a g0 l0 g1 l1) (a4 (m4 (a4 (pv P0) (s4 (10 * y0) (wv a))) (s4 g0 (wv l0))) (m4 (a4 (pv P1) (s4 (10 * y1) (wv a))) (s4 g1 (wv l1)))) 40 :=
  Rq_sum (Rq_rd2 h0 ha hy0 hg0 hl0) (Rq_rd2 h1 ha hy1 hg1 hl1) (rd3_o h0 h1 ha hy0 hy1 hg0 hg1 hl0 hl1).1
def E4 (ga lg : Nat → Int32) (p b : Nat) : I4 := s4 (ga (2 * b + p)).toInt (wv (aN (lg (2 * b + p))))
def sU (ga lg : Nat → Int32) : Prop := ∀ i, i < 4 → (0 ≤ (ga i).toInt ∧ (ga i).toInt ≤ 9) ∧ aN (lg i) < 12
theorem E4_bd {ga lg : Nat → Int32} (h : sU ga lg) {p b : Nat} (hp : p < 2) (hb : b < 2) : bd4 (E4 ga lg p b) 18 := by
  obtain ⟨h1, h2⟩ := h (2 * b + p) (by omega)
  exact bd4_s (C := 9) (by omega) (wv_bd h2) rfl
theorem E4_Rq {ga lg : Nat → Int32} (h : sU ga lg) {p b : Nat} (hp : p < 2) (hb : b < 2) : Rq (wyN (ga (2 * b + p)).toInt (aN (lg (2 * b + p)))) (E4 ga lg p b) 2 := by
  obtain ⟨h1, h2⟩ := h (2 * b + p) (by omega)
  exact Rq_wy h2 (by omega)
theorem s4_0 (x : I4) : s4 0 x = z4 := by apply i4_ext <;> simp only [s4, z4] <;> omega
theorem a4_0 (x : I4) : a4 x z4 = x := by apply i4_ext <;> simp only [a4, z4] <;> omega
section TRP
variable {L : Nat} {mo an pl ho ga lg : Nat → Int32}
theorem rd_0 (hok : okL L mo an pl) (hoh : okH ho) (hs : sU ga lg) {m a : Int32} {b : Nat} (hb : b < 2) : Rq (rdT (nI 0) m a L mo an pl ho ga lg b) (a4 (m4 (pv (pulI 0 L mo an pl ho)) (E4 ga lg 0 b)) (m4 (pv (pulI 1 L mo an pl ho)) (E4 ga lg 1 b))) 40 ∧ bdN (rdT (nI 0) m a L mo an pl ho ga lg b) 966758400 6400 := by
  have b0 := pulI_bd (p := 0) (by decide) hok hoh
  have b1 := pulI_bd (p := 1) (by decide) hok hoh
  obtain ⟨g0, l0⟩ := hs (2 * b + 0) (by omega)
  obtain ⟨g1, l1⟩ := hs (2 * b + 1) (by omega)
  have k := Rq_rd3 b0 b1 (a := 0) (y0 := 0) (y1 := 0) (by decide) (by omega) (by omega) g0 g1 l0 l1
  rw [show (10 : Int) * 0 = 0 from rfl, s4_0, a4_0, a4_0] at k
  exact ⟨k, (rd3_o b0 b1 (a := 0) (y0 := 0) (y1 := 0) (by decide) (by omega) (by omega) g0 g1 l0 l1).2⟩
theorem rd_1 (hok : okL L mo an pl) (hoh : okH ho) (hs : sU ga lg) {m a : Int32} {b q : Nat} (hq : q < 2) (hb : b < 2) (hm : 1 ≤ m.toInt ∧ m.toInt ≤ 99) (ha : aN a < 12) : Rq (rdT (nI (q + 1)) m a L mo an pl ho ga lg b) (a4 (a4 (m4 (pv (pulI 0 L mo an pl ho)) (E4 ga lg 0 b)) (m4 (pv (pulI 1 L mo an pl ho)) (E4 ga lg 1 b))) (m4 (s4 (10 * m.toInt) (wv (aN a))) (E4 ga lg q b))) 40 ∧ bdN (rdT (nI (q + 1)) m a L mo an pl ho ga lg b) 966758400 6400 := by
  have b0 := pulI_bd (p := 0) (by decide) hok hoh
  have b1 := pulI_bd (p := 1) (by decide) hok hoh
  obtain ⟨g0, l0⟩ := hs (2 * b + 0) (by omega)
  obtain ⟨g1, l1⟩ := hs (2 * b + 1) (by omega)
  rcases (show q = 0 ∨ q = 1 by omega) with rfl | rfl
  · have k := Rq_rd3 b0 b1 (a := aN a) (y0 := m.toInt) (y1 := 0) ha (by omega) (by omega) g0 g1 l0 l1
    rw [show (10 : Int) * 0 = 0 from rfl, s4_0, a4_0, m4_a] at k
    refine ⟨?_, (rd3_o b0 b1 (a := aN a) (y0 := m.toInt) (y1 := 0) ha (by omega) (by omega) g0 g1 l0 l1).2⟩
    have e : ∀ x y z : I4, a4 (a4 x y) z = a4 (a4 x z) y := fun x y z => by apply i4_ext <;> simp only [a4] <;> omega
    rw [e]
    exact k
  · have k := Rq_rd3 b0 b1 (a := aN a) (y0 := 0) (y1 := m.toInt) ha (by omega) (by omega) g0 g1 l0 l1
    rw [show (10 : Int) * 0 = 0 from rfl, s4_0, a4_0, m4_a] at k
    refine ⟨?_, (rd3_o b0 b1 (a := aN a) (y0 := 0) (y1 := m.toInt) ha (by omega) (by omega) g0 g1 l0 l1).2⟩
    have e : ∀ x y z : I4, a4 (a4 x y) z = a4 x (a4 y z) := fun x y z => by apply i4_ext <;> simp only [a4] <;> omega
    rw [e]
    exact k
/-- what the three trials keep -/
def trG (L : Nat) (mo an pl ho ga lg : Nat → Int32) (G : Nat → N5) (pm pa : Nat → Int32) : Prop :=
  (∀ b, b < 2 → ∃ m a : Int32, G (6 + b) = rdT (nI 0) m a L mo an pl ho ga lg b) ∧ (∀ q, q < 2 → ∀ b, b < 2 → G (6 + 2 * (q + 1) + b) = rdT (nI (q + 1)) (pm (q + 1)) (pa (q + 1)) L mo an pl ho ga lg b) ∧ ∀ q, q < 2 → (1 ≤ (pm (q + 1)).toInt ∧ (pm (q + 1)).toInt ≤ 99) ∧ aN (pa (q + 1)) < 12
variable {G : Nat → N5} {pm pa : Nat → Int32}
theorem ef_1 (hok : okL L mo an pl) (hoh : okH ho) (hs : sU ga lg) {b q : Nat} (hq : q < 2) (hb : b < 2) {m0 a0 : Int32} (h0 : G (6 + b) = rdT (nI 0) m0 a0 L mo an pl ho ga lg b) (h1 : G (6 + 2 * (q + 1) + b) = rdT (nI (q + 1)) (pm (q + 1)) (pa (q + 1)) L mo an pl ho ga lg b) (h2 : (1 ≤ (pm (q + 1)).toInt ∧ (pm (q + 1)).toInt ≤ 99) ∧ aN (pa (q + 1)) < 12) :
    efO G pm pa q b = false ∧ efV G pm pa q b = wyN (ga (2 * b + q)).toInt (aN (lg (2 * b + q))) := by
  obtain ⟨hm, ha⟩ := h2
  obtain ⟨r0, bd0⟩ := rd_0 hok hoh hs (m := m0) (a := a0) hb
  obtain ⟨r1, bd1⟩ := rd_1 hok hoh hs (b := b) hq hb hm ha
  rw [← h0] at r0 bd0
  rw [← h1] at r1 bd1
  have o1 : sumO true (G (6 + 2 * (q + 1) + b)) (G (6 + b)) = false := sum_of bd1 bd0 (by omega) (by omega) (by omega)
  have rs := Rq_sub r1 r0 o1
  rw [show ∀ x y : I4, d4 (a4 x y) x = y from fun x y => by apply i4_ext <;> simp only [a4, d4] <;> omega] at rs
  have hw := Rq_wy (y := (pm (q + 1)).toInt) ha (by omega)
  have hwz := wyN_nz ha hm
  have hbw : bd4 (s4 (pm (q + 1)).toInt (wv (aN (pa (q + 1))))) 198 := bd4_s (C := 99) (by omega) (wv_bd ha) rfl
  have hE := E4_bd hs hq hb
  have hbs : bd4 (m4 (s4 (10 * (pm (q + 1)).toInt) (wv (aN (pa (q + 1))))) (E4 ga lg q b)) 285120 := bd4_m (B := 1980) (bd4_s (C := 990) (by omega) (wv_bd ha) rfl) hE rfl
  have bx := bd4_N rs hbs
  have o2 : quoO (efS G q b) (wyN (pm (q + 1)).toInt (aN (pa (q + 1)))) = false := quo_of bx (bd_le (bd4_N hw hbw) (by omega) (show (2 : Int) ≤ 2 by omega)) (by omega) hwz (by omega) (by omega) (by omega) (by omega)
  have rq : Rq (efV G pm pa q b) (E4 ga lg q b) 2 := by
    refine Rq_quo rs hw o2 hwz (by omega) ?_
    rw [m4_comm (E4 ga lg q b), m4_s, m4_s, s4_s, s4_s]
    congr 1
    omega
  exact ⟨by unfold efO; rw [o1, o2]; rfl, Rq_uniq rq (E4_Rq hs hq hb)⟩
/-- ways by ways -/
theorem wv_m : ∀ i, i < 12 → ∀ j, j < 12 → m4 (wv i) (wv j) = s4 2 (wv ((i + j) % 12)) := by decide +kernel
def D4 (ga lg : Nat → Int32) : I4 := d4 (s4 ((ga 0).toInt * (ga 3).toInt) (wv ((aN (lg 0) + aN (lg 3)) % 12))) (s4 ((ga 1).toInt * (ga 2).toInt) (wv ((aN (lg 1) + aN (lg 2)) % 12)))
theorem E4_m {ga lg : Nat → Int32} (h : sU ga lg) {p b q c : Nat} (hp : p < 2) (hb : b < 2) (hq : q < 2) (hc : c < 2) : m4 (E4 ga lg p b) (E4 ga lg q c) = s4 2 (s4 ((ga (2 * b + p)).toInt * (ga (2 * c + q)).toInt) (wv ((aN (lg (2 * b + p)) + aN (lg (2 * c + q))) % 12))) := by
  obtain ⟨_, h1⟩ := h (2 * b + p) (by omega)
  obtain ⟨_, h2⟩ := h (2 * c + q) (by omega)
  unfold E4
  rw [m4_s, m4_sr, wv_m _ h1 _ h2, s4_s, s4_s, s4_s]
  congr 1
  grind
theorem D4_e {ga lg : Nat → Int32} (h : sU ga lg) : d4 (m4 (E4 ga lg 0 0) (E4 ga lg 1 1)) (m4 (E4 ga lg 1 0) (E4 ga lg 0 1)) = s4 2 (D4 ga lg) := by
  rw [E4_m h (by decide) (by decide) (by decide) (by decide), E4_m h (by decide) (by decide) (by decide) (by decide)]
  unfold D4
  rw [s4_d]
theorem D4_bd {ga lg : Nat → Int32} (h : sU ga lg) : bd4 (D4 ga lg) 324 := by
  obtain ⟨a0, b0⟩ := h 0 (by decide)
  obtain ⟨a1, b1⟩ := h 1 (by decide)
  obtain ⟨a2, b2⟩ := h 2 (by decide)
  obtain ⟨a3, b3⟩ := h 3 (by decide)
  have k1 := mul_bd (X := 9) (Y := 9) (x := (ga 0).toInt) (y := (ga 3).toInt) (by omega) (by omega)
  have k2 := mul_bd (X := 9) (Y := 9) (x := (ga 1).toInt) (y := (ga 2).toInt) (by omega) (by omega)
  exact bd4_d (B := 162) (C := 162) (bd4_s (C := 81) (by omega) (wv_bd (Nat.mod_lt _ (by decide))) rfl) (bd4_s (C := 81) (by omega) (wv_bd (Nat.mod_lt _ (by decide))) rfl)
theorem fo_1 (hs : sU ga lg) (he : ∀ q, q < 2 → ∀ b, b < 2 → efO G pm pa q b = false ∧ efV G pm pa q b = wyN (ga (2 * b + q)).toInt (aN (lg (2 * b + q)))) : foO G pm pa = false ∧ Rq (foD G pm pa) (D4 ga lg) 2 := by
  have r00 := E4_Rq hs (p := 0) (b := 0) (by decide) (by decide)
  have r01 := E4_Rq hs (p := 0) (b := 1) (by decide) (by decide)
  have r10 := E4_Rq hs (p := 1) (b := 0) (by decide) (by decide)
  have r11 := E4_Rq hs (p := 1) (b := 1) (by decide) (by decide)
  rw [← (he 0 (by decide) 0 (by decide)).2] at r00
  rw [← (he 0 (by decide) 1 (by decide)).2] at r01
  rw [← (he 1 (by decide) 0 (by decide)).2] at r10
  rw [← (he 1 (by decide) 1 (by decide)).2] at r11
  have b00 := bd4_N r00 (E4_bd hs (by decide) (by decide))
  have b01 := bd4_N r01 (E4_bd hs (by decide) (by decide))
  have b10 := bd4_N r10 (E4_bd hs (by decide) (by decide))
  have b11 := bd4_N r11 (E4_bd hs (by decide) (by decide))
  obtain ⟨p1, q1⟩ := prod_of b00 b11 (by omega) (by omega) (by omega) (by omega)
  obtain ⟨p2, q2⟩ := prod_of b10 b01 (by omega) (by omega) (by omega) (by omega)
  have p3 : sumO true (prodV (efV G pm pa 0 0) (efV G pm pa 1 1)) (prodV (efV G pm pa 1 0) (efV G pm pa 0 1)) = false := sum_of q1 q2 (by omega) (by omega) (by omega)
  have rr := Rq_sub (Rq_prod r00 r11 p1) (Rq_prod r10 r01 p2) p3
  rw [D4_e hs] at rr
  refine ⟨?_, Rq_to rr (by omega) (by rw [s4_s])⟩
  unfold foO crO
  rw [(he 0 (by decide) 0 (by decide)).1, (he 0 (by decide) 1 (by decide)).1, (he 1 (by decide) 0 (by decide)).1, (he 1 (by decide) 1 (by decide)).1, p1, p2, p3]
  rfl
theorem fn_1 (hok : okL L mo an pl) (hoh : okH ho) (hs : sU ga lg) (hG : trG L mo an pl ho ga lg G pm pa) (hz : zeroN (foD G pm pa) = false) {q : Nat} (hq : q < 2) :
    (fnO (nI q) G pm pa || quoO (fnV (nI q) G pm pa) (foD G pm pa)) = false ∧ quoV (fnV (nI q) G pm pa) (foD G pm pa) = plN (pulI q L mo an pl ho) := by
  obtain ⟨g0, g1, g2⟩ := hG
  have he : ∀ q, q < 2 → ∀ b, b < 2 → efO G pm pa q b = false ∧ efV G pm pa q b = wyN (ga (2 * b + q)).toInt (aN (lg (2 * b + q))) := fun q hq b hb => by
    obtain ⟨m0, a0, h0⟩ := g0 b hb
    exact ef_1 hok hoh hs hq hb h0 (g1 q hq b hb) (g2 q hq)
  obtain ⟨_, rD⟩ := fo_1 hs he
  have r00 := E4_Rq hs (p := 0) (b := 0) (by decide) (by decide)
  have r01 := E4_Rq hs (p := 0) (b := 1) (by decide) (by decide)
  have r10 := E4_Rq hs (p := 1) (b := 0) (by decide) (by decide)
  have r11 := E4_Rq hs (p := 1) (b := 1) (by decide) (by decide)
  rw [← (he 0 (by decide) 0 (by decide)).2] at r00
  rw [← (he 0 (by decide) 1 (by decide)).2] at r01
  rw [← (he 1 (by decide) 0 (by decide)).2] at r10
  rw [← (he 1 (by decide) 1 (by decide)).2] at r11
  have b00 := bd4_N r00 (E4_bd hs (by decide) (by decide))
  have b01 := bd4_N r01 (E4_bd hs (by decide) (by decide))
  have b10 := bd4_N r10 (E4_bd hs (by decide) (by decide))
  have b11 := bd4_N r11 (E4_bd hs (by decide) (by decide))
  obtain ⟨m0, a0, h60⟩ := g0 0 (by decide)
  obtain ⟨m1, a1, h61⟩ := g0 1 (by decide)
  obtain ⟨s0, t0⟩ := rd_0 hok hoh hs (m := m0) (a := a0) (b := 0) (by decide)
  obtain ⟨s1, t1⟩ := rd_0 hok hoh hs (m := m1) (a := a1) (b := 1) (by decide)
  rw [← h60] at s0 t0
  rw [← h61] at s1 t1
  have hD := D4_e hs
  have bP := pulI_bd hq hok hoh
  have kk : ∀ X : N5, Rq X (m4 (pv (pulI q L mo an pl ho)) (s4 2 (D4 ga lg))) 80 → quoO X (foD G pm pa) = false ∧ quoV X (foD G pm pa) = plN (pulI q L mo an pl ho) := fun X hX => by
    have hX2 : Rq X (m4 (pv (pulI q L mo an pl ho)) (D4 ga lg)) 40 := Rq_to hX (by omega) (by rw [m4_sr, s4_s]; rfl)
    have bX := bd4_N hX2 (bd4_m (pv_bd bP) (D4_bd hs) (K := 49248000) rfl)
    have bD := bd4_N rD (D4_bd hs)
    have oq := quo_of bX bD (by omega) hz (by omega) (by omega) (by omega) (by omega)
    exact ⟨oq, Rq_uniq (Rq_quo hX2 rD oq hz (by omega) rfl) (Rq_pl bP)⟩
  rcases (show q = 0 ∨ q = 1 by omega) with rfl | rfl
  · obtain ⟨p1, q1⟩ := prod_of t0 b11 (by omega) (by omega) (by omega) (by omega)
    obtain ⟨p2, q2⟩ := prod_of b10 t1 (by omega) (by omega) (by omega) (by omega)
    have p3 : sumO true (prodV (G (6 + 0)) (efV G pm pa 1 1)) (prodV (efV G pm pa 1 0) (G (6 + 1))) = false := sum_of q1 q2 (by omega) (by omega) (by omega)
    have rr := Rq_sub (D := 80) (Rq_prod s0 r11 p1) (Rq_prod r10 s1 p2) p3
    have key : d4 (m4 (a4 (m4 (pv (pulI 0 L mo an pl ho)) (E4 ga lg 0 0)) (m4 (pv (pulI 1 L mo an pl ho)) (E4 ga lg 1 0))) (E4 ga lg 1 1)) (m4 (E4 ga lg 1 0) (a4 (m4 (pv (pulI 0 L mo an pl ho)) (E4 ga lg 0 1)) (m4 (pv (pulI 1 L mo an pl ho)) (E4 ga lg 1 1)))) = m4 (pv (pulI 0 L mo an pl ho)) (s4 2 (D4 ga lg)) := by
      rw [← hD]
      generalize pv (pulI 0 L mo an pl ho) = P0
      generalize pv (pulI 1 L mo an pl ho) = P1
      generalize E4 ga lg 0 0 = w
      generalize E4 ga lg 0 1 = x
      generalize E4 ga lg 1 0 = y
      generalize E4 ga lg 1 1 = z
      rw [m4_a, m4_comm y, m4_a, m4_comm P0 (d4 _ _), m4_d, m4_comm (m4 w z) P0, m4_comm (m4 y x) P0, ← m4_assoc, ← m4_assoc, m4_assoc P1 y z, m4_assoc P1 z y, m4_comm z y, m4_assoc P0 x y, m4_assoc P0 y x, m4_comm x y]
      apply i4_ext <;> simp only [a4, d4] <;> omega
    rw [key] at rr
    obtain ⟨o1, o2⟩ := kk _ rr
    have e1 : fnV (nI 0) G pm pa = sumV true (prodV (G (6 + 0)) (efV G pm pa 1 1)) (prodV (efV G pm pa 1 0) (G (6 + 1))) := rfl
    have e2 : fnO (nI 0) G pm pa = false := by
      show crO (G (6 + 0)) (efV G pm pa 1 1) (efV G pm pa 1 0) (G (6 + 1)) = false
      unfold crO
      rw [p1, p2, p3]
      rfl
    rw [e1, e2]
    exact ⟨o1, o2⟩
  · obtain ⟨p1, q1⟩ := prod_of b00 t1 (by omega) (by omega) (by omega) (by omega)
    obtain ⟨p2, q2⟩ := prod_of t0 b01 (by omega) (by omega) (by omega) (by omega)
    have p3 : sumO true (prodV (efV G pm pa 0 0) (G (6 + 1))) (prodV (G (6 + 0)) (efV G pm pa 0 1)) = false := sum_of q1 q2 (by omega) (by omega) (by omega)
    have rr := Rq_sub (D := 80) (Rq_prod r00 s1 p1) (Rq_prod s0 r01 p2) p3
    have key : d4 (m4 (E4 ga lg 0 0) (a4 (m4 (pv (pulI 0 L mo an pl ho)) (E4 ga lg 0 1)) (m4 (pv (pulI 1 L mo an pl ho)) (E4 ga lg 1 1)))) (m4 (a4 (m4 (pv (pulI 0 L mo an pl ho)) (E4 ga lg 0 0)) (m4 (pv (pulI 1 L mo an pl ho)) (E4 ga lg 1 0))) (E4 ga lg 0 1)) = m4 (pv (pulI 1 L mo an pl ho)) (s4 2 (D4 ga lg)) := by
      rw [← hD]
      generalize pv (pulI 0 L mo an pl ho) = P0
      generalize pv (pulI 1 L mo an pl ho) = P1
      generalize E4 ga lg 0 0 = w
      generalize E4 ga lg 0 1 = x
      generalize E4 ga lg 1 0 = y
      generalize E4 ga lg 1 1 = z
      rw [m4_a, m4_comm w, m4_a, m4_comm P1 (d4 _ _), m4_d, m4_comm (m4 w z) P1, m4_comm (m4 y x) P1, ← m4_assoc P1 w z, ← m4_assoc P1 y x, m4_assoc P0 x w, m4_assoc P0 w x, m4_comm x w, m4_assoc P1 z w, m4_assoc P1 w z, m4_comm z w]
      apply i4_ext <;> simp only [a4, d4] <;> omega
    rw [key] at rr
    obtain ⟨o1, o2⟩ := kk _ rr
    have e1 : fnV (nI 1) G pm pa = sumV true (prodV (efV G pm pa 0 0) (G (6 + 1))) (prodV (G (6 + 0)) (efV G pm pa 0 1)) := rfl
    have e2 : fnO (nI 1) G pm pa = false := by
      show crO (efV G pm pa 0 0) (G (6 + 1)) (G (6 + 0)) (efV G pm pa 0 1) = false
      unfold crO
      rw [p1, p2, p3]
      rfl
    rw [e1, e2]
    exact ⟨o1, o2⟩
end TRP
