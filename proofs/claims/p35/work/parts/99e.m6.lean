/-! what the three trials leave -/
theorem n4_d : ∀ k, k < 4 → nI k / 2 = nI (k / 2) := by decide
theorem n4_m : ∀ k, k < 4 → nI k - nI k / 2 * 2 = nI (k % 2) := by decide
theorem ktS_fg (kp : Nat → Bool) : ktS (fgB kp 3) 3 = 0 := rfl
theorem ktS_0 {kp : Nat → Bool} (h : ∀ i, i < 3 → kp i = false) : ktS kp 3 = 0 := by
  show ((0 + bI (kp 0)) + bI (kp 1)) + bI (kp 2) = 0
  rw [h 0 (by decide), h 1 (by decide), h 2 (by decide)]
  rfl
theorem ktS_3 {kp : Nat → Bool} (h : ∀ i, i < 3 → kp i = true) : ktS kp 3 = 3 := by
  show ((0 + bI (kp 0)) + bI (kp 1)) + bI (kp 2) = 3
  rw [h 0 (by decide), h 1 (by decide), h 2 (by decide)]
  rfl
theorem ktB_k {kp : Nat → Bool} {k : Nat} (hk : k < 3) (h : ∀ i, i < 3 → kp i = decide (i < k)) : ktS (ktB kp k) 3 = nI (k + 1) ∧ ∀ i, i < 3 → ktB kp k i = decide (i < k + 1) := by
  have h2 : ∀ i, i < 3 → ktB kp k i = decide (i < k + 1) := fun i hi => by
    unfold ktB
    by_cases e : i = k
    · rw [if_pos e, decide_eq_true (by omega)]
    · rw [if_neg e, h i hi]
      by_cases e2 : i < k
      · rw [decide_eq_true e2, decide_eq_true (by omega)]
      · rw [decide_eq_false e2, decide_eq_false (by omega)]
  refine ⟨?_, h2⟩
  show ((0 + bI (ktB kp k 0)) + bI (ktB kp k 1)) + bI (ktB kp k 2) = nI (k + 1)
  rw [h2 0 (by decide), h2 1 (by decide), h2 2 (by decide)]
  rcases (show k = 0 ∨ k = 1 ∨ k = 2 by omega) with rfl | rfl | rfl <;> rfl
theorem fg_all (kp : Nat → Bool) : ∀ i, i < 3 → fgB kp 3 i = false := fun _ h => if_pos h
/-- settings as the law tells them, so far -/
def stK (G9 L9 st : Nat → Int32) (k : Nat) : Prop := (∀ i, i < k → (0 ≤ (G9 i).toInt ∧ (G9 i).toInt ≤ 9) ∧ (∃ l, l < 12 ∧ L9 i = nI l) ∧ st (2 * i) = G9 i ∧ st (2 * i + 1) = L9 i) ∧ ∀ i, i < 8 → 0 ≤ (st i).toInt
theorem stK_s {G9 L9 st : Nat → Int32} {k : Nat} (h : stK G9 L9 st k) {g v : Int32} (hg : 0 ≤ g.toInt ∧ g.toInt ≤ 9) (hv : ∃ l, l < 12 ∧ v = nI l) : stK (upd G9 k g) (upd L9 k v) (upd (upd st (2 * (2 * (k / 2) + k % 2) + 0) g) (2 * (2 * (k / 2) + k % 2) + 1) v) (k + 1) := by
  have e : 2 * (k / 2) + k % 2 = k := by omega
  rw [e]
  refine ⟨fun i hi => ?_, fun i hi => ?_⟩
  · by_cases ei : i = k
    · subst ei
      refine ⟨by rw [upd_eq]; exact hg, by rw [upd_eq]; exact hv, ?_, ?_⟩
      · rw [upd_ne _ _ _ (by omega), upd_eq, show 2 * i = 2 * i + 0 from rfl, upd_eq]
      · rw [upd_eq, upd_eq]
    · obtain ⟨h1, h2, h3, h4⟩ := h.1 i (by omega)
      refine ⟨by rw [upd_ne _ _ _ ei]; exact h1, by rw [upd_ne _ _ _ ei]; exact h2, ?_, ?_⟩
      · rw [upd_ne _ _ _ (by omega), upd_ne _ _ _ (by omega), upd_ne _ _ _ ei]; exact h3
      · rw [upd_ne _ _ _ (by omega), upd_ne _ _ _ (by omega), upd_ne _ _ _ ei]; exact h4
  · by_cases e1 : i = 2 * k + 1
    · obtain ⟨l, hl, e2⟩ := hv
      rw [e1, upd_eq, e2, nI_toInt (by omega)]; omega
    · rw [upd_ne _ _ _ e1]
      by_cases e2 : i = 2 * k + 0
      · rw [e2, upd_eq]; exact hg.1
      · rw [upd_ne _ _ _ e2]; exact h.2 i hi
theorem stK_U {G9 L9 st : Nat → Int32} (h : stK G9 L9 st 4) : sU G9 L9 := fun i hi => by
  obtain ⟨h1, ⟨l, hl, e⟩, _⟩ := h.1 i hi
  exact ⟨h1, by rw [e, aN_nI hl]; exact hl⟩
theorem stK_l {G9 L9 st : Nat → Int32} (h : stK G9 L9 st 4) {i : Nat} (hi : i < 4) : L9 i = nI (aN (L9 i)) ∧ aN (L9 i) < 12 := by
  obtain ⟨_, ⟨l, hl, e⟩, _⟩ := h.1 i hi
  rw [e, aN_nI hl]
  exact ⟨rfl, hl⟩
def trN (L : Nat) (mo an pl ho ga lg : Nat → Int32) (N : Nat → N5) (pm pa : Nat → Int32) : Prop :=
  trG L mo an pl ho ga lg (gC N) pm pa ∧ (∀ i, i < 6 → 0 < (N (8 + i)).2.2.2.2.toInt) ∧ ∀ k, 1 ≤ k → k < 3 → N (14 + k) = wyN (pm k).toInt (aN (pa k))
/-- the trials so far: k of them -/
def trK9 (L : Nat) (mo an pl ho ga lg : Nat → Int32) (N : Nat → N5) (pm pa : Nat → Int32) (k : Nat) : Prop :=
  (∀ b, b < 2 → ∃ m a : Int32, N (8 + b) = rdT (nI 0) m a L mo an pl ho ga lg b) ∧ (∀ i, 1 ≤ i → i < k → (∀ b, b < 2 → N (8 + (2 * i + b)) = rdT (nI i) (pm i) (pa i) L mo an pl ho ga lg b) ∧ N (14 + i) = wyN (pm i).toInt (aN (pa i)) ∧ (1 ≤ (pm i).toInt ∧ (pm i).toInt ≤ 99) ∧ aN (pa i) < 12)
section TRN
variable {L : Nat} {mo an pl ho ga lg : Nat → Int32} {N N2 : Nat → N5} {pm pa : Nat → Int32}
theorem trK9_s {k : Nat} (h : trK9 L mo an pl ho ga lg N pm pa k) (hk : 1 ≤ k ∧ k < 3) {m : Int32} {a : Nat} (hm : 1 ≤ m.toInt ∧ m.toInt ≤ 99) (ha : a < 12)
    (h1 : ∀ k9, k9 ≠ 21 → k9 ≠ 22 → k9 ≠ 8 + (2 * k + 0) → k9 ≠ 8 + (2 * k + 1) → (k9 = 14 + k → k = 0) → N2 k9 = N k9) (h2 : ∀ b, b < 2 → N2 (8 + (2 * k + b)) = rdT (nI k) m (nI a) L mo an pl ho ga lg b) (h3 : k ≠ 0 → N2 (14 + k) = wyN m.toInt a) : trK9 L mo an pl ho ga lg N2 (upd pm k m) (upd pa k (nI a)) (k + 1) := by
  refine ⟨fun b hb => ?_, fun i hi hik => ?_⟩
  · obtain ⟨m0, a0, e⟩ := h.1 b hb
    exact ⟨m0, a0, by rw [h1 (8 + b) (by omega) (by omega) (by omega) (by omega) (by omega)]; exact e⟩
  · by_cases e : i = k
    · subst e
      rw [upd_eq, upd_eq, aN_nI ha]
      exact ⟨h2, h3 (by omega), hm, ha⟩
    · obtain ⟨q1, q2, q3⟩ := h.2 i hi (by omega)
      rw [upd_ne _ _ _ e, upd_ne _ _ _ e]
      exact ⟨fun b hb => (h1 _ (by omega) (by omega) (by omega) (by omega) (by omega)).trans (q1 b hb), (h1 _ (by omega) (by omega) (by omega) (by omega) (by omega)).trans q2, q3⟩
theorem trK9_N (hok : okL L mo an pl) (hoh : okH ho) (hs : sU ga lg) (h : trK9 L mo an pl ho ga lg N pm pa 3) : trN L mo an pl ho ga lg N pm pa := by
  have dp : ∀ q, q < 2 → ∀ b, b < 2 → 0 < (N (8 + (2 * (q + 1) + b))).2.2.2.2.toInt := fun q hq b hb => by
    obtain ⟨q1, _, q3, q4⟩ := h.2 (q + 1) (by omega) (by omega)
    rw [q1 b hb]
    exact (rd_1 hok hoh hs hq hb q3 q4).1.1
  have dp0 : ∀ b, b < 2 → 0 < (N (8 + b)).2.2.2.2.toInt := fun b hb => by
    obtain ⟨m0, a0, e⟩ := h.1 b hb
    rw [e]
    exact (rd_0 hok hoh hs hb).1.1
  refine ⟨⟨fun b hb => ?_, fun q hq b hb => ?_, fun q hq => ?_⟩, fun i hi => ?_, fun k h1 h3 => (h.2 k h1 h3).2.1⟩
  · obtain ⟨m0, a0, e⟩ := h.1 b hb
    exact ⟨m0, a0, by show N (6 + b + 2) = _; rw [show 6 + b + 2 = 8 + b by omega]; exact e⟩
  · show N (6 + 2 * (q + 1) + b + 2) = _
    rw [show 6 + 2 * (q + 1) + b + 2 = 8 + (2 * (q + 1) + b) by omega]
    exact (h.2 (q + 1) (by omega) (by omega)).1 b hb
  · exact (h.2 (q + 1) (by omega) (by omega)).2.2
  · rcases (show i = 0 ∨ i = 1 ∨ i = 2 ∨ i = 3 ∨ i = 4 ∨ i = 5 by omega) with rfl | rfl | rfl | rfl | rfl | rfl
    · exact dp0 0 (by decide)
    · exact dp0 1 (by decide)
    · exact dp 0 (by decide) 0 (by decide)
    · exact dp 0 (by decide) 1 (by decide)
    · exact dp 1 (by decide) 0 (by decide)
    · exact dp 1 (by decide) 1 (by decide)
theorem trN_cg (h : trN L mo an pl ho ga lg N pm pa) (e : ∀ i, 8 ≤ i → i < 17 → N2 i = N i) : trN L mo an pl ho ga lg N2 pm pa := by
  obtain ⟨⟨g0, g1, g2⟩, h2, h3⟩ := h
  refine ⟨⟨fun b hb => ?_, fun q hq b hb => ?_, g2⟩, fun i hi => by rw [e _ (by omega) (by omega)]; exact h2 i hi, fun k h1 hk => by rw [e _ (by omega) (by omega)]; exact h3 k h1 hk⟩
  · obtain ⟨m, a, q⟩ := g0 b hb
    exact ⟨m, a, (e _ (by omega) (by omega)).trans q⟩
  · exact (e _ (by omega) (by omega)).trans (g1 q hq b hb)
theorem trN_e (hok : okL L mo an pl) (hoh : okH ho) (hs : sU ga lg) (h : trN L mo an pl ho ga lg N pm pa) : ∀ q, q < 2 → ∀ b, b < 2 → efO (gC N) pm pa q b = false ∧ efV (gC N) pm pa q b = wyN (ga (2 * b + q)).toInt (aN (lg (2 * b + q))) := fun q hq b hb => by
  obtain ⟨⟨g0, g1, g2⟩, _⟩ := h
  obtain ⟨m0, a0, h0⟩ := g0 b hb
  exact ef_1 hok hoh hs hq hb h0 (g1 q hq b hb) (g2 q hq)
theorem trN_z (hok : okL L mo an pl) (hoh : okH ho) (hs : sU ga lg) (h : trN L mo an pl ho ga lg N pm pa) (hz : D4 ga lg = z4) (q : Nat) : ubR q (gC N) pm pa = -6 := by
  obtain ⟨h1, h2⟩ := fo_1 hs (trN_e hok hoh hs h)
  have h3 := (Rq_z h2).mpr hz
  unfold ubR
  rw [h1, if_neg (by decide), if_pos h3]
theorem trN_f (hok : okL L mo an pl) (hoh : okH ho) (hs : sU ga lg) (h : trN L mo an pl ho ga lg N pm pa) (hz : D4 ga lg ≠ z4) {q : Nat} (hq : q < 2) : ubR q (gC N) pm pa = 1 ∧ quoV (fnV (nI q) (gC N) pm pa) (foD (gC N) pm pa) = plN (pulI q L mo an pl ho) := by
  obtain ⟨h1, h2⟩ := fo_1 hs (trN_e hok hoh hs h)
  have h3 : zeroN (foD (gC N) pm pa) = false := by
    cases e : zeroN (foD (gC N) pm pa)
    · rfl
    · exact absurd ((Rq_z h2).mp e) hz
  obtain ⟨h4, h5⟩ := fn_1 hok hoh hs h.1 h3 hq
  unfold ubR
  rw [h1, if_neg (by decide), h3, if_neg (by decide), h4, if_neg (by decide)]
  exact ⟨rfl, h5⟩
end TRN
/-! when nothing can be found: as the law tells it -/
theorem gg_i {G9 L9 : Nat → Int32} (hs : sU G9 L9) {i k : Nat} (hi : i < 4) (hk : k < 4) : (G9 i * G9 k).toInt = (G9 i).toInt * (G9 k).toInt := by
  have h1 := (hs i hi).1
  have h2 := (hs k hk).1
  have h3 := mul_bd (X := 9) (Y := 9) (x := (G9 i).toInt) (y := (G9 k).toInt) (by omega) (by omega)
  exact i32_mul (by omega)
theorem lag_i {a b c d : Nat} (ha : a < 12) (hb : b < 12) (hc : c < 12) (hd : d < 12) : (nI a + nI b - nI c - nI d) - (nI a + nI b - nI c - nI d) / 12 * 12 = 0 ↔ (a + b) % 12 = (c + d) % 12 := by
  have e : (nI a + nI b - nI c - nI d).toInt = (a : Int) + b - c - d := by
    have e1 : (nI a + nI b).toInt = (a : Int) + b := by rw [nI_add, nI_toInt (by omega)]; omega
    have e2 : (nI a + nI b - nI c).toInt = (a : Int) + b - c := by rw [i32_sub (by rw [e1, nI_toInt (by omega)]; omega), e1, nI_toInt (by omega)]
    rw [i32_sub (by rw [e2, nI_toInt (by omega)]; omega), e2, nI_toInt (by omega)]
  rw [i32_eq, i32_rem _ _ (by decide), e, show (12 : Int32).toInt = 12 from rfl, show (0 : Int32).toInt = 0 from rfl, ← Int.dvd_iff_tmod_eq_zero]
  omega
theorem lagE {G9 L9 : Nat → Int32} {st : Nat → Int32} (h : stK G9 L9 st 4) : (L9 0 + L9 3 - L9 1 - L9 2) - (L9 0 + L9 3 - L9 1 - L9 2) / 12 * 12 = 0 ↔ (aN (L9 0) + aN (L9 3)) % 12 = (aN (L9 1) + aN (L9 2)) % 12 := by
  obtain ⟨e0, l0⟩ := stK_l h (i := 0) (by decide)
  obtain ⟨e1, l1⟩ := stK_l h (i := 1) (by decide)
  obtain ⟨e2, l2⟩ := stK_l h (i := 2) (by decide)
  obtain ⟨e3, l3⟩ := stK_l h (i := 3) (by decide)
  have k := lag_i l0 l3 l1 l2
  rw [← e0, ← e1, ← e2, ← e3] at k
  exact k
theorem nn_t {G9 L9 st : Nat → Int32} (h : stK G9 L9 st 4) (h1 : G9 0 * G9 3 = G9 1 * G9 2) (h2 : G9 0 * G9 3 = 0 ∨ (L9 0 + L9 3 - L9 1 - L9 2) - (L9 0 + L9 3 - L9 1 - L9 2) / 12 * 12 = 0) : D4 G9 L9 = z4 := by
  have hs := stK_U h
  have e1 := congrArg Int32.toInt h1
  rw [gg_i hs (by decide) (by decide), gg_i hs (by decide) (by decide)] at e1
  refine (D4_z hs).mpr ⟨e1, ?_⟩
  rcases h2 with h2 | h2
  · have e2 := congrArg Int32.toInt h2
    rw [gg_i hs (by decide) (by decide)] at e2
    exact Or.inl e2
  · exact Or.inr ((lagE h).mp h2)
theorem nn_f {G9 L9 st : Nat → Int32} (h : stK G9 L9 st 4) (h1 : ¬ G9 0 * G9 3 = G9 1 * G9 2 ∨ (¬ G9 0 * G9 3 = 0 ∧ ¬ (L9 0 + L9 3 - L9 1 - L9 2) - (L9 0 + L9 3 - L9 1 - L9 2) / 12 * 12 = 0)) : D4 G9 L9 ≠ z4 := fun e => by
  have hs := stK_U h
  obtain ⟨e1, e2⟩ := (D4_z hs).mp e
  rcases h1 with h1 | ⟨h1, h2⟩
  · exact h1 (by rw [i32_eq, gg_i hs (by decide) (by decide), gg_i hs (by decide) (by decide)]; exact e1)
  · rcases e2 with e2 | e2
    · exact h1 (by rw [i32_eq, gg_i hs (by decide) (by decide)]; exact e2)
    · exact h2 ((lagE h).mpr e2)
theorem gw_1 {g : Int32} (hg : 0 ≤ g.toInt ∧ g.toInt ≤ 9) {a w : Nat} (ha : a < 12) (hw : w < 4) : (g * zways.getD (4 * a + w) 0).toInt64 = Int64.ofInt (g.toInt * wI a w) ∧ -18 ≤ (g * zways.getD (4 * a + w) 0).toInt64.toInt ∧ (g * zways.getD (4 * a + w) 0).toInt64.toInt ≤ 18 := by
  have h1 := wI_B ha hw
  have h2 : wB w ≤ 2 := by unfold wB; split <;> omega
  have h3 := mul_bd (X := 9) (Y := 2) (x := g.toInt) (y := wI a w) (by omega) (by omega)
  have e : (g * zways.getD (4 * a + w) 0).toInt = g.toInt * wI a w := i32_mul (by show -2147483648 ≤ g.toInt * wI a w ∧ g.toInt * wI a w ≤ 2147483647; omega)
  rw [i64_w, e, ofI_i (by omega)]
  exact ⟨rfl, by omega, by omega⟩
theorem gw_N {g : Int32} (hg : 0 ≤ g.toInt ∧ g.toInt ≤ 9) {a : Nat} (ha : a < 12) : wyN g.toInt a = lowN (g * zways.getD (4 * a + 0) 0).toInt64 (g * zways.getD (4 * a + 1) 0).toInt64 (g * zways.getD (4 * a + 2) 0).toInt64 (g * zways.getD (4 * a + 3) 0).toInt64 2 := by
  rw [(gw_1 hg ha (by decide)).1, (gw_1 hg ha (by decide)).1, (gw_1 hg ha (by decide)).1, (gw_1 hg ha (by decide)).1]
  rfl
