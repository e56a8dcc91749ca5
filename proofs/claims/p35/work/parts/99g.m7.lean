/-! what the law needs of the search, a plane at a time -/
section FWL
variable {P : Nat → Int} {li : Int} {ok : Nat → Bool}
theorem fw_none {k : Nat} (hk : k ≤ 5) (h : ∀ n, n < k → ¬ Qt ok P li n) (x : Int × Int × (Nat → Int32) × (Nat → Int32)) : (seS (fun n b => srR ok (lkU P li) n 1 [] b) k ((-1 : Int32), x)).1 = -1 := by
  rcases fw_min (P := P) (li := li) (ok := ok) x k hk with ⟨e, _⟩ | ⟨m, h1, _, h3, _⟩
  · exact e
  · exact absurd h3 (h m h1)
theorem fw_some {k m : Nat} (hk : k ≤ 5) (hm : m < k) (h : Qt ok P li m) (h2 : ∀ n, n < m → ¬ Qt ok P li n) (x : Int × Int × (Nat → Int32) × (Nat → Int32)) : (seS (fun n b => srR ok (lkU P li) n 1 [] b) k ((-1 : Int32), x)).1 = nI m := by
  rcases fw_min (P := P) (li := li) (ok := ok) x k hk with ⟨_, e⟩ | ⟨m2, h1, e, h3, h4⟩
  · exact absurd h (e m hm)
  · have : m = m2 := by
      rcases Nat.lt_trichotomy m m2 with q | q | q
      · exact absurd h (h4 m q)
      · exact q
      · exact absurd h3 (h2 m2 q)
    rw [this]; exact e
theorem fw_le {k m : Nat} (hk : k ≤ 5) (hm : m < k) (h : Qt ok P li m) (x : Int × Int × (Nat → Int32) × (Nat → Int32)) : ∃ m2, m2 ≤ m ∧ (seS (fun n b => srR ok (lkU P li) n 1 [] b) k ((-1 : Int32), x)).1 = nI m2 := by
  rcases fw_min (P := P) (li := li) (ok := ok) x k hk with ⟨_, e⟩ | ⟨m2, h1, e, h3, h4⟩
  · exact absurd h (e m hm)
  · exact ⟨m2, Nat.not_lt.mp (fun q => h4 m q h), e⟩
theorem fwA1_m1 {b : bT} (h : b.1 = -1) : fwA 1 b = 0 := by
  show fwM b.2.2.2.1 (aN b.1) = 0
  rw [h]
  rfl
end FWL
/-- behind drillAll: the holes are those that the bits told -/
theorem fw_drill {dr : Int32} {p L : Nat} {mo an pl ho le : Nat → Int32} {li : Int} {k m : Nat} (hk : k ≤ 5) (hm : m < k) (h : Qt (okC dr p le ho) (pulI p L mo an pl ho) li m) (h2 : ∀ n, n < m → ¬ Qt (okC dr p le ho) (pulI p L mo an pl ho) li n) (x y : Int × Int × (Nat → Int32) × (Nat → Int32)) :
    ∃ s : List Nat, asc (okC dr p le ho) 1 s ∧ s.length = m ∧ quB (prP (pulI p L mo an pl ho) s.reverse) li = true
      ∧ dhS p (seS (fun n b => srR (okC dr p le ho) (lkU (pulI p L mo an pl ho) li) n 1 [] b) k ((-1 : Int32), y)) (aN (seS (fun n b => srR (okC dr p le ho) (lkU (pulI p L mo an pl ho) li) n 1 [] b) k ((-1 : Int32), y)).1) ho = hoQ p ho s.reverse
      ∧ ∀ j, j < 12 → (lgX (fwA 1 (seS (fun n b => srR (okC dr p le ho) (lkU (pulI p L mo an pl ho) li) n 1 [] b) k ((-1 : Int32), x))) j = 1 ↔ ∃ c, c ∈ s.reverse ∧ c / 10 = j) := by
  have e1 := fw_some hk hm h h2 x
  have e2 := fw_some hk hm h h2 y
  have hb := fw_BS (P := pulI p L mo an pl ho) (li := li) (ok := okC dr p le ho) k ((-1 : Int32), x) ((-1 : Int32), y) hk (Or.inl ⟨rfl, rfl⟩)
  generalize seS (fun n b => srR (okC dr p le ho) (lkU (pulI p L mo an pl ho) li) n 1 [] b) k ((-1 : Int32), x) = b at e1 hb ⊢
  generalize seS (fun n b => srR (okC dr p le ho) (lkU (pulI p L mo an pl ho) li) n 1 [] b) k ((-1 : Int32), y) = b2 at e2 hb ⊢
  rcases hb with ⟨q1, _⟩ | ⟨q, ⟨t1, t2⟩, t3, q1, q2, _, _, ⟨g, g2, a1, a2⟩, g3, g4, z1, z2⟩
  · rw [e1] at q1
    exact absurd q1 (nI_m1 (by omega))
  · have hl : q.length = m := by
      rw [e1] at q1
      exact (nI_inj (by omega) (by omega) q1).symm
    obtain ⟨s, s1, s2, s3⟩ := asc_chn _ _ _ _ t1
    rw [List.append_nil] at s3
    have hlt : ∀ c, c ∈ q → c < 120 := fun c hc => (asc_lt s 1 s2 c (List.mem_reverse.mp (s3 ▸ hc))).2.1
    refine ⟨s, s2, by rw [s1, hl], by rw [← s3]; exact t2, ?_, fun j hj => ?_⟩
    · rw [← s3, e2, aN_k (by omega), ← hl]
      exact dhS_q (g := g2) (g2 := g4) q hlt (fun i _ => ⟨by rw [a2], by rw [z2]⟩)
    · rw [← s3]
      show lgX (fwM b.2.2.2.1 (aN b.1)) j = 1 ↔ _
      rw [a1, e1, aN_k (by omega), ← hl]
      exact lgX_fw hj q hlt
theorem ctK_p {la sz re : Int32} {L : Nat} {mo an pl ho : Nat → Int32} {kp : Nat → Bool} {p : Nat} (hp : p < 2) : ctK la sz re L mo an pl ho kp (1 + p) = nI (hcnt p ho 12) := by
  rcases (show p = 0 ∨ p = 1 by omega) with rfl | rfl <;> rfl
theorem szK_2 {b : Int32} (h : szK b = true) : 2 ≤ b.toInt := by
  obtain ⟨h1, h2, h3⟩ := dB_t.mp h
  have h1 := dB_t.mp h1
  have h3 := dB_t.mp h3
  refine Int.not_lt.mp (fun q => ?_)
  by_cases e : b.toInt = 0
  · have e0 : b = 0 := i32_eq.mpr e
    rw [e0, show bcnt 0 12 = 0 by decide] at h3
    exact absurd h3.1 (by decide)
  · have e1 : b = 1 := i32_eq.mpr (by rw [show (1 : Int32).toInt = 1 from rfl]; omega)
    rw [e1] at h2
    exact h2 (by decide)
theorem sz_arg {k : Nat} (hk : k < 8) : szK ((2 : Int32) ||| ((1 : Int32) <<< (nI (2 + k) &&& 31))) = true := by
  have e : ∀ k, k < 8 → (0 ≤ ((2 : Int32) ||| ((1 : Int32) <<< (nI (2 + k) &&& 31))).toInt ∧ ((2 : Int32) ||| ((1 : Int32) <<< (nI (2 + k) &&& 31))).toInt ≤ 1023) ∧ ((2 : Int32) ||| ((1 : Int32) <<< (nI (2 + k) &&& 31))) &&& 1 ≠ 1 ∧ (1 ≤ (bcnt ((2 : Int32) ||| ((1 : Int32) <<< (nI (2 + k) &&& 31))) 12).toInt ∧ (bcnt ((2 : Int32) ||| ((1 : Int32) <<< (nI (2 + k) &&& 31))) 12).toInt ≤ 3) := by decide
  obtain ⟨h1, h2, h3⟩ := e k hk
  exact dB_t.mpr ⟨dB_t.mpr h1, h2, dB_t.mpr h3⟩
/-! lumps -/
theorem okL_s {L : Nat} {mo an pl : Nat → Int32} (h : okL L mo an pl) (hL : L < 8) {m : Int32} {a q : Nat} (hm : 1 ≤ m.toInt ∧ m.toInt ≤ 99) (ha : a < 12) (hq : q < 11) : okL (L + 1) (upd mo L m) (upd an L (nI a)) (upd pl L (nI q)) := by
  refine ⟨by omega, fun i hi => ?_⟩
  by_cases e : i = L
  · subst e
    rw [upd_eq, upd_eq, upd_eq]
    exact ⟨hm, ⟨a, ha, rfl⟩, by rw [nI_toInt (by omega)]; omega⟩
  · rw [upd_ne _ _ _ e, upd_ne _ _ _ e, upd_ne _ _ _ e]
    exact h.2 i (by omega)
theorem okL_le {L L2 : Nat} {mo an pl : Nat → Int32} (h : okL L2 mo an pl) (hL : L ≤ L2) : okL L mo an pl := ⟨by have := h.1; omega, fun i hi => h.2 i (by omega)⟩
theorem siN_cg {f g : Nat → Int} : ∀ n, (∀ i, i < n → f i = g i) → siN f n = siN g n
  | 0, _ => rfl
  | n + 1, h => by
    show siN f n + f n = siN g n + g n
    rw [siN_cg n (fun i hi => h i (by omega)), h n (by omega)]
theorem wI_half : ∀ a, a < 12 → ∀ k, k < 4 → wI ((a + 6) % 12) k = -wI a k := by decide
theorem half_m : ∀ a, a < 12 → nI (a + 6) - nI (a + 6) / 12 * 12 = nI ((a + 6) % 12) := by decide
theorem pul_half {L : Nat} {mo an pl ho : Nat → Int32} {m : Int32} {a q : Nat} (ha : a < 12) {k : Nat} (hk : k < 4) : pulI 0 (L + 1 + 1) (upd (upd mo L m) (L + 1) m) (upd (upd an L (nI a)) (L + 1) (nI ((a + 6) % 12))) (upd (upd pl L (nI q)) (L + 1) (nI q)) ho k = pulI 0 L mo an pl ho k := by
  have h1 : ∀ i, i < L → lumpT 0 (upd (upd mo L m) (L + 1) m) (upd (upd pl L (nI q)) (L + 1) (nI q)) i * wI (aN (upd (upd an L (nI a)) (L + 1) (nI ((a + 6) % 12)) i)) k = lumpT 0 mo pl i * wI (aN (an i)) k := fun i hi => by
    unfold lumpT
    rw [upd_ne _ _ _ (by omega), upd_ne _ _ _ (by omega), upd_ne _ _ _ (by omega), upd_ne _ _ _ (by omega), upd_ne _ _ _ (by omega), upd_ne _ _ _ (by omega)]
  unfold pulI lumpS
  show siN _ L + _ + _ + holeS 0 ho k 12 = siN _ L + holeS 0 ho k 12
  rw [siN_cg L h1]
  have e1 : lumpT 0 (upd (upd mo L m) (L + 1) m) (upd (upd pl L (nI q)) (L + 1) (nI q)) L = lumpT 0 (upd (upd mo L m) (L + 1) m) (upd (upd pl L (nI q)) (L + 1) (nI q)) (L + 1) := by
    unfold lumpT
    rw [upd_eq, upd_eq, upd_ne _ _ _ (show L ≠ L + 1 by omega), upd_ne _ _ _ (show L ≠ L + 1 by omega), upd_eq, upd_eq]
  dsimp only
  rw [e1, upd_eq, upd_ne _ _ _ (show L ≠ L + 1 by omega), upd_eq, aN_nI ha, aN_nI (Nat.mod_lt _ (by decide)), wI_half a ha k hk, Int.mul_neg]
  omega
theorem plV_cg {P P2 : Nat → Int} (h : ∀ k, k < 4 → P k = P2 k) {k : Nat} (hk : k < 5) : plV P k = plV P2 k := by
  rw [plV_lt hk, plV_lt hk]
  unfold plN
  rw [h 0 (by decide), h 1 (by decide), h 2 (by decide), h 3 (by decide)]
/-- what holds of the object at the law's plane p -/
def PI (p L : Nat) (mo an pl ho le : Nat → Int32) (sz9 re9 : Int32) (st : Nat → Int32) (N : Nat → N5) (j : JT) : Prop :=
  okL L mo an pl ∧ okH ho ∧ (0 ≤ re9.toInt ∧ re9.toInt ≤ 99) ∧ szK sz9 = true ∧ bB (jbb j) ∧ (∀ i, i < 6 → 0 < (N (8 + i)).2.2.2.2.toInt) ∧ (∀ i, i < 8 → 0 ≤ (st i).toInt) ∧ ∀ q, p ≤ q → q < 2 → le q = 4095 ∧ ∀ i, i < 12 → ho (12 * q + i) = 0
/-- a set that was found and drilled -/
def DR (p L : Nat) (mo an pl ho le : Nat → Int32) (sz9 : Int32) (li : Int) (s : List Nat) : Prop :=
  asc (okC sz9 p le ho) 1 s ∧ quB (prP (pulI p L mo an pl ho) s.reverse) li = true ∧ ∀ n, n < s.length → ¬ Qt (okC sz9 p le ho) (pulI p L mo an pl ho) li n
section DRL
variable {p L : Nat} {mo an pl ho le : Nat → Int32} {sz9 : Int32} {li : Int} {s : List Nat}
theorem DR.lt (h : DR p L mo an pl ho le sz9 li s) (hs : szK sz9 = true) : ∀ c, c ∈ s.reverse → c < 120 ∧ 1 ≤ c % 10 := fun c hc => by
  obtain ⟨_, h2, h3⟩ := asc_lt s 1 h.1 c (List.mem_reverse.mp hc)
  exact ⟨h2, okC_sz hs h3⟩
theorem DR.pul (h : DR p L mo an pl ho le sz9 li s) (hz : ∀ i, i < 12 → ho (12 * p + i) = 0) : pulI p L mo an pl (hoQ p ho s.reverse) = prP (pulI p L mo an pl ho) s.reverse :=
  pul_q hz _ (asc_nd h.1) (fun c hc => (asc_lt s 1 h.1 c (List.mem_reverse.mp hc)).2.1)
theorem DR.cnt (h : DR p L mo an pl ho le sz9 li s) (hs : szK sz9 = true) (hz : ∀ i, i < 12 → ho (12 * p + i) = 0) : hcnt p (hoQ p ho s.reverse) 12 = s.length := by
  rw [hcnt_q hz _ (asc_nd h.1) (h.lt hs), List.length_reverse]
theorem DR.pos (h : DR p L mo an pl ho le sz9 li s) (hs : szK sz9 = true) (hz : ∀ i, i < 12 → ho (12 * p + i) = 0) {k : Nat} (hk : k < 12) : 0 < (hoQ p ho s.reverse (12 * p + k)).toInt ↔ ∃ c, c ∈ s.reverse ∧ c / 10 = k := by
  constructor
  · intro h1
    by_cases e : ∃ c, c ∈ s.reverse ∧ c / 10 = k
    · exact e
    · rw [hoQ_ne _ (fun c hc e9 => e ⟨c, hc, by omega⟩), hz k hk] at h1
      exact absurd h1 (by decide)
  · rintro ⟨c, hc, rfl⟩
    have h1 := h.lt hs c hc
    rw [hoQ_at _ (asc_nd h.1) c hc, nI_toInt (by omega)]
    omega
theorem DR.rm (h : DR p L mo an pl ho le sz9 li s) (hs : szK sz9 = true) (hz : ∀ i, i < 12 → ho (12 * p + i) = 0) {k : Nat} (hk : k < 12) (h1 : 0 < (hoQ p ho s.reverse (12 * p + k)).toInt) : quB (pulI p L mo an pl (upd (hoQ p ho s.reverse) (12 * p + k) 0)) li = false ∧ frB p k le (upd (hoQ p ho s.reverse) (12 * p + k) 0) = true := by
  obtain ⟨c, hc, rfl⟩ := (h.pos hs hz hk).mp h1
  constructor
  · cases e : quB (pulI p L mo an pl (upd (hoQ p ho s.reverse) (12 * p + c / 10) 0)) li
    · rfl
    · have hl : 0 < s.length := List.length_pos_of_mem (List.mem_reverse.mp hc)
      exact absurd (pl_rm hz h.1 hc e) (h.2.2 _ (by omega))
  · have h3 := (asc_lt s 1 h.1 c (List.mem_reverse.mp hc)).2.2
    have h4 := (dB_t.mp h3).2
    exact dB_t.mpr ⟨(dB_t.mp h4).1, upd_eq _ _ _⟩
end DRL
theorem lgX_0 : ∀ k, k < 12 → lgX 0 k ≠ 1 := by decide
