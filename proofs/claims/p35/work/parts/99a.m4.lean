/-! the search told by sets of holes -/
def asc (ok : Nat → Bool) : Nat → List Nat → Prop
  | _, [] => True
  | st, c :: s => st ≤ c ∧ c < 120 ∧ ok c = true ∧ asc ok (10 * (c / 10) + 10) s
def chn (ok : Nat → Bool) : Nat → Nat → List Nat → List Nat → Prop
  | 0, _, pr, q => q = pr
  | r + 1, st, pr, q => ∃ c, st ≤ c ∧ c < 120 ∧ ok c = true ∧ chn ok r (10 * (c / 10) + 10) (c :: pr) q
theorem chn_asc {ok : Nat → Bool} : ∀ (s : List Nat) (st : Nat) (pr : List Nat), asc ok st s → chn ok s.length st pr (s.reverse ++ pr)
  | [], _, _, _ => rfl
  | c :: s, st, pr, h => by
    have ih := chn_asc s (10 * (c / 10) + 10) (c :: pr) h.2.2.2
    rw [List.reverse_cons, List.append_assoc]
    exact ⟨c, h.1, h.2.1, h.2.2.1, ih⟩
theorem asc_chn {ok : Nat → Bool} : ∀ (r st : Nat) (pr q : List Nat), chn ok r st pr q → ∃ s, s.length = r ∧ asc ok st s ∧ q = s.reverse ++ pr
  | 0, st, pr, q, h => ⟨[], rfl, trivial, h⟩
  | r + 1, st, pr, q, ⟨c, h1, h2, h3, h4⟩ => by
    obtain ⟨s, e1, e2, e3⟩ := asc_chn r _ _ q h4
    refine ⟨c :: s, by rw [List.length_cons, e1], ⟨h1, h2, h3, e2⟩, ?_⟩
    rw [e3, List.reverse_cons, List.append_assoc]
    rfl
/-- a set of n holes more with which it is quiet -/
def Qt (ok : Nat → Bool) (P : Nat → Int) (li : Int) (n : Nat) : Prop := ∃ s, s.length = n ∧ asc ok 1 s ∧ quB (prP P s.reverse) li = true
theorem nI_m1 {k : Nat} (h : k ≤ 4) : nI k ≠ (-1 : Int32) := fun e => by
  have := nI_toInt (n := k) (by omega)
  rw [e, show (-1 : Int32).toInt = -1 from rfl] at this
  omega
theorem nI_inj {a b : Nat} (ha : a < 2 ^ 31) (hb : b < 2 ^ 31) (e : nI a = nI b) : a = b := by
  have h1 := nI_toInt ha
  rw [e, nI_toInt hb] at h1
  omega
section SRQ
variable {P : Nat → Int} {li : Int} {ok : Nat → Bool}
theorem lkU_ne {pr : List Nat} {b : bT} (hl : pr.length ≤ 4) (h : b.1 ≠ -1) : (lkU P li pr b).1 ≠ -1 := by
  unfold lkU
  split
  · exact nI_m1 hl
  · exact h
theorem lkU_set {pr : List Nat} {b : bT} (hl : pr.length ≤ 4) (h : quB (prP P pr) li = true) : (lkU P li pr b).1 ≠ -1 := by
  by_cases hb : b.1 = -1
  · unfold lkU
    rw [if_pos (lkB_t h (Or.inl hb))]
    exact nI_m1 hl
  · exact lkU_ne hl hb
theorem srR_ne (r st : Nat) (pr : List Nat) (b : bT) (hl : pr.length + r ≤ 4) (h : b.1 ≠ -1) : (srR ok (lkU P li) r st pr b).1 ≠ -1 :=
  srR_Q (Q := fun b => b.1 ≠ -1) (fun _ _ h1 h2 => lkU_ne h1 h2) r st pr b hl h
theorem inn_find {f : Nat → bT → bT} {c : Nat} (hc : c < 120) (hok : ok c = true) (h1 : ∀ b, (f c b).1 ≠ -1) (h2 : ∀ c b, b.1 ≠ -1 → (f c b).1 ≠ -1) : ∀ k b, 120 - k ≤ c → k ≤ 120 → (inn ok f k b).1 ≠ -1
  | 0, _, h, _ => by omega
  | k + 1, b, h, hk => by
    show (inn ok f k (if ok (119 - k) = true then f (119 - k) b else b)).1 ≠ -1
    by_cases e : c = 119 - k
    · refine inn_Q (Q := fun b => b.1 ≠ -1) h2 k _ ?_
      rw [← e, if_pos hok]
      exact h1 b
    · exact inn_find hc hok h1 h2 k _ (by omega) (by omega)
theorem srR_find : ∀ (r st : Nat) (pr : List Nat) (b : bT) (q : List Nat), pr.length + r ≤ 4 → st ≤ 130 → chn ok r st pr q → quB (prP P q) li = true → (srR ok (lkU P li) r st pr b).1 ≠ -1
  | 0, st, pr, b, q, hl, _, h, hq => by
    rw [show q = pr from h] at hq
    exact lkU_set (by omega) hq
  | r + 1, st, pr, b, q, hl, hst, ⟨c, h1, h2, h3, h4⟩, hq => by
    show (inn ok (fun c b => srR ok (lkU P li) r (10 * (c / 10) + 10) (c :: pr) b) (120 - st) b).1 ≠ -1
    refine inn_find h2 h3 (fun b => srR_find r _ (c :: pr) b q (by rw [List.length_cons]; omega) (by omega) h4 hq) (fun c b hb => srR_ne r _ (c :: pr) b (by rw [List.length_cons]; omega) hb) _ b (by omega) (by omega)
/-- two runs of the search that know the same -/
def BS (T : List Nat → Prop) (b b2 : bT) : Prop := (b.1 = -1 ∧ b2.1 = -1) ∨ ∃ q : List Nat, T q ∧ q.length ≤ 4 ∧ b.1 = nI q.length ∧ b2.1 = nI q.length ∧ b.2.1 = b2.2.1 ∧ b.2.2.1 = b2.2.2.1 ∧ (∃ g g2, b.2.2.2.1 = chA q g ∧ b2.2.2.2.1 = chA q g2) ∧ ∃ g g2, b.2.2.2.2 = chZ q g ∧ b2.2.2.2.2 = chZ q g2
theorem BS.mono {T U : List Nat → Prop} {b b2 : bT} (h : BS T b b2) (hT : ∀ q, T q → U q) : BS U b b2 := by
  rcases h with h | ⟨q, h1, h2⟩
  · exact Or.inl h
  · exact Or.inr ⟨q, hT q h1, h2⟩
theorem lkU_BS {T : List Nat → Prop} {pr : List Nat} {b b2 : bT} (hl : pr.length ≤ 4) (hT : quB (prP P pr) li = true → T pr) (h : BS T b b2) : BS T (lkU P li pr b) (lkU P li pr b2) := by
  have e : lkB (prP P pr) li b.1 b.2.1 b.2.2.1 = lkB (prP P pr) li b2.1 b2.2.1 b2.2.2.1 := by
    rcases h with ⟨h1, h2⟩ | ⟨q, _, _, h1, h2, h3, h4, _⟩
    · by_cases hq : quB (prP P pr) li = true
      · rw [lkB_t hq (Or.inl h1), lkB_t hq (Or.inl h2)]
      · rw [lkB_f1 (by simpa using hq), lkB_f1 (by simpa using hq)]
    · rw [h1, h2, h3, h4]
  unfold lkU
  rw [← e]
  split
  · rename_i hk
    have hq : quB (prP P pr) li = true := (dB_t.mp hk).1
    exact Or.inr ⟨pr, hT hq, hl, rfl, rfl, rfl, rfl, ⟨_, _, rfl, rfl⟩, ⟨_, _, rfl, rfl⟩⟩
  · exact h
theorem inn_BS {T : List Nat → Prop} {f : Nat → bT → bT} {st : Nat} (h : ∀ c b b2, st ≤ c → c < 120 → ok c = true → BS T b b2 → BS T (f c b) (f c b2)) : ∀ k b b2, st + k ≤ 120 → BS T b b2 → BS T (inn ok f k b) (inn ok f k b2)
  | 0, _, _, _, hb => hb
  | k + 1, b, b2, hk, hb => by
    show BS T (inn ok f k (if ok (119 - k) = true then f (119 - k) b else b)) (inn ok f k (if ok (119 - k) = true then f (119 - k) b2 else b2))
    refine inn_BS h k _ _ (by omega) ?_
    split
    · rename_i e
      exact h _ _ _ (by omega) (by omega) e hb
    · exact hb
theorem srR_BS : ∀ (r st : Nat) (pr : List Nat) (T : List Nat → Prop) (b b2 : bT), pr.length + r ≤ 4 → (∀ q, chn ok r st pr q → quB (prP P q) li = true → T q) → BS T b b2 → BS T (srR ok (lkU P li) r st pr b) (srR ok (lkU P li) r st pr b2)
  | 0, st, pr, T, b, b2, hl, hT, h => lkU_BS (by omega) (hT pr rfl) h
  | r + 1, st, pr, T, b, b2, hl, hT, h => by
    show BS T (inn ok (fun c b => srR ok (lkU P li) r (10 * (c / 10) + 10) (c :: pr) b) (120 - st) b) (inn ok (fun c b => srR ok (lkU P li) r (10 * (c / 10) + 10) (c :: pr) b) (120 - st) b2)
    by_cases hst : st ≤ 120
    · exact inn_BS (st := st) (fun c b b2 h1 h2 h3 hb => srR_BS r (10 * (c / 10) + 10) (c :: pr) T b b2 (by rw [List.length_cons]; omega) (fun q hq => hT q ⟨c, h1, h2, h3, hq⟩) hb) (120 - st) b b2 (by omega) h
    · rw [show 120 - st = 0 by omega]
      exact h
def Tq (ok : Nat → Bool) (P : Nat → Int) (li : Int) (q : List Nat) : Prop := chn ok q.length 1 [] q ∧ quB (prP P q) li = true
theorem chn_len {r st : Nat} {pr q : List Nat} (h : chn ok r st pr q) : q.length = r + pr.length := by
  obtain ⟨s, h1, _, h3⟩ := asc_chn r st pr q h
  rw [h3, List.length_append, List.length_reverse, h1]
theorem Tq_of {r : Nat} {q : List Nat} (h : chn ok r 1 [] q) (h2 : quB (prP P q) li = true) : Tq ok P li q := by
  have e := chn_len h
  rw [List.length_nil, Nat.add_zero] at e
  exact ⟨by rw [e]; exact h, h2⟩
theorem Tq_Qt {q : List Nat} (h : Tq ok P li q) : Qt ok P li q.length := by
  obtain ⟨s, h1, h2, h3⟩ := asc_chn _ _ _ _ h.1
  rw [List.append_nil] at h3
  exact ⟨s, h1, h2, by rw [← h3]; exact h.2⟩
theorem fw_BS : ∀ (k : Nat) (b b2 : bT), k ≤ 5 → BS (Tq ok P li) b b2 → BS (Tq ok P li) (seS (fun n b => srR ok (lkU P li) n 1 [] b) k b) (seS (fun n b => srR ok (lkU P li) n 1 [] b) k b2)
  | 0, _, _, _, h => h
  | k + 1, b, b2, hk, h => by
    have ih := fw_BS k b b2 (by omega) h
    rw [seS_s, seS_s]
    have hs : BS (Tq ok P li) (srR ok (lkU P li) k 1 [] (seS (fun n b => srR ok (lkU P li) n 1 [] b) k b)) (srR ok (lkU P li) k 1 [] (seS (fun n b => srR ok (lkU P li) n 1 [] b) k b2)) := srR_BS k 1 [] _ _ _ (by rw [List.length_nil]; omega) (fun q hq h2 => Tq_of hq h2) ih
    rcases ih with ⟨e1, e2⟩ | ⟨q, h1, h2, e1, e2, h3⟩
    · rw [if_pos e1, if_pos e2]
      exact hs
    · rw [if_neg (by rw [e1]; exact nI_m1 h2), if_neg (by rw [e2]; exact nI_m1 h2)]
      exact Or.inr ⟨q, h1, h2, e1, e2, h3⟩
theorem fw_min (x : Int × Int × (Nat → Int32) × (Nat → Int32)) : ∀ k, k ≤ 5 → ((seS (fun n b => srR ok (lkU P li) n 1 [] b) k ((-1 : Int32), x)).1 = -1 ∧ ∀ n, n < k → ¬ Qt ok P li n) ∨ ∃ m, m < k ∧ (seS (fun n b => srR ok (lkU P li) n 1 [] b) k ((-1 : Int32), x)).1 = nI m ∧ Qt ok P li m ∧ ∀ n, n < m → ¬ Qt ok P li n
  | 0, _ => Or.inl ⟨rfl, fun n h => absurd h (Nat.not_lt_zero _)⟩
  | k + 1, hk => by
    rw [seS_s]
    rcases fw_min x k (by omega) with ⟨h1, h2⟩ | ⟨m, h1, h2, h3⟩
    · rw [if_pos h1]
      have hs : BS (fun q => chn ok k 1 [] q ∧ quB (prP P q) li = true) (srR ok (lkU P li) k 1 [] (seS (fun n b => srR ok (lkU P li) n 1 [] b) k ((-1 : Int32), x))) (srR ok (lkU P li) k 1 [] (seS (fun n b => srR ok (lkU P li) n 1 [] b) k ((-1 : Int32), x))) := srR_BS k 1 [] _ _ _ (by rw [List.length_nil]; omega) (fun q hq h2 => ⟨hq, h2⟩) (Or.inl ⟨h1, h1⟩)
      rcases hs with ⟨e, _⟩ | ⟨q, ⟨t1, t2⟩, t3, e, _⟩
      · refine Or.inl ⟨e, fun n hn ⟨s, s1, s2, s3⟩ => ?_⟩
        by_cases hnk : n = k
        · subst hnk
          have hc := chn_asc s 1 [] s2
          rw [List.append_nil, s1] at hc
          exact srR_find n 1 [] _ s.reverse (by rw [List.length_nil]; omega) (by omega) hc s3 e
        · exact h2 n (by omega) ⟨s, s1, s2, s3⟩
      · have el := chn_len t1
        rw [List.length_nil, Nat.add_zero] at el
        rw [el] at e
        have hQ := Tq_Qt (Tq_of t1 t2)
        rw [el] at hQ
        exact Or.inr ⟨k, by omega, e, hQ, h2⟩
    · rw [if_neg (by rw [h2]; exact nI_m1 (by omega))]
      exact Or.inr ⟨m, by omega, h2, h3⟩
end SRQ
/-! a greater limit -/
theorem sgI_mono {a a2 b : Int} (h : sgI a b ≤ 0) (ha : a2 ≤ a) (hb : -1000000000000 ≤ b ∧ b ≤ 1000000000000) : sgI a2 b ≤ 0 := by
  have hp : (1913445293767 : Int) * 1913445293767 = 3 * (1104728155436 * 1104728155436) + 1 := by decide
  rw [sg_ph hp (by omega) (by omega) (by omega)] at h ⊢
  have : a2 * 1104728155436 ≤ a * 1104728155436 := Int.mul_le_mul_of_nonneg_right ha (by omega)
  omega
theorem quB_mono {P : Nat → Int} (hP : bdP P) {l l2 : Int} (h0 : 0 ≤ l) (h1 : l ≤ l2) (h : quB P l = true) : quB P l2 = true := by
  have h2 := dB_t.mp h
  refine dB_t.mpr (sgI_mono h2 ?_ (by have := (sq_bd hP).2; omega))
  have h3 : l * l ≤ l2 * l2 := Int.mul_le_mul h1 h1 h0 (by omega)
  have e1 : 400 * l * l = 400 * (l * l) := Int.mul_assoc _ _ _
  have e2 : 400 * l2 * l2 = 400 * (l2 * l2) := Int.mul_assoc _ _ _
  omega
theorem asc_lt {ok : Nat → Bool} : ∀ (s : List Nat) (st : Nat), asc ok st s → ∀ c, c ∈ s → st ≤ c ∧ c < 120 ∧ ok c = true
  | [], _, _, c, h => absurd h List.not_mem_nil
  | d :: s, st, h, c, hc => by
    rcases List.mem_cons.mp hc with e | e
    · rw [e]; exact ⟨h.1, h.2.1, h.2.2.1⟩
    · have := asc_lt s _ h.2.2.2 c e
      have := h.1
      exact ⟨by omega, by omega, by simp_all⟩
theorem Qt_mono {ok : Nat → Bool} {P : Nat → Int} {l l2 : Int} {n : Nat} (hB : ∀ k, k < 4 → -(9000 * wB k) ≤ P k ∧ P k ≤ 9000 * wB k) (hn : n ≤ 4) (h0 : 0 ≤ l) (h1 : l ≤ l2) (h : Qt ok P l n) : Qt ok P l2 n := by
  obtain ⟨s, e1, e2, e3⟩ := h
  refine ⟨s, e1, e2, quB_mono (prP_bd4 hB (fun c hc => (asc_lt s 1 e2 c (List.mem_reverse.mp hc)).2.1) (by rw [List.length_reverse, e1]; exact hn)) h0 h1 e3⟩
theorem Qt_0 {ok : Nat → Bool} {P : Nat → Int} {l : Int} : Qt ok P l 0 ↔ quB P l = true := by
  constructor
  · rintro ⟨s, e1, _, e3⟩
    rw [List.length_eq_zero_iff.mp e1] at e3
    exact e3
  · intro h
    exact ⟨[], rfl, trivial, h⟩
