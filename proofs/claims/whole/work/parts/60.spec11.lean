/-! what a search answers doesn't hang on what was found before it -/
def bR (b b2 : bT) : Prop := b.1 = b2.1 ∧ (¬ b.1 = -1 → b.2.1 = b2.2.1 ∧ b.2.2.1 = b2.2.2.1 ∧ ∀ i, i < aN b.1 → b.2.2.2.1 i = b2.2.2.2.1 i ∧ b.2.2.2.2 i = b2.2.2.2.2 i)
theorem chA_i {g g2 : Nat → Int32} : ∀ (pr : List Nat) (i : Nat), i < pr.length → chA pr g i = chA pr g2 i
  | [], i, h => absurd h (Nat.not_lt_zero _)
  | d :: tl, i, h => by
    by_cases e : i = tl.length
    · exact (if_pos e : chA (d :: tl) g i = _).trans (if_pos e : chA (d :: tl) g2 i = _).symm
    · exact (if_neg e : chA (d :: tl) g i = _).trans ((chA_i tl i (by simp at h; omega)).trans (if_neg e : chA (d :: tl) g2 i = _).symm)
theorem chZ_i {g g2 : Nat → Int32} : ∀ (pr : List Nat) (i : Nat), i < pr.length → chZ pr g i = chZ pr g2 i
  | [], i, h => absurd h (Nat.not_lt_zero _)
  | d :: tl, i, h => by
    by_cases e : i = tl.length
    · exact (if_pos e : chZ (d :: tl) g i = _).trans (if_pos e : chZ (d :: tl) g2 i = _).symm
    · exact (if_neg e : chZ (d :: tl) g i = _).trans ((chZ_i tl i (by simp at h; omega)).trans (if_neg e : chZ (d :: tl) g2 i = _).symm)
theorem lkB_R {P : Nat → Int} {li : Int} {b b2 : bT} (h : bR b b2) : lkB P li b.1 b.2.1 b.2.2.1 = lkB P li b2.1 b2.2.1 b2.2.2.1 := by
  by_cases e : b.1 = -1
  · have e2 : b2.1 = -1 := h.1.symm.trans e
    cases hq : quB P li with
    | false => rw [lkB_f1 hq, lkB_f1 hq]
    | true => rw [lkB_t hq (Or.inl e), lkB_t hq (Or.inl e2)]
  · obtain ⟨h1, h2, _⟩ := h.2 e
    rw [h.1, h1, h2]
theorem lkU_R {P : Nat → Int} {li : Int} {b b2 : bT} {pr : List Nat} (h : bR b b2) (hl : pr.length ≤ 4) : bR (lkU P li pr b) (lkU P li pr b2) := by
  unfold lkU
  rw [lkB_R h]
  split
  · refine ⟨rfl, fun _ => ⟨rfl, rfl, fun i hi => ?_⟩⟩
    replace hi : i < aN (nI pr.length) := hi
    rw [aNn (n := 5) (by omega) (by decide)] at hi
    exact ⟨chA_i pr i hi, chZ_i pr i hi⟩
  · exact h
theorem inn_R {ok : Nat → Bool} {f : Nat → bT → bT} (h : ∀ c b b2, bR b b2 → bR (f c b) (f c b2)) : ∀ k b b2, bR b b2 → bR (inn ok f k b) (inn ok f k b2)
  | 0, _, _, hb => hb
  | k + 1, b, b2, hb => by
    show bR (inn ok f k (if ok (119 - k) = true then f (119 - k) b else b)) (inn ok f k (if ok (119 - k) = true then f (119 - k) b2 else b2))
    refine inn_R h k _ _ ?_
    split
    · exact h _ _ _ hb
    · exact hb
theorem srR_R {ok : Nat → Bool} {lk : List Nat → bT → bT} (h : ∀ pr b b2, pr.length ≤ 4 → bR b b2 → bR (lk pr b) (lk pr b2)) : ∀ (r st : Nat) (pr : List Nat) (b b2 : bT), pr.length + r ≤ 4 → bR b b2 → bR (srR ok lk r st pr b) (srR ok lk r st pr b2)
  | 0, _, pr, b, b2, hl, hb => h pr b b2 (by omega) hb
  | r + 1, st, pr, b, b2, hl, hb => by
    show bR (inn ok (fun c b => srR ok lk r (10 * (c / 10) + 10) (c :: pr) b) (120 - st) b) (inn ok (fun c b => srR ok lk r (10 * (c / 10) + 10) (c :: pr) b) (120 - st) b2)
    refine inn_R (ok := ok) (f := fun c b => srR ok lk r (10 * (c / 10) + 10) (c :: pr) b) (fun c b b2 hb => ?_) (120 - st) b b2 hb
    exact srR_R h r (10 * (c / 10) + 10) (c :: pr) b b2 (by show pr.length + 1 + r ≤ 4; omega) hb
theorem seS_R {f : Nat → bT → bT} (h : ∀ n b b2, n ≤ 4 → bR b b2 → bR (f n b) (f n b2)) : ∀ k b b2, k ≤ 5 → bR b b2 → bR (seS f k b) (seS f k b2)
  | 0, _, _, _, hb => hb
  | k + 1, b, b2, hk, hb => by
    have h1 := seS_R h k b b2 (by omega) hb
    rw [seS_s, seS_s, h1.1]
    split
    · exact h k _ _ (by omega) h1
    · exact h1
theorem fwM_R {a a2 : Nat → Int32} : ∀ n, (∀ i, i < n → a i = a2 i) → fwM a n = fwM a2 n
  | 0, _ => rfl
  | n + 1, h => by
    show fwM a n ||| ((1 : Int32) <<< (a n &&& 31)) = fwM a2 n ||| ((1 : Int32) <<< (a2 n &&& 31))
    rw [fwM_R n (fun i hi => h i (by omega)), h n (by omega)]
theorem fwZ_R {a a2 : Nat → Int32} : ∀ n, (∀ i, i < n → a i = a2 i) → fwZ a n = fwZ a2 n
  | 0, _ => rfl
  | n + 1, h => by
    show 10 * fwZ a n + a n = 10 * fwZ a2 n + a2 n
    rw [fwZ_R n (fun i hi => h i (by omega)), h n (by omega)]
theorem fwA_R {c : Nat} {b b2 : bT} (h : bR b b2) : fwA c b = fwA c b2 := by
  unfold fwA
  by_cases e : b.1 = -1
  · rw [← h.1, e]; rfl
  · have h3 := (h.2 e).2.2
    rw [← h.1, fwM_R _ (fun i hi => (h3 i hi).1), fwZ_R _ (fun i hi => (h3 i hi).2)]
/-- the search's end, begun with nothing -/
noncomputable def seB (P : Nat → Int) (li : Int) (ok : Nat → Bool) (w : Nat) : bT := seS (fun n b => srR ok (lkU P li) n 1 [] b) (w + 1) ((-1 : Int32), 0, 0, fun _ => 0, fun _ => 0)
theorem seB_R {P : Nat → Int} {li b0 b1 : Int} {ok : Nat → Bool} {ba bz : Nat → Int32} {w : Nat} (h : w ≤ 4) : bR (seS (fun n b => srR ok (lkU P li) n 1 [] b) (w + 1) ((-1 : Int32), b0, b1, ba, bz)) (seB P li ok w) := by
  unfold seB
  refine seS_R (f := fun n b => srR ok (lkU P li) n 1 [] b) (fun n b b2 hn hb => ?_) (w + 1) ((-1 : Int32), b0, b1, ba, bz) ((-1 : Int32), 0, 0, fun _ => 0, fun _ => 0) (by omega) ⟨rfl, fun h => absurd rfl h⟩
  exact srR_R (lk := lkU P li) (fun pr b b2 hl hb => lkU_R hb hl) n 1 [] b b2 (by show 0 + n ≤ 4; omega) hb
theorem seB_B {P : Nat → Int} {li b0 b1 : Int} {ok : Nat → Bool} {ba bz : Nat → Int32} {w : Nat} (hP : ∀ k, k < 4 → -(9000 * wB k) ≤ P k ∧ P k ≤ 9000 * wB k) (h : w ≤ 4) (hb : bB ((-1 : Int32), b0, b1, ba, bz)) : bB (seS (fun n b => srR ok (lkU P li) n 1 [] b) (w + 1) ((-1 : Int32), b0, b1, ba, bz)) := by
  have h2 : ∀ k, k ≤ 5 → bB (seS (fun n b => srR ok (lkU P li) n 1 [] b) k ((-1 : Int32), b0, b1, ba, bz)) := by
    intro k
    induction k with
    | zero => intro _; exact hb
    | succ k ih =>
      intro hk
      rw [seS_s]
      split
      · exact srR_B hP k 1 [] _ (fun c h => absurd h List.not_mem_nil) (by show 0 + k ≤ 4; omega) (ih (by omega))
      · exact ih (by omega)
  exact h2 _ (by omega)
/-! what a split answers -/
def spR (m : Int32) (a : Nat) (mq : Int32) (cc : Nat) : Int32 :=
  if lgX m a = 1 then spA a mq cc
  else if 6 ≤ faN m a false 12 + faN m a true 12 then -3
  else if nI (cc % 4) = 0 then (if nI cc = 0 then nI ((a + 12 - faN m a false 12) % 12) else nI ((a + faN m a true 12) % 12))
  else if cc < 4 then (shB (cc % 4 - 1) (shN mq (faN m a true 12) (faN m a false 12 + faN m a true 12))).toInt32
  else (shB (cc % 4 - 1) (shN mq (faN m a false 12) (faN m a false 12 + faN m a true 12))).toInt32
theorem spZ_1 {m : Int32} {a : Nat} {mq : Int32} {cc : Nat} {nu : Nat → Int64} : (spZ m a mq cc nu).1 = spR m a mq cc := by
  unfold spZ spR
  split
  · rfl
  · split
    · rfl
    · split
      · split <;> rfl
      · split
        · rw [getN_same]
        · rw [getN_same]
theorem spZ_2 {m : Int32} {a : Nat} {mq : Int32} {cc : Nat} {nu : Nat → Int64} (h : nI (cc % 4) = 0) : (spZ m a mq cc nu).2 = nu := by
  unfold spZ
  by_cases h1 : lgX m a = 1
  · rw [if_pos h1]
  · rw [if_neg h1]
    by_cases h2 : 6 ≤ faN m a false 12 + faN m a true 12
    · rw [if_pos h2]
    · rw [if_neg h2, if_pos h]
      by_cases h3 : nI cc = 0
      · rw [if_pos h3]
      · rw [if_neg h3]
theorem spZ_K {m : Int32} {a : Nat} {mq : Int32} {cc : Nat} {nu : Nat → Int64} : keepN [29] nu (spZ m a mq cc nu).2 := by
  unfold spZ
  split
  · exact keepN.rf
  · split
    · exact keepN.rf
    · split
      · split <;> exact keepN.rf
      · split <;> exact keepN.rf.set (by simp) _
/-! what one plane tells -/
def ptA (P : Nat → Int) (d : Int64) : Nat → Int64
  | 0 => d
  | k + 1 => 31 * ptA P d k + plV P k
def ptB (m : Int32) (ho : Nat → Int32) (p : Nat) (d : Int64) : Nat → Int64
  | 0 => d
  | k + 1 => 31 * (31 * (31 * ptB m ho p d k + (ho (12 * p + k)).toInt64) + (spR m k 5 0).toInt64) + (spR m k 5 4).toInt64
noncomputable def ptC (b : bT) (d : Int64) : Nat → Int64
  | 0 => d
  | k + 1 => 31 * ptC b d k + (fwA k b).toInt64
noncomputable def ptV (dr : Int32) (li : Int) (P : Nat → Int) (le ho : Nat → Int32) (p : Nat) (d : Int64) : Int64 := ptC (seB P li (okC dr p le ho) 2) (ptB (le p) ho p (ptA P d 10) 12) 3
