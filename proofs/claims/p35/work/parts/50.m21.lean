noncomputable def dkK (p w : Int32) : Bool := dB (inI p 2 = true ∧ inI w 5 = true)
def dhS (p : Nat) (b : bT) : Nat → (Nat → Int32) → Nat → Int32
  | 0, ho => ho
  | i + 1, ho => upd (dhS p b i ho) (12 * p + aN (b.2.2.2.1 i)) (b.2.2.2.2 i)
def bA (b : bT) : Prop := ∀ i, i < aN b.1 → ∃ c, c < 120 ∧ b.2.2.2.1 i = nI (c / 10) ∧ b.2.2.2.2 i = nI (c % 10)
theorem ch_i {g g2 : Nat → Int32} : ∀ (pr : List Nat), (∀ c, c ∈ pr → c < 120) → ∀ i, i < pr.length → ∃ c, c < 120 ∧ chA pr g i = nI (c / 10) ∧ chZ pr g2 i = nI (c % 10)
  | [], _, i, h => absurd h (Nat.not_lt_zero _)
  | d :: tl, hc, i, h => by
    by_cases e : i = tl.length
    · exact ⟨d, hc d (List.mem_cons_self ..), if_pos e, if_pos e⟩
    · obtain ⟨c, h1, h2, h3⟩ := ch_i (g := g) (g2 := g2) tl (fun c h9 => hc c (List.mem_cons_of_mem _ h9)) i (by simp at h; omega)
      exact ⟨c, h1, (if_neg e).trans h2, (if_neg e).trans h3⟩
theorem inn_Q2 {Q : bT → Prop} {ok : Nat → Bool} {f : Nat → bT → bT} (h : ∀ c b, c < 120 → Q b → Q (f c b)) : ∀ k b, Q b → Q (inn ok f k b)
  | 0, _, hb => hb
  | k + 1, b, hb => by
    show Q (inn ok f k (if ok (119 - k) = true then f (119 - k) b else b))
    refine inn_Q2 h k _ ?_
    split
    · exact h _ _ (by omega) hb
    · exact hb
theorem srR_Q2 {Q : bT → Prop} {ok : Nat → Bool} {lk : List Nat → bT → bT} (h : ∀ pr b, (∀ c, c ∈ pr → c < 120) → pr.length ≤ 4 → Q b → Q (lk pr b)) : ∀ (r st : Nat) (pr : List Nat) (b : bT), (∀ c, c ∈ pr → c < 120) → pr.length + r ≤ 4 → Q b → Q (srR ok lk r st pr b)
  | 0, _, pr, b, hc, hl, hb => h pr b hc (by omega) hb
  | r + 1, st, pr, b, hc, hl, hb => inn_Q2 (fun c b hc2 hb => srR_Q2 h r _ (c :: pr) b (fun d hd => by
      rcases List.mem_cons.mp hd with e | e
      · rw [e]; exact hc2
      · exact hc d e) (by show pr.length + 1 + r ≤ 4; omega) hb) _ b hb
theorem seA {P : Nat → Int} {li b0 b1 : Int} {ok : Nat → Bool} {ba bz : Nat → Int32} {w : Nat} (h : w ≤ 4) : bA (seS (fun n b => srR ok (lkU P li) n 1 [] b) (w + 1) ((-1 : Int32), b0, b1, ba, bz)) := by
  refine seS_Q (fun n b hn hb => srR_Q2 (fun pr b hc hl hb => ?_) n 1 [] b (fun c h => absurd h List.not_mem_nil) (by show 0 + n ≤ 4; omega) hb) (w + 1) _ (by omega) (fun i hi => absurd hi (Nat.not_lt_zero _))
  unfold lkU
  split
  · intro i hi
    rw [show aN (nI pr.length) = pr.length from aNn (n := 5) (by omega) (by decide)] at hi
    exact ch_i pr hc i hi
  · exact hb
