theorem inn_Q {Q : bT → Prop} {ok : Nat → Bool} {f : Nat → bT → bT} (h : ∀ c b, Q b → Q (f c b)) : ∀ k b, Q b → Q (inn ok f k b)
  | 0, _, hb => hb
  | k + 1, b, hb => by
    show Q (inn ok f k (if ok (119 - k) = true then f (119 - k) b else b))
    refine inn_Q h k _ ?_
    split
    · exact h _ _ hb
    · exact hb
theorem srR_Q {Q : bT → Prop} {ok : Nat → Bool} {lk : List Nat → bT → bT} (h : ∀ pr b, pr.length ≤ 4 → Q b → Q (lk pr b)) : ∀ (r st : Nat) (pr : List Nat) (b : bT), pr.length + r ≤ 4 → Q b → Q (srR ok lk r st pr b)
  | 0, _, pr, b, hl, hb => h pr b (by omega) hb
  | r + 1, st, pr, b, hl, hb => inn_Q (fun c b hb => srR_Q h r _ (c :: pr) b (by show pr.length + 1 + r ≤ 4; omega) hb) _ b hb
theorem seS_Q {Q : bT → Prop} {f : Nat → bT → bT} (h : ∀ n b, n ≤ 4 → Q b → Q (f n b)) : ∀ k b, k ≤ 5 → Q b → Q (seS f k b)
  | 0, _, _, hb => hb
  | k + 1, b, hk, hb => by
    have h1 := seS_Q h k b (by omega) hb
    rw [seS_s]
    split
    · exact h k _ (by omega) h1
    · exact h1
def bK (b : bT) : Prop := b.1 = -1 ∨ ∃ k, k ≤ 4 ∧ b.1 = nI k
theorem seK {P : Nat → Int} {li b0 b1 : Int} {ok : Nat → Bool} {ba bz : Nat → Int32} {w : Nat} (h : w ≤ 4) : bK (seS (fun n b => srR ok (lkU P li) n 1 [] b) (w + 1) ((-1 : Int32), b0, b1, ba, bz)) := by
  refine seS_Q (fun n b hn hb => srR_Q (fun pr b hl hb => ?_) n 1 [] b (by show 0 + n ≤ 4; omega) hb) (w + 1) _ (by omega) (Or.inl rfl)
  unfold lkU
  split
  · exact Or.inr ⟨pr.length, hl, rfl⟩
  · exact hb
theorem bK_e {b : bT} (h : bK b) {i : Nat} (hi : i ≤ aN b.1) (h2 : b.1.toInt ≤ (nI i).toInt) : aN b.1 = i := by
  rcases h with e | ⟨k, hk, e⟩
  · rw [e, show aN (-1) = 0 from rfl] at hi
    rw [e, show aN (-1) = 0 from rfl]
    omega
  · rw [e, aNn (n := 5) (by omega) (by decide)] at hi
    rw [e, nI_toInt (by omega), nI_toInt (by omega)] at h2
    rw [e, aNn (n := 5) (by omega) (by decide)]
    omega
theorem bK_l {b : bT} (h : bK b) {i : Nat} (hi : i ≤ aN b.1) (h2 : (nI i).toInt < b.1.toInt) : i < aN b.1 ∧ aN b.1 ≤ 4 := by
  rcases h with e | ⟨k, hk, e⟩
  · rw [e, show aN (-1) = 0 from rfl] at hi
    rw [e, show i = 0 by omega] at h2
    exact absurd h2 (by decide)
  · rw [e, aNn (n := 5) (by omega) (by decide)] at hi
    rw [e, nI_toInt (by omega), nI_toInt (by omega)] at h2
    rw [e, aNn (n := 5) (by omega) (by decide)]
    omega
/-- the angles of the holes found as bits, their sizes as digits -/
def fwM (a : Nat → Int32) : Nat → Int32
  | 0 => 0
  | i + 1 => fwM a i ||| ((1 : Int32) <<< (a i &&& 31))
def fwZ (s : Nat → Int32) : Nat → Int32
  | 0 => 0
  | i + 1 => 10 * fwZ s i + s i
def fwA (c : Nat) (b : bT) : Int32 := if c = 0 then b.1 else if c = 1 then fwM b.2.2.2.1 (aN b.1) else fwZ b.2.2.2.2 (aN b.1)
