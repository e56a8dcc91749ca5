/-! the search for a set of holes -/
abbrev bT : Type := Int32 × Int × Int × (Nat → Int32) × (Nat → Int32)
/-- the pulls with a chain of holes (the newest first) -/
def prP (P : Nat → Int) : List Nat → Nat → Int
  | [], k => P k
  | c :: tl, k => prP P tl k + -10 * ((c % 10 : Nat) : Int) * wI (c / 10) k
def chA : List Nat → (Nat → Int32) → Nat → Int32
  | [], g => g
  | c :: tl, g => upd (chA tl g) tl.length (nI (c / 10))
def chZ : List Nat → (Nat → Int32) → Nat → Int32
  | [], g => g
  | c :: tl, g => upd (chZ tl g) tl.length (nI (c % 10))
noncomputable def lkU (P : Nat → Int) (li : Int) (pr : List Nat) (b : bT) : bT :=
  if lkB (prP P pr) li b.1 b.2.1 b.2.2.1 = true then (nI pr.length, sqI (prP P pr) 0, sqI (prP P pr) 1, chA pr b.2.2.2.1, chZ pr b.2.2.2.2) else b
/-- a chain and the two lists that hold it -/
def okS (sa ss : Nat → Int32) : List Nat → Prop
  | [] => True
  | c :: tl => sa tl.length = nI (c / 10) ∧ ss tl.length = nI (c % 10) ∧ c < 120 ∧ okS sa ss tl
theorem okS_up {sa ss sa2 ss2 : Nat → Int32} : ∀ {pr : List Nat}, okS sa ss pr → (∀ j, j < pr.length → sa2 j = sa j ∧ ss2 j = ss j) → okS sa2 ss2 pr
  | [], _, _ => trivial
  | c :: tl, h, h2 => by
    have h3 := h2 tl.length (by simp)
    exact ⟨h3.1.trans h.1, h3.2.trans h.2.1, h.2.2.1, okS_up h.2.2.2 (fun j hj => h2 j (by simp; omega))⟩
theorem okS_A {sa ss : Nat → Int32} {g : Nat → Int32} : ∀ {pr : List Nat}, okS sa ss pr → cpN pr.length sa g = chA pr g
  | [], _ => rfl
  | c :: tl, h => by
    show cpN (tl.length + 1) sa g = upd (chA tl g) tl.length (nI (c / 10))
    rw [← cpN_s, okS_A h.2.2.2, h.1]
theorem okS_Z {sa ss : Nat → Int32} {g : Nat → Int32} : ∀ {pr : List Nat}, okS sa ss pr → cpN pr.length ss g = chZ pr g
  | [], _ => rfl
  | c :: tl, h => by
    show cpN (tl.length + 1) ss g = upd (chZ tl g) tl.length (nI (c % 10))
    rw [← cpN_s, okS_Z h.2.2.2, h.2.1]
/-- all codes that are left, k of them, from 120 - k on -/
def inn (ok : Nat → Bool) (f : Nat → bT → bT) : Nat → bT → bT
  | 0, b => b
  | k + 1, b => inn ok f k (if ok (119 - k) = true then f (119 - k) b else b)
/-- all chains of r holes more from code st on -/
def srR (ok : Nat → Bool) (lk : List Nat → bT → bT) : Nat → Nat → List Nat → bT → bT
  | 0, _, pr, b => lk pr b
  | r + 1, st, pr, b => inn ok (fun c b => srR ok lk r (10 * (c / 10) + 10) (c :: pr) b) (120 - st) b
def srF (ok : Nat → Bool) (lk : List Nat → bT → bT) : List Nat → Nat → Nat → bT → bT
  | [], r, st, b => srR ok lk r st [] b
  | c :: tl, r, st, b => srF ok lk tl (r + 1) (c + 1) (srR ok lk r st (c :: tl) b)
theorem nxT_120 {ok : Nat → Bool} {c : Nat} (h : 120 ≤ c) : nxT ok c = c := by
  unfold nxT
  rw [show 120 - c = 0 by omega]
  rfl
theorem inn_hit {ok : Nat → Bool} {f : Nat → bT → bT} {b : bT} {c : Nat} : ∀ (k st : Nat), 120 - st = k → nxT ok st = c → c < 120 → inn ok f (120 - st) b = inn ok f (120 - (c + 1)) (f c b)
  | 0, st, hk, h, hc => by rw [nxT_120 (by omega)] at h; omega
  | k + 1, st, hk, h, hc => by
    rw [nxT_s (by omega)] at h
    rw [hk]
    show inn ok f k (if ok (119 - k) = true then f (119 - k) b else b) = _
    rw [show 119 - k = st by omega]
    split at h
    · next h1 =>
      subst h
      rw [if_pos h1, show k = 120 - (st + 1) by omega]
    · next h1 =>
      rw [if_neg h1, show k = 120 - (st + 1) by omega]
      exact inn_hit k (st + 1) (by omega) h hc
theorem inn_miss {ok : Nat → Bool} {f : Nat → bT → bT} {b : bT} : ∀ (k st : Nat), 120 - st = k → 120 ≤ nxT ok st → inn ok f (120 - st) b = b
  | 0, st, hk, h => by rw [hk]; rfl
  | k + 1, st, hk, h => by
    rw [nxT_s (by omega)] at h
    rw [hk]
    show inn ok f k (if ok (119 - k) = true then f (119 - k) b else b) = _
    rw [show 119 - k = st by omega]
    split at h
    · omega
    · next h1 =>
      rw [if_neg h1, show k = 120 - (st + 1) by omega]
      exact inn_miss k (st + 1) (by omega) h
theorem srR_hit {ok : Nat → Bool} {lk : List Nat → bT → bT} {r st c : Nat} {pr : List Nat} {b : bT} (h : nxT ok st = c) (hc : c < 120) : srR ok lk (r + 1) st pr b = srR ok lk (r + 1) (c + 1) pr (srR ok lk r (10 * (c / 10) + 10) (c :: pr) b) := inn_hit _ st rfl h hc
theorem srR_miss {ok : Nat → Bool} {lk : List Nat → bT → bT} {r st : Nat} {pr : List Nat} {b : bT} (h : 120 ≤ nxT ok st) : srR ok lk (r + 1) st pr b = b := inn_miss _ st rfl h
/-- a found hole: the last of a chain, or not -/
theorem srF_leaf {ok : Nat → Bool} {lk : List Nat → bT → bT} {st c : Nat} {b : bT} (h : nxT ok st = c) (hc : c < 120) : ∀ pr : List Nat, srF ok lk pr 1 st b = srF ok lk pr 1 (c + 1) (lk (c :: pr) b)
  | [] => srR_hit (r := 0) h hc
  | d :: tl => by
    show srF ok lk tl 2 (d + 1) (srR ok lk 1 st (d :: tl) b) = srF ok lk tl 2 (d + 1) (srR ok lk 1 (c + 1) (d :: tl) (lk (c :: d :: tl) b))
    rw [srR_hit (r := 0) h hc]
    rfl
theorem srF_down {ok : Nat → Bool} {lk : List Nat → bT → bT} {r st c : Nat} {b : bT} (h : nxT ok st = c) (hc : c < 120) : ∀ pr : List Nat, srF ok lk pr (r + 1) st b = srF ok lk (c :: pr) r (10 * (c / 10) + 10) b
  | [] => srR_hit h hc
  | d :: tl => by
    show srF ok lk tl (r + 2) (d + 1) (srR ok lk (r + 1) st (d :: tl) b) = srF ok lk tl (r + 2) (d + 1) (srR ok lk (r + 1) (c + 1) (d :: tl) (srR ok lk r (10 * (c / 10) + 10) (c :: d :: tl) b))
    rw [srR_hit h hc]
theorem srF_up {ok : Nat → Bool} {lk : List Nat → bT → bT} {r st d : Nat} {b : bT} {tl : List Nat} (h : 120 ≤ nxT ok st) : srF ok lk (d :: tl) (r + 1) st b = srF ok lk tl (r + 2) (d + 1) b := by
  show srF ok lk tl (r + 2) (d + 1) (srR ok lk (r + 1) st (d :: tl) b) = _
  rw [srR_miss h]
theorem srF_end {ok : Nat → Bool} {lk : List Nat → bT → bT} {r st : Nat} {b : bT} (h : 120 ≤ nxT ok st) : srF ok lk [] (r + 1) st b = b := srR_miss h
/-! how many steps that takes at most -/
def stV (f : Nat → Nat) : Nat → Nat
  | 0 => 1
  | k + 1 => stV f k + 1 + f (10 * (k / 10))
def stW : Nat → Nat → Nat
  | 0 => fun _ => 0
  | r + 1 => stV (stW r)
theorem stW_s (r k : Nat) : stW (r + 1) (k + 1) = stW (r + 1) k + 1 + stW r (10 * (k / 10)) := rfl
def stF : List Nat → Nat → Nat → Nat
  | [], r, st => stW r (120 - st)
  | c :: tl, r, st => stF tl (r + 1) (c + 1) + stW r (120 - st)
theorem stW_1 (r : Nat) : ∀ k : Nat, 1 ≤ stW (r + 1) k
  | 0 => Nat.le_refl 1
  | k + 1 => by rw [stW_s]; omega
theorem stW_mono {r : Nat} : ∀ {k j : Nat}, k ≤ j → stW (r + 1) k ≤ stW (r + 1) j
  | k, 0, h => by rw [show k = 0 by omega]; exact Nat.le_refl _
  | k, j + 1, h => by
    by_cases e : k = j + 1
    · rw [e]; exact Nat.le_refl _
    · have := stW_mono (r := r) (k := k) (j := j) (by omega)
      rw [stW_s]
      omega
theorem stW_hit {r st c : Nat} (hs : st ≤ c) (hc : c < 120) : stW (r + 1) (120 - (c + 1)) + 1 + stW r (120 - (10 * (c / 10) + 10)) ≤ stW (r + 1) (120 - st) := by
  have h := stW_mono (r := r) (k := 120 - (c + 1) + 1) (j := 120 - st) (by omega)
  rw [stW_s, show 10 * ((120 - (c + 1)) / 10) = 120 - (10 * (c / 10) + 10) by omega] at h
  exact h
theorem nxT_ge {ok : Nat → Bool} : ∀ (k c : Nat), 120 - c = k → c ≤ nxT ok c
  | 0, c, h => by rw [nxT_120 (by omega)]; exact Nat.le_refl _
  | k + 1, c, h => by
    rw [nxT_s (by omega)]
    split
    · exact Nat.le_refl _
    · have := nxT_ge (ok := ok) k (c + 1) (by omega)
      omega
theorem stF_leaf {st c : Nat} (hs : st ≤ c) (hc : c < 120) : ∀ pr : List Nat, stF pr 1 (c + 1) + 1 ≤ stF pr 1 st
  | [] => by have h : stW 1 (120 - (c + 1)) + 1 + 0 ≤ stW 1 (120 - st) := stW_hit (r := 0) hs hc; show stW 1 _ + 1 ≤ stW 1 _; omega
  | d :: tl => by have h : stW 1 (120 - (c + 1)) + 1 + 0 ≤ stW 1 (120 - st) := stW_hit (r := 0) hs hc; show stF tl 2 (d + 1) + stW 1 _ + 1 ≤ stF tl 2 (d + 1) + stW 1 _; omega
theorem stF_down {r st c : Nat} (hs : st ≤ c) (hc : c < 120) : ∀ pr : List Nat, stF (c :: pr) r (10 * (c / 10) + 10) + 1 ≤ stF pr (r + 1) st
  | [] => by have := stW_hit (r := r) hs hc; show stW (r + 1) _ + stW r _ + 1 ≤ stW (r + 1) _; omega
  | d :: tl => by have := stW_hit (r := r) hs hc; show stF tl (r + 2) (d + 1) + stW (r + 1) _ + stW r _ + 1 ≤ stF tl (r + 2) (d + 1) + stW (r + 1) _; omega
theorem stF_up {r st d : Nat} (tl : List Nat) : stF tl (r + 2) (d + 1) + 1 ≤ stF (d :: tl) (r + 1) st := by
  have := stW_1 r (120 - st)
  show _ ≤ stF tl (r + 2) (d + 1) + stW (r + 1) _
  omega
theorem stF_1 {r st : Nat} : ∀ pr : List Nat, 1 ≤ stF pr (r + 1) st
  | [] => stW_1 _ _
  | d :: tl => by have := stW_1 r (120 - st); show 1 ≤ _ + stW (r + 1) _; omega
theorem stW_b (r a : Nat) : ∀ b, b ≤ 10 → stW (r + 1) (10 * a + b) = stW (r + 1) (10 * a) + b * (1 + stW r (10 * a))
  | 0, _ => by rw [Nat.zero_mul]; rfl
  | b + 1, h => by
    rw [show 10 * a + (b + 1) = 10 * a + b + 1 by omega, stW_s, stW_b r a b (by omega), show 10 * ((10 * a + b) / 10) = 10 * a by omega, Nat.add_mul b 1]
    omega
def stX (f : Nat → Nat) : Nat → Nat
  | 0 => 1
  | a + 1 => stX f a + 10 * (1 + f a)
def stY : Nat → Nat → Nat
  | 0 => fun _ => 0
  | r + 1 => stX (stY r)
theorem stW_Y : ∀ r a : Nat, stW r (10 * a) = stY r a
  | 0, _ => rfl
  | r + 1, 0 => rfl
  | r + 1, a + 1 => by
    have h1 := stW_b r a 10 (Nat.le_refl _)
    rw [show 10 * (a + 1) = 10 * a + 10 by omega, h1, stW_Y (r + 1) a, stW_Y r a]
    rfl
theorem stW_le : ∀ r, r < 5 → stW r 119 ≤ 9000000 := fun r hr => by
  rcases (show r = 0 ∨ ∃ q, r = q + 1 by cases r with | zero => exact Or.inl rfl | succ q => exact Or.inr ⟨q, rfl⟩) with rfl | ⟨q, rfl⟩
  · exact Nat.zero_le _
  · have h := stW_mono (r := q) (k := 119) (j := 10 * 12) (by decide)
    rw [stW_Y] at h
    have h2 : ∀ q, q < 4 → stY (q + 1) 12 ≤ 9000000 := by decide +kernel
    exact Nat.le_trans h (h2 q (by omega))
/-! what a chain does to the pulls -/
theorem prP_bd {P : Nat → Int} (h : ∀ k, k < 4 → -(9000 * wB k) ≤ P k ∧ P k ≤ 9000 * wB k) : ∀ pr : List Nat, (∀ c, c ∈ pr → c < 120) → ∀ k, k < 4 → -(9000 * wB k + 90 * wB k * pr.length) ≤ prP P pr k ∧ prP P pr k ≤ 9000 * wB k + 90 * wB k * pr.length
  | [], _, k, hk => by
    have := h k hk
    show -(9000 * wB k + 90 * wB k * ((0 : Nat) : Int)) ≤ P k ∧ P k ≤ 9000 * wB k + 90 * wB k * ((0 : Nat) : Int)
    omega
  | c :: tl, hc, k, hk => by
    have h1 := prP_bd h tl (fun c hc2 => hc c (List.mem_cons_of_mem _ hc2)) k hk
    have h2 := hc c (List.mem_cons_self ..)
    have h3 := wI_B (a := c / 10) (k := k) (by omega) hk
    have h4 := mul_bd (x := -10 * ((c % 10 : Nat) : Int)) (X := 90) (by omega) h3
    show -(9000 * wB k + 90 * wB k * ((tl.length + 1 : Nat) : Int)) ≤ prP P tl k + -10 * ((c % 10 : Nat) : Int) * wI (c / 10) k ∧ prP P tl k + -10 * ((c % 10 : Nat) : Int) * wI (c / 10) k ≤ 9000 * wB k + 90 * wB k * ((tl.length + 1 : Nat) : Int)
    rw [Int.natCast_add, Int.mul_add]
    omega
theorem prP_bd4 {P : Nat → Int} (h : ∀ k, k < 4 → -(9000 * wB k) ≤ P k ∧ P k ≤ 9000 * wB k) {pr : List Nat} (hc : ∀ c, c ∈ pr → c < 120) (hl : pr.length ≤ 4) : bdP (prP P pr) := by
  have h0 := prP_bd h pr hc 0 (by decide)
  have h1 := prP_bd h pr hc 1 (by decide)
  have h2 := prP_bd h pr hc 2 (by decide)
  have h3 := prP_bd h pr hc 3 (by decide)
  have w0 : wB 0 = 2 := rfl
  have w1 : wB 1 = 1 := rfl
  have w2 : wB 2 = 2 := rfl
  have w3 : wB 3 = 1 := rfl
  rw [w0] at h0
  rw [w1] at h1
  rw [w2] at h2
  rw [w3] at h3
  exact ⟨by omega, by omega, by omega, by omega⟩
theorem okS_lt {sa ss : Nat → Int32} : ∀ {pr : List Nat}, okS sa ss pr → ∀ c, c ∈ pr → c < 120
  | [], _, c, h => absurd h (List.not_mem_nil)
  | d :: tl, h, c, hc => by
    rcases List.mem_cons.mp hc with e | e
    · rw [e]; exact h.2.2.1
    · exact okS_lt h.2.2.2 c e
def bB (b : bT) : Prop := (0 ≤ b.2.1 ∧ b.2.1 ≤ 1270000000) ∧ (-730000000 ≤ b.2.2.1 ∧ b.2.2.1 ≤ 730000000)
theorem lkU_B {P : Nat → Int} {li : Int} {pr : List Nat} {b : bT} (h : bB b) (h2 : bdP (prP P pr)) : bB (lkU P li pr b) := by
  unfold lkU
  split
  · exact sq_bd h2
  · exact h
