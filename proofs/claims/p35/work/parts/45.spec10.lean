/-! the search for a set of holes -/
abbrev bT : Type := Int32 × Int × Int × (Nat → Int32) × (Nat → Int32)
/-- the pulls with a chain of holes (the newest first) -/
def prP (P : Nat → Int) : List Nat → Nat → Int
  | [], k => P k
  | c :: tl, k => prP P tl k + -10 * ((c % 10 : Nat) : Int) * wI (c / 10) k
def chA : List Nat → (Nat → Int32) → Nat → Int32
  | [], g => g
  | c :: tl, g => upd (chA tl g) tl.length (nI (c / 10))
def chZ : List Nat → (Nat → Int32) → Nat → Int32
  | [], g => g
  | c :: tl, g => upd (chZ tl g) tl.length (nI (c % 10))
noncomputable def lkU (P : Nat → Int) (li : Int) (pr : List Nat) (b : bT) : bT :=
  if lkB (prP P pr) li b.1 b.2.1 b.2.2.1 = true then (nI pr.length, sqI (prP P pr) 0, sqI (prP P pr) 1, chA pr b.2.2.2.1, chZ pr b.2.2.2.2) else b
/-- a chain and the two lists that hold it -/
def okS (sa ss : Nat → Int32) : List Nat → Prop
  | [] => True
  | c :: tl => sa tl.length = nI (c / 10) ∧ ss tl.length = nI (c % 10) ∧ c < 120 ∧ okS sa ss tl
theorem okS_up {sa ss sa2 ss2 : Nat → Int32} : ∀ {pr : List Nat}, okS sa ss pr → (∀ j, j < pr.length → sa2 j = sa j ∧ ss2 j = ss j) → okS sa2 ss2 pr
  | [], _, _ => trivial
  | c :: tl, h, h2 => by
    have h3 := h2 tl.length (by simp)
    exact ⟨h3.1.trans h.1, h3.2.trans h.2.1, h.2.2.1, okS_up h.2.2.2 (fun j hj => h2 j (by simp; omega))⟩
theorem okS_A {sa ss : Nat → Int32} {g : Nat → Int32} : ∀ {pr : List Nat}, okS sa ss pr → cpN pr.length sa g = chA pr g
  | [], _ => rfl
  | c :: tl, h => by
    show cpN (tl.length + 1) sa g = upd (chA tl g) tl.length (nI (c / 10))
    rw [← cpN_s, okS_A h.2.2.2, h.1]
theorem okS_Z {sa ss : Nat → Int32} {g : Nat → Int32} : ∀ {pr : List Nat}, okS sa ss pr → cpN pr.length ss g = chZ pr g
  | [], _ => rfl
  | c :: tl, h => by
    show cpN (tl.length + 1) ss g = upd (chZ tl g) tl.length (nI (c % 10))
    rw [← cpN_s, okS_Z h.2.2.2, h.2.1]
/-- all codes that are left, k of them, from 120 - k on -/
def inn (ok : Nat → Bool) (f : Nat → bT → bT) : Nat → bT → bT
  | 0, b => b
  | k + 1, b => inn ok f k (if ok (119 - k) = true then f (119 - k) b else b)
/-- all chains of r holes more from code st on -/
def srR (ok : Nat → Bool) (lk : List Nat → bT → bT) : Nat → Nat → List Nat → bT → bT
  | 0, _, pr, b => lk pr b
  | r + 1, st, pr, b => inn ok (fun c b => srR ok lk r (10 * (c / 10) + 10) (c :: pr) b) (120 - st) b
/-! how many steps that takes at most -/
/-! what a chain does to the pulls -/
theorem prP_bd {P : Nat → Int} (h : ∀ k, k < 4 → -(9000 * wB k) ≤ P k ∧ P k ≤ 9000 * wB k) : ∀ pr : List Nat, (∀ c, c ∈ pr → c < 120) → ∀ k, k < 4 → -(9000 * wB k + 90 * wB k * pr.length) ≤ prP P pr k ∧ prP P pr k ≤ 9000 * wB k + 90 * wB k * pr.length
  | [], _, k, hk => by
    have := h k hk
    show -(9000 * wB k + 90 * wB k * ((0 : Nat) : Int)) ≤ P k ∧ P k ≤ 9000 * wB k + 90 * wB k * ((0 : Nat) : Int)
    omega
  | c :: tl, hc, k, hk => by
    have h1 := prP_bd h tl (fun c hc2 => hc c (List.mem_cons_of_mem _ hc2)) k hk
    have h2 := hc c (List.mem_cons_self ..)
    have h3 := wI_B (a := c / 10) (k := k) (by omega) hk
    have h4 := mul_bd (x := -10 * ((c % 10 : Nat) : Int)) (X := 90) (by omega) h3
    show -(9000 * wB k + 90 * wB k * ((tl.length + 1 : Nat) : Int)) ≤ prP P tl k + -10 * ((c % 10 : Nat) : Int) * wI (c / 10) k ∧ prP P tl k + -10 * ((c % 10 : Nat) : Int) * wI (c / 10) k ≤ 9000 * wB k + 90 * wB k * ((tl.length + 1 : Nat) : Int)
    rw [Int.natCast_add, Int.mul_add]
    omega
theorem prP_bd4 {P : Nat → Int} (h : ∀ k, k < 4 → -(9000 * wB k) ≤ P k ∧ P k ≤ 9000 * wB k) {pr : List Nat} (hc : ∀ c, c ∈ pr → c < 120) (hl : pr.length ≤ 4) : bdP (prP P pr) := by
  have h0 := prP_bd h pr hc 0 (by decide)
  have h1 := prP_bd h pr hc 1 (by decide)
  have h2 := prP_bd h pr hc 2 (by decide)
  have h3 := prP_bd h pr hc 3 (by decide)
  have w0 : wB 0 = 2 := rfl
  have w1 : wB 1 = 1 := rfl
  have w2 : wB 2 = 2 := rfl
  have w3 : wB 3 = 1 := rfl
  rw [w0] at h0
  rw [w1] at h1
  rw [w2] at h2
  rw [w3] at h3
  exact ⟨by omega, by omega, by omega, by omega⟩
theorem okS_lt {sa ss : Nat → Int32} : ∀ {pr : List Nat}, okS sa ss pr → ∀ c, c ∈ pr → c < 120
  | [], _, c, h => absurd h (List.not_mem_nil)
  | d :: tl, h, c, hc => by
    rcases List.mem_cons.mp hc with e | e
    · rw [e]; exact h.2.2.1
    · exact okS_lt h.2.2.2 c e
def bB (b : bT) : Prop := (0 ≤ b.2.1 ∧ b.2.1 ≤ 1270000000) ∧ (-730000000 ≤ b.2.2.1 ∧ b.2.2.1 ≤ 730000000)
theorem lkU_B {P : Nat → Int} {li : Int} {pr : List Nat} {b : bT} (h : bB b) (h2 : bdP (prP P pr)) : bB (lkU P li pr b) := by
  unfold lkU
  split
  · exact sq_bd h2
  · exact h

