/-- the first n of f, then those of g -/
def cpN (n : Nat) (f g : Nat → Int32) (j : Nat) : Int32 := if j < n then f j else g j
theorem cpN_s (n : Nat) (f g : Nat → Int32) : upd (cpN n f g) n (f n) = cpN (n + 1) f g := by
  funext j
  show (if j = n then f n else if j < n then f j else g j) = if j < n + 1 then f j else g j
  by_cases e : j = n
  · rw [if_pos e, if_pos (by omega), e]
  · rw [if_neg e]
    by_cases e2 : j < n
    · rw [if_pos e2, if_pos (by omega)]
    · rw [if_neg e2, if_neg (by omega)]
noncomputable def lkB (P : Nat → Int) (li : Int) (bm : Int32) (b0 b1 : Int) : Bool := dB (quB P li = true ∧ (bm = -1 ∨ sgI (sqI P 0 - b0) (sqI P 1 - b1) < 0))
theorem lkB_f1 {P : Nat → Int} {li : Int} {bm : Int32} {b0 b1 : Int} (h : quB P li = false) : lkB P li bm b0 b1 = false := dB_f.mpr (fun e => by rw [h] at e; exact absurd e.1 (by decide))
theorem lkB_t {P : Nat → Int} {li : Int} {bm : Int32} {b0 b1 : Int} (h : quB P li = true) (h2 : bm = -1 ∨ sgI (sqI P 0 - b0) (sqI P 1 - b1) < 0) : lkB P li bm b0 b1 = true := dB_t.mpr ⟨h, h2⟩
theorem sm_bb {P : Nat → Int} (h : bdP P) {b0 b1 : Int} (hb : (0 ≤ b0 ∧ b0 ≤ 1270000000) ∧ (-730000000 ≤ b1 ∧ b1 ≤ 730000000)) : smA (sqI P 0 - b0) (sqI P 1 - b1) := by
  have h1 := sq_bd h
  unfold smA
  omega
