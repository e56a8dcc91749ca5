/-- 0, 1, 2, .. holes, until a set is found -/
def seS (f : Nat → bT → bT) : Nat → bT → bT
  | 0, b => b
  | k + 1, b => if (seS f k b).1 = -1 then f k (seS f k b) else seS f k b
theorem seS_s {f : Nat → bT → bT} {k : Nat} {b : bT} : seS f (k + 1) b = if (seS f k b).1 = -1 then f k (seS f k b) else seS f k b := rfl
theorem seS_st {f : Nat → bT → bT} {i : Nat} {b : bT} (h : ¬ (seS f i b).1 = -1) : ∀ d j, j = i + d → seS f j b = seS f i b
  | 0, j, e => by rw [e]; rfl
  | d + 1, j, e => by
    rw [e, show i + (d + 1) = (i + d) + 1 by omega, seS_s, seS_st h d (i + d) rfl, if_neg h]
