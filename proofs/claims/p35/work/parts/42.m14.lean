noncomputable def foK (p r : Int32) : Bool := dB (inI p 2 = true ∧ inI r 6 = true)
noncomputable def foO (G : Nat → N5) (m a : Nat → Int32) : Bool := (((efO G m a 0 0 || efO G m a 0 1) || efO G m a 1 0) || efO G m a 1 1) || crO (efV G m a 0 0) (efV G m a 1 1) (efV G m a 1 0) (efV G m a 0 1)
def foD (G : Nat → N5) (m a : Nat → Int32) : N5 := crV (efV G m a 0 0) (efV G m a 1 1) (efV G m a 1 0) (efV G m a 0 1)
noncomputable def fnO (p : Int32) (G : Nat → N5) (m a : Nat → Int32) : Bool := if aN p = 0 then crO (G 6) (efV G m a 1 1) (efV G m a 1 0) (G 7) else crO (efV G m a 0 0) (G 7) (G 6) (efV G m a 0 1)
def fnV (p : Int32) (G : Nat → N5) (m a : Nat → Int32) : N5 := if aN p = 0 then crV (G 6) (efV G m a 1 1) (efV G m a 1 0) (G 7) else crV (efV G m a 0 0) (G 7) (G 6) (efV G m a 0 1)
theorem efO_c {G G2 : Nat → N5} {m a : Nat → Int32} {p b : Nat} (h1 : G (6 + 2 * (p + 1) + b) = G2 (6 + 2 * (p + 1) + b)) (h2 : G (6 + b) = G2 (6 + b)) : efO G m a p b = efO G2 m a p b := by unfold efO efS; rw [h1, h2]
theorem efV_c {G G2 : Nat → N5} {m a : Nat → Int32} {p b : Nat} (h1 : G (6 + 2 * (p + 1) + b) = G2 (6 + 2 * (p + 1) + b)) (h2 : G (6 + b) = G2 (6 + b)) : efV G m a p b = efV G2 m a p b := by unfold efV efS; rw [h1, h2]
