noncomputable def zeroN (X : N5) : Bool := dB (X.1 = 0 ∧ X.2.1 = 0 ∧ X.2.2.1 = 0 ∧ X.2.2.2.1 = 0)
