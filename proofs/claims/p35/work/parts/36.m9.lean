noncomputable def inM (m : Int32) : Bool := dB (1 ≤ m.toInt ∧ m.toInt ≤ 99)
noncomputable def luA (m a p : Int32) (L : Nat) : Int32 := if ¬ (inM m = true ∧ inI a 12 = true ∧ inI p 11 = true) then -2 else if L = 8 then -4 else nI L
noncomputable def luB (m a p : Int32) (L : Nat) : Bool := dB ((inM m = true ∧ inI a 12 = true ∧ inI p 11 = true) ∧ L < 8)
