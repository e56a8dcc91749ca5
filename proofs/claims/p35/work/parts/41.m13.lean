noncomputable def exK (p b r : Int32) : Bool := dB (inI p 2 = true ∧ inI b 2 = true ∧ inI r 6 = true)
