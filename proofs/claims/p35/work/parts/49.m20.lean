noncomputable def fwK (p w c : Int32) : Bool := dB (inI p 2 = true ∧ inI w 5 = true ∧ inI c 3 = true)
