noncomputable def beK (b p w v : Int32) : Bool := dB (inI b 2 = true ∧ inI p 2 = true ∧ inI w 2 = true ∧ inR v 0 (if aN w = 0 then 9 else 11) = true)
