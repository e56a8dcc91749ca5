/-- a hole's code (10 times its angle, and its size) that may be drilled; the first such from c on, else 120 -/
noncomputable def okC (dr : Int32) (p : Nat) (le ho : Nat → Int32) (c : Nat) : Bool := dB (lgX dr (c % 10) = 1 ∧ frB p (c / 10) le ho = true)
