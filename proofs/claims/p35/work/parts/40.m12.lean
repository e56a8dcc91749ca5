noncomputable def trK (k m a : Int32) : Bool := dB (inI k 3 = true ∧ (k = 0 ∨ (inM m = true ∧ inI a 12 = true)))
/-- a plane's part of the reading by a trial, and that reading, bearing b -/
def r2T (k m a : Int32) (L : Nat) (mo an pl ho ga lg : Nat → Int32) (b p : Nat) : N5 := rd2 (pulI p L mo an pl ho) (if aN k = p + 1 then m.toInt else 0) (if aN k = 0 then 0 else aN a) (ga (2 * b + p)).toInt (aN (lg (2 * b + p)))
def rdT (k m a : Int32) (L : Nat) (mo an pl ho ga lg : Nat → Int32) (b : Nat) : N5 := sumV false (r2T k m a L mo an pl ho ga lg b 0) (r2T k m a L mo an pl ho ga lg b 1)
