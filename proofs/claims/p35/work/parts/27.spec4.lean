/-! what the calls on numbers answer, and what they put where: (answer, the register that changes) -/
def sgnL (v : Int64) : Int32 := if v < 0 then -1 else if 0 < v then 1 else 0
noncomputable def sgN (a b : Int64) : Bool := dB (sgnL a ≠ sgnL b ∧ sgnL b ≠ 0 ∧ sgnL a ≠ 0)
noncomputable def sgSq (a b : Int64) : Bool := tOv a a || thO b b
noncomputable def signV (a b : Int64) : Int32 := if sgN a b = true then (if thV b b < a * a then sgnL a else sgnL b) else if sgnL a = sgnL b ∨ sgnL b = 0 then sgnL a else sgnL b
noncomputable def cmpV (r s : Int32) (G : Nat → N5) : Int32 :=
  if ¬ (inI r 6 = true ∧ inI s 6 = true) then -2147483648 else
  if sumO true (G r.toInt.toNat) (G s.toInt.toNat) = true then -5 else
  if ¬ ((sumV true (G r.toInt.toNat) (G s.toInt.toNat)).2.2.1 = 0 ∧ (sumV true (G r.toInt.toNat) (G s.toInt.toNat)).2.2.2.1 = 0) then -3 else
  if (sgN (sumV true (G r.toInt.toNat) (G s.toInt.toNat)).1 (sumV true (G r.toInt.toNat) (G s.toInt.toNat)).2.1 && sgSq (sumV true (G r.toInt.toNat) (G s.toInt.toNat)).1 (sumV true (G r.toInt.toNat) (G s.toInt.toNat)).2.1) = true then -5 else
  signV (sumV true (G r.toInt.toNat) (G s.toInt.toNat)).1 (sumV true (G r.toInt.toNat) (G s.toInt.toNat)).2.1
noncomputable def opO (w : Int32) (X Y : N5) : Bool := if w < 2 then sumO (dB (w = 1)) X Y else if w = 2 then prodO X Y else quoO X Y
noncomputable def opV (w : Int32) (X Y : N5) : N5 := if w < 2 then sumV (dB (w = 1)) X Y else if w = 2 then prodV X Y else quoV X Y
noncomputable def rkV (w r s t : Int32) (G : Nat → N5) : Int32 × Option (Nat × N5) :=
  if ¬ (inI w 4 = true ∧ inI r 6 = true ∧ inI s 6 = true ∧ inI t 6 = true) then (-2, none) else
  if w = 3 ∧ zeroN (G s.toInt.toNat) = true then (-6, none) else
  if opO w (G r.toInt.toNat) (G s.toInt.toNat) = true then (-5, none) else
  (1, some (t.toInt.toNat, opV w (G r.toInt.toNat) (G s.toInt.toNat)))
def upG (G : Nat → N5) (u : Option (Nat × N5)) : Nat → N5 := match u with
  | none => G
  | some q => fun j => if j = q.1 then q.2 else G j

