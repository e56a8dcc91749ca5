noncomputable def inR (v : Int32) (lo hi : Int) : Bool := dB (lo ≤ v.toInt ∧ v.toInt ≤ hi)
noncomputable def drK (p a s : Int32) : Bool := dB (inI p 2 = true ∧ inI a 12 = true ∧ inR s 1 9 = true)
noncomputable def drB (p a s : Int32) (le ho : Nat → Int32) : Bool := dB (drK p a s = true ∧ frB (aN p) (aN a) le ho = true)
noncomputable def drA (p a s : Int32) (le ho : Nat → Int32) : Int32 := if drK p a s = false then -2 else if frB (aN p) (aN a) le ho = false then -3 else nI (hcnt (aN p) (upd ho (12 * aN p + aN a) s) 12)
noncomputable def fiK (p a : Int32) : Bool := dB (inI p 2 = true ∧ inI a 12 = true)
noncomputable def fiB (p a : Int32) (ho : Nat → Int32) : Bool := dB (fiK p a = true ∧ ho (12 * aN p + aN a) ≠ 0)
noncomputable def fiA (p a : Int32) (ho : Nat → Int32) : Int32 := if fiK p a = false then -2 else if ho (12 * aN p + aN a) = 0 then -3 else ho (12 * aN p + aN a)
noncomputable def hlA (p a : Int32) (ho : Nat → Int32) : Int32 := if fiK p a = true then ho (12 * aN p + aN a) else -2
noncomputable def lwK (p b : Int32) : Bool := dB (inI p 2 = true ∧ inR b 0 4095 = true)
noncomputable def szK (b : Int32) : Bool := dB (inR b 0 1023 = true ∧ b &&& 1 ≠ 1 ∧ inR (bcnt b 12) 1 3 = true)
noncomputable def plK (p k : Int32) : Bool := dB (inI p 2 = true ∧ inI k 10 = true)
/-- what pull tells of a plane -/
def plV (P : Nat → Int) (k : Nat) : Int64 := if k < 5 then cmp5 (plN P) k else cmp5 (sqN P) (k - 5)
theorem aNn {a n : Nat} (h : a < n) (hn : n < 2 ^ 31) : aN (nI a) = a := by unfold aN; rw [nI_toInt (by omega)]; rfl
