/-! sheets: findings (0: none) and what the calls leave -/
def okSz (sz : Nat → Int32) : Prop := ∀ a, a < 4 → sz a = -1 ∨ (0 ≤ (sz a).toInt ∧ (sz a).toInt ≤ 40)
noncomputable def lkF (n i : Int32) (w : Nat) : Int32 := if n = -1 then 1 else if dB (0 ≤ i.toInt ∧ i.toInt + (w : Int) ≤ n.toInt) = true then 0 else 2
def laF (f la : Int32) : Int32 := if f = 0 then la else f
def upZ (z : mZ) (f : Int32) : mZ := (laF f z.1, z.2)
noncomputable def rdF (r s i : Int32) (sz : Nat → Int32) : Int32 := if ¬ (inI r 6 = true ∧ inI s 4 = true) then 0 else lkF (sz s.toInt.toNat) i 4
noncomputable def rdA (r s i : Int32) (sz : Nat → Int32) : Int32 := if ¬ (inI r 6 = true ∧ inI s 4 = true) then -2 else if lkF (sz s.toInt.toNat) i 4 = 0 then 1 else -10 - lkF (sz s.toInt.toNat) i 4
noncomputable def rdU (r s i : Int32) (sz : Nat → Int32) (it : Nat → Nat → Int64) : Option (Nat × N5) := if ¬ (inI r 6 = true ∧ inI s 4 = true) then none else if lkF (sz s.toInt.toNat) i 4 = 0 then some (r.toInt.toNat, (it s.toInt.toNat i.toInt.toNat, it s.toInt.toNat (i.toInt.toNat + 1), it s.toInt.toNat (i.toInt.toNat + 2), it s.toInt.toNat (i.toInt.toNat + 3), 1)) else none
noncomputable def shA (s n : Int32) : Int32 := if ¬ (inI s 4 = true ∧ n ≤ 40) then -2 else if n < 0 then -13 else n
noncomputable def shF (s n : Int32) : Int32 := if ¬ (inI s 4 = true ∧ n ≤ 40) then 0 else if n < 0 then 3 else 0
noncomputable def shS (s n : Int32) (sz : Nat → Int32) : Nat → Int32 := if inI s 4 = true ∧ n ≤ 40 ∧ ¬ n < 0 then upd sz s.toInt.toNat n else sz
noncomputable def shI (s n : Int32) (it : Nat → Nat → Int64) : Nat → Nat → Int64 := fun a j => if (inI s 4 = true ∧ n ≤ 40 ∧ ¬ n < 0) ∧ a = s.toInt.toNat ∧ j < n.toInt.toNat then 0 else it a j
noncomputable def loA (s : Int32) (sz : Nat → Int32) : Int32 := if ¬ inI s 4 = true then -2 else if sz s.toInt.toNat = -1 then -11 else sz s.toInt.toNat
noncomputable def loF (s : Int32) (sz : Nat → Int32) : Int32 := if ¬ inI s 4 = true then 0 else if sz s.toInt.toNat = -1 then 1 else 0
noncomputable def loS (s : Int32) (sz : Nat → Int32) : Nat → Int32 := if inI s 4 = true ∧ sz s.toInt.toNat ≠ -1 then upd sz s.toInt.toNat (-1) else sz
noncomputable def lyF (s i o : Int32) (sz : Nat → Int32) : Int32 := if ¬ (inI s 4 = true ∧ inI o 63 = true) then 0 else lkF (sz s.toInt.toNat) i 1
noncomputable def lyA (s i o : Int32) (sz : Nat → Int32) : Int32 := if ¬ (inI s 4 = true ∧ inI o 63 = true) then -2 else if lkF (sz s.toInt.toNat) i 1 = 0 then 1 else -10 - lkF (sz s.toInt.toNat) i 1
noncomputable def lyI (s i v o : Int32) (sz : Nat → Int32) (it : Nat → Nat → Int64) : Nat → Nat → Int64 := fun a j => if (inI s 4 = true ∧ inI o 63 = true ∧ lkF (sz s.toInt.toNat) i 1 = 0) ∧ a = s.toInt.toNat ∧ j = i.toInt.toNat then v.toInt64 <<< (o.toInt64 &&& 63) else it a j
noncomputable def gtF (s i : Int32) (sz : Nat → Int32) : Int32 := if ¬ inI s 4 = true then 0 else lkF (sz s.toInt.toNat) i 1
noncomputable def gtA (s i : Int32) (sz : Nat → Int32) (it : Nat → Nat → Int64) : Int64 := if ¬ inI s 4 = true then lMin - (-2 : Int32).toInt64 else if lkF (sz s.toInt.toNat) i 1 = 0 then it s.toInt.toNat i.toInt.toNat else lMin - (-10 - lkF (sz s.toInt.toNat) i 1).toInt64
noncomputable def cpF (s i t j n : Int32) (sz : Nat → Int32) : Int32 := if ¬ (inI s 4 = true ∧ inI t 4 = true) then 0 else if sz s.toInt.toNat = -1 ∨ sz t.toInt.toNat = -1 then 1 else if dB (0 ≤ i.toInt ∧ 0 ≤ j.toInt ∧ 0 ≤ n.toInt ∧ i.toInt + n.toInt ≤ (sz s.toInt.toNat).toInt ∧ j.toInt + n.toInt ≤ (sz t.toInt.toNat).toInt) = true then 0 else 2
noncomputable def cpA (s i t j n : Int32) (sz : Nat → Int32) : Int32 := if ¬ (inI s 4 = true ∧ inI t 4 = true) then -2 else if cpF s i t j n sz = 0 then 1 else -10 - cpF s i t j n sz
noncomputable def cpI (s i t j n : Int32) (sz : Nat → Int32) (it : Nat → Nat → Int64) : Nat → Nat → Int64 := fun a x => if (inI s 4 = true ∧ inI t 4 = true ∧ cpF s i t j n sz = 0) ∧ a = t.toInt.toNat ∧ j.toInt.toNat ≤ x ∧ x < j.toInt.toNat + n.toInt.toNat then it s.toInt.toNat (i.toInt.toNat + (x - j.toInt.toNat)) else it a x
noncomputable def wrA (s : Int32) (sz : Nat → Int32) : Int32 := if ¬ inI s 4 = true then -2 else if sz s.toInt.toNat = -1 then -11 else if sz s.toInt.toNat < 30 then sz s.toInt.toNat else 30
noncomputable def wrF (s : Int32) (sz : Nat → Int32) : Int32 := if ¬ inI s 4 = true then 0 else if sz s.toInt.toNat = -1 then 1 else 0
noncomputable def wrI (s : Int32) (sz : Nat → Int32) (nu : Nat → Int64) (it : Nat → Nat → Int64) : Nat → Nat → Int64 := fun a j => if (inI s 4 = true ∧ sz s.toInt.toNat ≠ -1) ∧ a = s.toInt.toNat ∧ j < (wrA s sz).toInt.toNat then nu j else it a j
/-- the reference's items, by sheet and place -/
def itM (it : Nat → Int64) : Nat → Nat → Int64 := fun a j => it (40 * a + j)
/-- the two tell the same items -/
def eqI (x y : Nat → Nat → Int64) : Prop := ∀ a j, a < 4 → j < 40 → x a j = y a j
def zfill (f : Nat → Int64) (b k : Nat) : Nat → Int64 := fun j => if b ≤ j ∧ j < b + k then 0 else f j
theorem zfill_0 (f : Nat → Int64) (b : Nat) : zfill f b 0 = f := funext fun j => if_neg (by omega)
theorem zfill_s (f : Nat → Int64) (b k : Nat) : vp_updL (zfill f b k) (b + k) 0 = zfill f b (k + 1) := funext fun j => by
  unfold vp_updL zfill
  by_cases h : j = b + k
  · rw [if_pos h, if_pos (by omega)]
  · rw [if_neg h]
    by_cases h2 : b ≤ j ∧ j < b + k
    · rw [if_pos h2, if_pos (by omega)]
    · rw [if_neg h2, if_neg (by omega)]
/-- g's first k from c on, put over f from b on -/
def pfill (f g : Nat → Int64) (b c k : Nat) : Nat → Int64 := fun j => if b ≤ j ∧ j < b + k then g (c + (j - b)) else f j
theorem pfill_0 (f g : Nat → Int64) (b c : Nat) : pfill f g b c 0 = f := funext fun j => if_neg (by omega)
theorem pfill_s (f g : Nat → Int64) (b c k : Nat) : vp_updL (pfill f g b c k) (b + k) (g (c + k)) = pfill f g b c (k + 1) := funext fun j => by
  unfold vp_updL pfill
  by_cases h : j = b + k
  · rw [if_pos h, if_pos (by omega), h, show b + k - b = k by omega]
  · rw [if_neg h]
    by_cases h2 : b ≤ j ∧ j < b + k
    · rw [if_pos h2, if_pos (by omega)]
    · rw [if_neg h2, if_neg (by omega)]
theorem i32_eq {x y : Int32} : x = y ↔ x.toInt = y.toInt := Int32.toInt_inj.symm
theorem i32_rng (x : Int32) : -2147483648 ≤ x.toInt ∧ x.toInt ≤ 2147483647 := by
  have h1 := x.toBitVec.le_toInt
  have h2 := x.toBitVec.toInt_lt
  have e : x.toInt = x.toBitVec.toInt := rfl
  rw [e]
  simp at h1 h2
  omega
theorem i32_bmod {z : Int} (h : -2147483648 ≤ z ∧ z ≤ 2147483647) : z.bmod (2 ^ 32) = z := by
  rw [Int.bmod_def]
  split <;> omega
theorem i32_add {x y : Int32} (h : -2147483648 ≤ x.toInt + y.toInt ∧ x.toInt + y.toInt ≤ 2147483647) : (x + y).toInt = x.toInt + y.toInt := by
  rw [Int32.toInt_add]; exact i32_bmod h
theorem i32_sub {x y : Int32} (h : -2147483648 ≤ x.toInt - y.toInt ∧ x.toInt - y.toInt ≤ 2147483647) : (x - y).toInt = x.toInt - y.toInt := by
  rw [Int32.toInt_sub]; exact i32_bmod h
theorem i32_mul {x y : Int32} (h : -2147483648 ≤ x.toInt * y.toInt ∧ x.toInt * y.toInt ≤ 2147483647) : (x * y).toInt = x.toInt * y.toInt := by
  rw [Int32.toInt_mul]; exact i32_bmod h
theorem i32_w (x : Int32) : x.toInt64.toInt = x.toInt := Int32.toInt_toInt64 x
theorem ofNat_of {x : Int32} (h : 0 ≤ x.toInt) : x = nI x.toInt.toNat := by
  have := i32_rng x
  rw [i32_eq, nI_toInt (by omega)]
  omega
theorem i32_nat {x : Int32} {n : Nat} (h0 : 0 ≤ x.toInt) (h1 : x.toInt < (n : Int)) : ∃ k, k < n ∧ x = nI k ∧ x.toInt = (k : Int) ∧ x.toInt.toNat = k :=
  ⟨x.toInt.toNat, by omega, ofNat_of h0, by omega, rfl⟩
theorem lkF_0 {n i : Int32} {w : Nat} (h : lkF n i w = 0) : n ≠ -1 ∧ 0 ≤ i.toInt ∧ i.toInt + (w : Int) ≤ n.toInt := by
  unfold lkF at h
  by_cases e : n = -1
  · rw [if_pos e] at h; exact absurd h (by decide)
  · rw [if_neg e] at h
    refine ⟨e, ?_⟩
    by_cases e5 : dB (0 ≤ i.toInt ∧ i.toInt + (w : Int) ≤ n.toInt) = true
    · exact dB_t.mp e5
    · rw [if_neg e5] at h; exact absurd h (by decide)
theorem lkF_is0 {n i : Int32} {w : Nat} (h : n ≠ -1) (h2 : 0 ≤ i.toInt ∧ i.toInt + (w : Int) ≤ n.toInt) : lkF n i w = 0 := by
  rw [lkF, if_neg h, if_pos (dB_t.mpr h2)]
theorem lkF_is2 {n i : Int32} {w : Nat} (h : n ≠ -1) (h2 : ¬ (0 ≤ i.toInt ∧ i.toInt + (w : Int) ≤ n.toInt)) : lkF n i w = 2 := by
  rw [lkF, if_neg h, if_neg (fun e => h2 (dB_t.mp e))]
theorem lkF_is1 {n i : Int32} {w : Nat} (h : n = -1) : lkF n i w = 1 := by rw [lkF, if_pos h]
theorem i64_le_i (x y : Int64) : x ≤ y ↔ x.toInt ≤ y.toInt := Int64.le_iff_toInt_le
theorem i32_lt_i (x y : Int32) : x < y ↔ x.toInt < y.toInt := Int32.lt_iff_toInt_lt
theorem i32_le_i (x y : Int32) : x ≤ y ↔ x.toInt ≤ y.toInt := Int32.le_iff_toInt_le
theorem i64_w_add (x y : Int32) : (x.toInt64 + y.toInt64).toInt = x.toInt + y.toInt := by
  have h1 := i32_rng x
  have h2 := i32_rng y
  rw [i64_add (by unfold pOv outL; rw [dB_f, i32_w, i32_w]; omega), i32_w, i32_w]
