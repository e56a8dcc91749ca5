/-- the float a stands for k eighths -/
def E8 (k : Int) (a : UInt32) : Prop := (∃ s c q, FP.Core.val32 a = .fin s c q) ∧ FP.Core.zval FP.Core.b32 (FP.Core.val32 a) = k * 2 ^ 146
theorem E8_nn {k : Int} {a : UInt32} (h : E8 k a) : FP.Core.val32 a ≠ .nan := by
  obtain ⟨⟨s, c, q, e⟩, _⟩ := h
  rw [e]; exact FP.Core.Datum.noConfusion
theorem E8_n32 {k : Int} {a : UInt32} (h : E8 k a) : vf_n32 a := by
  unfold vf_n32
  rw [UInt32.le_iff_toNat_le, FP.Core.mask_toNat32]
  exact (FP.Core.ne_nan32 a).mp (E8_nn h)
theorem E8_cmp {i j : Int} {a b : UInt32} (ha : E8 i a) (hb : E8 j b) : FP.fcmp a b = some (compare i j) := by
  rw [show FP.fcmp a b = FP.Core.fcmp a b from rfl, FP.Core.fcmp_zval (E8_nn ha) (E8_nn hb), ha.2, hb.2, FP.Core.compare_mul_pos i j _ (by decide)]
theorem E8_qm : FP.Core.b32.qmin = -149 := FP.Core.qmin_b32
theorem E8_sg {s : Bool} {n : Nat} {K : Int} {m : Nat} (h : FP.Core.signed s n = K * ((m : Nat) : Int)) : n = K.natAbs * m := by
  have h2 := congrArg Int.natAbs h
  rw [FP.Core.natAbs_signed, Int.natAbs_mul, Int.natAbs_natCast] at h2
  exact h2
theorem E8_p146 : (2 : Int) ^ 146 = (((2 : Nat) ^ 146 : Nat) : Int) := by decide
theorem E8_ps {s : Bool} {n : Nat} {K : Int} {m : Nat} (hm : 0 < m) (h : FP.Core.signed s n = K * ((m : Nat) : Int)) : FP.Core.signed s K.natAbs = K := by
  have h2 := E8_sg h
  have h3 : FP.Core.signed s (K.natAbs * m) = FP.Core.signed s K.natAbs * (m : Int) := by
    cases s
    · show ((K.natAbs * m : Nat) : Int) = (K.natAbs : Int) * (m : Int)
      exact Int.natCast_mul _ _
    · show -((K.natAbs * m : Nat) : Int) = -(K.natAbs : Int) * (m : Int)
      rw [Int.natCast_mul, Int.neg_mul]
  rw [h2, h3] at h
  exact Int.eq_of_mul_eq_mul_right (by omega) h
theorem E8_pm {s : Bool} {n : Nat} {K : Int} {m : Nat} (h : FP.Core.signed s n = K) : FP.Core.signed s (n * m) = K * ((m : Nat) : Int) := by
  rw [← h]
  cases s
  · show ((n * m : Nat) : Int) = (n : Int) * (m : Int)
    exact Int.natCast_mul _ _
  · show -((n * m : Nat) : Int) = -(n : Int) * (m : Int)
    rw [Int.natCast_mul, Int.neg_mul]
theorem E8_round {s : Bool} {n : Nat} {e K : Int} (h1 : FP.Core.b32.qmin ≤ e) (h2 : FP.Core.signed s (FP.Core.inUnits n e FP.Core.b32.qmin) = K * 2 ^ 146) (h3 : K.natAbs < 2 ^ 24) :
    ∃ c' q', FP.Core.round FP.Core.b32 (.fin s n e) = .fin s c' q' ∧ FP.Core.signed s (FP.Core.inUnits c' q' FP.Core.b32.qmin) = K * 2 ^ 146 := by
  rw [E8_p146] at h2 ⊢
  have h4 := E8_sg h2
  have h5 := E8_ps (by decide) h2
  rw [E8_qm] at h1
  have hc : FP.Core.round FP.Core.b32 (.fin s n e) = FP.Core.round FP.Core.b32 (.fin s K.natAbs (-3)) := by
    refine FP.Core.roundRatio_congr (by decide) (by decide) ?_
    unfold FP.Core.inUnits at h4
    rw [E8_qm] at h4
    rw [Nat.mul_one, Nat.mul_one]
    rcases Int.le_total (-3) e with h6 | h6
    · rw [show (-3 - e).toNat = 0 by omega, Nat.pow_zero, Nat.mul_one]
      rw [show (e - -149).toNat = (e - -3).toNat + 146 by omega, Nat.pow_add, ← Nat.mul_assoc] at h4
      exact Nat.eq_of_mul_eq_mul_right (Nat.two_pow_pos 146) h4
    · rw [show (e - -3).toNat = 0 by omega, Nat.pow_zero, Nat.mul_one]
      rw [show (146 : Nat) = (-3 - e).toNat + (e - -149).toNat by omega, Nat.pow_add, ← Nat.mul_assoc] at h4
      exact Nat.eq_of_mul_eq_mul_right (Nat.two_pow_pos _) h4
  obtain ⟨c', q', h6, h7⟩ := FP.Core.round_exact FP.Core.good_b32 s (c := K.natAbs) (q := -3) h3 (by rw [E8_qm]; decide) (by decide)
  refine ⟨c', q', hc.trans h6, ?_⟩
  rw [h7, show FP.Core.inUnits K.natAbs (-3) FP.Core.b32.qmin = K.natAbs * 2 ^ 146 from rfl]
  rw [← h4]; exact h2
theorem E8_fin {k : Int} {a : UInt32} {s : Bool} {c : Nat} {q : Int} (h : FP.Core.val32 a = .fin s c q) (h2 : FP.Core.signed s (FP.Core.inUnits c q FP.Core.b32.qmin) = k * 2 ^ 146) : E8 k a :=
  ⟨⟨s, c, q, h⟩, by rw [h]; exact h2⟩
theorem E8_add {i j : Int} {a b : UInt32} (ha : E8 i a) (hb : E8 j b) (h : (i + j).natAbs < 2 ^ 24) : E8 (i + j) (FP.fadd a b) := by
  obtain ⟨⟨s, c, q, e1⟩, v1⟩ := ha
  obtain ⟨⟨t, d, r, e2⟩, v2⟩ := hb
  have f1 := FP.Core.val32_fits a
  have f2 := FP.Core.val32_fits b
  rw [e1] at f1 v1
  rw [e2] at f2 v2
  obtain ⟨sg, n, e, h1, h2, h3⟩ := FP.Core.sum_units f1 f2
  obtain ⟨c', q', h4, h5⟩ := E8_round h2 (h3.trans (by rw [v1, v2, Int.add_mul])) h
  exact E8_fin (by rw [show FP.fadd a b = FP.Core.fadd a b from rfl, FP.Core.val32_fadd, e1, e2, h1, h4]) h5
theorem E8_sub {i j : Int} {a b : UInt32} (ha : E8 i a) (hb : E8 j b) (h : (i - j).natAbs < 2 ^ 24) : E8 (i - j) (FP.fsub a b) := by
  obtain ⟨⟨s, c, q, e1⟩, v1⟩ := ha
  obtain ⟨⟨t, d, r, e2⟩, v2⟩ := hb
  have f1 := FP.Core.val32_fits a
  have f2 := FP.Core.negate_fits (FP.Core.val32_fits b)
  have v3 := FP.Core.zval_negate FP.Core.b32 (FP.Core.val32 b)
  rw [e1] at f1 v1
  rw [v2] at v3
  rw [e2] at f2 v3
  obtain ⟨sg, n, e, h1, h2, h3⟩ := FP.Core.sum_units f1 f2
  obtain ⟨c', q', h4, h5⟩ := E8_round (K := i - j) h2 (h3.trans (by rw [v1]; refine (congrArg (i * 2 ^ 146 + ·) v3).trans ?_; rw [Int.sub_mul, Int.sub_eq_add_neg])) h
  exact E8_fin (by rw [show FP.fsub a b = FP.Core.fsub a b from rfl, FP.Core.val32_fsub, e1, e2]; exact (congrArg _ h1).trans h4) h5
theorem E8_int {i : Int} {a : UInt32} (h : FP.Core.FInt i a) : E8 (8 * i) a := by
  have hw := FP.Core.whole_zval FP.Core.good_b32 (FP.Core.val32_fits a) h
  refine ⟨?_, ?_⟩
  · unfold FP.Core.FInt at h
    cases e : FP.Core.val32 a with
    | nan => rw [e] at h; exact h.elim
    | inf => rw [e] at h; exact h.elim
    | fin s c q => exact ⟨_, _, _, rfl⟩
  · rw [hw, show (2 : Nat) ^ (-FP.Core.b32.qmin).toNat = 8 * 2 ^ 146 by rw [E8_qm]; decide, E8_p146, Int.natCast_mul, Int.mul_comm 8 i, Int.mul_assoc]
    rfl
theorem fI_v (v : Int32) : ∃ i : Int, FP.Core.FInt i (FP.i2f v) ∧ i.natAbs ≤ 2 ^ 31 := by
  by_cases h : v.toInt.natAbs ≤ 2 ^ 24
  · exact ⟨_, FP.Core.i2f_int h, by omega⟩
  · have hv := FP.Core.val32_i2f v
    have hv1 := v.toInt_lt
    have hv2 := v.le_toInt
    rw [show FP.Core.round FP.Core.b32 (FP.Core.ofInt v.toInt) = FP.Core.roundRatio FP.Core.b32 (decide (v.toInt < 0)) v.toInt.natAbs 1 0 from rfl] at hv
    have h1 := FP.Core.zmag_roundRatio_le FP.Core.good_b32 (s := decide (v.toInt < 0)) (A := v.toInt.natAbs) (B := 1) (e := 0) (e0 := -149) (V := .fin false (2 ^ 23) 8) (by decide) (by unfold FP.Core.fits; decide) FP.Core.Datum.noConfusion (by decide) (by decide)
      (by rw [show FP.Core.zmag FP.Core.b32 (.fin false (2 ^ 23) 8) * 2 ^ (FP.Core.b32.qmin - -149).toNat * 1 = 2 ^ 31 * 2 ^ 149 by decide]; unfold FP.Core.inUnits; rw [show ((0 : Int) - -149).toNat = 149 by decide]; exact Nat.mul_le_mul_right _ (by omega))
    have h2 := FP.Core.zmag_roundRatio_ge FP.Core.good_b32 (s := decide (v.toInt < 0)) (A := v.toInt.natAbs) (B := 1) (e := 0) (e0 := -149) (V := .fin false (2 ^ 23) 1) (by decide) (by unfold FP.Core.fits; decide) (by decide) (by decide)
      (by rw [show FP.Core.zmag FP.Core.b32 (.fin false (2 ^ 23) 1) * 2 ^ (FP.Core.b32.qmin - -149).toNat * 1 = 2 ^ 24 * 2 ^ 149 by decide]; unfold FP.Core.inUnits; rw [show ((0 : Int) - -149).toNat = 149 by decide]; exact Nat.mul_le_mul_right _ (by omega))
    rw [← hv] at h1 h2
    have hf := FP.Core.val32_fits (FP.Core.i2f v)
    cases e : FP.Core.val32 (FP.Core.i2f v) with
    | nan => rw [e] at h2; exact absurd h2 (by decide)
    | inf t => rw [e] at h1; cases t <;> exact absurd h1 (by decide)
    | fin s c q =>
      rw [e] at h1 h2 hf
      have hc := hf.1
      replace hc : c < 2 ^ 24 := hc
      replace h1 : c * 2 ^ (q - FP.Core.b32.qmin).toNat ≤ FP.Core.zmag FP.Core.b32 (.fin false (2 ^ 23) 8) := h1
      replace h2 : FP.Core.zmag FP.Core.b32 (.fin false (2 ^ 23) 1) ≤ c * 2 ^ (q - FP.Core.b32.qmin).toNat := h2
      rw [show FP.Core.zmag FP.Core.b32 (.fin false (2 ^ 23) 8) = 2 ^ 31 * 2 ^ 149 by decide, E8_qm] at h1
      rw [show FP.Core.zmag FP.Core.b32 (.fin false (2 ^ 23) 1) = 2 ^ 24 * 2 ^ 149 by decide, E8_qm] at h2
      have hq : 0 ≤ q := by
        refine Int.not_lt.mp fun hq => ?_
        have h3 : 2 ^ (q - -149).toNat ≤ 2 ^ 149 := Nat.pow_le_pow_right (by decide) (by omega)
        have h4 := Nat.mul_le_mul_left c h3
        have h5 : c * 2 ^ 149 < 2 ^ 24 * 2 ^ 149 := Nat.mul_lt_mul_of_pos_right hc (Nat.two_pow_pos _)
        omega
      rw [show (q - -149).toNat = q.toNat + 149 by omega, Nat.pow_add, ← Nat.mul_assoc] at h1
      refine ⟨FP.Core.signed s (c * 2 ^ q.toNat), ?_, ?_⟩
      · show FP.Core.Whole _ (FP.Core.val32 (FP.Core.i2f v))
        rw [e]
        show FP.Core.signed s (c * 2 ^ q.toNat) = FP.Core.signed s (c * 2 ^ q.toNat) * ((2 ^ (-q).toNat : Nat) : Int)
        rw [show (-q).toNat = 0 by omega, Nat.pow_zero]; exact (Int.mul_one _).symm
      · rw [FP.Core.natAbs_signed]
        exact Nat.le_of_mul_le_mul_right h1 (Nat.two_pow_pos 149)
/-- the whole number that the float of v is -/
def fvI (v : Int32) : Int := (FP.f2l (FP.i2f v)).toInt
theorem fvI_int (v : Int32) : FP.Core.FInt (fvI v) (FP.i2f v) := by
  obtain ⟨i, h1, h2⟩ := fI_v v
  have h3 : (Int64.ofInt i).toInt = i := Int64.toInt_ofInt_of_le (by omega) (by omega)
  have h4 : FP.f2l (FP.i2f v) = Int64.ofInt i := FP.Core.f2l_int (by rw [h3]; exact h1)
  unfold fvI
  rw [h4, h3]; exact h1
theorem E8_div {i : Int} {a : UInt32} (h : FP.Core.FInt i a) : E8 i (FP.fdiv a 1090519040) := by
  have hv := FP.Core.val32_fdiv a 1090519040
  have hz := (E8_int h).2
  have hf := FP.Core.val32_fits a
  rw [show FP.Core.val32 1090519040 = .fin false 8388608 (-20) by decide +kernel] at hv
  unfold FP.Core.FInt at h
  cases e : FP.Core.val32 a with
  | nan => rw [e] at h; exact h.elim
  | inf => rw [e] at h; exact h.elim
  | fin s c q =>
    rw [e] at h hz hv hf
    rw [show FP.Core.quotient FP.Core.b32 (.fin s c q) (.fin false 8388608 (-20)) = FP.Core.roundRatio FP.Core.b32 (s != false) c 8388608 (q - -20) from rfl, show (s != false) = s by cases s <;> rfl] at hv
    by_cases hc : c = 0
    · have hi := (FP.Core.whole_zero h).mp hc
      rw [hc, show FP.Core.roundRatio FP.Core.b32 s 0 8388608 (q - -20) = .fin s 0 FP.Core.b32.qmin from rfl] at hv
      refine E8_fin hv ?_
      rw [hi, Int.zero_mul]
      cases s <;> decide
    · replace hz : FP.Core.signed s (c * 2 ^ (q - FP.Core.b32.qmin).toNat) = 8 * i * 2 ^ 146 := hz
      rw [E8_p146, E8_qm] at hz
      have h8 := E8_sg hz
      have h9 := E8_ps (by decide) hz
      have hi : i ≠ 0 := fun e8 => hc ((FP.Core.whole_zero h).mpr e8)
      have hc24 : c < 2 ^ 24 := hf.1
      have hq : -140 ≤ q := by
        refine Int.not_lt.mp fun hq => ?_
        have h3 : 2 ^ (q - -149).toNat ≤ 2 ^ 9 := Nat.pow_le_pow_right (by decide) (by omega)
        have h4 := Nat.mul_le_mul (Nat.le_of_lt hc24) h3
        have h5 : 1 * 2 ^ 146 ≤ (8 * i).natAbs * 2 ^ 146 := Nat.mul_le_mul_right _ (by omega)
        omega
      have hq2 : q ≤ FP.Core.b32.qmax := hf.2.2.1
      have hr : FP.Core.roundRatio FP.Core.b32 s c 8388608 (q - -20) = FP.Core.round FP.Core.b32 (.fin s c (q - 3)) := by
        refine FP.Core.roundRatio_congr (by decide) (by decide) ?_
        rw [show (q - -20 - (q - 3)).toNat = 23 by omega, show (q - 3 - (q - -20)).toNat = 0 by omega]
        omega
      obtain ⟨c', q', h6, h7⟩ := FP.Core.round_exact FP.Core.good_b32 s (c := c) (q := q - 3) hc24 (by rw [E8_qm]; omega) (by omega)
      refine E8_fin (hv.trans (hr.trans h6)) ?_
      rw [h7]
      unfold FP.Core.inUnits
      rw [E8_qm]
      have h10 : c * 2 ^ (q - 3 - -149).toNat = i.natAbs * 2 ^ 146 := by
        rw [show (q - -149).toNat = (q - 3 - -149).toNat + 3 by omega, Nat.pow_add, ← Nat.mul_assoc, Int.natAbs_mul] at h8
        have : (8 : Int).natAbs = 8 := rfl
        rw [this] at h8
        omega
      have h11 : FP.Core.signed s i.natAbs = i := by
        rw [Int.natAbs_mul] at h9
        have : (8 : Int).natAbs = 8 := rfl
        rw [this] at h9
        cases s
        · have : ((8 * i.natAbs : Nat) : Int) = 8 * i := h9
          show ((i.natAbs : Nat) : Int) = i
          omega
        · have : -((8 * i.natAbs : Nat) : Int) = 8 * i := h9
          show -((i.natAbs : Nat) : Int) = i
          omega
      rw [h10, E8_p146]
      exact E8_pm h11
theorem E8_360 : E8 2880 1135869952 := by
  have h := E8_int (FP.Core.i2f_int (a := 360) (by decide))
  rw [show FP.Core.i2f 360 = 1135869952 by decide +kernel] at h
  exact h
theorem E8_0 : E8 0 FP.fconst0 := by
  have h := E8_int (FP.Core.i2f_int (a := 0) (by decide))
  rw [show FP.Core.i2f 0 = FP.fconst0 by decide +kernel] at h
  exact h
theorem E8_rem {i : Int} {a : UInt32} (h : E8 i a) : E8 (i.tmod 2880) (FP.frem a 1135869952) := by
  obtain ⟨⟨s, c, q, e1⟩, v1⟩ := h
  obtain ⟨⟨t, d, r, e2⟩, v2⟩ := E8_360
  rw [e1] at v1
  rw [e2] at v2
  replace v1 : FP.Core.signed s (FP.Core.inUnits c q FP.Core.b32.qmin) = i * 2 ^ 146 := v1
  replace v2 : FP.Core.signed t (FP.Core.inUnits d r FP.Core.b32.qmin) = 2880 * 2 ^ 146 := v2
  rw [E8_p146] at v1 v2
  have h1 := E8_sg v1
  have h2 := E8_sg v2
  have h3 := E8_ps (by decide) v1
  have hd : d ≠ 0 := by
    intro e8
    rw [e8] at h2
    unfold FP.Core.inUnits at h2
    rw [Nat.zero_mul] at h2
    exact absurd h2 (by decide)
  obtain ⟨c', q', h4, h5⟩ := FP.Core.frem_exact e1 e2 hd
  refine E8_fin h4 ?_
  rw [h5, h1, h2, show (2880 : Int).natAbs = 2880 from rfl, Nat.mul_mod_mul_right, E8_p146]
  refine E8_pm ?_
  cases s
  · have h6 : ((i.natAbs : Nat) : Int) = i := h3
    have h7 : i.tmod 2880 = ((i.natAbs : Nat) : Int).tmod 2880 := by rw [h6]
    exact h7.symm
  · have h6 : -((i.natAbs : Nat) : Int) = i := h3
    have h7 : i.tmod 2880 = (-((i.natAbs : Nat) : Int)).tmod 2880 := by rw [h6]
    rw [h7, Int.neg_tmod]; rfl
theorem E8_30 {k : Nat} (hk : k < 12) : E8 (240 * (k : Int)) (FP.fmul 1106247680 (FP.i2f (nI k))) := by
  have h1 := FP.Core.i2f_int (a := 30) (by decide)
  rw [show FP.Core.i2f 30 = 1106247680 by decide +kernel] at h1
  have hk2 : (nI k).toInt = (k : Int) := nI_toInt (by omega)
  have h2 := FP.Core.i2f_int (a := nI k) (by rw [hk2]; omega)
  have h3 := E8_int (FP.Core.fmul_int h1 h2 (by rw [hk2, show (30 : Int32).toInt = 30 from rfl]; omega))
  rw [hk2, show (30 : Int32).toInt = 30 from rfl, ← Int.mul_assoc] at h3
  exact h3
section ZFP
variable {p : Program} {l : Launch} {e : Env} {R : Room} {s : State} {m : MethodId} {args : Array Value} {below : List Frame} {meth : Method} {c : Code} {H : Heap} {locs : List Loc} {cells slots : Nat} {Q : State → Prop}
variable {D : va_G} {ka : Nat → ClassId} {kb : Nat → Nat} {A : Nat → Prop} {cc : ByteArray} {own : String} {nL : Nat} {ret : Option FieldType} {ws : va_W} {pc : Nat} {ls : Array Slot} {rest st0 : List Value} {idx : Nat}
theorem lv_ldcfw (hexec : p.tables.exec = Jvm.exec) (hb : c.code = cc) {own : String} {index : Nat} {v : UInt32} (hown : s.vm.findClass own = some m.cls) (hconst : (Jvm.Cond.constantFloat own index v).before args s = true) (hdg : decode cc pc = .ok (.ldc_w index, 3)) (k : W p l e R s m args below meth c H locs cells slots Q (F0 m (pc + 3) ls (.float v :: rest))) : W p l e R s m args below meth c H locs cells slots Q (F0 m pc ls rest) := by
  obtain ⟨k0, cf, hk, hcf, hcp⟩ := Jvm.Cond.constantFloat_spec hown hconst
  intro T hT X
  obtain ⟨t, a, b⟩ := k T hT X
  refine ⟨t, ?_, b⟩
  obtain ⟨k', hk', he⟩ := X.warmed.alike.2.2 _ _ hk
  jvm_step X.here [X.here.top, hexec, hb, hdg, ldc_w.wp_float (s := T) (f := F0 m pc ls rest) X.here.top hk' (by rw [he]; exact hcf) hcp]
  exact a
theorem zldcf {v : UInt32} (hw : Cond.constantFloat own idx v ∈ wsL_law) (hF : zF p s m args meth c D ka kb A cc own nL ret) (hdg : decode cc pc = .ok (.ldc idx, 2)) (k : W p l e R s m args below meth c H locs cells slots Q (F0 m (pc + 2) ls (.float v :: rest))) : W p l e R s m args below meth c H locs cells slots Q (F0 m pc ls rest) :=
  lv_ldcf hF.1.1 hF.1.2.1 hF.1.2.2.2.1 (hF.1.2.2.2.2 _ hw) hdg k
theorem zldcfw {v : UInt32} (hw : Cond.constantFloat own idx v ∈ wsL_law) (hF : zF p s m args meth c D ka kb A cc own nL ret) (hdg : decode cc pc = .ok (.ldc_w idx, 3)) (k : W p l e R s m args below meth c H locs cells slots Q (F0 m (pc + 3) ls (.float v :: rest))) : W p l e R s m args below meth c H locs cells slots Q (F0 m pc ls rest) :=
  lv_ldcfw hF.1.1 hF.1.2.1 hF.1.2.2.2.1 (hF.1.2.2.2.2 _ hw) hdg k
theorem zfadd {x y : UInt32} {K : Int} (hr : E8 K (FP.fadd x y)) (hx : p.tables.exec = Jvm.exec) (hb : c.code = cc) (hdg : decode cc pc = .ok (.fadd, 1)) (k : ∀ r, E8 K r → W p l e R s m args below meth c H locs cells slots Q (F0 m (pc + 1) ls (.float r :: rest))) : W p l e R s m args below meth c H locs cells slots Q (F0 m pc ls (.float y :: .float x :: rest)) := lv_fadd hx hb hdg (E8_n32 hr) (k _ hr)
theorem zfsub {x y : UInt32} {K : Int} (hr : E8 K (FP.fsub x y)) (hx : p.tables.exec = Jvm.exec) (hb : c.code = cc) (hdg : decode cc pc = .ok (.fsub, 1)) (k : ∀ r, E8 K r → W p l e R s m args below meth c H locs cells slots Q (F0 m (pc + 1) ls (.float r :: rest))) : W p l e R s m args below meth c H locs cells slots Q (F0 m pc ls (.float y :: .float x :: rest)) := lv_fsub hx hb hdg (E8_n32 hr) (k _ hr)
theorem zfmul {x y : UInt32} {K : Int} (hr : E8 K (FP.fmul x y)) (hx : p.tables.exec = Jvm.exec) (hb : c.code = cc) (hdg : decode cc pc = .ok (.fmul, 1)) (k : ∀ r, E8 K r → W p l e R s m args below meth c H locs cells slots Q (F0 m (pc + 1) ls (.float r :: rest))) : W p l e R s m args below meth c H locs cells slots Q (F0 m pc ls (.float y :: .float x :: rest)) := lv_fmul hx hb hdg (E8_n32 hr) (k _ hr)
theorem zfdiv {x y : UInt32} {K : Int} (hr : E8 K (FP.fdiv x y)) (hx : p.tables.exec = Jvm.exec) (hb : c.code = cc) (hdg : decode cc pc = .ok (.fdiv, 1)) (k : ∀ r, E8 K r → W p l e R s m args below meth c H locs cells slots Q (F0 m (pc + 1) ls (.float r :: rest))) : W p l e R s m args below meth c H locs cells slots Q (F0 m pc ls (.float y :: .float x :: rest)) := lv_fdiv hx hb hdg (E8_n32 hr) (k _ hr)
theorem zfrem {x y : UInt32} {K : Int} (hr : E8 K (FP.frem x y)) (hx : p.tables.exec = Jvm.exec) (hb : c.code = cc) (hdg : decode cc pc = .ok (.frem, 1)) (k : ∀ r, E8 K r → W p l e R s m args below meth c H locs cells slots Q (F0 m (pc + 1) ls (.float r :: rest))) : W p l e R s m args below meth c H locs cells slots Q (F0 m pc ls (.float y :: .float x :: rest)) := lv_frem hx hb hdg (E8_n32 hr) (k _ hr)
/-- the comparison of two eighths, what an 'ifge' behind it asks -/
theorem zfcmpg {x y : UInt32} {i j : Int} (h1 : E8 i x) (h2 : E8 j y) (hx : p.tables.exec = Jvm.exec) (hb : c.code = cc) (hdg : decode cc pc = .ok (.fcmp .g, 1)) (k : ∀ r : Int32, (0 ≤ r ↔ ¬ i < j) → W p l e R s m args below meth c H locs cells slots Q (F0 m (pc + 1) ls (.int r :: rest))) : W p l e R s m args below meth c H locs cells slots Q (F0 m pc ls (.float y :: .float x :: rest)) := by
  refine lv_fcmp hx hb hdg (k _ ?_)
  rw [E8_cmp h1 h2]
  have h3 := FP.Core.compare_lt_iff i j
  cases h4 : compare i j with
  | lt => exact ⟨fun e8 => absurd e8 (by decide), fun e8 => absurd (h3.mp h4) e8⟩
  | eq => exact ⟨fun _ e8 => by rw [h3.mpr e8] at h4; exact absurd h4 (by decide), fun _ => by decide⟩
  | gt => exact ⟨fun _ e8 => by rw [h3.mpr e8] at h4; exact absurd h4 (by decide), fun _ => by decide⟩
end ZFP
