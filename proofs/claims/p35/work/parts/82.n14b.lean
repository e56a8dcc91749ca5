def mzN (cn : Nat) (zn : Nat → Nat) : Nat := if cn = 0 then 0 else zn (cn - 1)
theorem mz_le {cn : Nat} {zn : Nat → Nat} (h : cn ≤ 3) (h2 : ∀ i, i < cn → zn i ≤ 9) : mzN cn zn ≤ 9 := by
  unfold mzN
  split
  · omega
  · exact h2 _ (by omega)
theorem ms_n {cn : Nat} {zs : Nat → Int32} {zn : Nat → Nat} (h : cn ≤ 3) (h2 : ∀ i, i < cn → zs i = nI (zn i)) : msZ cn zs = nI (mzN cn zn) := by
  unfold msZ mzN
  by_cases e : cn = 0
  · rw [if_pos e, if_pos e]; rfl
  · rw [if_neg e, if_neg e]; exact h2 _ (by omega)
/-- the sizes of one angle; the angles from fm on -/
def szF (f : Nat → bT → bT) (a : Nat) (zn : Nat → Nat) : Nat → bT → bT
  | 0, b => b
  | i + 1, b => f (10 * a + zn i) (szF f a zn i b)
def anF (f : Nat → bT → bT) (op : Nat → Bool) (zn : Nat → Nat) (cn fm : Nat) : Nat → bT → bT
  | 0, b => b
  | k + 1, b => if op (fm + k) = true then szF f (fm + k) zn cn (anF f op zn cn fm k b) else anF f op zn cn fm k b
theorem an_all {f : Nat → bT → bT} {opb : Int32} {a cn ii : Nat} {zn : Nat → Nat} {b1 b2 : bT} (h : b2 = szF f a zn ii b1) (hi : ii = cn) (ho : ii ≠ 0 → lgX opb a = 1) : (if (fun a9 => dB (lgX opb a9 = 1)) a = true then szF f a zn cn b1 else b1) = b2 := by
  show (if dB (lgX opb a = 1) = true then szF f a zn cn b1 else b1) = b2
  by_cases e : dB (lgX opb a = 1) = true
  · rw [if_pos e, h, hi]
  · rw [if_neg e]
    have e0 : ii = 0 := Decidable.of_not_not (fun e8 => e (dB_t.mpr (ho e8)))
    rw [h, e0]; rfl
theorem an_none {f : Nat → bT → bT} {opb : Int32} {a cn ii : Nat} {zn : Nat → Nat} {b1 b2 : bT} (h : b2 = szF f a zn ii b1) (hi : lgX opb a = 0) (ho : ii ≠ 0 → lgX opb a = 1) : (if (fun a9 => dB (lgX opb a9 = 1)) a = true then szF f a zn cn b1 else b1) = b2 := by
  show (if dB (lgX opb a = 1) = true then szF f a zn cn b1 else b1) = b2
  have h1 : ¬ lgX opb a = 1 := fun e => by rw [hi] at e; exact absurd e (by decide)
  rw [if_neg (fun e => h1 (dB_t.mp e))]
  have e0 : ii = 0 := Decidable.of_not_not (fun e8 => h1 (ho e8))
  rw [h, e0]; rfl
/-- the class's search: so many holes left, from an angle on, behind a chain -/
noncomputable def clR (P : Nat → Int) (li mz : Nat) (op : Nat → Bool) (zn : Nat → Nat) (cn : Nat) : Nat → Nat → List Nat → bT → bT
  | 0, _, pr, b => lkU P (li : Int) pr b
  | r + 1, fm, pr, b => if quB (prP P pr) ((li + (r + 1) * mz : Nat) : Int) = true then anF (fun c b => clR P li mz op zn cn r (c / 10 + 1) (c :: pr) b) op zn cn fm (12 - r - fm) b else b
theorem lkU_n {P : Nat → Int} {li : Int} {pr : List Nat} {b : bT} (h : quB (prP P pr) li = false) : lkU P li pr b = b := by
  unfold lkU
  rw [if_neg (by rw [lkB_f1 h]; decide)]
theorem kb_lk {P : Nat → Int} {li : Int} {pr : List Nat} {b : bT} {sa ss : Nat → Int32} (h : okS sa ss pr) (hq : quB (prP P pr) li = true) : kbW (prP P pr) (pr.length + 0) sa ss b = lkU P li pr b := by
  unfold kbW lkU
  by_cases e : b.1 = -1 ∨ sgI (sqI (prP P pr) 0 - b.2.1) (sqI (prP P pr) 1 - b.2.2.1) < 0
  · rw [if_pos e, if_pos (lkB_t hq e), Nat.add_zero, okS_A h, okS_Z h]
  · rw [if_neg e, if_neg (fun e9 => e (dB_t.mp e9).2)]
set_option maxHeartbeats 4000000 in
set_option maxRecDepth 100000 in
theorem c_X4_extend_0 (l : Launch) (D : va_G) (ka : Nat → ClassId) (kb : Nat → Nat) (bd : Nat → Nat) (o : Bool) (cn : Nat) (opb : Int32) (li : Nat) (zs : Nat → Int32) (zn : Nat → Nat) (pr : List Nat) (bb : bT) (sa : Nat → Int32) (ss : Nat → Int32) (na : Nat → Nat) (N : Nat → N5) (P9 : Nat → Int) (fm : Nat) (hcn : cn ≤ 3) (hzs : ∀ i, i < cn → zs i = nI (zn i) ∧ zn i ≤ 9) (hli : li ≤ 99) (hPb : ∀ k, k < 4 → -(9000 * wB k) ≤ P9 k ∧ P9 k ≤ 9000 * wB k) (hoS : okS sa ss pr) (hlen : pr.length + 0 ≤ 4) (hQp : N (34 + pr.length) = p20N (prP P9 pr)) (hB9 : bB bb) (hfm : fm ≤ 12) : zV l D ka kb yX4_extend cX4_extend 6 4 102 [.ref (bd 4), .int (nI pr.length), .int (nI fm)] ([((bd 4), .inr (4, [.ref (bd 18), .ref (bd 19), .int (nI cn), .int opb, .int (nI li), .int (nI (pr.length + 0)), .ref (bd 20), .ref (bd 21), .ref (bd 22), .int bb.1, .ref (bd 23), .ref (bd 24), .long (Int64.ofInt bb.2.1), .long (Int64.ofInt bb.2.2.1)])), ((bd 18), .inr (2, [.int (bI o), .ref (na 31), .ref (na 32), .ref (na 33)])), ((bd 19), .inl (ka 0, 3, .inl zs)), ((bd 20), .inl (ka 3, 5, .inr (.inr (.inr (.inr (nR na 34)))))), ((bd 21), .inl (ka 0, 4, .inl sa)), ((bd 22), .inl (ka 0, 4, .inl ss)), ((bd 23), .inl (ka 0, 4, .inl bb.2.2.2.1)), ((bd 24), .inl (ka 0, 4, .inl bb.2.2.2.2))] ++ nP na N) (fun (u : (Nat → N5) × (Nat → Int32) × (Nat → Int32) × Bool) => (∀ k9, (k9 < 35 + pr.length ∨ 38 < k9) → u.1 k9 = N k9) ∧ (∀ j, j < pr.length → u.2.1 j = sa j ∧ u.2.2.1 j = ss j) ∧ bB (clR P9 li (mzN cn zn) (fun a9 => dB (lgX opb a9 = 1)) zn cn 0 fm pr bb)) (fun (u : (Nat → N5) × (Nat → Int32) × (Nat → Int32) × Bool) => [((bd 4), .inr (4, [.ref (bd 18), .ref (bd 19), .int (nI cn), .int opb, .int (nI li), .int (nI (pr.length + 0)), .ref (bd 20), .ref (bd 21), .ref (bd 22), .int ((clR P9 li (mzN cn zn) (fun a9 => dB (lgX opb a9 = 1)) zn cn 0 fm pr bb).1), .ref (bd 23), .ref (bd 24), .long (Int64.ofInt (clR P9 li (mzN cn zn) (fun a9 => dB (lgX opb a9 = 1)) zn cn 0 fm pr bb).2.1), .long (Int64.ofInt (clR P9 li (mzN cn zn) (fun a9 => dB (lgX opb a9 = 1)) zn cn 0 fm pr bb).2.2.1)])), ((bd 18), .inr (2, [.int (bI u.2.2.2), .ref (na 31), .ref (na 32), .ref (na 33)])), ((bd 19), .inl (ka 0, 3, .inl zs)), ((bd 20), .inl (ka 3, 5, .inr (.inr (.inr (.inr (nR na 34)))))), ((bd 21), .inl (ka 0, 4, .inl u.2.1)), ((bd 22), .inl (ka 0, 4, .inl u.2.2.1)), ((bd 23), .inl (ka 0, 4, .inl ((clR P9 li (mzN cn zn) (fun a9 => dB (lgX opb a9 = 1)) zn cn 0 fm pr bb).2.2.2.1))), ((bd 24), .inl (ka 0, 4, .inl ((clR P9 li (mzN cn zn) (fun a9 => dB (lgX opb a9 = 1)) zn cn 0 fm pr bb).2.2.2.2)))] ++ nP na u.1) := by
  refine zV.mk RX4 (by decide +kernel) rfl (Nat.le_of_ble_eq_true rfl) ?_
  intro p e s m below meth c A ls args Q hQ hx hb hF hB hl
  replace hl : lv_has ls 6 [(0, .ref (bd 4)), (1, .int (nI pr.length)), (2, .int (nI fm))] := hl
  have hcs := okS_lt hoS
  have hbd : bdP (prP P9 pr) := prP_bd4 hPb hcs (by omega)
  have hmz : mzN cn zn ≤ 9 := mz_le hcn (fun i hi => (hzs i hi).2)
  obtain ⟨fq, hfq⟩ : ∃ x, x = li + 0 * mzN cn zn := ⟨_, rfl⟩
  refine lv_aload_n hx hb dX4_extend_0 rfl (lv_at hl 0 rfl) ?_
  refine zget zf_X4_74 hF hB 0 rfl rfl dX4_extend_1 ?_
  refine lv_iload_n hx hb dX4_extend_4 rfl (lv_at hl 1 rfl) ?_
  refine lv_isub hx hb dX4_extend_5 ?_
  refine ztopi (y := (0 : Int32)) ((pk_sub (a := pr.length + 0) (b := pr.length) (by omega)).trans (by rw [Nat.add_sub_cancel_left] <;> rfl)) ?_
  refine lv_istore_n (lv' := [(3, .int (0 : Int32)), (0, .ref (bd 4)), (1, .int (nI pr.length)), (2, .int (nI fm))]) hx hb dX4_extend_6 rfl hl (by decide) rfl ?_
  clear hl
  clear ls
  intro ls hl
  refine lv_iload_n hx hb dX4_extend_7 rfl (lv_at hl 2 rfl) ?_
  refine lv_iconst (v := 4) hx hb dX4_extend_8 (by decide) ?_
  refine lv_icmp_gt (tgt := 36) hx hb dX4_extend_9 (by decide) (fun h9 => ?_) (fun h9 => ?_)
  · skip
    exact absurd h9 (Int32.not_lt.mpr ((nI_leI (a := pr.length) (b := 4) (by omega) (by decide)).mpr (by omega)))
  · skip
    refine lv_aload_n hx hb dX4_extend_12 rfl (lv_at hl 1 rfl) ?_
    refine lv_aload_n hx hb dX4_extend_13 rfl (lv_at hl 1 rfl) ?_
    refine zget zf_X4_24 hF hB 0 rfl rfl dX4_extend_14 ?_
    refine lv_iload_n hx hb dX4_extend_17 rfl (lv_at hl 2 rfl) ?_
    refine zaald hF hB 3 rfl (t0 := 3) rfl pr.length (rfl) (by omega) (by decide) (r := na (34 + pr.length)) (rfl) dX4_extend_18 ?_
    refine lv_aload_n hx hb dX4_extend_19 rfl (lv_at hl 1 rfl) ?_
    refine zget zf_X4_69 hF hB 0 rfl rfl dX4_extend_20 ?_
    refine lv_iload_n hx hb dX4_extend_23 rfl (lv_at hl 0 rfl) ?_
    refine lv_aload_n hx hb dX4_extend_24 rfl (lv_at hl 1 rfl) ?_
    refine zVi zm_X4_84 hF hB (c_X4_mostSize l D ka kb bd cn opb (nI li) (nI (pr.length + 0)) bb.1 (Int64.ofInt bb.2.1) (Int64.ofInt bb.2.2.1) zs (hcn)) [0, 2] rfl (by decide) [(bd 4), (bd 19)] (fun _ => rfl) rfl 0 4 rfl rfl rfl ⟨Nat.le_of_ble_eq_true rfl, Nat.le_of_ble_eq_true rfl⟩ rfl hl.1 (Nat.le_of_ble_eq_true rfl) ⟨Nat.le_refl _, Nat.le_refl _⟩ dX4_extend_25 ?_
    clear hB
    try clear locs
    try clear H
    intro r1 u1 H locs hp hB
    obtain rfl : r1 = msZ cn zs := hp
    replace hB : zB D A s ([((bd 4), .inr (4, [.ref (bd 18), .ref (bd 19), .int (nI cn), .int opb, .int (nI li), .int (nI (pr.length + 0)), .ref (bd 20), .ref (bd 21), .ref (bd 22), .int bb.1, .ref (bd 23), .ref (bd 24), .long (Int64.ofInt bb.2.1), .long (Int64.ofInt bb.2.2.1)])), ((bd 18), .inr (2, [.int (bI o), .ref (na 31), .ref (na 32), .ref (na 33)])), ((bd 19), .inl (ka 0, 3, .inl zs)), ((bd 20), .inl (ka 3, 5, .inr (.inr (.inr (.inr (nR na 34)))))), ((bd 21), .inl (ka 0, 4, .inl sa)), ((bd 22), .inl (ka 0, 4, .inl ss)), ((bd 23), .inl (ka 0, 4, .inl bb.2.2.2.1)), ((bd 24), .inl (ka 0, 4, .inl bb.2.2.2.2))] ++ nP na N) H locs := hB
    refine ztopi (y := nI (mzN cn zn)) (ms_n hcn (fun i hi => (hzs i hi).1)) ?_
    refine lv_imul hx hb dX4_extend_28 ?_
    refine ztopi (y := nI (0 * (mzN cn zn))) (pk_mul 0 (mzN cn zn)) ?_
    refine lv_iadd hx hb dX4_extend_29 ?_
    refine ztopi (y := nI fq) (by rw [hfq]; exact nI_add _ _) ?_
    refine zVi zm_X4_51 hF hB (c_X4_isWithin l D ka kb bd o (nI cn) opb (nI li) (nI (pr.length + 0)) bb.1 (Int64.ofInt bb.2.1) (Int64.ofInt bb.2.2.1) na N (34 + pr.length) fq (prP P9 pr) (by omega) (hQp) (hbd) (by omega)) ([0, 1] ++ npr 8) (zsel_pool rfl rfl) (va_nd_pool rfl rfl) ([(bd 4), (bd 18)] ++ nA na) (fun _ => zad_pool rfl) (zad_pool rfl) 0 4 rfl rfl rfl ⟨Nat.le_of_ble_eq_true rfl, Nat.le_of_ble_eq_true rfl⟩ rfl hl.1 (Nat.le_of_ble_eq_true rfl) ⟨Nat.le_refl _, Nat.le_refl _⟩ dX4_extend_30 ?_
    clear hB
    try clear locs
    try clear H
    intro r2 u2 H locs hp hB
    obtain ⟨o92, rfl⟩ : ∃ z, z = u2 := ⟨_, rfl⟩
    have hp2 : r2 = bI (quB (prP P9 pr) (fq : Int)) := hp
    have HPP := hp2
    replace hB : zB D A s ([((bd 4), .inr (4, [.ref (bd 18), .ref (bd 19), .int (nI cn), .int opb, .int (nI li), .int (nI (pr.length + 0)), .ref (bd 20), .ref (bd 21), .ref (bd 22), .int bb.1, .ref (bd 23), .ref (bd 24), .long (Int64.ofInt bb.2.1), .long (Int64.ofInt bb.2.2.1)])), ((bd 18), .inr (2, [.int (bI o92), .ref (na 31), .ref (na 32), .ref (na 33)])), ((bd 19), .inl (ka 0, 3, .inl zs)), ((bd 20), .inl (ka 3, 5, .inr (.inr (.inr (.inr (nR na 34)))))), ((bd 21), .inl (ka 0, 4, .inl sa)), ((bd 22), .inl (ka 0, 4, .inl ss)), ((bd 23), .inl (ka 0, 4, .inl bb.2.2.2.1)), ((bd 24), .inl (ka 0, 4, .inl bb.2.2.2.2))] ++ nP na N) H locs := zB_pool hB rfl rfl rfl rfl
    have hWI := HPP
    refine lv_if_ne (tgt := 37) hx hb dX4_extend_33 (by decide) (fun h33 => ?_) (fun h33 => ?_)
    · skip
      have hwq : quB (prP P9 pr) (fq : Int) = true := bI_ne0 (fun e9 => h33 (hWI.trans e9))
      refine lv_iload_n hx hb dX4_extend_37 rfl (lv_at hl 0 rfl) ?_
      refine lv_if_gt (tgt := 46) hx hb dX4_extend_38 (by decide) (fun h38 => ?_) (fun h38 => ?_)
      · skip
        exact absurd h38 (by decide)
      · skip
        refine lv_aload_n hx hb dX4_extend_41 rfl (lv_at hl 1 rfl) ?_
        refine zVv zm_X4_87 hF hB (c_X4_keepIfBetter l D ka kb bd o92 (nI cn) opb (nI li) (pr.length + 0) bb sa ss na N (prP P9 pr) (hlen) (hQp) (hbd) (hB9)) ([0, 1, 3, 4, 5, 6, 7] ++ npr 8) (zsel_pool rfl rfl) (va_nd_pool rfl rfl) ([(bd 4), (bd 18), (bd 20), (bd 21), (bd 22), (bd 23), (bd 24)] ++ nA na) (fun _ => zad_pool rfl) (zad_pool rfl) 0 4 rfl rfl rfl ⟨Nat.le_of_ble_eq_true rfl, Nat.le_of_ble_eq_true rfl⟩ rfl hl.1 (Nat.le_of_ble_eq_true rfl) ⟨Nat.le_refl _, Nat.le_refl _⟩ dX4_extend_42 ?_
        clear hB
        try clear locs
        try clear H
        intro u3 H locs hp hB
        obtain ⟨o93, rfl⟩ : ∃ z, z = u3 := ⟨_, rfl⟩
        have hp3 : True := hp
        have HPP := hp3
        replace hB : zB D A s ([((bd 4), .inr (4, [.ref (bd 18), .ref (bd 19), .int (nI cn), .int opb, .int (nI li), .int (nI (pr.length + 0)), .ref (bd 20), .ref (bd 21), .ref (bd 22), .int ((kbW (prP P9 pr) (pr.length + 0) sa ss bb).1), .ref (bd 23), .ref (bd 24), .long (Int64.ofInt (kbW (prP P9 pr) (pr.length + 0) sa ss bb).2.1), .long (Int64.ofInt (kbW (prP P9 pr) (pr.length + 0) sa ss bb).2.2.1)])), ((bd 18), .inr (2, [.int (bI o93), .ref (na 31), .ref (na 32), .ref (na 33)])), ((bd 19), .inl (ka 0, 3, .inl zs)), ((bd 20), .inl (ka 3, 5, .inr (.inr (.inr (.inr (nR na 34)))))), ((bd 21), .inl (ka 0, 4, .inl sa)), ((bd 22), .inl (ka 0, 4, .inl ss)), ((bd 23), .inl (ka 0, 4, .inl ((kbW (prP P9 pr) (pr.length + 0) sa ss bb).2.2.2.1))), ((bd 24), .inl (ka 0, 4, .inl ((kbW (prP P9 pr) (pr.length + 0) sa ss bb).2.2.2.2)))] ++ nP na N) H locs := zB_pool hB rfl rfl rfl rfl
        have hcl : clR P9 li (mzN cn zn) (fun a9 => dB (lgX opb a9 = 1)) zn cn 0 fm pr bb = kbW (prP P9 pr) (pr.length + 0) sa ss bb := by rw [clR]; exact (kb_lk hoS (by rw [hfq, Nat.zero_mul] at hwq; exact hwq)).symm
        exact zretv hF hB (N, sa, ss, (o93)) (⟨fun _ _ => rfl, fun _ _ => ⟨rfl, rfl⟩, by rw [clR]; exact lkU_B hB9 hbd⟩) (by rw [hcl]) dX4_extend_45 hQ
    · skip
      have hwq : quB (prP P9 pr) (fq : Int) = false := bI_eq0 (hWI.symm.trans h33)
      have hcl : clR P9 li (mzN cn zn) (fun a9 => dB (lgX opb a9 = 1)) zn cn 0 fm pr bb = bb := by rw [clR]; exact lkU_n (by rw [hfq, Nat.zero_mul] at hwq; exact hwq)
      exact zretv hF hB (N, sa, ss, (o92)) (⟨fun _ _ => rfl, fun _ _ => ⟨rfl, rfl⟩, by rw [hcl]; exact hB9⟩) (by rw [hcl]) dX4_extend_36 hQ

set_option maxHeartbeats 4000000 in
set_option maxRecDepth 100000 in
theorem c_X4_extend_1 (l : Launch) (D : va_G) (ka : Nat → ClassId) (kb : Nat → Nat) (bd : Nat → Nat) (o : Bool) (cn : Nat) (opb : Int32) (li : Nat) (zs : Nat → Int32) (zn : Nat → Nat) (pr : List Nat) (bb : bT) (sa : Nat → Int32) (ss : Nat → Int32) (na : Nat → Nat) (N : Nat → N5) (P9 : Nat → Int) (fm : Nat) (hcn : cn ≤ 3) (hzs : ∀ i, i < cn → zs i = nI (zn i) ∧ zn i ≤ 9) (hli : li ≤ 99) (hPb : ∀ k, k < 4 → -(9000 * wB k) ≤ P9 k ∧ P9 k ≤ 9000 * wB k) (hoS : okS sa ss pr) (hlen : pr.length + 1 ≤ 4) (hQp : N (34 + pr.length) = p20N (prP P9 pr)) (hB9 : bB bb) (hfm : fm ≤ 12) : zV l D ka kb yX4_extend cX4_extend 6 5 127 [.ref (bd 4), .int (nI pr.length), .int (nI fm)] ([((bd 4), .inr (4, [.ref (bd 18), .ref (bd 19), .int (nI cn), .int opb, .int (nI li), .int (nI (pr.length + 1)), .ref (bd 20), .ref (bd 21), .ref (bd 22), .int bb.1, .ref (bd 23), .ref (bd 24), .long (Int64.ofInt bb.2.1), .long (Int64.ofInt bb.2.2.1)])), ((bd 18), .inr (2, [.int (bI o), .ref (na 31), .ref (na 32), .ref (na 33)])), ((bd 19), .inl (ka 0, 3, .inl zs)), ((bd 20), .inl (ka 3, 5, .inr (.inr (.inr (.inr (nR na 34)))))), ((bd 21), .inl (ka 0, 4, .inl sa)), ((bd 22), .inl (ka 0, 4, .inl ss)), ((bd 23), .inl (ka 0, 4, .inl bb.2.2.2.1)), ((bd 24), .inl (ka 0, 4, .inl bb.2.2.2.2))] ++ nP na N) (fun (u : (Nat → N5) × (Nat → Int32) × (Nat → Int32) × Bool) => (∀ k9, (k9 < 35 + pr.length ∨ 38 < k9) → u.1 k9 = N k9) ∧ (∀ j, j < pr.length → u.2.1 j = sa j ∧ u.2.2.1 j = ss j) ∧ bB (clR P9 li (mzN cn zn) (fun a9 => dB (lgX opb a9 = 1)) zn cn 1 fm pr bb)) (fun (u : (Nat → N5) × (Nat → Int32) × (Nat → Int32) × Bool) => [((bd 4), .inr (4, [.ref (bd 18), .ref (bd 19), .int (nI cn), .int opb, .int (nI li), .int (nI (pr.length + 1)), .ref (bd 20), .ref (bd 21), .ref (bd 22), .int ((clR P9 li (mzN cn zn) (fun a9 => dB (lgX opb a9 = 1)) zn cn 1 fm pr bb).1), .ref (bd 23), .ref (bd 24), .long (Int64.ofInt (clR P9 li (mzN cn zn) (fun a9 => dB (lgX opb a9 = 1)) zn cn 1 fm pr bb).2.1), .long (Int64.ofInt (clR P9 li (mzN cn zn) (fun a9 => dB (lgX opb a9 = 1)) zn cn 1 fm pr bb).2.2.1)])), ((bd 18), .inr (2, [.int (bI u.2.2.2), .ref (na 31), .ref (na 32), .ref (na 33)])), ((bd 19), .inl (ka 0, 3, .inl zs)), ((bd 20), .inl (ka 3, 5, .inr (.inr (.inr (.inr (nR na 34)))))), ((bd 21), .inl (ka 0, 4, .inl u.2.1)), ((bd 22), .inl (ka 0, 4, .inl u.2.2.1)), ((bd 23), .inl (ka 0, 4, .inl ((clR P9 li (mzN cn zn) (fun a9 => dB (lgX opb a9 = 1)) zn cn 1 fm pr bb).2.2.2.1))), ((bd 24), .inl (ka 0, 4, .inl ((clR P9 li (mzN cn zn) (fun a9 => dB (lgX opb a9 = 1)) zn cn 1 fm pr bb).2.2.2.2)))] ++ nP na u.1) := by
  refine zV.mk RX4 (by decide +kernel) rfl (Nat.le_of_ble_eq_true rfl) ?_
  intro p e s m below meth c A ls args Q hQ hx hb hF hB hl
  replace hl : lv_has ls 6 [(0, .ref (bd 4)), (1, .int (nI pr.length)), (2, .int (nI fm))] := hl
  have hcs := okS_lt hoS
  have hbd : bdP (prP P9 pr) := prP_bd4 hPb hcs (by omega)
  have hmz : mzN cn zn ≤ 9 := mz_le hcn (fun i hi => (hzs i hi).2)
  obtain ⟨fq, hfq⟩ : ∃ x, x = li + 1 * mzN cn zn := ⟨_, rfl⟩
  refine lv_aload_n hx hb dX4_extend_0 rfl (lv_at hl 0 rfl) ?_
  refine zget zf_X4_74 hF hB 0 rfl rfl dX4_extend_1 ?_
  refine lv_iload_n hx hb dX4_extend_4 rfl (lv_at hl 1 rfl) ?_
  refine lv_isub hx hb dX4_extend_5 ?_
  refine ztopi (y := (1 : Int32)) ((pk_sub (a := pr.length + 1) (b := pr.length) (by omega)).trans (by rw [Nat.add_sub_cancel_left] <;> rfl)) ?_
  refine lv_istore_n (lv' := [(3, .int (1 : Int32)), (0, .ref (bd 4)), (1, .int (nI pr.length)), (2, .int (nI fm))]) hx hb dX4_extend_6 rfl hl (by decide) rfl ?_
  clear hl
  clear ls
  intro ls hl
  refine lv_iload_n hx hb dX4_extend_7 rfl (lv_at hl 2 rfl) ?_
  refine lv_iconst (v := 4) hx hb dX4_extend_8 (by decide) ?_
  refine lv_icmp_gt (tgt := 36) hx hb dX4_extend_9 (by decide) (fun h9 => ?_) (fun h9 => ?_)
  · skip
    exact absurd h9 (Int32.not_lt.mpr ((nI_leI (a := pr.length) (b := 4) (by omega) (by decide)).mpr (by omega)))
  · skip
    refine lv_aload_n hx hb dX4_extend_12 rfl (lv_at hl 1 rfl) ?_
    refine lv_aload_n hx hb dX4_extend_13 rfl (lv_at hl 1 rfl) ?_
    refine zget zf_X4_24 hF hB 0 rfl rfl dX4_extend_14 ?_
    refine lv_iload_n hx hb dX4_extend_17 rfl (lv_at hl 2 rfl) ?_
    refine zaald hF hB 3 rfl (t0 := 3) rfl pr.length (rfl) (by omega) (by decide) (r := na (34 + pr.length)) (rfl) dX4_extend_18 ?_
    refine lv_aload_n hx hb dX4_extend_19 rfl (lv_at hl 1 rfl) ?_
    refine zget zf_X4_69 hF hB 0 rfl rfl dX4_extend_20 ?_
    refine lv_iload_n hx hb dX4_extend_23 rfl (lv_at hl 0 rfl) ?_
    refine lv_aload_n hx hb dX4_extend_24 rfl (lv_at hl 1 rfl) ?_
    refine zVi zm_X4_84 hF hB (c_X4_mostSize l D ka kb bd cn opb (nI li) (nI (pr.length + 1)) bb.1 (Int64.ofInt bb.2.1) (Int64.ofInt bb.2.2.1) zs (hcn)) [0, 2] rfl (by decide) [(bd 4), (bd 19)] (fun _ => rfl) rfl 0 4 rfl rfl rfl ⟨Nat.le_of_ble_eq_true rfl, Nat.le_of_ble_eq_true rfl⟩ rfl hl.1 (Nat.le_of_ble_eq_true rfl) ⟨Nat.le_refl _, Nat.le_refl _⟩ dX4_extend_25 ?_
    clear hB
    try clear locs
    try clear H
    intro r1 u1 H locs hp hB
    obtain rfl : r1 = msZ cn zs := hp
    replace hB : zB D A s ([((bd 4), .inr (4, [.ref (bd 18), .ref (bd 19), .int (nI cn), .int opb, .int (nI li), .int (nI (pr.length + 1)), .ref (bd 20), .ref (bd 21), .ref (bd 22), .int bb.1, .ref (bd 23), .ref (bd 24), .long (Int64.ofInt bb.2.1), .long (Int64.ofInt bb.2.2.1)])), ((bd 18), .inr (2, [.int (bI o), .ref (na 31), .ref (na 32), .ref (na 33)])), ((bd 19), .inl (ka 0, 3, .inl zs)), ((bd 20), .inl (ka 3, 5, .inr (.inr (.inr (.inr (nR na 34)))))), ((bd 21), .inl (ka 0, 4, .inl sa)), ((bd 22), .inl (ka 0, 4, .inl ss)), ((bd 23), .inl (ka 0, 4, .inl bb.2.2.2.1)), ((bd 24), .inl (ka 0, 4, .inl bb.2.2.2.2))] ++ nP na N) H locs := hB
    refine ztopi (y := nI (mzN cn zn)) (ms_n hcn (fun i hi => (hzs i hi).1)) ?_
    refine lv_imul hx hb dX4_extend_28 ?_
    refine ztopi (y := nI (1 * (mzN cn zn))) (pk_mul 1 (mzN cn zn)) ?_
    refine lv_iadd hx hb dX4_extend_29 ?_
    refine ztopi (y := nI fq) (by rw [hfq]; exact nI_add _ _) ?_
    refine zVi zm_X4_51 hF hB (c_X4_isWithin l D ka kb bd o (nI cn) opb (nI li) (nI (pr.length + 1)) bb.1 (Int64.ofInt bb.2.1) (Int64.ofInt bb.2.2.1) na N (34 + pr.length) fq (prP P9 pr) (by omega) (hQp) (hbd) (by omega)) ([0, 1] ++ npr 8) (zsel_pool rfl rfl) (va_nd_pool rfl rfl) ([(bd 4), (bd 18)] ++ nA na) (fun _ => zad_pool rfl) (zad_pool rfl) 0 4 rfl rfl rfl ⟨Nat.le_of_ble_eq_true rfl, Nat.le_of_ble_eq_true rfl⟩ rfl hl.1 (Nat.le_of_ble_eq_true rfl) ⟨Nat.le_refl _, Nat.le_refl _⟩ dX4_extend_30 ?_
    clear hB
    try clear locs
    try clear H
    intro r2 u2 H locs hp hB
    obtain ⟨o92, rfl⟩ : ∃ z, z = u2 := ⟨_, rfl⟩
    have hp2 : r2 = bI (quB (prP P9 pr) (fq : Int)) := hp
    have HPP := hp2
    replace hB : zB D A s ([((bd 4), .inr (4, [.ref (bd 18), .ref (bd 19), .int (nI cn), .int opb, .int (nI li), .int (nI (pr.length + 1)), .ref (bd 20), .ref (bd 21), .ref (bd 22), .int bb.1, .ref (bd 23), .ref (bd 24), .long (Int64.ofInt bb.2.1), .long (Int64.ofInt bb.2.2.1)])), ((bd 18), .inr (2, [.int (bI o92), .ref (na 31), .ref (na 32), .ref (na 33)])), ((bd 19), .inl (ka 0, 3, .inl zs)), ((bd 20), .inl (ka 3, 5, .inr (.inr (.inr (.inr (nR na 34)))))), ((bd 21), .inl (ka 0, 4, .inl sa)), ((bd 22), .inl (ka 0, 4, .inl ss)), ((bd 23), .inl (ka 0, 4, .inl bb.2.2.2.1)), ((bd 24), .inl (ka 0, 4, .inl bb.2.2.2.2))] ++ nP na N) H locs := zB_pool hB rfl rfl rfl rfl
    have hWI := HPP
    refine lv_if_ne (tgt := 37) hx hb dX4_extend_33 (by decide) (fun h33 => ?_) (fun h33 => ?_)
    · skip
      have hwq : quB (prP P9 pr) (fq : Int) = true := bI_ne0 (fun e9 => h33 (hWI.trans e9))
      refine lv_iload_n hx hb dX4_extend_37 rfl (lv_at hl 0 rfl) ?_
      refine lv_if_gt (tgt := 46) hx hb dX4_extend_38 (by decide) (fun h38 => ?_) (fun h38 => ?_)
      · skip
        refine lv_iload_n hx hb dX4_extend_46 rfl (lv_at hl 3 rfl) ?_
        refine lv_istore (lv' := [(4, .int (nI fm)), (3, .int (1 : Int32)), (0, .ref (bd 4)), (1, .int (nI pr.length)), (2, .int (nI fm))]) hx hb dX4_extend_47 hl (by decide) rfl ?_
        clear hl
        clear ls
        intro ls hl
        have lp49 : ∀ (fl : Nat) (kk : Nat) (b1 : bT) (N1 : Nat → N5) (sa1 : Nat → Int32) (ss1 : Nat → Int32) (o1 : Bool), (hk : kk ≤ 12 - 0 - fm) → (hb1 : b1 = anF (fun c b => clR P9 li (mzN cn zn) (fun a9 => dB (lgX opb a9 = 1)) zn cn 0 (c / 10 + 1) (c :: pr) b) (fun a9 => dB (lgX opb a9 = 1)) zn cn fm kk bb) → (hB1 : bB b1) → (hN1 : ∀ k9, (k9 < 35 + pr.length ∨ 38 < k9) → N1 k9 = N k9) → (hS1 : ∀ j, j < pr.length → sa1 j = sa j ∧ ss1 j = ss j) → 13 - kk < fl → ∀ (H : Heap) (locs : List Loc), zB D A s ([((bd 4), .inr (4, [.ref (bd 18), .ref (bd 19), .int (nI cn), .int opb, .int (nI li), .int (nI (pr.length + 1)), .ref (bd 20), .ref (bd 21), .ref (bd 22), .int b1.1, .ref (bd 23), .ref (bd 24), .long (Int64.ofInt b1.2.1), .long (Int64.ofInt b1.2.2.1)])), ((bd 18), .inr (2, [.int (bI o1), .ref (na 31), .ref (na 32), .ref (na 33)])), ((bd 19), .inl (ka 0, 3, .inl zs)), ((bd 20), .inl (ka 3, 5, .inr (.inr (.inr (.inr (nR na 34)))))), ((bd 21), .inl (ka 0, 4, .inl sa1)), ((bd 22), .inl (ka 0, 4, .inl ss1)), ((bd 23), .inl (ka 0, 4, .inl b1.2.2.2.1)), ((bd 24), .inl (ka 0, 4, .inl b1.2.2.2.2))] ++ nP na N1) H locs → ∀ ls : Array Slot, lv_has ls 6 [(4, .int (nI (fm + kk))), (0, .ref (bd 4)), (1, .int (nI pr.length)), (3, .int (1 : Int32))] → W p l e (zRm 5 127 0 0) s m args below meth c H locs 0 0 Q (F0 m 49 ls []) := by
          intro fl
          induction fl with
          | zero => intro kk b1 N1 sa1 ss1 o1 hk hb1 hB1 hN1 hS1 hfl; exact absurd hfl (Nat.not_lt_zero _)
          | succ fl ih49 =>
            intro kk b1 N1 sa1 ss1 o1 hk hb1 hB1 hN1 hS1 hfl49 H locs hB ls hl
            refine lv_iload hx hb dX4_extend_49 (lv_at hl 0 rfl) ?_
            refine lv_bipush (v := 12) hx hb dX4_extend_51 (by decide) ?_
            refine lv_iload_n hx hb dX4_extend_53 rfl (lv_at hl 3 rfl) ?_
            refine lv_isub hx hb dX4_extend_54 ?_
            refine ztopi (y := (11 : Int32)) (by decide) ?_
            refine lv_icmp_gt (tgt := 119) hx hb dX4_extend_55 (by decide) (fun h55 => ?_) (fun h55 => ?_)
            · skip
              have hke : kk = 12 - 0 - fm := by have := mt (nI_leI (a := fm + kk) (b := 11) (by omega) (by decide)).mpr (Int32.not_le.mpr h55); omega
              have hcl : clR P9 li (mzN cn zn) (fun a9 => dB (lgX opb a9 = 1)) zn cn 1 fm pr bb = b1 := by rw [clR, if_pos (by rw [← hfq]; exact hwq), hb1, hke]
              exact zretv hF hB (N1, sa1, ss1, (o1)) (⟨hN1, hS1, by rw [hcl]; exact hB1⟩) (by rw [hcl]) dX4_extend_119 hQ
            · skip
              have hk2 : fm + kk ≤ 11 := (nI_leI (a := fm + kk) (b := 11) (by omega) (by decide)).mp (Int32.not_lt.mp h55)
              refine lv_iconst (v := 0) hx hb dX4_extend_58 (by decide) ?_
              refine lv_istore (lv' := [(5, .int (0 : Int32)), (4, .int (nI (fm + kk))), (0, .ref (bd 4)), (1, .int (nI pr.length)), (3, .int (1 : Int32))]) hx hb dX4_extend_59 hl (by decide) rfl ?_
              clear hl
              clear ls
              intro ls hl
              have lp61 : ∀ (fl : Nat) (ii : Nat) (b2 : bT) (N1 : Nat → N5) (sa1 : Nat → Int32) (ss1 : Nat → Int32) (o1 : Bool), (hi : ii ≤ cn) → (hb2 : b2 = szF (fun c b => clR P9 li (mzN cn zn) (fun a9 => dB (lgX opb a9 = 1)) zn cn 0 (c / 10 + 1) (c :: pr) b) (fm + kk) zn ii b1) → (hB2 : bB b2) → (hN1 : ∀ k9, (k9 < 35 + pr.length ∨ 38 < k9) → N1 k9 = N k9) → (hS1 : ∀ j, j < pr.length → sa1 j = sa j ∧ ss1 j = ss j) → (hop1 : ii ≠ 0 → lgX opb (fm + kk) = 1) → 4 - ii < fl → ∀ (H : Heap) (locs : List Loc), zB D A s ([((bd 4), .inr (4, [.ref (bd 18), .ref (bd 19), .int (nI cn), .int opb, .int (nI li), .int (nI (pr.length + 1)), .ref (bd 20), .ref (bd 21), .ref (bd 22), .int b2.1, .ref (bd 23), .ref (bd 24), .long (Int64.ofInt b2.2.1), .long (Int64.ofInt b2.2.2.1)])), ((bd 18), .inr (2, [.int (bI o1), .ref (na 31), .ref (na 32), .ref (na 33)])), ((bd 19), .inl (ka 0, 3, .inl zs)), ((bd 20), .inl (ka 3, 5, .inr (.inr (.inr (.inr (nR na 34)))))), ((bd 21), .inl (ka 0, 4, .inl sa1)), ((bd 22), .inl (ka 0, 4, .inl ss1)), ((bd 23), .inl (ka 0, 4, .inl b2.2.2.2.1)), ((bd 24), .inl (ka 0, 4, .inl b2.2.2.2.2))] ++ nP na N1) H locs → ∀ ls : Array Slot, lv_has ls 6 [(5, .int (nI ii)), (4, .int (nI (fm + kk))), (0, .ref (bd 4)), (1, .int (nI pr.length)), (3, .int (1 : Int32))] → W p l e (zRm 5 127 0 0) s m args below meth c H locs 0 0 Q (F0 m 61 ls []) := by
                intro fl
                induction fl with
                | zero => intro ii b2 N1 sa1 ss1 o1 hi hb2 hB2 hN1 hS1 hop1 hfl; exact absurd hfl (Nat.not_lt_zero _)
                | succ fl ih61 =>
                  intro ii b2 N1 sa1 ss1 o1 hi hb2 hB2 hN1 hS1 hop1 hfl61 H locs hB ls hl
                  refine lv_iload hx hb dX4_extend_61 (lv_at hl 0 rfl) ?_
                  refine lv_aload_n hx hb dX4_extend_63 rfl (lv_at hl 2 rfl) ?_
                  refine zget zf_X4_81 hF hB 0 rfl rfl dX4_extend_64 ?_
                  refine lv_icmp_ge (tgt := 113) hx hb dX4_extend_67 (by decide) (fun h67 => ?_) (fun h67 => ?_)
                  · skip
                    have hie : ii = cn := by have := (nI_leI (a := cn) (b := ii) (by omega) (by omega)).mp h67; omega
                    refine lv_iinc (v := nI ((fm + kk) + 1)) (lv' := [(4, .int (nI ((fm + kk) + 1))), (5, .int (nI ii)), (0, .ref (bd 4)), (1, .int (nI pr.length)), (3, .int (1 : Int32))]) hx hb dX4_extend_113 hl (k := 1) rfl (nI_1 _) (by decide) rfl ?_
                    clear hl
                    clear ls
                    intro ls hl
                    refine lv_goto (tgt := 49) hx hb dX4_extend_116 (by decide) ?_
                    exact ih49 (kk + 1) b2 N1 sa1 ss1 (o1) (by omega) (by rw [anF, ← hb1]; exact (an_all hb2 hie hop1).symm) (hB2) (hN1) (hS1) (by omega) _ _ (hB) _ (lv_sub hl [0, 2, 3, 4] rfl)
                  · skip
                    have hi2 : ii < cn := Nat.not_le.mp (fun e9 => h67 ((nI_leI (a := cn) (b := ii) (by omega) (by omega)).mpr e9))
                    refine lv_aload_n hx hb dX4_extend_70 rfl (lv_at hl 2 rfl) ?_
                    refine zget zf_X4_66 hF hB 0 rfl rfl dX4_extend_71 ?_
                    refine lv_iload hx hb dX4_extend_74 (lv_at hl 1 rfl) ?_
                    refine lv_ishr hx hb dX4_extend_76 ?_
                    refine lv_iconst (v := 1) hx hb dX4_extend_77 (by decide) ?_
                    refine lv_iand hx hb dX4_extend_78 ?_
                    refine ztopi (y := lgX opb (fm + kk)) (rfl) ?_
                    refine lv_if_eq (tgt := 113) hx hb dX4_extend_79 (by decide) (fun h79 => ?_) (fun h79 => ?_)
                    · skip
                      refine lv_iinc (v := nI ((fm + kk) + 1)) (lv' := [(4, .int (nI ((fm + kk) + 1))), (5, .int (nI ii)), (0, .ref (bd 4)), (1, .int (nI pr.length)), (3, .int (1 : Int32))]) hx hb dX4_extend_113 hl (k := 1) rfl (nI_1 _) (by decide) rfl ?_
                      clear hl
                      clear ls
                      intro ls hl
                      refine lv_goto (tgt := 49) hx hb dX4_extend_116 (by decide) ?_
                      exact ih49 (kk + 1) b2 N1 sa1 ss1 (o1) (by omega) (by rw [anF, ← hb1]; exact (an_none hb2 h79 hop1).symm) (hB2) (hN1) (hS1) (by omega) _ _ (hB) _ (lv_sub hl [0, 2, 3, 4] rfl)
                    · skip
                      have hop : lgX opb (fm + kk) = 1 := lgX_1 h79
                      refine lv_aload_n hx hb dX4_extend_82 rfl (lv_at hl 2 rfl) ?_
                      refine lv_iload_n hx hb dX4_extend_83 rfl (lv_at hl 3 rfl) ?_
                      refine lv_iload hx hb dX4_extend_84 (lv_at hl 1 rfl) ?_
                      refine lv_aload_n hx hb dX4_extend_86 rfl (lv_at hl 2 rfl) ?_
                      refine zget zf_X4_18 hF hB 0 rfl rfl dX4_extend_87 ?_
                      refine lv_iload hx hb dX4_extend_90 (lv_at hl 0 rfl) ?_
                      refine ziald hF hB 2 rfl ii (rfl) (by omega) (by decide) (v := (nI (zn ii))) ((hzs ii hi2).1) dX4_extend_92 ?_
                      refine zVv zm_X4_90 hF hB (c_X4_choose l D ka kb bd (nI cn) opb (nI li) (nI (pr.length + 1)) b2.1 (Int64.ofInt b2.2.1) (Int64.ofInt b2.2.2.1) sa1 ss1 na N1 pr.length (fm + kk) (zn ii) (prP P9 pr) (by omega) (by omega) ((hzs ii hi2).2) ((hN1 _ (by omega)).trans hQp)) ([0, 4, 5, 3] ++ npr 8) (zsel_pool rfl rfl) (va_nd_pool rfl rfl) ([(bd 4), (bd 21), (bd 22), (bd 20)] ++ nA na) (fun _ => zad_pool rfl) (zad_pool rfl) 0 4 rfl rfl rfl ⟨Nat.le_of_ble_eq_true rfl, Nat.le_of_ble_eq_true rfl⟩ rfl hl.1 (Nat.le_of_ble_eq_true rfl) ⟨Nat.le_refl _, Nat.le_refl _⟩ dX4_extend_93 ?_
                      clear hB
                      try clear locs
                      try clear H
                      intro u3 H locs hp hB
                      replace hB : zB D A s ([((bd 4), .inr (4, [.ref (bd 18), .ref (bd 19), .int (nI cn), .int opb, .int (nI li), .int (nI (pr.length + 1)), .ref (bd 20), .ref (bd 21), .ref (bd 22), .int b2.1, .ref (bd 23), .ref (bd 24), .long (Int64.ofInt b2.2.1), .long (Int64.ofInt b2.2.2.1)])), ((bd 18), .inr (2, [.int (bI o1), .ref (na 31), .ref (na 32), .ref (na 33)])), ((bd 19), .inl (ka 0, 3, .inl zs)), ((bd 20), .inl (ka 3, 5, .inr (.inr (.inr (.inr (nR na 34)))))), ((bd 21), .inl (ka 0, 4, .inl (upd sa1 pr.length (nI (fm + kk))))), ((bd 22), .inl (ka 0, 4, .inl (upd ss1 pr.length (nI (zn ii))))), ((bd 23), .inl (ka 0, 4, .inl b2.2.2.2.1)), ((bd 24), .inl (ka 0, 4, .inl b2.2.2.2.2))] ++ nP na (upN N1 (34 + (pr.length + 1)) (p20N (fun k9 => (prP P9 pr) k9 + -10 * ((zn ii) : Int) * wI (fm + kk) k9)))) H locs := zB_pool hB rfl rfl rfl rfl
                      have hz9 := (hzs ii hi2).2
                      have hcd : (10 * (fm + kk) + zn ii) / 10 = fm + kk ∧ (10 * (fm + kk) + zn ii) % 10 = zn ii := by omega
                      obtain ⟨N2, hN2⟩ : ∃ M, M = (upN N1 (34 + (pr.length + 1)) (p20N (fun k9 => (prP P9 pr) k9 + -10 * ((zn ii) : Int) * wI (fm + kk) k9))) := ⟨_, rfl⟩
                      rw [← hN2] at hB
                      have q2 : N2 (34 + ((10 * (fm + kk) + zn ii) :: pr).length) = p20N (prP P9 ((10 * (fm + kk) + zn ii) :: pr)) := by
                        rw [hN2]
                        show upN _ (34 + (pr.length + 1)) _ (34 + (pr.length + 1)) = _
                        rw [upN_eq]
                        congr 1
                        funext k9
                        show _ = prP P9 pr k9 + -10 * (((10 * (fm + kk) + zn ii) % 10 : Nat) : Int) * wI ((10 * (fm + kk) + zn ii) / 10) k9
                        rw [hcd.1, hcd.2]
                      have kN2 : ∀ k9, (k9 < 35 + pr.length ∨ 38 < k9) → N2 k9 = N k9 := fun k9 h9 => by rw [hN2, upN_ne (by omega)]; exact hN1 k9 h9
                      have hoS2 : okS (upd sa1 pr.length (nI (fm + kk))) (upd ss1 pr.length (nI (zn ii))) ((10 * (fm + kk) + zn ii) :: pr) := by
                        refine ⟨?_, ?_, by omega, okS_up hoS (fun j hj => ?_)⟩
                        · rw [hcd.1]; exact if_pos rfl
                        · rw [hcd.2]; exact if_pos rfl
                        · exact ⟨(if_neg (by omega)).trans (hS1 j hj).1, (if_neg (by omega)).trans (hS1 j hj).2⟩
                      refine lv_aload_n hx hb dX4_extend_96 rfl (lv_at hl 2 rfl) ?_
                      refine lv_iload_n hx hb dX4_extend_97 rfl (lv_at hl 3 rfl) ?_
                      refine lv_iconst (v := 1) hx hb dX4_extend_98 (by decide) ?_
                      refine lv_iadd hx hb dX4_extend_99 ?_
                      refine ztopi (y := nI (pr.length + 1)) (nI_add pr.length 1) ?_
                      refine lv_iload hx hb dX4_extend_100 (lv_at hl 1 rfl) ?_
                      refine lv_iconst (v := 1) hx hb dX4_extend_102 (by decide) ?_
                      refine lv_iadd hx hb dX4_extend_103 ?_
                      refine ztopi (y := nI ((fm + kk) + 1)) (nI_add (fm + kk) 1) ?_
                      refine zSv zm_X4_77 hF hB (c_X4_extend_0 l D ka kb bd o1 cn opb li zs zn ((10 * (fm + kk) + zn ii) :: pr) b2 (upd sa1 pr.length (nI (fm + kk))) (upd ss1 pr.length (nI (zn ii))) na N2 P9 ((fm + kk) + 1) (hcn) (hzs) (hli) (hPb) (hoS2) (by show pr.length + 1 + 0 ≤ 4; omega) (q2) (hB2) (by omega)) ([0, 1, 2, 3, 4, 5, 6, 7] ++ npr 8) (zsel_pool rfl rfl) (va_nd_pool rfl rfl) ([(bd 4), (bd 18), (bd 19), (bd 20), (bd 21), (bd 22), (bd 23), (bd 24)] ++ nA na) (fun _ => zad_pool rfl) (zad_pool rfl) rfl ⟨Nat.le_of_ble_eq_true rfl, Nat.le_of_ble_eq_true rfl⟩ rfl hl.1 (Nat.le_of_ble_eq_true rfl) ⟨Nat.le_refl _, Nat.le_refl _⟩ dX4_extend_104 ?_
                      clear hB
                      try clear locs
                      try clear H
                      intro u4 H locs hp hB
                      obtain ⟨N94, sa94, ss94, o94⟩ := u4
                      have hp4 : (∀ k9, (k9 < 35 + ((10 * (fm + kk) + zn ii) :: pr).length ∨ 38 < k9) → N94 k9 = N2 k9) ∧ (∀ j, j < ((10 * (fm + kk) + zn ii) :: pr).length → sa94 j = (upd sa1 pr.length (nI (fm + kk))) j ∧ ss94 j = (upd ss1 pr.length (nI (zn ii))) j) ∧ bB (clR P9 li (mzN cn zn) (fun a9 => dB (lgX opb a9 = 1)) zn cn 0 ((fm + kk) + 1) ((10 * (fm + kk) + zn ii) :: pr) b2) := hp
                      have HPP := hp4
                      replace hB : zB D A s ([((bd 4), .inr (4, [.ref (bd 18), .ref (bd 19), .int (nI cn), .int opb, .int (nI li), .int (nI (pr.length + 1)), .ref (bd 20), .ref (bd 21), .ref (bd 22), .int ((clR P9 li (mzN cn zn) (fun a9 => dB (lgX opb a9 = 1)) zn cn 0 ((fm + kk) + 1) ((10 * (fm + kk) + zn ii) :: pr) b2).1), .ref (bd 23), .ref (bd 24), .long (Int64.ofInt (clR P9 li (mzN cn zn) (fun a9 => dB (lgX opb a9 = 1)) zn cn 0 ((fm + kk) + 1) ((10 * (fm + kk) + zn ii) :: pr) b2).2.1), .long (Int64.ofInt (clR P9 li (mzN cn zn) (fun a9 => dB (lgX opb a9 = 1)) zn cn 0 ((fm + kk) + 1) ((10 * (fm + kk) + zn ii) :: pr) b2).2.2.1)])), ((bd 18), .inr (2, [.int (bI o94), .ref (na 31), .ref (na 32), .ref (na 33)])), ((bd 19), .inl (ka 0, 3, .inl zs)), ((bd 20), .inl (ka 3, 5, .inr (.inr (.inr (.inr (nR na 34)))))), ((bd 21), .inl (ka 0, 4, .inl sa94)), ((bd 22), .inl (ka 0, 4, .inl ss94)), ((bd 23), .inl (ka 0, 4, .inl ((clR P9 li (mzN cn zn) (fun a9 => dB (lgX opb a9 = 1)) zn cn 0 ((fm + kk) + 1) ((10 * (fm + kk) + zn ii) :: pr) b2).2.2.2.1))), ((bd 24), .inl (ka 0, 4, .inl ((clR P9 li (mzN cn zn) (fun a9 => dB (lgX opb a9 = 1)) zn cn 0 ((fm + kk) + 1) ((10 * (fm + kk) + zn ii) :: pr) b2).2.2.2.2)))] ++ nP na N94) H locs := zB_pool hB rfl rfl rfl rfl
                      have hEX := HPP
                      replace hB : zB D A s ([((bd 4), .inr (4, [.ref (bd 18), .ref (bd 19), .int (nI cn), .int opb, .int (nI li), .int (nI (pr.length + 1)), .ref (bd 20), .ref (bd 21), .ref (bd 22), .int ((clR P9 li (mzN cn zn) (fun a9 => dB (lgX opb a9 = 1)) zn cn 0 ((fm + kk) + 1) ((10 * (fm + kk) + zn ii) :: pr) b2).1), .ref (bd 23), .ref (bd 24), .long (Int64.ofInt (clR P9 li (mzN cn zn) (fun a9 => dB (lgX opb a9 = 1)) zn cn 0 ((fm + kk) + 1) ((10 * (fm + kk) + zn ii) :: pr) b2).2.1), .long (Int64.ofInt (clR P9 li (mzN cn zn) (fun a9 => dB (lgX opb a9 = 1)) zn cn 0 ((fm + kk) + 1) ((10 * (fm + kk) + zn ii) :: pr) b2).2.2.1)])), ((bd 18), .inr (2, [.int (bI o94), .ref (na 31), .ref (na 32), .ref (na 33)])), ((bd 19), .inl (ka 0, 3, .inl zs)), ((bd 20), .inl (ka 3, 5, .inr (.inr (.inr (.inr (nR na 34)))))), ((bd 21), .inl (ka 0, 4, .inl sa94)), ((bd 22), .inl (ka 0, 4, .inl ss94)), ((bd 23), .inl (ka 0, 4, .inl ((clR P9 li (mzN cn zn) (fun a9 => dB (lgX opb a9 = 1)) zn cn 0 ((fm + kk) + 1) ((10 * (fm + kk) + zn ii) :: pr) b2).2.2.2.1))), ((bd 24), .inl (ka 0, 4, .inl ((clR P9 li (mzN cn zn) (fun a9 => dB (lgX opb a9 = 1)) zn cn 0 ((fm + kk) + 1) ((10 * (fm + kk) + zn ii) :: pr) b2).2.2.2.2)))] ++ nP na N94) H locs := hB
                      refine lv_iinc (v := nI (ii + 1)) (lv' := [(5, .int (nI (ii + 1))), (4, .int (nI (fm + kk))), (0, .ref (bd 4)), (1, .int (nI pr.length)), (3, .int (1 : Int32))]) hx hb dX4_extend_107 hl (k := 0) rfl (nI_1 _) (by decide) rfl ?_
                      clear hl
                      clear ls
                      intro ls hl
                      refine lv_goto (tgt := 61) hx hb dX4_extend_110 (by decide) ?_
                      exact ih61 (ii + 1) (clR P9 li (mzN cn zn) (fun a9 => dB (lgX opb a9 = 1)) zn cn 0 (fm + kk + 1) ((10 * (fm + kk) + zn ii) :: pr) b2) N94 sa94 ss94 (o94) (by omega) (by rw [szF, ← hb2]; show _ = clR P9 li (mzN cn zn) (fun a9 => dB (lgX opb a9 = 1)) zn cn 0 ((10 * (fm + kk) + zn ii) / 10 + 1) ((10 * (fm + kk) + zn ii) :: pr) b2; rw [hcd.1]) (hEX.2.2) (fun k9 h9 => (hEX.1 k9 (by show k9 < 35 + (pr.length + 1) ∨ _; omega)).trans (kN2 k9 h9)) (fun j hj => ⟨((hEX.2.1 j (by show j < pr.length + 1; omega)).1.trans (if_neg (by omega))).trans (hS1 j hj).1, ((hEX.2.1 j (by show j < pr.length + 1; omega)).2.trans (if_neg (by omega))).trans (hS1 j hj).2⟩) (fun _ => hop) (by omega) _ _ (hB) _ (lv_sub hl [0, 1, 2, 3, 4] rfl)
              exact lp61 (4 - 0 + 1) 0 b1 N1 sa1 ss1 o1 (Nat.zero_le _) (rfl) (hB1) (hN1) (hS1) (fun e8 => absurd rfl e8) (by omega) _ _ (hB) _ (lv_sub hl [0, 1, 2, 3, 4] rfl)
        exact lp49 (13 - 0 + 1) 0 bb N sa ss (o92) (Nat.zero_le _) (rfl) (hB9) (fun _ _ => rfl) (fun _ _ => ⟨rfl, rfl⟩) (by omega) _ _ (hB) _ (lv_sub hl [0, 2, 3, 1] rfl)
      · skip
        exact absurd (by decide) h38
    · skip
      have hwq : quB (prP P9 pr) (fq : Int) = false := bI_eq0 (hWI.symm.trans h33)
      have hcl : clR P9 li (mzN cn zn) (fun a9 => dB (lgX opb a9 = 1)) zn cn 1 fm pr bb = bb := by rw [clR, if_neg (by rw [← hfq, hwq]; decide)]
      exact zretv hF hB (N, sa, ss, (o92)) (⟨fun _ _ => rfl, fun _ _ => ⟨rfl, rfl⟩, by rw [hcl]; exact hB9⟩) (by rw [hcl]) dX4_extend_36 hQ

set_option maxHeartbeats 4000000 in
set_option maxRecDepth 100000 in
theorem c_X4_extend_2 (l : Launch) (D : va_G) (ka : Nat → ClassId) (kb : Nat → Nat) (bd : Nat → Nat) (o : Bool) (cn : Nat) (opb : Int32) (li : Nat) (zs : Nat → Int32) (zn : Nat → Nat) (pr : List Nat) (bb : bT) (sa : Nat → Int32) (ss : Nat → Int32) (na : Nat → Nat) (N : Nat → N5) (P9 : Nat → Int) (fm : Nat) (hcn : cn ≤ 3) (hzs : ∀ i, i < cn → zs i = nI (zn i) ∧ zn i ≤ 9) (hli : li ≤ 99) (hPb : ∀ k, k < 4 → -(9000 * wB k) ≤ P9 k ∧ P9 k ≤ 9000 * wB k) (hoS : okS sa ss pr) (hlen : pr.length + 2 ≤ 4) (hQp : N (34 + pr.length) = p20N (prP P9 pr)) (hB9 : bB bb) (hfm : fm ≤ 12) : zV l D ka kb yX4_extend cX4_extend 6 6 152 [.ref (bd 4), .int (nI pr.length), .int (nI fm)] ([((bd 4), .inr (4, [.ref (bd 18), .ref (bd 19), .int (nI cn), .int opb, .int (nI li), .int (nI (pr.length + 2)), .ref (bd 20), .ref (bd 21), .ref (bd 22), .int bb.1, .ref (bd 23), .ref (bd 24), .long (Int64.ofInt bb.2.1), .long (Int64.ofInt bb.2.2.1)])), ((bd 18), .inr (2, [.int (bI o), .ref (na 31), .ref (na 32), .ref (na 33)])), ((bd 19), .inl (ka 0, 3, .inl zs)), ((bd 20), .inl (ka 3, 5, .inr (.inr (.inr (.inr (nR na 34)))))), ((bd 21), .inl (ka 0, 4, .inl sa)), ((bd 22), .inl (ka 0, 4, .inl ss)), ((bd 23), .inl (ka 0, 4, .inl bb.2.2.2.1)), ((bd 24), .inl (ka 0, 4, .inl bb.2.2.2.2))] ++ nP na N) (fun (u : (Nat → N5) × (Nat → Int32) × (Nat → Int32) × Bool) => (∀ k9, (k9 < 35 + pr.length ∨ 38 < k9) → u.1 k9 = N k9) ∧ (∀ j, j < pr.length → u.2.1 j = sa j ∧ u.2.2.1 j = ss j) ∧ bB (clR P9 li (mzN cn zn) (fun a9 => dB (lgX opb a9 = 1)) zn cn 2 fm pr bb)) (fun (u : (Nat → N5) × (Nat → Int32) × (Nat → Int32) × Bool) => [((bd 4), .inr (4, [.ref (bd 18), .ref (bd 19), .int (nI cn), .int opb, .int (nI li), .int (nI (pr.length + 2)), .ref (bd 20), .ref (bd 21), .ref (bd 22), .int ((clR P9 li (mzN cn zn) (fun a9 => dB (lgX opb a9 = 1)) zn cn 2 fm pr bb).1), .ref (bd 23), .ref (bd 24), .long (Int64.ofInt (clR P9 li (mzN cn zn) (fun a9 => dB (lgX opb a9 = 1)) zn cn 2 fm pr bb).2.1), .long (Int64.ofInt (clR P9 li (mzN cn zn) (fun a9 => dB (lgX opb a9 = 1)) zn cn 2 fm pr bb).2.2.1)])), ((bd 18), .inr (2, [.int (bI u.2.2.2), .ref (na 31), .ref (na 32), .ref (na 33)])), ((bd 19), .inl (ka 0, 3, .inl zs)), ((bd 20), .inl (ka 3, 5, .inr (.inr (.inr (.inr (nR na 34)))))), ((bd 21), .inl (ka 0, 4, .inl u.2.1)), ((bd 22), .inl (ka 0, 4, .inl u.2.2.1)), ((bd 23), .inl (ka 0, 4, .inl ((clR P9 li (mzN cn zn) (fun a9 => dB (lgX opb a9 = 1)) zn cn 2 fm pr bb).2.2.2.1))), ((bd 24), .inl (ka 0, 4, .inl ((clR P9 li (mzN cn zn) (fun a9 => dB (lgX opb a9 = 1)) zn cn 2 fm pr bb).2.2.2.2)))] ++ nP na u.1) := by
  refine zV.mk RX4 (by decide +kernel) rfl (Nat.le_of_ble_eq_true rfl) ?_
  intro p e s m below meth c A ls args Q hQ hx hb hF hB hl
  replace hl : lv_has ls 6 [(0, .ref (bd 4)), (1, .int (nI pr.length)), (2, .int (nI fm))] := hl
  have hcs := okS_lt hoS
  have hbd : bdP (prP P9 pr) := prP_bd4 hPb hcs (by omega)
  have hmz : mzN cn zn ≤ 9 := mz_le hcn (fun i hi => (hzs i hi).2)
  obtain ⟨fq, hfq⟩ : ∃ x, x = li + 2 * mzN cn zn := ⟨_, rfl⟩
  refine lv_aload_n hx hb dX4_extend_0 rfl (lv_at hl 0 rfl) ?_
  refine zget zf_X4_74 hF hB 0 rfl rfl dX4_extend_1 ?_
  refine lv_iload_n hx hb dX4_extend_4 rfl (lv_at hl 1 rfl) ?_
  refine lv_isub hx hb dX4_extend_5 ?_
  refine ztopi (y := (2 : Int32)) ((pk_sub (a := pr.length + 2) (b := pr.length) (by omega)).trans (by rw [Nat.add_sub_cancel_left] <;> rfl)) ?_
  refine lv_istore_n (lv' := [(3, .int (2 : Int32)), (0, .ref (bd 4)), (1, .int (nI pr.length)), (2, .int (nI fm))]) hx hb dX4_extend_6 rfl hl (by decide) rfl ?_
  clear hl
  clear ls
  intro ls hl
  refine lv_iload_n hx hb dX4_extend_7 rfl (lv_at hl 2 rfl) ?_
  refine lv_iconst (v := 4) hx hb dX4_extend_8 (by decide) ?_
  refine lv_icmp_gt (tgt := 36) hx hb dX4_extend_9 (by decide) (fun h9 => ?_) (fun h9 => ?_)
  · skip
    exact absurd h9 (Int32.not_lt.mpr ((nI_leI (a := pr.length) (b := 4) (by omega) (by decide)).mpr (by omega)))
  · skip
    refine lv_aload_n hx hb dX4_extend_12 rfl (lv_at hl 1 rfl) ?_
    refine lv_aload_n hx hb dX4_extend_13 rfl (lv_at hl 1 rfl) ?_
    refine zget zf_X4_24 hF hB 0 rfl rfl dX4_extend_14 ?_
    refine lv_iload_n hx hb dX4_extend_17 rfl (lv_at hl 2 rfl) ?_
    refine zaald hF hB 3 rfl (t0 := 3) rfl pr.length (rfl) (by omega) (by decide) (r := na (34 + pr.length)) (rfl) dX4_extend_18 ?_
    refine lv_aload_n hx hb dX4_extend_19 rfl (lv_at hl 1 rfl) ?_
    refine zget zf_X4_69 hF hB 0 rfl rfl dX4_extend_20 ?_
    refine lv_iload_n hx hb dX4_extend_23 rfl (lv_at hl 0 rfl) ?_
    refine lv_aload_n hx hb dX4_extend_24 rfl (lv_at hl 1 rfl) ?_
    refine zVi zm_X4_84 hF hB (c_X4_mostSize l D ka kb bd cn opb (nI li) (nI (pr.length + 2)) bb.1 (Int64.ofInt bb.2.1) (Int64.ofInt bb.2.2.1) zs (hcn)) [0, 2] rfl (by decide) [(bd 4), (bd 19)] (fun _ => rfl) rfl 0 4 rfl rfl rfl ⟨Nat.le_of_ble_eq_true rfl, Nat.le_of_ble_eq_true rfl⟩ rfl hl.1 (Nat.le_of_ble_eq_true rfl) ⟨Nat.le_refl _, Nat.le_refl _⟩ dX4_extend_25 ?_
    clear hB
    try clear locs
    try clear H
    intro r1 u1 H locs hp hB
    obtain rfl : r1 = msZ cn zs := hp
    replace hB : zB D A s ([((bd 4), .inr (4, [.ref (bd 18), .ref (bd 19), .int (nI cn), .int opb, .int (nI li), .int (nI (pr.length + 2)), .ref (bd 20), .ref (bd 21), .ref (bd 22), .int bb.1, .ref (bd 23), .ref (bd 24), .long (Int64.ofInt bb.2.1), .long (Int64.ofInt bb.2.2.1)])), ((bd 18), .inr (2, [.int (bI o), .ref (na 31), .ref (na 32), .ref (na 33)])), ((bd 19), .inl (ka 0, 3, .inl zs)), ((bd 20), .inl (ka 3, 5, .inr (.inr (.inr (.inr (nR na 34)))))), ((bd 21), .inl (ka 0, 4, .inl sa)), ((bd 22), .inl (ka 0, 4, .inl ss)), ((bd 23), .inl (ka 0, 4, .inl bb.2.2.2.1)), ((bd 24), .inl (ka 0, 4, .inl bb.2.2.2.2))] ++ nP na N) H locs := hB
    refine ztopi (y := nI (mzN cn zn)) (ms_n hcn (fun i hi => (hzs i hi).1)) ?_
    refine lv_imul hx hb dX4_extend_28 ?_
    refine ztopi (y := nI (2 * (mzN cn zn))) (pk_mul 2 (mzN cn zn)) ?_
    refine lv_iadd hx hb dX4_extend_29 ?_
    refine ztopi (y := nI fq) (by rw [hfq]; exact nI_add _ _) ?_
    refine zVi zm_X4_51 hF hB (c_X4_isWithin l D ka kb bd o (nI cn) opb (nI li) (nI (pr.length + 2)) bb.1 (Int64.ofInt bb.2.1) (Int64.ofInt bb.2.2.1) na N (34 + pr.length) fq (prP P9 pr) (by omega) (hQp) (hbd) (by omega)) ([0, 1] ++ npr 8) (zsel_pool rfl rfl) (va_nd_pool rfl rfl) ([(bd 4), (bd 18)] ++ nA na) (fun _ => zad_pool rfl) (zad_pool rfl) 0 4 rfl rfl rfl ⟨Nat.le_of_ble_eq_true rfl, Nat.le_of_ble_eq_true rfl⟩ rfl hl.1 (Nat.le_of_ble_eq_true rfl) ⟨Nat.le_refl _, Nat.le_refl _⟩ dX4_extend_30 ?_
    clear hB
    try clear locs
    try clear H
    intro r2 u2 H locs hp hB
    obtain ⟨o92, rfl⟩ : ∃ z, z = u2 := ⟨_, rfl⟩
    have hp2 : r2 = bI (quB (prP P9 pr) (fq : Int)) := hp
    have HPP := hp2
    replace hB : zB D A s ([((bd 4), .inr (4, [.ref (bd 18), .ref (bd 19), .int (nI cn), .int opb, .int (nI li), .int (nI (pr.length + 2)), .ref (bd 20), .ref (bd 21), .ref (bd 22), .int bb.1, .ref (bd 23), .ref (bd 24), .long (Int64.ofInt bb.2.1), .long (Int64.ofInt bb.2.2.1)])), ((bd 18), .inr (2, [.int (bI o92), .ref (na 31), .ref (na 32), .ref (na 33)])), ((bd 19), .inl (ka 0, 3, .inl zs)), ((bd 20), .inl (ka 3, 5, .inr (.inr (.inr (.inr (nR na 34)))))), ((bd 21), .inl (ka 0, 4, .inl sa)), ((bd 22), .inl (ka 0, 4, .inl ss)), ((bd 23), .inl (ka 0, 4, .inl bb.2.2.2.1)), ((bd 24), .inl (ka 0, 4, .inl bb.2.2.2.2))] ++ nP na N) H locs := zB_pool hB rfl rfl rfl rfl
    have hWI := HPP
    refine lv_if_ne (tgt := 37) hx hb dX4_extend_33 (by decide) (fun h33 => ?_) (fun h33 => ?_)
    · skip
      have hwq : quB (prP P9 pr) (fq : Int) = true := bI_ne0 (fun e9 => h33 (hWI.trans e9))
      refine lv_iload_n hx hb dX4_extend_37 rfl (lv_at hl 0 rfl) ?_
      refine lv_if_gt (tgt := 46) hx hb dX4_extend_38 (by decide) (fun h38 => ?_) (fun h38 => ?_)
      · skip
        refine lv_iload_n hx hb dX4_extend_46 rfl (lv_at hl 3 rfl) ?_
        refine lv_istore (lv' := [(4, .int (nI fm)), (3, .int (2 : Int32)), (0, .ref (bd 4)), (1, .int (nI pr.length)), (2, .int (nI fm))]) hx hb dX4_extend_47 hl (by decide) rfl ?_
        clear hl
        clear ls
        intro ls hl
        have lp49 : ∀ (fl : Nat) (kk : Nat) (b1 : bT) (N1 : Nat → N5) (sa1 : Nat → Int32) (ss1 : Nat → Int32) (o1 : Bool), (hk : kk ≤ 12 - 1 - fm) → (hb1 : b1 = anF (fun c b => clR P9 li (mzN cn zn) (fun a9 => dB (lgX opb a9 = 1)) zn cn 1 (c / 10 + 1) (c :: pr) b) (fun a9 => dB (lgX opb a9 = 1)) zn cn fm kk bb) → (hB1 : bB b1) → (hN1 : ∀ k9, (k9 < 35 + pr.length ∨ 38 < k9) → N1 k9 = N k9) → (hS1 : ∀ j, j < pr.length → sa1 j = sa j ∧ ss1 j = ss j) → 13 - kk < fl → ∀ (H : Heap) (locs : List Loc), zB D A s ([((bd 4), .inr (4, [.ref (bd 18), .ref (bd 19), .int (nI cn), .int opb, .int (nI li), .int (nI (pr.length + 2)), .ref (bd 20), .ref (bd 21), .ref (bd 22), .int b1.1, .ref (bd 23), .ref (bd 24), .long (Int64.ofInt b1.2.1), .long (Int64.ofInt b1.2.2.1)])), ((bd 18), .inr (2, [.int (bI o1), .ref (na 31), .ref (na 32), .ref (na 33)])), ((bd 19), .inl (ka 0, 3, .inl zs)), ((bd 20), .inl (ka 3, 5, .inr (.inr (.inr (.inr (nR na 34)))))), ((bd 21), .inl (ka 0, 4, .inl sa1)), ((bd 22), .inl (ka 0, 4, .inl ss1)), ((bd 23), .inl (ka 0, 4, .inl b1.2.2.2.1)), ((bd 24), .inl (ka 0, 4, .inl b1.2.2.2.2))] ++ nP na N1) H locs → ∀ ls : Array Slot, lv_has ls 6 [(4, .int (nI (fm + kk))), (0, .ref (bd 4)), (1, .int (nI pr.length)), (3, .int (2 : Int32))] → W p l e (zRm 6 152 0 0) s m args below meth c H locs 0 0 Q (F0 m 49 ls []) := by
          intro fl
          induction fl with
          | zero => intro kk b1 N1 sa1 ss1 o1 hk hb1 hB1 hN1 hS1 hfl; exact absurd hfl (Nat.not_lt_zero _)
          | succ fl ih49 =>
            intro kk b1 N1 sa1 ss1 o1 hk hb1 hB1 hN1 hS1 hfl49 H locs hB ls hl
            refine lv_iload hx hb dX4_extend_49 (lv_at hl 0 rfl) ?_
            refine lv_bipush (v := 12) hx hb dX4_extend_51 (by decide) ?_
            refine lv_iload_n hx hb dX4_extend_53 rfl (lv_at hl 3 rfl) ?_
            refine lv_isub hx hb dX4_extend_54 ?_
            refine ztopi (y := (10 : Int32)) (by decide) ?_
            refine lv_icmp_gt (tgt := 119) hx hb dX4_extend_55 (by decide) (fun h55 => ?_) (fun h55 => ?_)
            · skip
              have hke : kk = 12 - 1 - fm := by have := mt (nI_leI (a := fm + kk) (b := 10) (by omega) (by decide)).mpr (Int32.not_le.mpr h55); omega
              have hcl : clR P9 li (mzN cn zn) (fun a9 => dB (lgX opb a9 = 1)) zn cn 2 fm pr bb = b1 := by rw [clR, if_pos (by rw [← hfq]; exact hwq), hb1, hke]
              exact zretv hF hB (N1, sa1, ss1, (o1)) (⟨hN1, hS1, by rw [hcl]; exact hB1⟩) (by rw [hcl]) dX4_extend_119 hQ
            · skip
              have hk2 : fm + kk ≤ 10 := (nI_leI (a := fm + kk) (b := 10) (by omega) (by decide)).mp (Int32.not_lt.mp h55)
              refine lv_iconst (v := 0) hx hb dX4_extend_58 (by decide) ?_
              refine lv_istore (lv' := [(5, .int (0 : Int32)), (4, .int (nI (fm + kk))), (0, .ref (bd 4)), (1, .int (nI pr.length)), (3, .int (2 : Int32))]) hx hb dX4_extend_59 hl (by decide) rfl ?_
              clear hl
              clear ls
              intro ls hl
              have lp61 : ∀ (fl : Nat) (ii : Nat) (b2 : bT) (N1 : Nat → N5) (sa1 : Nat → Int32) (ss1 : Nat → Int32) (o1 : Bool), (hi : ii ≤ cn) → (hb2 : b2 = szF (fun c b => clR P9 li (mzN cn zn) (fun a9 => dB (lgX opb a9 = 1)) zn cn 1 (c / 10 + 1) (c :: pr) b) (fm + kk) zn ii b1) → (hB2 : bB b2) → (hN1 : ∀ k9, (k9 < 35 + pr.length ∨ 38 < k9) → N1 k9 = N k9) → (hS1 : ∀ j, j < pr.length → sa1 j = sa j ∧ ss1 j = ss j) → (hop1 : ii ≠ 0 → lgX opb (fm + kk) = 1) → 4 - ii < fl → ∀ (H : Heap) (locs : List Loc), zB D A s ([((bd 4), .inr (4, [.ref (bd 18), .ref (bd 19), .int (nI cn), .int opb, .int (nI li), .int (nI (pr.length + 2)), .ref (bd 20), .ref (bd 21), .ref (bd 22), .int b2.1, .ref (bd 23), .ref (bd 24), .long (Int64.ofInt b2.2.1), .long (Int64.ofInt b2.2.2.1)])), ((bd 18), .inr (2, [.int (bI o1), .ref (na 31), .ref (na 32), .ref (na 33)])), ((bd 19), .inl (ka 0, 3, .inl zs)), ((bd 20), .inl (ka 3, 5, .inr (.inr (.inr (.inr (nR na 34)))))), ((bd 21), .inl (ka 0, 4, .inl sa1)), ((bd 22), .inl (ka 0, 4, .inl ss1)), ((bd 23), .inl (ka 0, 4, .inl b2.2.2.2.1)), ((bd 24), .inl (ka 0, 4, .inl b2.2.2.2.2))] ++ nP na N1) H locs → ∀ ls : Array Slot, lv_has ls 6 [(5, .int (nI ii)), (4, .int (nI (fm + kk))), (0, .ref (bd 4)), (1, .int (nI pr.length)), (3, .int (2 : Int32))] → W p l e (zRm 6 152 0 0) s m args below meth c H locs 0 0 Q (F0 m 61 ls []) := by
                intro fl
                induction fl with
                | zero => intro ii b2 N1 sa1 ss1 o1 hi hb2 hB2 hN1 hS1 hop1 hfl; exact absurd hfl (Nat.not_lt_zero _)
                | succ fl ih61 =>
                  intro ii b2 N1 sa1 ss1 o1 hi hb2 hB2 hN1 hS1 hop1 hfl61 H locs hB ls hl
                  refine lv_iload hx hb dX4_extend_61 (lv_at hl 0 rfl) ?_
                  refine lv_aload_n hx hb dX4_extend_63 rfl (lv_at hl 2 rfl) ?_
                  refine zget zf_X4_81 hF hB 0 rfl rfl dX4_extend_64 ?_
                  refine lv_icmp_ge (tgt := 113) hx hb dX4_extend_67 (by decide) (fun h67 => ?_) (fun h67 => ?_)
                  · skip
                    have hie : ii = cn := by have := (nI_leI (a := cn) (b := ii) (by omega) (by omega)).mp h67; omega
                    refine lv_iinc (v := nI ((fm + kk) + 1)) (lv' := [(4, .int (nI ((fm + kk) + 1))), (5, .int (nI ii)), (0, .ref (bd 4)), (1, .int (nI pr.length)), (3, .int (2 : Int32))]) hx hb dX4_extend_113 hl (k := 1) rfl (nI_1 _) (by decide) rfl ?_
                    clear hl
                    clear ls
                    intro ls hl
                    refine lv_goto (tgt := 49) hx hb dX4_extend_116 (by decide) ?_
                    exact ih49 (kk + 1) b2 N1 sa1 ss1 (o1) (by omega) (by rw [anF, ← hb1]; exact (an_all hb2 hie hop1).symm) (hB2) (hN1) (hS1) (by omega) _ _ (hB) _ (lv_sub hl [0, 2, 3, 4] rfl)
                  · skip
                    have hi2 : ii < cn := Nat.not_le.mp (fun e9 => h67 ((nI_leI (a := cn) (b := ii) (by omega) (by omega)).mpr e9))
                    refine lv_aload_n hx hb dX4_extend_70 rfl (lv_at hl 2 rfl) ?_
                    refine zget zf_X4_66 hF hB 0 rfl rfl dX4_extend_71 ?_
                    refine lv_iload hx hb dX4_extend_74 (lv_at hl 1 rfl) ?_
                    refine lv_ishr hx hb dX4_extend_76 ?_
                    refine lv_iconst (v := 1) hx hb dX4_extend_77 (by decide) ?_
                    refine lv_iand hx hb dX4_extend_78 ?_
                    refine ztopi (y := lgX opb (fm + kk)) (rfl) ?_
                    refine lv_if_eq (tgt := 113) hx hb dX4_extend_79 (by decide) (fun h79 => ?_) (fun h79 => ?_)
                    · skip
                      refine lv_iinc (v := nI ((fm + kk) + 1)) (lv' := [(4, .int (nI ((fm + kk) + 1))), (5, .int (nI ii)), (0, .ref (bd 4)), (1, .int (nI pr.length)), (3, .int (2 : Int32))]) hx hb dX4_extend_113 hl (k := 1) rfl (nI_1 _) (by decide) rfl ?_
                      clear hl
                      clear ls
                      intro ls hl
                      refine lv_goto (tgt := 49) hx hb dX4_extend_116 (by decide) ?_
                      exact ih49 (kk + 1) b2 N1 sa1 ss1 (o1) (by omega) (by rw [anF, ← hb1]; exact (an_none hb2 h79 hop1).symm) (hB2) (hN1) (hS1) (by omega) _ _ (hB) _ (lv_sub hl [0, 2, 3, 4] rfl)
                    · skip
                      have hop : lgX opb (fm + kk) = 1 := lgX_1 h79
                      refine lv_aload_n hx hb dX4_extend_82 rfl (lv_at hl 2 rfl) ?_
                      refine lv_iload_n hx hb dX4_extend_83 rfl (lv_at hl 3 rfl) ?_
                      refine lv_iload hx hb dX4_extend_84 (lv_at hl 1 rfl) ?_
                      refine lv_aload_n hx hb dX4_extend_86 rfl (lv_at hl 2 rfl) ?_
                      refine zget zf_X4_18 hF hB 0 rfl rfl dX4_extend_87 ?_
                      refine lv_iload hx hb dX4_extend_90 (lv_at hl 0 rfl) ?_
                      refine ziald hF hB 2 rfl ii (rfl) (by omega) (by decide) (v := (nI (zn ii))) ((hzs ii hi2).1) dX4_extend_92 ?_
                      refine zVv zm_X4_90 hF hB (c_X4_choose l D ka kb bd (nI cn) opb (nI li) (nI (pr.length + 2)) b2.1 (Int64.ofInt b2.2.1) (Int64.ofInt b2.2.2.1) sa1 ss1 na N1 pr.length (fm + kk) (zn ii) (prP P9 pr) (by omega) (by omega) ((hzs ii hi2).2) ((hN1 _ (by omega)).trans hQp)) ([0, 4, 5, 3] ++ npr 8) (zsel_pool rfl rfl) (va_nd_pool rfl rfl) ([(bd 4), (bd 21), (bd 22), (bd 20)] ++ nA na) (fun _ => zad_pool rfl) (zad_pool rfl) 0 4 rfl rfl rfl ⟨Nat.le_of_ble_eq_true rfl, Nat.le_of_ble_eq_true rfl⟩ rfl hl.1 (Nat.le_of_ble_eq_true rfl) ⟨Nat.le_refl _, Nat.le_refl _⟩ dX4_extend_93 ?_
                      clear hB
                      try clear locs
                      try clear H
                      intro u3 H locs hp hB
                      replace hB : zB D A s ([((bd 4), .inr (4, [.ref (bd 18), .ref (bd 19), .int (nI cn), .int opb, .int (nI li), .int (nI (pr.length + 2)), .ref (bd 20), .ref (bd 21), .ref (bd 22), .int b2.1, .ref (bd 23), .ref (bd 24), .long (Int64.ofInt b2.2.1), .long (Int64.ofInt b2.2.2.1)])), ((bd 18), .inr (2, [.int (bI o1), .ref (na 31), .ref (na 32), .ref (na 33)])), ((bd 19), .inl (ka 0, 3, .inl zs)), ((bd 20), .inl (ka 3, 5, .inr (.inr (.inr (.inr (nR na 34)))))), ((bd 21), .inl (ka 0, 4, .inl (upd sa1 pr.length (nI (fm + kk))))), ((bd 22), .inl (ka 0, 4, .inl (upd ss1 pr.length (nI (zn ii))))), ((bd 23), .inl (ka 0, 4, .inl b2.2.2.2.1)), ((bd 24), .inl (ka 0, 4, .inl b2.2.2.2.2))] ++ nP na (upN N1 (34 + (pr.length + 1)) (p20N (fun k9 => (prP P9 pr) k9 + -10 * ((zn ii) : Int) * wI (fm + kk) k9)))) H locs := zB_pool hB rfl rfl rfl rfl
                      have hz9 := (hzs ii hi2).2
                      have hcd : (10 * (fm + kk) + zn ii) / 10 = fm + kk ∧ (10 * (fm + kk) + zn ii) % 10 = zn ii := by omega
                      obtain ⟨N2, hN2⟩ : ∃ M, M = (upN N1 (34 + (pr.length + 1)) (p20N (fun k9 => (prP P9 pr) k9 + -10 * ((zn ii) : Int) * wI (fm + kk) k9))) := ⟨_, rfl⟩
                      rw [← hN2] at hB
                      have q2 : N2 (34 + ((10 * (fm + kk) + zn ii) :: pr).length) = p20N (prP P9 ((10 * (fm + kk) + zn ii) :: pr)) := by
                        rw [hN2]
                        show upN _ (34 + (pr.length + 1)) _ (34 + (pr.length + 1)) = _
                        rw [upN_eq]
                        congr 1
                        funext k9
                        show _ = prP P9 pr k9 + -10 * (((10 * (fm + kk) + zn ii) % 10 : Nat) : Int) * wI ((10 * (fm + kk) + zn ii) / 10) k9
                        rw [hcd.1, hcd.2]
                      have kN2 : ∀ k9, (k9 < 35 + pr.length ∨ 38 < k9) → N2 k9 = N k9 := fun k9 h9 => by rw [hN2, upN_ne (by omega)]; exact hN1 k9 h9
                      have hoS2 : okS (upd sa1 pr.length (nI (fm + kk))) (upd ss1 pr.length (nI (zn ii))) ((10 * (fm + kk) + zn ii) :: pr) := by
                        refine ⟨?_, ?_, by omega, okS_up hoS (fun j hj => ?_)⟩
                        · rw [hcd.1]; exact if_pos rfl
                        · rw [hcd.2]; exact if_pos rfl
                        · exact ⟨(if_neg (by omega)).trans (hS1 j hj).1, (if_neg (by omega)).trans (hS1 j hj).2⟩
                      refine lv_aload_n hx hb dX4_extend_96 rfl (lv_at hl 2 rfl) ?_
                      refine lv_iload_n hx hb dX4_extend_97 rfl (lv_at hl 3 rfl) ?_
                      refine lv_iconst (v := 1) hx hb dX4_extend_98 (by decide) ?_
                      refine lv_iadd hx hb dX4_extend_99 ?_
                      refine ztopi (y := nI (pr.length + 1)) (nI_add pr.length 1) ?_
                      refine lv_iload hx hb dX4_extend_100 (lv_at hl 1 rfl) ?_
                      refine lv_iconst (v := 1) hx hb dX4_extend_102 (by decide) ?_
                      refine lv_iadd hx hb dX4_extend_103 ?_
                      refine ztopi (y := nI ((fm + kk) + 1)) (nI_add (fm + kk) 1) ?_
                      refine zSv zm_X4_77 hF hB (c_X4_extend_1 l D ka kb bd o1 cn opb li zs zn ((10 * (fm + kk) + zn ii) :: pr) b2 (upd sa1 pr.length (nI (fm + kk))) (upd ss1 pr.length (nI (zn ii))) na N2 P9 ((fm + kk) + 1) (hcn) (hzs) (hli) (hPb) (hoS2) (by show pr.length + 1 + 1 ≤ 4; omega) (q2) (hB2) (by omega)) ([0, 1, 2, 3, 4, 5, 6, 7] ++ npr 8) (zsel_pool rfl rfl) (va_nd_pool rfl rfl) ([(bd 4), (bd 18), (bd 19), (bd 20), (bd 21), (bd 22), (bd 23), (bd 24)] ++ nA na) (fun _ => zad_pool rfl) (zad_pool rfl) rfl ⟨Nat.le_of_ble_eq_true rfl, Nat.le_of_ble_eq_true rfl⟩ rfl hl.1 (Nat.le_of_ble_eq_true rfl) ⟨Nat.le_refl _, Nat.le_refl _⟩ dX4_extend_104 ?_
                      clear hB
                      try clear locs
                      try clear H
                      intro u4 H locs hp hB
                      obtain ⟨N94, sa94, ss94, o94⟩ := u4
                      have hp4 : (∀ k9, (k9 < 35 + ((10 * (fm + kk) + zn ii) :: pr).length ∨ 38 < k9) → N94 k9 = N2 k9) ∧ (∀ j, j < ((10 * (fm + kk) + zn ii) :: pr).length → sa94 j = (upd sa1 pr.length (nI (fm + kk))) j ∧ ss94 j = (upd ss1 pr.length (nI (zn ii))) j) ∧ bB (clR P9 li (mzN cn zn) (fun a9 => dB (lgX opb a9 = 1)) zn cn 1 ((fm + kk) + 1) ((10 * (fm + kk) + zn ii) :: pr) b2) := hp
                      have HPP := hp4
                      replace hB : zB D A s ([((bd 4), .inr (4, [.ref (bd 18), .ref (bd 19), .int (nI cn), .int opb, .int (nI li), .int (nI (pr.length + 2)), .ref (bd 20), .ref (bd 21), .ref (bd 22), .int ((clR P9 li (mzN cn zn) (fun a9 => dB (lgX opb a9 = 1)) zn cn 1 ((fm + kk) + 1) ((10 * (fm + kk) + zn ii) :: pr) b2).1), .ref (bd 23), .ref (bd 24), .long (Int64.ofInt (clR P9 li (mzN cn zn) (fun a9 => dB (lgX opb a9 = 1)) zn cn 1 ((fm + kk) + 1) ((10 * (fm + kk) + zn ii) :: pr) b2).2.1), .long (Int64.ofInt (clR P9 li (mzN cn zn) (fun a9 => dB (lgX opb a9 = 1)) zn cn 1 ((fm + kk) + 1) ((10 * (fm + kk) + zn ii) :: pr) b2).2.2.1)])), ((bd 18), .inr (2, [.int (bI o94), .ref (na 31), .ref (na 32), .ref (na 33)])), ((bd 19), .inl (ka 0, 3, .inl zs)), ((bd 20), .inl (ka 3, 5, .inr (.inr (.inr (.inr (nR na 34)))))), ((bd 21), .inl (ka 0, 4, .inl sa94)), ((bd 22), .inl (ka 0, 4, .inl ss94)), ((bd 23), .inl (ka 0, 4, .inl ((clR P9 li (mzN cn zn) (fun a9 => dB (lgX opb a9 = 1)) zn cn 1 ((fm + kk) + 1) ((10 * (fm + kk) + zn ii) :: pr) b2).2.2.2.1))), ((bd 24), .inl (ka 0, 4, .inl ((clR P9 li (mzN cn zn) (fun a9 => dB (lgX opb a9 = 1)) zn cn 1 ((fm + kk) + 1) ((10 * (fm + kk) + zn ii) :: pr) b2).2.2.2.2)))] ++ nP na N94) H locs := zB_pool hB rfl rfl rfl rfl
                      have hEX := HPP
                      replace hB : zB D A s ([((bd 4), .inr (4, [.ref (bd 18), .ref (bd 19), .int (nI cn), .int opb, .int (nI li), .int (nI (pr.length + 2)), .ref (bd 20), .ref (bd 21), .ref (bd 22), .int ((clR P9 li (mzN cn zn) (fun a9 => dB (lgX opb a9 = 1)) zn cn 1 ((fm + kk) + 1) ((10 * (fm + kk) + zn ii) :: pr) b2).1), .ref (bd 23), .ref (bd 24), .long (Int64.ofInt (clR P9 li (mzN cn zn) (fun a9 => dB (lgX opb a9 = 1)) zn cn 1 ((fm + kk) + 1) ((10 * (fm + kk) + zn ii) :: pr) b2).2.1), .long (Int64.ofInt (clR P9 li (mzN cn zn) (fun a9 => dB (lgX opb a9 = 1)) zn cn 1 ((fm + kk) + 1) ((10 * (fm + kk) + zn ii) :: pr) b2).2.2.1)])), ((bd 18), .inr (2, [.int (bI o94), .ref (na 31), .ref (na 32), .ref (na 33)])), ((bd 19), .inl (ka 0, 3, .inl zs)), ((bd 20), .inl (ka 3, 5, .inr (.inr (.inr (.inr (nR na 34)))))), ((bd 21), .inl (ka 0, 4, .inl sa94)), ((bd 22), .inl (ka 0, 4, .inl ss94)), ((bd 23), .inl (ka 0, 4, .inl ((clR P9 li (mzN cn zn) (fun a9 => dB (lgX opb a9 = 1)) zn cn 1 ((fm + kk) + 1) ((10 * (fm + kk) + zn ii) :: pr) b2).2.2.2.1))), ((bd 24), .inl (ka 0, 4, .inl ((clR P9 li (mzN cn zn) (fun a9 => dB (lgX opb a9 = 1)) zn cn 1 ((fm + kk) + 1) ((10 * (fm + kk) + zn ii) :: pr) b2).2.2.2.2)))] ++ nP na N94) H locs := hB
                      refine lv_iinc (v := nI (ii + 1)) (lv' := [(5, .int (nI (ii + 1))), (4, .int (nI (fm + kk))), (0, .ref (bd 4)), (1, .int (nI pr.length)), (3, .int (2 : Int32))]) hx hb dX4_extend_107 hl (k := 0) rfl (nI_1 _) (by decide) rfl ?_
                      clear hl
                      clear ls
                      intro ls hl
                      refine lv_goto (tgt := 61) hx hb dX4_extend_110 (by decide) ?_
                      exact ih61 (ii + 1) (clR P9 li (mzN cn zn) (fun a9 => dB (lgX opb a9 = 1)) zn cn 1 (fm + kk + 1) ((10 * (fm + kk) + zn ii) :: pr) b2) N94 sa94 ss94 (o94) (by omega) (by rw [szF, ← hb2]; show _ = clR P9 li (mzN cn zn) (fun a9 => dB (lgX opb a9 = 1)) zn cn 1 ((10 * (fm + kk) + zn ii) / 10 + 1) ((10 * (fm + kk) + zn ii) :: pr) b2; rw [hcd.1]) (hEX.2.2) (fun k9 h9 => (hEX.1 k9 (by show k9 < 35 + (pr.length + 1) ∨ _; omega)).trans (kN2 k9 h9)) (fun j hj => ⟨((hEX.2.1 j (by show j < pr.length + 1; omega)).1.trans (if_neg (by omega))).trans (hS1 j hj).1, ((hEX.2.1 j (by show j < pr.length + 1; omega)).2.trans (if_neg (by omega))).trans (hS1 j hj).2⟩) (fun _ => hop) (by omega) _ _ (hB) _ (lv_sub hl [0, 1, 2, 3, 4] rfl)
              exact lp61 (4 - 0 + 1) 0 b1 N1 sa1 ss1 o1 (Nat.zero_le _) (rfl) (hB1) (hN1) (hS1) (fun e8 => absurd rfl e8) (by omega) _ _ (hB) _ (lv_sub hl [0, 1, 2, 3, 4] rfl)
        exact lp49 (13 - 0 + 1) 0 bb N sa ss (o92) (Nat.zero_le _) (rfl) (hB9) (fun _ _ => rfl) (fun _ _ => ⟨rfl, rfl⟩) (by omega) _ _ (hB) _ (lv_sub hl [0, 2, 3, 1] rfl)
      · skip
        exact absurd (by decide) h38
    · skip
      have hwq : quB (prP P9 pr) (fq : Int) = false := bI_eq0 (hWI.symm.trans h33)
      have hcl : clR P9 li (mzN cn zn) (fun a9 => dB (lgX opb a9 = 1)) zn cn 2 fm pr bb = bb := by rw [clR, if_neg (by rw [← hfq, hwq]; decide)]
      exact zretv hF hB (N, sa, ss, (o92)) (⟨fun _ _ => rfl, fun _ _ => ⟨rfl, rfl⟩, by rw [hcl]; exact hB9⟩) (by rw [hcl]) dX4_extend_36 hQ

set_option maxHeartbeats 4000000 in
set_option maxRecDepth 100000 in
theorem c_X4_extend_3 (l : Launch) (D : va_G) (ka : Nat → ClassId) (kb : Nat → Nat) (bd : Nat → Nat) (o : Bool) (cn : Nat) (opb : Int32) (li : Nat) (zs : Nat → Int32) (zn : Nat → Nat) (pr : List Nat) (bb : bT) (sa : Nat → Int32) (ss : Nat → Int32) (na : Nat → Nat) (N : Nat → N5) (P9 : Nat → Int) (fm : Nat) (hcn : cn ≤ 3) (hzs : ∀ i, i < cn → zs i = nI (zn i) ∧ zn i ≤ 9) (hli : li ≤ 99) (hPb : ∀ k, k < 4 → -(9000 * wB k) ≤ P9 k ∧ P9 k ≤ 9000 * wB k) (hoS : okS sa ss pr) (hlen : pr.length + 3 ≤ 4) (hQp : N (34 + pr.length) = p20N (prP P9 pr)) (hB9 : bB bb) (hfm : fm ≤ 12) : zV l D ka kb yX4_extend cX4_extend 6 7 177 [.ref (bd 4), .int (nI pr.length), .int (nI fm)] ([((bd 4), .inr (4, [.ref (bd 18), .ref (bd 19), .int (nI cn), .int opb, .int (nI li), .int (nI (pr.length + 3)), .ref (bd 20), .ref (bd 21), .ref (bd 22), .int bb.1, .ref (bd 23), .ref (bd 24), .long (Int64.ofInt bb.2.1), .long (Int64.ofInt bb.2.2.1)])), ((bd 18), .inr (2, [.int (bI o), .ref (na 31), .ref (na 32), .ref (na 33)])), ((bd 19), .inl (ka 0, 3, .inl zs)), ((bd 20), .inl (ka 3, 5, .inr (.inr (.inr (.inr (nR na 34)))))), ((bd 21), .inl (ka 0, 4, .inl sa)), ((bd 22), .inl (ka 0, 4, .inl ss)), ((bd 23), .inl (ka 0, 4, .inl bb.2.2.2.1)), ((bd 24), .inl (ka 0, 4, .inl bb.2.2.2.2))] ++ nP na N) (fun (u : (Nat → N5) × (Nat → Int32) × (Nat → Int32) × Bool) => (∀ k9, (k9 < 35 + pr.length ∨ 38 < k9) → u.1 k9 = N k9) ∧ (∀ j, j < pr.length → u.2.1 j = sa j ∧ u.2.2.1 j = ss j) ∧ bB (clR P9 li (mzN cn zn) (fun a9 => dB (lgX opb a9 = 1)) zn cn 3 fm pr bb)) (fun (u : (Nat → N5) × (Nat → Int32) × (Nat → Int32) × Bool) => [((bd 4), .inr (4, [.ref (bd 18), .ref (bd 19), .int (nI cn), .int opb, .int (nI li), .int (nI (pr.length + 3)), .ref (bd 20), .ref (bd 21), .ref (bd 22), .int ((clR P9 li (mzN cn zn) (fun a9 => dB (lgX opb a9 = 1)) zn cn 3 fm pr bb).1), .ref (bd 23), .ref (bd 24), .long (Int64.ofInt (clR P9 li (mzN cn zn) (fun a9 => dB (lgX opb a9 = 1)) zn cn 3 fm pr bb).2.1), .long (Int64.ofInt (clR P9 li (mzN cn zn) (fun a9 => dB (lgX opb a9 = 1)) zn cn 3 fm pr bb).2.2.1)])), ((bd 18), .inr (2, [.int (bI u.2.2.2), .ref (na 31), .ref (na 32), .ref (na 33)])), ((bd 19), .inl (ka 0, 3, .inl zs)), ((bd 20), .inl (ka 3, 5, .inr (.inr (.inr (.inr (nR na 34)))))), ((bd 21), .inl (ka 0, 4, .inl u.2.1)), ((bd 22), .inl (ka 0, 4, .inl u.2.2.1)), ((bd 23), .inl (ka 0, 4, .inl ((clR P9 li (mzN cn zn) (fun a9 => dB (lgX opb a9 = 1)) zn cn 3 fm pr bb).2.2.2.1))), ((bd 24), .inl (ka 0, 4, .inl ((clR P9 li (mzN cn zn) (fun a9 => dB (lgX opb a9 = 1)) zn cn 3 fm pr bb).2.2.2.2)))] ++ nP na u.1) := by
  refine zV.mk RX4 (by decide +kernel) rfl (Nat.le_of_ble_eq_true rfl) ?_
  intro p e s m below meth c A ls args Q hQ hx hb hF hB hl
  replace hl : lv_has ls 6 [(0, .ref (bd 4)), (1, .int (nI pr.length)), (2, .int (nI fm))] := hl
  have hcs := okS_lt hoS
  have hbd : bdP (prP P9 pr) := prP_bd4 hPb hcs (by omega)
  have hmz : mzN cn zn ≤ 9 := mz_le hcn (fun i hi => (hzs i hi).2)
  obtain ⟨fq, hfq⟩ : ∃ x, x = li + 3 * mzN cn zn := ⟨_, rfl⟩
  refine lv_aload_n hx hb dX4_extend_0 rfl (lv_at hl 0 rfl) ?_
  refine zget zf_X4_74 hF hB 0 rfl rfl dX4_extend_1 ?_
  refine lv_iload_n hx hb dX4_extend_4 rfl (lv_at hl 1 rfl) ?_
  refine lv_isub hx hb dX4_extend_5 ?_
  refine ztopi (y := (3 : Int32)) ((pk_sub (a := pr.length + 3) (b := pr.length) (by omega)).trans (by rw [Nat.add_sub_cancel_left] <;> rfl)) ?_
  refine lv_istore_n (lv' := [(3, .int (3 : Int32)), (0, .ref (bd 4)), (1, .int (nI pr.length)), (2, .int (nI fm))]) hx hb dX4_extend_6 rfl hl (by decide) rfl ?_
  clear hl
  clear ls
  intro ls hl
  refine lv_iload_n hx hb dX4_extend_7 rfl (lv_at hl 2 rfl) ?_
  refine lv_iconst (v := 4) hx hb dX4_extend_8 (by decide) ?_
  refine lv_icmp_gt (tgt := 36) hx hb dX4_extend_9 (by decide) (fun h9 => ?_) (fun h9 => ?_)
  · skip
    exact absurd h9 (Int32.not_lt.mpr ((nI_leI (a := pr.length) (b := 4) (by omega) (by decide)).mpr (by omega)))
  · skip
    refine lv_aload_n hx hb dX4_extend_12 rfl (lv_at hl 1 rfl) ?_
    refine lv_aload_n hx hb dX4_extend_13 rfl (lv_at hl 1 rfl) ?_
    refine zget zf_X4_24 hF hB 0 rfl rfl dX4_extend_14 ?_
    refine lv_iload_n hx hb dX4_extend_17 rfl (lv_at hl 2 rfl) ?_
    refine zaald hF hB 3 rfl (t0 := 3) rfl pr.length (rfl) (by omega) (by decide) (r := na (34 + pr.length)) (rfl) dX4_extend_18 ?_
    refine lv_aload_n hx hb dX4_extend_19 rfl (lv_at hl 1 rfl) ?_
    refine zget zf_X4_69 hF hB 0 rfl rfl dX4_extend_20 ?_
    refine lv_iload_n hx hb dX4_extend_23 rfl (lv_at hl 0 rfl) ?_
    refine lv_aload_n hx hb dX4_extend_24 rfl (lv_at hl 1 rfl) ?_
    refine zVi zm_X4_84 hF hB (c_X4_mostSize l D ka kb bd cn opb (nI li) (nI (pr.length + 3)) bb.1 (Int64.ofInt bb.2.1) (Int64.ofInt bb.2.2.1) zs (hcn)) [0, 2] rfl (by decide) [(bd 4), (bd 19)] (fun _ => rfl) rfl 0 4 rfl rfl rfl ⟨Nat.le_of_ble_eq_true rfl, Nat.le_of_ble_eq_true rfl⟩ rfl hl.1 (Nat.le_of_ble_eq_true rfl) ⟨Nat.le_refl _, Nat.le_refl _⟩ dX4_extend_25 ?_
    clear hB
    try clear locs
    try clear H
    intro r1 u1 H locs hp hB
    obtain rfl : r1 = msZ cn zs := hp
    replace hB : zB D A s ([((bd 4), .inr (4, [.ref (bd 18), .ref (bd 19), .int (nI cn), .int opb, .int (nI li), .int (nI (pr.length + 3)), .ref (bd 20), .ref (bd 21), .ref (bd 22), .int bb.1, .ref (bd 23), .ref (bd 24), .long (Int64.ofInt bb.2.1), .long (Int64.ofInt bb.2.2.1)])), ((bd 18), .inr (2, [.int (bI o), .ref (na 31), .ref (na 32), .ref (na 33)])), ((bd 19), .inl (ka 0, 3, .inl zs)), ((bd 20), .inl (ka 3, 5, .inr (.inr (.inr (.inr (nR na 34)))))), ((bd 21), .inl (ka 0, 4, .inl sa)), ((bd 22), .inl (ka 0, 4, .inl ss)), ((bd 23), .inl (ka 0, 4, .inl bb.2.2.2.1)), ((bd 24), .inl (ka 0, 4, .inl bb.2.2.2.2))] ++ nP na N) H locs := hB
    refine ztopi (y := nI (mzN cn zn)) (ms_n hcn (fun i hi => (hzs i hi).1)) ?_
    refine lv_imul hx hb dX4_extend_28 ?_
    refine ztopi (y := nI (3 * (mzN cn zn))) (pk_mul 3 (mzN cn zn)) ?_
    refine lv_iadd hx hb dX4_extend_29 ?_
    refine ztopi (y := nI fq) (by rw [hfq]; exact nI_add _ _) ?_
    refine zVi zm_X4_51 hF hB (c_X4_isWithin l D ka kb bd o (nI cn) opb (nI li) (nI (pr.length + 3)) bb.1 (Int64.ofInt bb.2.1) (Int64.ofInt bb.2.2.1) na N (34 + pr.length) fq (prP P9 pr) (by omega) (hQp) (hbd) (by omega)) ([0, 1] ++ npr 8) (zsel_pool rfl rfl) (va_nd_pool rfl rfl) ([(bd 4), (bd 18)] ++ nA na) (fun _ => zad_pool rfl) (zad_pool rfl) 0 4 rfl rfl rfl ⟨Nat.le_of_ble_eq_true rfl, Nat.le_of_ble_eq_true rfl⟩ rfl hl.1 (Nat.le_of_ble_eq_true rfl) ⟨Nat.le_refl _, Nat.le_refl _⟩ dX4_extend_30 ?_
    clear hB
    try clear locs
    try clear H
    intro r2 u2 H locs hp hB
    obtain ⟨o92, rfl⟩ : ∃ z, z = u2 := ⟨_, rfl⟩
    have hp2 : r2 = bI (quB (prP P9 pr) (fq : Int)) := hp
    have HPP := hp2
    replace hB : zB D A s ([((bd 4), .inr (4, [.ref (bd 18), .ref (bd 19), .int (nI cn), .int opb, .int (nI li), .int (nI (pr.length + 3)), .ref (bd 20), .ref (bd 21), .ref (bd 22), .int bb.1, .ref (bd 23), .ref (bd 24), .long (Int64.ofInt bb.2.1), .long (Int64.ofInt bb.2.2.1)])), ((bd 18), .inr (2, [.int (bI o92), .ref (na 31), .ref (na 32), .ref (na 33)])), ((bd 19), .inl (ka 0, 3, .inl zs)), ((bd 20), .inl (ka 3, 5, .inr (.inr (.inr (.inr (nR na 34)))))), ((bd 21), .inl (ka 0, 4, .inl sa)), ((bd 22), .inl (ka 0, 4, .inl ss)), ((bd 23), .inl (ka 0, 4, .inl bb.2.2.2.1)), ((bd 24), .inl (ka 0, 4, .inl bb.2.2.2.2))] ++ nP na N) H locs := zB_pool hB rfl rfl rfl rfl
    have hWI := HPP
    refine lv_if_ne (tgt := 37) hx hb dX4_extend_33 (by decide) (fun h33 => ?_) (fun h33 => ?_)
    · skip
      have hwq : quB (prP P9 pr) (fq : Int) = true := bI_ne0 (fun e9 => h33 (hWI.trans e9))
      refine lv_iload_n hx hb dX4_extend_37 rfl (lv_at hl 0 rfl) ?_
      refine lv_if_gt (tgt := 46) hx hb dX4_extend_38 (by decide) (fun h38 => ?_) (fun h38 => ?_)
      · skip
        refine lv_iload_n hx hb dX4_extend_46 rfl (lv_at hl 3 rfl) ?_
        refine lv_istore (lv' := [(4, .int (nI fm)), (3, .int (3 : Int32)), (0, .ref (bd 4)), (1, .int (nI pr.length)), (2, .int (nI fm))]) hx hb dX4_extend_47 hl (by decide) rfl ?_
        clear hl
        clear ls
        intro ls hl
        have lp49 : ∀ (fl : Nat) (kk : Nat) (b1 : bT) (N1 : Nat → N5) (sa1 : Nat → Int32) (ss1 : Nat → Int32) (o1 : Bool), (hk : kk ≤ 12 - 2 - fm) → (hb1 : b1 = anF (fun c b => clR P9 li (mzN cn zn) (fun a9 => dB (lgX opb a9 = 1)) zn cn 2 (c / 10 + 1) (c :: pr) b) (fun a9 => dB (lgX opb a9 = 1)) zn cn fm kk bb) → (hB1 : bB b1) → (hN1 : ∀ k9, (k9 < 35 + pr.length ∨ 38 < k9) → N1 k9 = N k9) → (hS1 : ∀ j, j < pr.length → sa1 j = sa j ∧ ss1 j = ss j) → 13 - kk < fl → ∀ (H : Heap) (locs : List Loc), zB D A s ([((bd 4), .inr (4, [.ref (bd 18), .ref (bd 19), .int (nI cn), .int opb, .int (nI li), .int (nI (pr.length + 3)), .ref (bd 20), .ref (bd 21), .ref (bd 22), .int b1.1, .ref (bd 23), .ref (bd 24), .long (Int64.ofInt b1.2.1), .long (Int64.ofInt b1.2.2.1)])), ((bd 18), .inr (2, [.int (bI o1), .ref (na 31), .ref (na 32), .ref (na 33)])), ((bd 19), .inl (ka 0, 3, .inl zs)), ((bd 20), .inl (ka 3, 5, .inr (.inr (.inr (.inr (nR na 34)))))), ((bd 21), .inl (ka 0, 4, .inl sa1)), ((bd 22), .inl (ka 0, 4, .inl ss1)), ((bd 23), .inl (ka 0, 4, .inl b1.2.2.2.1)), ((bd 24), .inl (ka 0, 4, .inl b1.2.2.2.2))] ++ nP na N1) H locs → ∀ ls : Array Slot, lv_has ls 6 [(4, .int (nI (fm + kk))), (0, .ref (bd 4)), (1, .int (nI pr.length)), (3, .int (3 : Int32))] → W p l e (zRm 7 177 0 0) s m args below meth c H locs 0 0 Q (F0 m 49 ls []) := by
          intro fl
          induction fl with
          | zero => intro kk b1 N1 sa1 ss1 o1 hk hb1 hB1 hN1 hS1 hfl; exact absurd hfl (Nat.not_lt_zero _)
          | succ fl ih49 =>
            intro kk b1 N1 sa1 ss1 o1 hk hb1 hB1 hN1 hS1 hfl49 H locs hB ls hl
            refine lv_iload hx hb dX4_extend_49 (lv_at hl 0 rfl) ?_
            refine lv_bipush (v := 12) hx hb dX4_extend_51 (by decide) ?_
            refine lv_iload_n hx hb dX4_extend_53 rfl (lv_at hl 3 rfl) ?_
            refine lv_isub hx hb dX4_extend_54 ?_
            refine ztopi (y := (9 : Int32)) (by decide) ?_
            refine lv_icmp_gt (tgt := 119) hx hb dX4_extend_55 (by decide) (fun h55 => ?_) (fun h55 => ?_)
            · skip
              have hke : kk = 12 - 2 - fm := by have := mt (nI_leI (a := fm + kk) (b := 9) (by omega) (by decide)).mpr (Int32.not_le.mpr h55); omega
              have hcl : clR P9 li (mzN cn zn) (fun a9 => dB (lgX opb a9 = 1)) zn cn 3 fm pr bb = b1 := by rw [clR, if_pos (by rw [← hfq]; exact hwq), hb1, hke]
              exact zretv hF hB (N1, sa1, ss1, (o1)) (⟨hN1, hS1, by rw [hcl]; exact hB1⟩) (by rw [hcl]) dX4_extend_119 hQ
            · skip
              have hk2 : fm + kk ≤ 9 := (nI_leI (a := fm + kk) (b := 9) (by omega) (by decide)).mp (Int32.not_lt.mp h55)
              refine lv_iconst (v := 0) hx hb dX4_extend_58 (by decide) ?_
              refine lv_istore (lv' := [(5, .int (0 : Int32)), (4, .int (nI (fm + kk))), (0, .ref (bd 4)), (1, .int (nI pr.length)), (3, .int (3 : Int32))]) hx hb dX4_extend_59 hl (by decide) rfl ?_
              clear hl
              clear ls
              intro ls hl
              have lp61 : ∀ (fl : Nat) (ii : Nat) (b2 : bT) (N1 : Nat → N5) (sa1 : Nat → Int32) (ss1 : Nat → Int32) (o1 : Bool), (hi : ii ≤ cn) → (hb2 : b2 = szF (fun c b => clR P9 li (mzN cn zn) (fun a9 => dB (lgX opb a9 = 1)) zn cn 2 (c / 10 + 1) (c :: pr) b) (fm + kk) zn ii b1) → (hB2 : bB b2) → (hN1 : ∀ k9, (k9 < 35 + pr.length ∨ 38 < k9) → N1 k9 = N k9) → (hS1 : ∀ j, j < pr.length → sa1 j = sa j ∧ ss1 j = ss j) → (hop1 : ii ≠ 0 → lgX opb (fm + kk) = 1) → 4 - ii < fl → ∀ (H : Heap) (locs : List Loc), zB D A s ([((bd 4), .inr (4, [.ref (bd 18), .ref (bd 19), .int (nI cn), .int opb, .int (nI li), .int (nI (pr.length + 3)), .ref (bd 20), .ref (bd 21), .ref (bd 22), .int b2.1, .ref (bd 23), .ref (bd 24), .long (Int64.ofInt b2.2.1), .long (Int64.ofInt b2.2.2.1)])), ((bd 18), .inr (2, [.int (bI o1), .ref (na 31), .ref (na 32), .ref (na 33)])), ((bd 19), .inl (ka 0, 3, .inl zs)), ((bd 20), .inl (ka 3, 5, .inr (.inr (.inr (.inr (nR na 34)))))), ((bd 21), .inl (ka 0, 4, .inl sa1)), ((bd 22), .inl (ka 0, 4, .inl ss1)), ((bd 23), .inl (ka 0, 4, .inl b2.2.2.2.1)), ((bd 24), .inl (ka 0, 4, .inl b2.2.2.2.2))] ++ nP na N1) H locs → ∀ ls : Array Slot, lv_has ls 6 [(5, .int (nI ii)), (4, .int (nI (fm + kk))), (0, .ref (bd 4)), (1, .int (nI pr.length)), (3, .int (3 : Int32))] → W p l e (zRm 7 177 0 0) s m args below meth c H locs 0 0 Q (F0 m 61 ls []) := by
                intro fl
                induction fl with
                | zero => intro ii b2 N1 sa1 ss1 o1 hi hb2 hB2 hN1 hS1 hop1 hfl; exact absurd hfl (Nat.not_lt_zero _)
                | succ fl ih61 =>
                  intro ii b2 N1 sa1 ss1 o1 hi hb2 hB2 hN1 hS1 hop1 hfl61 H locs hB ls hl
                  refine lv_iload hx hb dX4_extend_61 (lv_at hl 0 rfl) ?_
                  refine lv_aload_n hx hb dX4_extend_63 rfl (lv_at hl 2 rfl) ?_
                  refine zget zf_X4_81 hF hB 0 rfl rfl dX4_extend_64 ?_
                  refine lv_icmp_ge (tgt := 113) hx hb dX4_extend_67 (by decide) (fun h67 => ?_) (fun h67 => ?_)
                  · skip
                    have hie : ii = cn := by have := (nI_leI (a := cn) (b := ii) (by omega) (by omega)).mp h67; omega
                    refine lv_iinc (v := nI ((fm + kk) + 1)) (lv' := [(4, .int (nI ((fm + kk) + 1))), (5, .int (nI ii)), (0, .ref (bd 4)), (1, .int (nI pr.length)), (3, .int (3 : Int32))]) hx hb dX4_extend_113 hl (k := 1) rfl (nI_1 _) (by decide) rfl ?_
                    clear hl
                    clear ls
                    intro ls hl
                    refine lv_goto (tgt := 49) hx hb dX4_extend_116 (by decide) ?_
                    exact ih49 (kk + 1) b2 N1 sa1 ss1 (o1) (by omega) (by rw [anF, ← hb1]; exact (an_all hb2 hie hop1).symm) (hB2) (hN1) (hS1) (by omega) _ _ (hB) _ (lv_sub hl [0, 2, 3, 4] rfl)
                  · skip
                    have hi2 : ii < cn := Nat.not_le.mp (fun e9 => h67 ((nI_leI (a := cn) (b := ii) (by omega) (by omega)).mpr e9))
                    refine lv_aload_n hx hb dX4_extend_70 rfl (lv_at hl 2 rfl) ?_
                    refine zget zf_X4_66 hF hB 0 rfl rfl dX4_extend_71 ?_
                    refine lv_iload hx hb dX4_extend_74 (lv_at hl 1 rfl) ?_
                    refine lv_ishr hx hb dX4_extend_76 ?_
                    refine lv_iconst (v := 1) hx hb dX4_extend_77 (by decide) ?_
                    refine lv_iand hx hb dX4_extend_78 ?_
                    refine ztopi (y := lgX opb (fm + kk)) (rfl) ?_
                    refine lv_if_eq (tgt := 113) hx hb dX4_extend_79 (by decide) (fun h79 => ?_) (fun h79 => ?_)
                    · skip
                      refine lv_iinc (v := nI ((fm + kk) + 1)) (lv' := [(4, .int (nI ((fm + kk) + 1))), (5, .int (nI ii)), (0, .ref (bd 4)), (1, .int (nI pr.length)), (3, .int (3 : Int32))]) hx hb dX4_extend_113 hl (k := 1) rfl (nI_1 _) (by decide) rfl ?_
                      clear hl
                      clear ls
                      intro ls hl
                      refine lv_goto (tgt := 49) hx hb dX4_extend_116 (by decide) ?_
                      exact ih49 (kk + 1) b2 N1 sa1 ss1 (o1) (by omega) (by rw [anF, ← hb1]; exact (an_none hb2 h79 hop1).symm) (hB2) (hN1) (hS1) (by omega) _ _ (hB) _ (lv_sub hl [0, 2, 3, 4] rfl)
                    · skip
                      have hop : lgX opb (fm + kk) = 1 := lgX_1 h79
                      refine lv_aload_n hx hb dX4_extend_82 rfl (lv_at hl 2 rfl) ?_
                      refine lv_iload_n hx hb dX4_extend_83 rfl (lv_at hl 3 rfl) ?_
                      refine lv_iload hx hb dX4_extend_84 (lv_at hl 1 rfl) ?_
                      refine lv_aload_n hx hb dX4_extend_86 rfl (lv_at hl 2 rfl) ?_
                      refine zget zf_X4_18 hF hB 0 rfl rfl dX4_extend_87 ?_
                      refine lv_iload hx hb dX4_extend_90 (lv_at hl 0 rfl) ?_
                      refine ziald hF hB 2 rfl ii (rfl) (by omega) (by decide) (v := (nI (zn ii))) ((hzs ii hi2).1) dX4_extend_92 ?_
                      refine zVv zm_X4_90 hF hB (c_X4_choose l D ka kb bd (nI cn) opb (nI li) (nI (pr.length + 3)) b2.1 (Int64.ofInt b2.2.1) (Int64.ofInt b2.2.2.1) sa1 ss1 na N1 pr.length (fm + kk) (zn ii) (prP P9 pr) (by omega) (by omega) ((hzs ii hi2).2) ((hN1 _ (by omega)).trans hQp)) ([0, 4, 5, 3] ++ npr 8) (zsel_pool rfl rfl) (va_nd_pool rfl rfl) ([(bd 4), (bd 21), (bd 22), (bd 20)] ++ nA na) (fun _ => zad_pool rfl) (zad_pool rfl) 0 4 rfl rfl rfl ⟨Nat.le_of_ble_eq_true rfl, Nat.le_of_ble_eq_true rfl⟩ rfl hl.1 (Nat.le_of_ble_eq_true rfl) ⟨Nat.le_refl _, Nat.le_refl _⟩ dX4_extend_93 ?_
                      clear hB
                      try clear locs
                      try clear H
                      intro u3 H locs hp hB
                      replace hB : zB D A s ([((bd 4), .inr (4, [.ref (bd 18), .ref (bd 19), .int (nI cn), .int opb, .int (nI li), .int (nI (pr.length + 3)), .ref (bd 20), .ref (bd 21), .ref (bd 22), .int b2.1, .ref (bd 23), .ref (bd 24), .long (Int64.ofInt b2.2.1), .long (Int64.ofInt b2.2.2.1)])), ((bd 18), .inr (2, [.int (bI o1), .ref (na 31), .ref (na 32), .ref (na 33)])), ((bd 19), .inl (ka 0, 3, .inl zs)), ((bd 20), .inl (ka 3, 5, .inr (.inr (.inr (.inr (nR na 34)))))), ((bd 21), .inl (ka 0, 4, .inl (upd sa1 pr.length (nI (fm + kk))))), ((bd 22), .inl (ka 0, 4, .inl (upd ss1 pr.length (nI (zn ii))))), ((bd 23), .inl (ka 0, 4, .inl b2.2.2.2.1)), ((bd 24), .inl (ka 0, 4, .inl b2.2.2.2.2))] ++ nP na (upN N1 (34 + (pr.length + 1)) (p20N (fun k9 => (prP P9 pr) k9 + -10 * ((zn ii) : Int) * wI (fm + kk) k9)))) H locs := zB_pool hB rfl rfl rfl rfl
                      have hz9 := (hzs ii hi2).2
                      have hcd : (10 * (fm + kk) + zn ii) / 10 = fm + kk ∧ (10 * (fm + kk) + zn ii) % 10 = zn ii := by omega
                      obtain ⟨N2, hN2⟩ : ∃ M, M = (upN N1 (34 + (pr.length + 1)) (p20N (fun k9 => (prP P9 pr) k9 + -10 * ((zn ii) : Int) * wI (fm + kk) k9))) := ⟨_, rfl⟩
                      rw [← hN2] at hB
                      have q2 : N2 (34 + ((10 * (fm + kk) + zn ii) :: pr).length) = p20N (prP P9 ((10 * (fm + kk) + zn ii) :: pr)) := by
                        rw [hN2]
                        show upN _ (34 + (pr.length + 1)) _ (34 + (pr.length + 1)) = _
                        rw [upN_eq]
                        congr 1
                        funext k9
                        show _ = prP P9 pr k9 + -10 * (((10 * (fm + kk) + zn ii) % 10 : Nat) : Int) * wI ((10 * (fm + kk) + zn ii) / 10) k9
                        rw [hcd.1, hcd.2]
                      have kN2 : ∀ k9, (k9 < 35 + pr.length ∨ 38 < k9) → N2 k9 = N k9 := fun k9 h9 => by rw [hN2, upN_ne (by omega)]; exact hN1 k9 h9
                      have hoS2 : okS (upd sa1 pr.length (nI (fm + kk))) (upd ss1 pr.length (nI (zn ii))) ((10 * (fm + kk) + zn ii) :: pr) := by
                        refine ⟨?_, ?_, by omega, okS_up hoS (fun j hj => ?_)⟩
                        · rw [hcd.1]; exact if_pos rfl
                        · rw [hcd.2]; exact if_pos rfl
                        · exact ⟨(if_neg (by omega)).trans (hS1 j hj).1, (if_neg (by omega)).trans (hS1 j hj).2⟩
                      refine lv_aload_n hx hb dX4_extend_96 rfl (lv_at hl 2 rfl) ?_
                      refine lv_iload_n hx hb dX4_extend_97 rfl (lv_at hl 3 rfl) ?_
                      refine lv_iconst (v := 1) hx hb dX4_extend_98 (by decide) ?_
                      refine lv_iadd hx hb dX4_extend_99 ?_
                      refine ztopi (y := nI (pr.length + 1)) (nI_add pr.length 1) ?_
                      refine lv_iload hx hb dX4_extend_100 (lv_at hl 1 rfl) ?_
                      refine lv_iconst (v := 1) hx hb dX4_extend_102 (by decide) ?_
                      refine lv_iadd hx hb dX4_extend_103 ?_
                      refine ztopi (y := nI ((fm + kk) + 1)) (nI_add (fm + kk) 1) ?_
                      refine zSv zm_X4_77 hF hB (c_X4_extend_2 l D ka kb bd o1 cn opb li zs zn ((10 * (fm + kk) + zn ii) :: pr) b2 (upd sa1 pr.length (nI (fm + kk))) (upd ss1 pr.length (nI (zn ii))) na N2 P9 ((fm + kk) + 1) (hcn) (hzs) (hli) (hPb) (hoS2) (by show pr.length + 1 + 2 ≤ 4; omega) (q2) (hB2) (by omega)) ([0, 1, 2, 3, 4, 5, 6, 7] ++ npr 8) (zsel_pool rfl rfl) (va_nd_pool rfl rfl) ([(bd 4), (bd 18), (bd 19), (bd 20), (bd 21), (bd 22), (bd 23), (bd 24)] ++ nA na) (fun _ => zad_pool rfl) (zad_pool rfl) rfl ⟨Nat.le_of_ble_eq_true rfl, Nat.le_of_ble_eq_true rfl⟩ rfl hl.1 (Nat.le_of_ble_eq_true rfl) ⟨Nat.le_refl _, Nat.le_refl _⟩ dX4_extend_104 ?_
                      clear hB
                      try clear locs
                      try clear H
                      intro u4 H locs hp hB
                      obtain ⟨N94, sa94, ss94, o94⟩ := u4
                      have hp4 : (∀ k9, (k9 < 35 + ((10 * (fm + kk) + zn ii) :: pr).length ∨ 38 < k9) → N94 k9 = N2 k9) ∧ (∀ j, j < ((10 * (fm + kk) + zn ii) :: pr).length → sa94 j = (upd sa1 pr.length (nI (fm + kk))) j ∧ ss94 j = (upd ss1 pr.length (nI (zn ii))) j) ∧ bB (clR P9 li (mzN cn zn) (fun a9 => dB (lgX opb a9 = 1)) zn cn 2 ((fm + kk) + 1) ((10 * (fm + kk) + zn ii) :: pr) b2) := hp
                      have HPP := hp4
                      replace hB : zB D A s ([((bd 4), .inr (4, [.ref (bd 18), .ref (bd 19), .int (nI cn), .int opb, .int (nI li), .int (nI (pr.length + 3)), .ref (bd 20), .ref (bd 21), .ref (bd 22), .int ((clR P9 li (mzN cn zn) (fun a9 => dB (lgX opb a9 = 1)) zn cn 2 ((fm + kk) + 1) ((10 * (fm + kk) + zn ii) :: pr) b2).1), .ref (bd 23), .ref (bd 24), .long (Int64.ofInt (clR P9 li (mzN cn zn) (fun a9 => dB (lgX opb a9 = 1)) zn cn 2 ((fm + kk) + 1) ((10 * (fm + kk) + zn ii) :: pr) b2).2.1), .long (Int64.ofInt (clR P9 li (mzN cn zn) (fun a9 => dB (lgX opb a9 = 1)) zn cn 2 ((fm + kk) + 1) ((10 * (fm + kk) + zn ii) :: pr) b2).2.2.1)])), ((bd 18), .inr (2, [.int (bI o94), .ref (na 31), .ref (na 32), .ref (na 33)])), ((bd 19), .inl (ka 0, 3, .inl zs)), ((bd 20), .inl (ka 3, 5, .inr (.inr (.inr (.inr (nR na 34)))))), ((bd 21), .inl (ka 0, 4, .inl sa94)), ((bd 22), .inl (ka 0, 4, .inl ss94)), ((bd 23), .inl (ka 0, 4, .inl ((clR P9 li (mzN cn zn) (fun a9 => dB (lgX opb a9 = 1)) zn cn 2 ((fm + kk) + 1) ((10 * (fm + kk) + zn ii) :: pr) b2).2.2.2.1))), ((bd 24), .inl (ka 0, 4, .inl ((clR P9 li (mzN cn zn) (fun a9 => dB (lgX opb a9 = 1)) zn cn 2 ((fm + kk) + 1) ((10 * (fm + kk) + zn ii) :: pr) b2).2.2.2.2)))] ++ nP na N94) H locs := zB_pool hB rfl rfl rfl rfl
                      have hEX := HPP
                      replace hB : zB D A s ([((bd 4), .inr (4, [.ref (bd 18), .ref (bd 19), .int (nI cn), .int opb, .int (nI li), .int (nI (pr.length + 3)), .ref (bd 20), .ref (bd 21), .ref (bd 22), .int ((clR P9 li (mzN cn zn) (fun a9 => dB (lgX opb a9 = 1)) zn cn 2 ((fm + kk) + 1) ((10 * (fm + kk) + zn ii) :: pr) b2).1), .ref (bd 23), .ref (bd 24), .long (Int64.ofInt (clR P9 li (mzN cn zn) (fun a9 => dB (lgX opb a9 = 1)) zn cn 2 ((fm + kk) + 1) ((10 * (fm + kk) + zn ii) :: pr) b2).2.1), .long (Int64.ofInt (clR P9 li (mzN cn zn) (fun a9 => dB (lgX opb a9 = 1)) zn cn 2 ((fm + kk) + 1) ((10 * (fm + kk) + zn ii) :: pr) b2).2.2.1)])), ((bd 18), .inr (2, [.int (bI o94), .ref (na 31), .ref (na 32), .ref (na 33)])), ((bd 19), .inl (ka 0, 3, .inl zs)), ((bd 20), .inl (ka 3, 5, .inr (.inr (.inr (.inr (nR na 34)))))), ((bd 21), .inl (ka 0, 4, .inl sa94)), ((bd 22), .inl (ka 0, 4, .inl ss94)), ((bd 23), .inl (ka 0, 4, .inl ((clR P9 li (mzN cn zn) (fun a9 => dB (lgX opb a9 = 1)) zn cn 2 ((fm + kk) + 1) ((10 * (fm + kk) + zn ii) :: pr) b2).2.2.2.1))), ((bd 24), .inl (ka 0, 4, .inl ((clR P9 li (mzN cn zn) (fun a9 => dB (lgX opb a9 = 1)) zn cn 2 ((fm + kk) + 1) ((10 * (fm + kk) + zn ii) :: pr) b2).2.2.2.2)))] ++ nP na N94) H locs := hB
                      refine lv_iinc (v := nI (ii + 1)) (lv' := [(5, .int (nI (ii + 1))), (4, .int (nI (fm + kk))), (0, .ref (bd 4)), (1, .int (nI pr.length)), (3, .int (3 : Int32))]) hx hb dX4_extend_107 hl (k := 0) rfl (nI_1 _) (by decide) rfl ?_
                      clear hl
                      clear ls
                      intro ls hl
                      refine lv_goto (tgt := 61) hx hb dX4_extend_110 (by decide) ?_
                      exact ih61 (ii + 1) (clR P9 li (mzN cn zn) (fun a9 => dB (lgX opb a9 = 1)) zn cn 2 (fm + kk + 1) ((10 * (fm + kk) + zn ii) :: pr) b2) N94 sa94 ss94 (o94) (by omega) (by rw [szF, ← hb2]; show _ = clR P9 li (mzN cn zn) (fun a9 => dB (lgX opb a9 = 1)) zn cn 2 ((10 * (fm + kk) + zn ii) / 10 + 1) ((10 * (fm + kk) + zn ii) :: pr) b2; rw [hcd.1]) (hEX.2.2) (fun k9 h9 => (hEX.1 k9 (by show k9 < 35 + (pr.length + 1) ∨ _; omega)).trans (kN2 k9 h9)) (fun j hj => ⟨((hEX.2.1 j (by show j < pr.length + 1; omega)).1.trans (if_neg (by omega))).trans (hS1 j hj).1, ((hEX.2.1 j (by show j < pr.length + 1; omega)).2.trans (if_neg (by omega))).trans (hS1 j hj).2⟩) (fun _ => hop) (by omega) _ _ (hB) _ (lv_sub hl [0, 1, 2, 3, 4] rfl)
              exact lp61 (4 - 0 + 1) 0 b1 N1 sa1 ss1 o1 (Nat.zero_le _) (rfl) (hB1) (hN1) (hS1) (fun e8 => absurd rfl e8) (by omega) _ _ (hB) _ (lv_sub hl [0, 1, 2, 3, 4] rfl)
        exact lp49 (13 - 0 + 1) 0 bb N sa ss (o92) (Nat.zero_le _) (rfl) (hB9) (fun _ _ => rfl) (fun _ _ => ⟨rfl, rfl⟩) (by omega) _ _ (hB) _ (lv_sub hl [0, 2, 3, 1] rfl)
      · skip
        exact absurd (by decide) h38
    · skip
      have hwq : quB (prP P9 pr) (fq : Int) = false := bI_eq0 (hWI.symm.trans h33)
      have hcl : clR P9 li (mzN cn zn) (fun a9 => dB (lgX opb a9 = 1)) zn cn 3 fm pr bb = bb := by rw [clR, if_neg (by rw [← hfq, hwq]; decide)]
      exact zretv hF hB (N, sa, ss, (o92)) (⟨fun _ _ => rfl, fun _ _ => ⟨rfl, rfl⟩, by rw [hcl]; exact hB9⟩) (by rw [hcl]) dX4_extend_36 hQ

set_option maxHeartbeats 4000000 in
set_option maxRecDepth 100000 in
theorem c_X4_extend_4 (l : Launch) (D : va_G) (ka : Nat → ClassId) (kb : Nat → Nat) (bd : Nat → Nat) (o : Bool) (cn : Nat) (opb : Int32) (li : Nat) (zs : Nat → Int32) (zn : Nat → Nat) (pr : List Nat) (bb : bT) (sa : Nat → Int32) (ss : Nat → Int32) (na : Nat → Nat) (N : Nat → N5) (P9 : Nat → Int) (fm : Nat) (hcn : cn ≤ 3) (hzs : ∀ i, i < cn → zs i = nI (zn i) ∧ zn i ≤ 9) (hli : li ≤ 99) (hPb : ∀ k, k < 4 → -(9000 * wB k) ≤ P9 k ∧ P9 k ≤ 9000 * wB k) (hoS : okS sa ss pr) (hlen : pr.length + 4 ≤ 4) (hQp : N (34 + pr.length) = p20N (prP P9 pr)) (hB9 : bB bb) (hfm : fm ≤ 12) : zV l D ka kb yX4_extend cX4_extend 6 8 202 [.ref (bd 4), .int (nI pr.length), .int (nI fm)] ([((bd 4), .inr (4, [.ref (bd 18), .ref (bd 19), .int (nI cn), .int opb, .int (nI li), .int (nI (pr.length + 4)), .ref (bd 20), .ref (bd 21), .ref (bd 22), .int bb.1, .ref (bd 23), .ref (bd 24), .long (Int64.ofInt bb.2.1), .long (Int64.ofInt bb.2.2.1)])), ((bd 18), .inr (2, [.int (bI o), .ref (na 31), .ref (na 32), .ref (na 33)])), ((bd 19), .inl (ka 0, 3, .inl zs)), ((bd 20), .inl (ka 3, 5, .inr (.inr (.inr (.inr (nR na 34)))))), ((bd 21), .inl (ka 0, 4, .inl sa)), ((bd 22), .inl (ka 0, 4, .inl ss)), ((bd 23), .inl (ka 0, 4, .inl bb.2.2.2.1)), ((bd 24), .inl (ka 0, 4, .inl bb.2.2.2.2))] ++ nP na N) (fun (u : (Nat → N5) × (Nat → Int32) × (Nat → Int32) × Bool) => (∀ k9, (k9 < 35 + pr.length ∨ 38 < k9) → u.1 k9 = N k9) ∧ (∀ j, j < pr.length → u.2.1 j = sa j ∧ u.2.2.1 j = ss j) ∧ bB (clR P9 li (mzN cn zn) (fun a9 => dB (lgX opb a9 = 1)) zn cn 4 fm pr bb)) (fun (u : (Nat → N5) × (Nat → Int32) × (Nat → Int32) × Bool) => [((bd 4), .inr (4, [.ref (bd 18), .ref (bd 19), .int (nI cn), .int opb, .int (nI li), .int (nI (pr.length + 4)), .ref (bd 20), .ref (bd 21), .ref (bd 22), .int ((clR P9 li (mzN cn zn) (fun a9 => dB (lgX opb a9 = 1)) zn cn 4 fm pr bb).1), .ref (bd 23), .ref (bd 24), .long (Int64.ofInt (clR P9 li (mzN cn zn) (fun a9 => dB (lgX opb a9 = 1)) zn cn 4 fm pr bb).2.1), .long (Int64.ofInt (clR P9 li (mzN cn zn) (fun a9 => dB (lgX opb a9 = 1)) zn cn 4 fm pr bb).2.2.1)])), ((bd 18), .inr (2, [.int (bI u.2.2.2), .ref (na 31), .ref (na 32), .ref (na 33)])), ((bd 19), .inl (ka 0, 3, .inl zs)), ((bd 20), .inl (ka 3, 5, .inr (.inr (.inr (.inr (nR na 34)))))), ((bd 21), .inl (ka 0, 4, .inl u.2.1)), ((bd 22), .inl (ka 0, 4, .inl u.2.2.1)), ((bd 23), .inl (ka 0, 4, .inl ((clR P9 li (mzN cn zn) (fun a9 => dB (lgX opb a9 = 1)) zn cn 4 fm pr bb).2.2.2.1))), ((bd 24), .inl (ka 0, 4, .inl ((clR P9 li (mzN cn zn) (fun a9 => dB (lgX opb a9 = 1)) zn cn 4 fm pr bb).2.2.2.2)))] ++ nP na u.1) := by
  refine zV.mk RX4 (by decide +kernel) rfl (Nat.le_of_ble_eq_true rfl) ?_
  intro p e s m below meth c A ls args Q hQ hx hb hF hB hl
  replace hl : lv_has ls 6 [(0, .ref (bd 4)), (1, .int (nI pr.length)), (2, .int (nI fm))] := hl
  have hcs := okS_lt hoS
  have hbd : bdP (prP P9 pr) := prP_bd4 hPb hcs (by omega)
  have hmz : mzN cn zn ≤ 9 := mz_le hcn (fun i hi => (hzs i hi).2)
  obtain ⟨fq, hfq⟩ : ∃ x, x = li + 4 * mzN cn zn := ⟨_, rfl⟩
  refine lv_aload_n hx hb dX4_extend_0 rfl (lv_at hl 0 rfl) ?_
  refine zget zf_X4_74 hF hB 0 rfl rfl dX4_extend_1 ?_
  refine lv_iload_n hx hb dX4_extend_4 rfl (lv_at hl 1 rfl) ?_
  refine lv_isub hx hb dX4_extend_5 ?_
  refine ztopi (y := (4 : Int32)) ((pk_sub (a := pr.length + 4) (b := pr.length) (by omega)).trans (by rw [Nat.add_sub_cancel_left] <;> rfl)) ?_
  refine lv_istore_n (lv' := [(3, .int (4 : Int32)), (0, .ref (bd 4)), (1, .int (nI pr.length)), (2, .int (nI fm))]) hx hb dX4_extend_6 rfl hl (by decide) rfl ?_
  clear hl
  clear ls
  intro ls hl
  refine lv_iload_n hx hb dX4_extend_7 rfl (lv_at hl 2 rfl) ?_
  refine lv_iconst (v := 4) hx hb dX4_extend_8 (by decide) ?_
  refine lv_icmp_gt (tgt := 36) hx hb dX4_extend_9 (by decide) (fun h9 => ?_) (fun h9 => ?_)
  · skip
    exact absurd h9 (Int32.not_lt.mpr ((nI_leI (a := pr.length) (b := 4) (by omega) (by decide)).mpr (by omega)))
  · skip
    refine lv_aload_n hx hb dX4_extend_12 rfl (lv_at hl 1 rfl) ?_
    refine lv_aload_n hx hb dX4_extend_13 rfl (lv_at hl 1 rfl) ?_
    refine zget zf_X4_24 hF hB 0 rfl rfl dX4_extend_14 ?_
    refine lv_iload_n hx hb dX4_extend_17 rfl (lv_at hl 2 rfl) ?_
    refine zaald hF hB 3 rfl (t0 := 3) rfl pr.length (rfl) (by omega) (by decide) (r := na (34 + pr.length)) (rfl) dX4_extend_18 ?_
    refine lv_aload_n hx hb dX4_extend_19 rfl (lv_at hl 1 rfl) ?_
    refine zget zf_X4_69 hF hB 0 rfl rfl dX4_extend_20 ?_
    refine lv_iload_n hx hb dX4_extend_23 rfl (lv_at hl 0 rfl) ?_
    refine lv_aload_n hx hb dX4_extend_24 rfl (lv_at hl 1 rfl) ?_
    refine zVi zm_X4_84 hF hB (c_X4_mostSize l D ka kb bd cn opb (nI li) (nI (pr.length + 4)) bb.1 (Int64.ofInt bb.2.1) (Int64.ofInt bb.2.2.1) zs (hcn)) [0, 2] rfl (by decide) [(bd 4), (bd 19)] (fun _ => rfl) rfl 0 4 rfl rfl rfl ⟨Nat.le_of_ble_eq_true rfl, Nat.le_of_ble_eq_true rfl⟩ rfl hl.1 (Nat.le_of_ble_eq_true rfl) ⟨Nat.le_refl _, Nat.le_refl _⟩ dX4_extend_25 ?_
    clear hB
    try clear locs
    try clear H
    intro r1 u1 H locs hp hB
    obtain rfl : r1 = msZ cn zs := hp
    replace hB : zB D A s ([((bd 4), .inr (4, [.ref (bd 18), .ref (bd 19), .int (nI cn), .int opb, .int (nI li), .int (nI (pr.length + 4)), .ref (bd 20), .ref (bd 21), .ref (bd 22), .int bb.1, .ref (bd 23), .ref (bd 24), .long (Int64.ofInt bb.2.1), .long (Int64.ofInt bb.2.2.1)])), ((bd 18), .inr (2, [.int (bI o), .ref (na 31), .ref (na 32), .ref (na 33)])), ((bd 19), .inl (ka 0, 3, .inl zs)), ((bd 20), .inl (ka 3, 5, .inr (.inr (.inr (.inr (nR na 34)))))), ((bd 21), .inl (ka 0, 4, .inl sa)), ((bd 22), .inl (ka 0, 4, .inl ss)), ((bd 23), .inl (ka 0, 4, .inl bb.2.2.2.1)), ((bd 24), .inl (ka 0, 4, .inl bb.2.2.2.2))] ++ nP na N) H locs := hB
    refine ztopi (y := nI (mzN cn zn)) (ms_n hcn (fun i hi => (hzs i hi).1)) ?_
    refine lv_imul hx hb dX4_extend_28 ?_
    refine ztopi (y := nI (4 * (mzN cn zn))) (pk_mul 4 (mzN cn zn)) ?_
    refine lv_iadd hx hb dX4_extend_29 ?_
    refine ztopi (y := nI fq) (by rw [hfq]; exact nI_add _ _) ?_
    refine zVi zm_X4_51 hF hB (c_X4_isWithin l D ka kb bd o (nI cn) opb (nI li) (nI (pr.length + 4)) bb.1 (Int64.ofInt bb.2.1) (Int64.ofInt bb.2.2.1) na N (34 + pr.length) fq (prP P9 pr) (by omega) (hQp) (hbd) (by omega)) ([0, 1] ++ npr 8) (zsel_pool rfl rfl) (va_nd_pool rfl rfl) ([(bd 4), (bd 18)] ++ nA na) (fun _ => zad_pool rfl) (zad_pool rfl) 0 4 rfl rfl rfl ⟨Nat.le_of_ble_eq_true rfl, Nat.le_of_ble_eq_true rfl⟩ rfl hl.1 (Nat.le_of_ble_eq_true rfl) ⟨Nat.le_refl _, Nat.le_refl _⟩ dX4_extend_30 ?_
    clear hB
    try clear locs
    try clear H
    intro r2 u2 H locs hp hB
    obtain ⟨o92, rfl⟩ : ∃ z, z = u2 := ⟨_, rfl⟩
    have hp2 : r2 = bI (quB (prP P9 pr) (fq : Int)) := hp
    have HPP := hp2
    replace hB : zB D A s ([((bd 4), .inr (4, [.ref (bd 18), .ref (bd 19), .int (nI cn), .int opb, .int (nI li), .int (nI (pr.length + 4)), .ref (bd 20), .ref (bd 21), .ref (bd 22), .int bb.1, .ref (bd 23), .ref (bd 24), .long (Int64.ofInt bb.2.1), .long (Int64.ofInt bb.2.2.1)])), ((bd 18), .inr (2, [.int (bI o92), .ref (na 31), .ref (na 32), .ref (na 33)])), ((bd 19), .inl (ka 0, 3, .inl zs)), ((bd 20), .inl (ka 3, 5, .inr (.inr (.inr (.inr (nR na 34)))))), ((bd 21), .inl (ka 0, 4, .inl sa)), ((bd 22), .inl (ka 0, 4, .inl ss)), ((bd 23), .inl (ka 0, 4, .inl bb.2.2.2.1)), ((bd 24), .inl (ka 0, 4, .inl bb.2.2.2.2))] ++ nP na N) H locs := zB_pool hB rfl rfl rfl rfl
    have hWI := HPP
    refine lv_if_ne (tgt := 37) hx hb dX4_extend_33 (by decide) (fun h33 => ?_) (fun h33 => ?_)
    · skip
      have hwq : quB (prP P9 pr) (fq : Int) = true := bI_ne0 (fun e9 => h33 (hWI.trans e9))
      refine lv_iload_n hx hb dX4_extend_37 rfl (lv_at hl 0 rfl) ?_
      refine lv_if_gt (tgt := 46) hx hb dX4_extend_38 (by decide) (fun h38 => ?_) (fun h38 => ?_)
      · skip
        refine lv_iload_n hx hb dX4_extend_46 rfl (lv_at hl 3 rfl) ?_
        refine lv_istore (lv' := [(4, .int (nI fm)), (3, .int (4 : Int32)), (0, .ref (bd 4)), (1, .int (nI pr.length)), (2, .int (nI fm))]) hx hb dX4_extend_47 hl (by decide) rfl ?_
        clear hl
        clear ls
        intro ls hl
        have lp49 : ∀ (fl : Nat) (kk : Nat) (b1 : bT) (N1 : Nat → N5) (sa1 : Nat → Int32) (ss1 : Nat → Int32) (o1 : Bool), (hk : kk ≤ 12 - 3 - fm) → (hb1 : b1 = anF (fun c b => clR P9 li (mzN cn zn) (fun a9 => dB (lgX opb a9 = 1)) zn cn 3 (c / 10 + 1) (c :: pr) b) (fun a9 => dB (lgX opb a9 = 1)) zn cn fm kk bb) → (hB1 : bB b1) → (hN1 : ∀ k9, (k9 < 35 + pr.length ∨ 38 < k9) → N1 k9 = N k9) → (hS1 : ∀ j, j < pr.length → sa1 j = sa j ∧ ss1 j = ss j) → 13 - kk < fl → ∀ (H : Heap) (locs : List Loc), zB D A s ([((bd 4), .inr (4, [.ref (bd 18), .ref (bd 19), .int (nI cn), .int opb, .int (nI li), .int (nI (pr.length + 4)), .ref (bd 20), .ref (bd 21), .ref (bd 22), .int b1.1, .ref (bd 23), .ref (bd 24), .long (Int64.ofInt b1.2.1), .long (Int64.ofInt b1.2.2.1)])), ((bd 18), .inr (2, [.int (bI o1), .ref (na 31), .ref (na 32), .ref (na 33)])), ((bd 19), .inl (ka 0, 3, .inl zs)), ((bd 20), .inl (ka 3, 5, .inr (.inr (.inr (.inr (nR na 34)))))), ((bd 21), .inl (ka 0, 4, .inl sa1)), ((bd 22), .inl (ka 0, 4, .inl ss1)), ((bd 23), .inl (ka 0, 4, .inl b1.2.2.2.1)), ((bd 24), .inl (ka 0, 4, .inl b1.2.2.2.2))] ++ nP na N1) H locs → ∀ ls : Array Slot, lv_has ls 6 [(4, .int (nI (fm + kk))), (0, .ref (bd 4)), (1, .int (nI pr.length)), (3, .int (4 : Int32))] → W p l e (zRm 8 202 0 0) s m args below meth c H locs 0 0 Q (F0 m 49 ls []) := by
          intro fl
          induction fl with
          | zero => intro kk b1 N1 sa1 ss1 o1 hk hb1 hB1 hN1 hS1 hfl; exact absurd hfl (Nat.not_lt_zero _)
          | succ fl ih49 =>
            intro kk b1 N1 sa1 ss1 o1 hk hb1 hB1 hN1 hS1 hfl49 H locs hB ls hl
            refine lv_iload hx hb dX4_extend_49 (lv_at hl 0 rfl) ?_
            refine lv_bipush (v := 12) hx hb dX4_extend_51 (by decide) ?_
            refine lv_iload_n hx hb dX4_extend_53 rfl (lv_at hl 3 rfl) ?_
            refine lv_isub hx hb dX4_extend_54 ?_
            refine ztopi (y := (8 : Int32)) (by decide) ?_
            refine lv_icmp_gt (tgt := 119) hx hb dX4_extend_55 (by decide) (fun h55 => ?_) (fun h55 => ?_)
            · skip
              have hke : kk = 12 - 3 - fm := by have := mt (nI_leI (a := fm + kk) (b := 8) (by omega) (by decide)).mpr (Int32.not_le.mpr h55); omega
              have hcl : clR P9 li (mzN cn zn) (fun a9 => dB (lgX opb a9 = 1)) zn cn 4 fm pr bb = b1 := by rw [clR, if_pos (by rw [← hfq]; exact hwq), hb1, hke]
              exact zretv hF hB (N1, sa1, ss1, (o1)) (⟨hN1, hS1, by rw [hcl]; exact hB1⟩) (by rw [hcl]) dX4_extend_119 hQ
            · skip
              have hk2 : fm + kk ≤ 8 := (nI_leI (a := fm + kk) (b := 8) (by omega) (by decide)).mp (Int32.not_lt.mp h55)
              refine lv_iconst (v := 0) hx hb dX4_extend_58 (by decide) ?_
              refine lv_istore (lv' := [(5, .int (0 : Int32)), (4, .int (nI (fm + kk))), (0, .ref (bd 4)), (1, .int (nI pr.length)), (3, .int (4 : Int32))]) hx hb dX4_extend_59 hl (by decide) rfl ?_
              clear hl
              clear ls
              intro ls hl
              have lp61 : ∀ (fl : Nat) (ii : Nat) (b2 : bT) (N1 : Nat → N5) (sa1 : Nat → Int32) (ss1 : Nat → Int32) (o1 : Bool), (hi : ii ≤ cn) → (hb2 : b2 = szF (fun c b => clR P9 li (mzN cn zn) (fun a9 => dB (lgX opb a9 = 1)) zn cn 3 (c / 10 + 1) (c :: pr) b) (fm + kk) zn ii b1) → (hB2 : bB b2) → (hN1 : ∀ k9, (k9 < 35 + pr.length ∨ 38 < k9) → N1 k9 = N k9) → (hS1 : ∀ j, j < pr.length → sa1 j = sa j ∧ ss1 j = ss j) → (hop1 : ii ≠ 0 → lgX opb (fm + kk) = 1) → 4 - ii < fl → ∀ (H : Heap) (locs : List Loc), zB D A s ([((bd 4), .inr (4, [.ref (bd 18), .ref (bd 19), .int (nI cn), .int opb, .int (nI li), .int (nI (pr.length + 4)), .ref (bd 20), .ref (bd 21), .ref (bd 22), .int b2.1, .ref (bd 23), .ref (bd 24), .long (Int64.ofInt b2.2.1), .long (Int64.ofInt b2.2.2.1)])), ((bd 18), .inr (2, [.int (bI o1), .ref (na 31), .ref (na 32), .ref (na 33)])), ((bd 19), .inl (ka 0, 3, .inl zs)), ((bd 20), .inl (ka 3, 5, .inr (.inr (.inr (.inr (nR na 34)))))), ((bd 21), .inl (ka 0, 4, .inl sa1)), ((bd 22), .inl (ka 0, 4, .inl ss1)), ((bd 23), .inl (ka 0, 4, .inl b2.2.2.2.1)), ((bd 24), .inl (ka 0, 4, .inl b2.2.2.2.2))] ++ nP na N1) H locs → ∀ ls : Array Slot, lv_has ls 6 [(5, .int (nI ii)), (4, .int (nI (fm + kk))), (0, .ref (bd 4)), (1, .int (nI pr.length)), (3, .int (4 : Int32))] → W p l e (zRm 8 202 0 0) s m args below meth c H locs 0 0 Q (F0 m 61 ls []) := by
                intro fl
                induction fl with
                | zero => intro ii b2 N1 sa1 ss1 o1 hi hb2 hB2 hN1 hS1 hop1 hfl; exact absurd hfl (Nat.not_lt_zero _)
                | succ fl ih61 =>
                  intro ii b2 N1 sa1 ss1 o1 hi hb2 hB2 hN1 hS1 hop1 hfl61 H locs hB ls hl
                  refine lv_iload hx hb dX4_extend_61 (lv_at hl 0 rfl) ?_
                  refine lv_aload_n hx hb dX4_extend_63 rfl (lv_at hl 2 rfl) ?_
                  refine zget zf_X4_81 hF hB 0 rfl rfl dX4_extend_64 ?_
                  refine lv_icmp_ge (tgt := 113) hx hb dX4_extend_67 (by decide) (fun h67 => ?_) (fun h67 => ?_)
                  · skip
                    have hie : ii = cn := by have := (nI_leI (a := cn) (b := ii) (by omega) (by omega)).mp h67; omega
                    refine lv_iinc (v := nI ((fm + kk) + 1)) (lv' := [(4, .int (nI ((fm + kk) + 1))), (5, .int (nI ii)), (0, .ref (bd 4)), (1, .int (nI pr.length)), (3, .int (4 : Int32))]) hx hb dX4_extend_113 hl (k := 1) rfl (nI_1 _) (by decide) rfl ?_
                    clear hl
                    clear ls
                    intro ls hl
                    refine lv_goto (tgt := 49) hx hb dX4_extend_116 (by decide) ?_
                    exact ih49 (kk + 1) b2 N1 sa1 ss1 (o1) (by omega) (by rw [anF, ← hb1]; exact (an_all hb2 hie hop1).symm) (hB2) (hN1) (hS1) (by omega) _ _ (hB) _ (lv_sub hl [0, 2, 3, 4] rfl)
                  · skip
                    have hi2 : ii < cn := Nat.not_le.mp (fun e9 => h67 ((nI_leI (a := cn) (b := ii) (by omega) (by omega)).mpr e9))
                    refine lv_aload_n hx hb dX4_extend_70 rfl (lv_at hl 2 rfl) ?_
                    refine zget zf_X4_66 hF hB 0 rfl rfl dX4_extend_71 ?_
                    refine lv_iload hx hb dX4_extend_74 (lv_at hl 1 rfl) ?_
                    refine lv_ishr hx hb dX4_extend_76 ?_
                    refine lv_iconst (v := 1) hx hb dX4_extend_77 (by decide) ?_
                    refine lv_iand hx hb dX4_extend_78 ?_
                    refine ztopi (y := lgX opb (fm + kk)) (rfl) ?_
                    refine lv_if_eq (tgt := 113) hx hb dX4_extend_79 (by decide) (fun h79 => ?_) (fun h79 => ?_)
                    · skip
                      refine lv_iinc (v := nI ((fm + kk) + 1)) (lv' := [(4, .int (nI ((fm + kk) + 1))), (5, .int (nI ii)), (0, .ref (bd 4)), (1, .int (nI pr.length)), (3, .int (4 : Int32))]) hx hb dX4_extend_113 hl (k := 1) rfl (nI_1 _) (by decide) rfl ?_
                      clear hl
                      clear ls
                      intro ls hl
                      refine lv_goto (tgt := 49) hx hb dX4_extend_116 (by decide) ?_
                      exact ih49 (kk + 1) b2 N1 sa1 ss1 (o1) (by omega) (by rw [anF, ← hb1]; exact (an_none hb2 h79 hop1).symm) (hB2) (hN1) (hS1) (by omega) _ _ (hB) _ (lv_sub hl [0, 2, 3, 4] rfl)
                    · skip
                      have hop : lgX opb (fm + kk) = 1 := lgX_1 h79
                      refine lv_aload_n hx hb dX4_extend_82 rfl (lv_at hl 2 rfl) ?_
                      refine lv_iload_n hx hb dX4_extend_83 rfl (lv_at hl 3 rfl) ?_
                      refine lv_iload hx hb dX4_extend_84 (lv_at hl 1 rfl) ?_
                      refine lv_aload_n hx hb dX4_extend_86 rfl (lv_at hl 2 rfl) ?_
                      refine zget zf_X4_18 hF hB 0 rfl rfl dX4_extend_87 ?_
                      refine lv_iload hx hb dX4_extend_90 (lv_at hl 0 rfl) ?_
                      refine ziald hF hB 2 rfl ii (rfl) (by omega) (by decide) (v := (nI (zn ii))) ((hzs ii hi2).1) dX4_extend_92 ?_
                      refine zVv zm_X4_90 hF hB (c_X4_choose l D ka kb bd (nI cn) opb (nI li) (nI (pr.length + 4)) b2.1 (Int64.ofInt b2.2.1) (Int64.ofInt b2.2.2.1) sa1 ss1 na N1 pr.length (fm + kk) (zn ii) (prP P9 pr) (by omega) (by omega) ((hzs ii hi2).2) ((hN1 _ (by omega)).trans hQp)) ([0, 4, 5, 3] ++ npr 8) (zsel_pool rfl rfl) (va_nd_pool rfl rfl) ([(bd 4), (bd 21), (bd 22), (bd 20)] ++ nA na) (fun _ => zad_pool rfl) (zad_pool rfl) 0 4 rfl rfl rfl ⟨Nat.le_of_ble_eq_true rfl, Nat.le_of_ble_eq_true rfl⟩ rfl hl.1 (Nat.le_of_ble_eq_true rfl) ⟨Nat.le_refl _, Nat.le_refl _⟩ dX4_extend_93 ?_
                      clear hB
                      try clear locs
                      try clear H
                      intro u3 H locs hp hB
                      replace hB : zB D A s ([((bd 4), .inr (4, [.ref (bd 18), .ref (bd 19), .int (nI cn), .int opb, .int (nI li), .int (nI (pr.length + 4)), .ref (bd 20), .ref (bd 21), .ref (bd 22), .int b2.1, .ref (bd 23), .ref (bd 24), .long (Int64.ofInt b2.2.1), .long (Int64.ofInt b2.2.2.1)])), ((bd 18), .inr (2, [.int (bI o1), .ref (na 31), .ref (na 32), .ref (na 33)])), ((bd 19), .inl (ka 0, 3, .inl zs)), ((bd 20), .inl (ka 3, 5, .inr (.inr (.inr (.inr (nR na 34)))))), ((bd 21), .inl (ka 0, 4, .inl (upd sa1 pr.length (nI (fm + kk))))), ((bd 22), .inl (ka 0, 4, .inl (upd ss1 pr.length (nI (zn ii))))), ((bd 23), .inl (ka 0, 4, .inl b2.2.2.2.1)), ((bd 24), .inl (ka 0, 4, .inl b2.2.2.2.2))] ++ nP na (upN N1 (34 + (pr.length + 1)) (p20N (fun k9 => (prP P9 pr) k9 + -10 * ((zn ii) : Int) * wI (fm + kk) k9)))) H locs := zB_pool hB rfl rfl rfl rfl
                      have hz9 := (hzs ii hi2).2
                      have hcd : (10 * (fm + kk) + zn ii) / 10 = fm + kk ∧ (10 * (fm + kk) + zn ii) % 10 = zn ii := by omega
                      obtain ⟨N2, hN2⟩ : ∃ M, M = (upN N1 (34 + (pr.length + 1)) (p20N (fun k9 => (prP P9 pr) k9 + -10 * ((zn ii) : Int) * wI (fm + kk) k9))) := ⟨_, rfl⟩
                      rw [← hN2] at hB
                      have q2 : N2 (34 + ((10 * (fm + kk) + zn ii) :: pr).length) = p20N (prP P9 ((10 * (fm + kk) + zn ii) :: pr)) := by
                        rw [hN2]
                        show upN _ (34 + (pr.length + 1)) _ (34 + (pr.length + 1)) = _
                        rw [upN_eq]
                        congr 1
                        funext k9
                        show _ = prP P9 pr k9 + -10 * (((10 * (fm + kk) + zn ii) % 10 : Nat) : Int) * wI ((10 * (fm + kk) + zn ii) / 10) k9
                        rw [hcd.1, hcd.2]
                      have kN2 : ∀ k9, (k9 < 35 + pr.length ∨ 38 < k9) → N2 k9 = N k9 := fun k9 h9 => by rw [hN2, upN_ne (by omega)]; exact hN1 k9 h9
                      have hoS2 : okS (upd sa1 pr.length (nI (fm + kk))) (upd ss1 pr.length (nI (zn ii))) ((10 * (fm + kk) + zn ii) :: pr) := by
                        refine ⟨?_, ?_, by omega, okS_up hoS (fun j hj => ?_)⟩
                        · rw [hcd.1]; exact if_pos rfl
                        · rw [hcd.2]; exact if_pos rfl
                        · exact ⟨(if_neg (by omega)).trans (hS1 j hj).1, (if_neg (by omega)).trans (hS1 j hj).2⟩
                      refine lv_aload_n hx hb dX4_extend_96 rfl (lv_at hl 2 rfl) ?_
                      refine lv_iload_n hx hb dX4_extend_97 rfl (lv_at hl 3 rfl) ?_
                      refine lv_iconst (v := 1) hx hb dX4_extend_98 (by decide) ?_
                      refine lv_iadd hx hb dX4_extend_99 ?_
                      refine ztopi (y := nI (pr.length + 1)) (nI_add pr.length 1) ?_
                      refine lv_iload hx hb dX4_extend_100 (lv_at hl 1 rfl) ?_
                      refine lv_iconst (v := 1) hx hb dX4_extend_102 (by decide) ?_
                      refine lv_iadd hx hb dX4_extend_103 ?_
                      refine ztopi (y := nI ((fm + kk) + 1)) (nI_add (fm + kk) 1) ?_
                      refine zSv zm_X4_77 hF hB (c_X4_extend_3 l D ka kb bd o1 cn opb li zs zn ((10 * (fm + kk) + zn ii) :: pr) b2 (upd sa1 pr.length (nI (fm + kk))) (upd ss1 pr.length (nI (zn ii))) na N2 P9 ((fm + kk) + 1) (hcn) (hzs) (hli) (hPb) (hoS2) (by show pr.length + 1 + 3 ≤ 4; omega) (q2) (hB2) (by omega)) ([0, 1, 2, 3, 4, 5, 6, 7] ++ npr 8) (zsel_pool rfl rfl) (va_nd_pool rfl rfl) ([(bd 4), (bd 18), (bd 19), (bd 20), (bd 21), (bd 22), (bd 23), (bd 24)] ++ nA na) (fun _ => zad_pool rfl) (zad_pool rfl) rfl ⟨Nat.le_of_ble_eq_true rfl, Nat.le_of_ble_eq_true rfl⟩ rfl hl.1 (Nat.le_of_ble_eq_true rfl) ⟨Nat.le_refl _, Nat.le_refl _⟩ dX4_extend_104 ?_
                      clear hB
                      try clear locs
                      try clear H
                      intro u4 H locs hp hB
                      obtain ⟨N94, sa94, ss94, o94⟩ := u4
                      have hp4 : (∀ k9, (k9 < 35 + ((10 * (fm + kk) + zn ii) :: pr).length ∨ 38 < k9) → N94 k9 = N2 k9) ∧ (∀ j, j < ((10 * (fm + kk) + zn ii) :: pr).length → sa94 j = (upd sa1 pr.length (nI (fm + kk))) j ∧ ss94 j = (upd ss1 pr.length (nI (zn ii))) j) ∧ bB (clR P9 li (mzN cn zn) (fun a9 => dB (lgX opb a9 = 1)) zn cn 3 ((fm + kk) + 1) ((10 * (fm + kk) + zn ii) :: pr) b2) := hp
                      have HPP := hp4
                      replace hB : zB D A s ([((bd 4), .inr (4, [.ref (bd 18), .ref (bd 19), .int (nI cn), .int opb, .int (nI li), .int (nI (pr.length + 4)), .ref (bd 20), .ref (bd 21), .ref (bd 22), .int ((clR P9 li (mzN cn zn) (fun a9 => dB (lgX opb a9 = 1)) zn cn 3 ((fm + kk) + 1) ((10 * (fm + kk) + zn ii) :: pr) b2).1), .ref (bd 23), .ref (bd 24), .long (Int64.ofInt (clR P9 li (mzN cn zn) (fun a9 => dB (lgX opb a9 = 1)) zn cn 3 ((fm + kk) + 1) ((10 * (fm + kk) + zn ii) :: pr) b2).2.1), .long (Int64.ofInt (clR P9 li (mzN cn zn) (fun a9 => dB (lgX opb a9 = 1)) zn cn 3 ((fm + kk) + 1) ((10 * (fm + kk) + zn ii) :: pr) b2).2.2.1)])), ((bd 18), .inr (2, [.int (bI o94), .ref (na 31), .ref (na 32), .ref (na 33)])), ((bd 19), .inl (ka 0, 3, .inl zs)), ((bd 20), .inl (ka 3, 5, .inr (.inr (.inr (.inr (nR na 34)))))), ((bd 21), .inl (ka 0, 4, .inl sa94)), ((bd 22), .inl (ka 0, 4, .inl ss94)), ((bd 23), .inl (ka 0, 4, .inl ((clR P9 li (mzN cn zn) (fun a9 => dB (lgX opb a9 = 1)) zn cn 3 ((fm + kk) + 1) ((10 * (fm + kk) + zn ii) :: pr) b2).2.2.2.1))), ((bd 24), .inl (ka 0, 4, .inl ((clR P9 li (mzN cn zn) (fun a9 => dB (lgX opb a9 = 1)) zn cn 3 ((fm + kk) + 1) ((10 * (fm + kk) + zn ii) :: pr) b2).2.2.2.2)))] ++ nP na N94) H locs := zB_pool hB rfl rfl rfl rfl
                      have hEX := HPP
                      replace hB : zB D A s ([((bd 4), .inr (4, [.ref (bd 18), .ref (bd 19), .int (nI cn), .int opb, .int (nI li), .int (nI (pr.length + 4)), .ref (bd 20), .ref (bd 21), .ref (bd 22), .int ((clR P9 li (mzN cn zn) (fun a9 => dB (lgX opb a9 = 1)) zn cn 3 ((fm + kk) + 1) ((10 * (fm + kk) + zn ii) :: pr) b2).1), .ref (bd 23), .ref (bd 24), .long (Int64.ofInt (clR P9 li (mzN cn zn) (fun a9 => dB (lgX opb a9 = 1)) zn cn 3 ((fm + kk) + 1) ((10 * (fm + kk) + zn ii) :: pr) b2).2.1), .long (Int64.ofInt (clR P9 li (mzN cn zn) (fun a9 => dB (lgX opb a9 = 1)) zn cn 3 ((fm + kk) + 1) ((10 * (fm + kk) + zn ii) :: pr) b2).2.2.1)])), ((bd 18), .inr (2, [.int (bI o94), .ref (na 31), .ref (na 32), .ref (na 33)])), ((bd 19), .inl (ka 0, 3, .inl zs)), ((bd 20), .inl (ka 3, 5, .inr (.inr (.inr (.inr (nR na 34)))))), ((bd 21), .inl (ka 0, 4, .inl sa94)), ((bd 22), .inl (ka 0, 4, .inl ss94)), ((bd 23), .inl (ka 0, 4, .inl ((clR P9 li (mzN cn zn) (fun a9 => dB (lgX opb a9 = 1)) zn cn 3 ((fm + kk) + 1) ((10 * (fm + kk) + zn ii) :: pr) b2).2.2.2.1))), ((bd 24), .inl (ka 0, 4, .inl ((clR P9 li (mzN cn zn) (fun a9 => dB (lgX opb a9 = 1)) zn cn 3 ((fm + kk) + 1) ((10 * (fm + kk) + zn ii) :: pr) b2).2.2.2.2)))] ++ nP na N94) H locs := hB
                      refine lv_iinc (v := nI (ii + 1)) (lv' := [(5, .int (nI (ii + 1))), (4, .int (nI (fm + kk))), (0, .ref (bd 4)), (1, .int (nI pr.length)), (3, .int (4 : Int32))]) hx hb dX4_extend_107 hl (k := 0) rfl (nI_1 _) (by decide) rfl ?_
                      clear hl
                      clear ls
                      intro ls hl
                      refine lv_goto (tgt := 61) hx hb dX4_extend_110 (by decide) ?_
                      exact ih61 (ii + 1) (clR P9 li (mzN cn zn) (fun a9 => dB (lgX opb a9 = 1)) zn cn 3 (fm + kk + 1) ((10 * (fm + kk) + zn ii) :: pr) b2) N94 sa94 ss94 (o94) (by omega) (by rw [szF, ← hb2]; show _ = clR P9 li (mzN cn zn) (fun a9 => dB (lgX opb a9 = 1)) zn cn 3 ((10 * (fm + kk) + zn ii) / 10 + 1) ((10 * (fm + kk) + zn ii) :: pr) b2; rw [hcd.1]) (hEX.2.2) (fun k9 h9 => (hEX.1 k9 (by show k9 < 35 + (pr.length + 1) ∨ _; omega)).trans (kN2 k9 h9)) (fun j hj => ⟨((hEX.2.1 j (by show j < pr.length + 1; omega)).1.trans (if_neg (by omega))).trans (hS1 j hj).1, ((hEX.2.1 j (by show j < pr.length + 1; omega)).2.trans (if_neg (by omega))).trans (hS1 j hj).2⟩) (fun _ => hop) (by omega) _ _ (hB) _ (lv_sub hl [0, 1, 2, 3, 4] rfl)
              exact lp61 (4 - 0 + 1) 0 b1 N1 sa1 ss1 o1 (Nat.zero_le _) (rfl) (hB1) (hN1) (hS1) (fun e8 => absurd rfl e8) (by omega) _ _ (hB) _ (lv_sub hl [0, 1, 2, 3, 4] rfl)
        exact lp49 (13 - 0 + 1) 0 bb N sa ss (o92) (Nat.zero_le _) (rfl) (hB9) (fun _ _ => rfl) (fun _ _ => ⟨rfl, rfl⟩) (by omega) _ _ (hB) _ (lv_sub hl [0, 2, 3, 1] rfl)
      · skip
        exact absurd (by decide) h38
    · skip
      have hwq : quB (prP P9 pr) (fq : Int) = false := bI_eq0 (hWI.symm.trans h33)
      have hcl : clR P9 li (mzN cn zn) (fun a9 => dB (lgX opb a9 = 1)) zn cn 4 fm pr bb = bb := by rw [clR, if_neg (by rw [← hfq, hwq]; decide)]
      exact zretv hF hB (N, sa, ss, (o92)) (⟨fun _ _ => rfl, fun _ _ => ⟨rfl, rfl⟩, by rw [hcl]; exact hB9⟩) (by rw [hcl]) dX4_extend_36 hQ

