theorem if_cg {α : Type} {p q : Prop} [Decidable p] [Decidable q] (h : p ↔ q) {x y : α} : (if p then x else y) = (if q then x else y) := by
  by_cases e : p
  · rw [if_pos e, if_pos (h.mp e)]
  · rw [if_neg e, if_neg (fun e2 => e (h.mpr e2))]
theorem zf_eq {f : Nat → Nat → Int64} {s n a j : Nat} : zfR f s n a j = if a = s ∧ j < n then 0 else f a j := by
  unfold zfR zfill
  by_cases e : a = s
  · subst e
    rw [if_pos rfl]
    exact if_cg ⟨fun h => ⟨rfl, by omega⟩, fun h => by omega⟩
  · rw [if_neg e, if_neg (fun h => e h.1)]
theorem up_eq {f : Nat → Nat → Int64} {s i a j : Nat} {v : Int64} : upR f s i v a j = if a = s ∧ j = i then v else f a j := by
  unfold upR
  by_cases e : a = s
  · subst e
    rw [if_pos rfl]
    show (if j = i then v else f a j) = _
    exact if_cg ⟨fun h => ⟨rfl, h⟩, fun h => h.2⟩
  · rw [if_neg e, if_neg (fun h => e h.1)]
theorem mv_eq {f : Nat → Nat → Int64} {s i t j n a x : Nat} : mvR f s i t j n a x = if a = t ∧ j ≤ x ∧ x < j + n then f s (i + (x - j)) else f a x := by
  unfold mvR va_cpy
  by_cases e : a = t
  · subst e
    rw [if_pos rfl]
    exact if_cg ⟨fun h => ⟨rfl, h⟩, fun h => h.2⟩
  · rw [if_neg e, if_neg (fun h => e h.1)]
/-- the registers, one item after the other -/
def nN (N : Nat → N5) : Nat → Int64 := fun j => cmp5 (N (j / 5)) (j % 5)
def wrL (N : Nat → N5) (f : Nat → Nat → Int64) (s k : Nat) : Nat → Nat → Int64 := fun a j => if a = s ∧ j < k then nN N j else f a j
theorem wrL_0 {N : Nat → N5} {f : Nat → Nat → Int64} {s : Nat} : wrL N f s 0 = f := funext fun a => funext fun j => if_neg (fun h => absurd h.2 (Nat.not_lt_zero _))
theorem wrL_s {N : Nat → N5} {f : Nat → Nat → Int64} {s k : Nat} : upR (wrL N f s k) s k (cmp5 (N (k / 5)) (k % 5)) = wrL N f s (k + 1) := funext fun a => funext fun j => by
  rw [up_eq]
  unfold wrL nN
  by_cases e : a = s ∧ j = k
  · rw [if_pos e, if_pos ⟨e.1, by omega⟩, e.2]
  · rw [if_neg e]
    exact if_cg ⟨fun h => ⟨h.1, by omega⟩, fun h => ⟨h.1, by have := fun e2 => e ⟨h.1, e2⟩; omega⟩⟩
theorem wr_min {sz : Nat → Int32} {sg kw : Nat} (h : ¬ sz sg = -1) (h1 : inI (nI sg) 4 = true) (hr : aN (nI sg) = sg) (hw : wrA (nI sg) sz = nI kw) : (if 30 < sz sg then 30 else sz sg) = nI kw := by
  rw [wrA, if_neg (fun e8 => e8 h1), show (nI sg).toInt.toNat = sg from hr, if_neg h] at hw
  by_cases e : sz sg < 30
  · rw [if_pos e] at hw
    rw [if_neg (fun e2 => by rw [i32_lt_i] at e e2; omega)]
    exact hw
  · rw [if_neg e] at hw
    by_cases e2 : 30 < sz sg
    · rw [if_pos e2]; exact hw
    · rw [if_neg e2, ← hw, i32_eq]
      rw [i32_lt_i] at e e2
      omega
theorem dv_i {i : Nat} (h : i < 30) : nI i / 5 = nI (i / 5) := by
  have e : ∀ i, i < 30 → nI i / 5 = nI (i / 5) := by decide
  exact e i h
set_option maxHeartbeats 4000000 in
set_option maxRecDepth 100000 in
theorem c_X7_sheet (l : Launch) (D : va_G) (ka : Nat → ClassId) (kb : Nat → Nat) (bd : Nat → Nat) (na : Nat → Nat) (la9 : Int32) (sz : Nat → Int32) (rw9 : Nat → Nat → Int64) (ss : Int32) (nn : Int32) (hsz : okSz sz) : zI l D ka kb yX7_sheet cX7_sheet 3 .int 1 23 [.ref (bd 31), .int ss, .int nn] ([((bd 31), .inr (7, [.ref (bd 0), .ref (bd 1), .ref (na 6), .ref (na 7), .ref (bd 2), .ref (bd 3), .ref (bd 4), .ref (bd 5), .ref (bd 6)])), ((bd 6), .inr (5, [.ref (bd 25), .ref (bd 30), .int la9])), ((bd 25), .inl (ka 4, 4, .inr (.inr (.inr (.inr (nB bd)))))), ((bd 26), .inl (ka 1, 40, .inr (.inl (rw9 0)))), ((bd 27), .inl (ka 1, 40, .inr (.inl (rw9 1)))), ((bd 28), .inl (ka 1, 40, .inr (.inl (rw9 2)))), ((bd 29), .inl (ka 1, 40, .inr (.inl (rw9 3)))), ((bd 30), .inl (ka 0, 4, .inl sz))]) (fun (r : Int32) (rw2 : Nat → Nat → Int64) => r = shA ss nn ∧ eqI rw2 (shI ss nn rw9)) (fun (rw2 : Nat → Nat → Int64) => [((bd 31), .inr (7, [.ref (bd 0), .ref (bd 1), .ref (na 6), .ref (na 7), .ref (bd 2), .ref (bd 3), .ref (bd 4), .ref (bd 5), .ref (bd 6)])), ((bd 6), .inr (5, [.ref (bd 25), .ref (bd 30), .int (laF (shF ss nn) la9)])), ((bd 25), .inl (ka 4, 4, .inr (.inr (.inr (.inr (nB bd)))))), ((bd 26), .inl (ka 1, 40, .inr (.inl (rw2 0)))), ((bd 27), .inl (ka 1, 40, .inr (.inl (rw2 1)))), ((bd 28), .inl (ka 1, 40, .inr (.inl (rw2 2)))), ((bd 29), .inl (ka 1, 40, .inr (.inl (rw2 3)))), ((bd 30), .inl (ka 0, 4, .inl (shS ss nn sz)))]) := by
  refine zI.mk RX7 (by decide +kernel) rfl (Nat.le_of_ble_eq_true rfl) ?_
  intro p e s m below meth c A ls args Q hQ hx hb hF hB hl
  replace hl : lv_has ls 3 [(0, .ref (bd 31)), (1, .int ss), (2, .int nn)] := hl
  refine lv_iload_n hx hb dX7_sheet_0 rfl (lv_at hl 1 rfl) ?_
  refine lv_iconst (v := 4) hx hb dX7_sheet_1 (by decide) ?_
  refine zSi zm_X7_65 hF hB (c_X7_isOutside l D ka kb ss 4 (by decide)) [] rfl (by decide) [] (fun _ => rfl) rfl rfl ⟨Nat.le_of_ble_eq_true rfl, Nat.le_of_ble_eq_true rfl⟩ rfl hl.1 (Nat.le_of_ble_eq_true rfl) ⟨Nat.le_refl _, Nat.le_refl _⟩ dX7_sheet_2 ?_
  clear hB
  try clear locs
  try clear H
  intro r1 u1 H locs hp hB
  obtain rfl : r1 = bI (!(inI ss 4)) := hp
  replace hB : zB D A s ([((bd 31), .inr (7, [.ref (bd 0), .ref (bd 1), .ref (na 6), .ref (na 7), .ref (bd 2), .ref (bd 3), .ref (bd 4), .ref (bd 5), .ref (bd 6)])), ((bd 6), .inr (5, [.ref (bd 25), .ref (bd 30), .int la9])), ((bd 25), .inl (ka 4, 4, .inr (.inr (.inr (.inr (nB bd)))))), ((bd 26), .inl (ka 1, 40, .inr (.inl (rw9 0)))), ((bd 27), .inl (ka 1, 40, .inr (.inl (rw9 1)))), ((bd 28), .inl (ka 1, 40, .inr (.inl (rw9 2)))), ((bd 29), .inl (ka 1, 40, .inr (.inl (rw9 3)))), ((bd 30), .inl (ka 0, 4, .inl sz))]) H locs := hB
  refine lv_if_ne (tgt := 14) hx hb dX7_sheet_5 (by decide) (fun h5 => ?_) (fun h5 => ?_)
  · skip
    replace h5 := (b9_t h5)
    refine lv_bipush (v := -2) hx hb dX7_sheet_14 (by decide) ?_
    have hK : ¬ (inI ss 4 = true ∧ nn ≤ 40) := fun e8 => absurd (h5.symm.trans e8.1) (by decide)
    exact zreti hF hB rw9 (⟨by rw [shA, if_pos hK], fun a9 j9 _ _ => (if_neg (fun e8 => hK ⟨e8.1.1, e8.1.2.1⟩)).symm⟩) (by rw [shF, shS, if_pos hK, if_neg (fun e8 => hK ⟨e8.1, e8.2.1⟩)] <;> rfl) (rfl) dX7_sheet_16 hQ
  · skip
    replace h5 := (b9_f h5)
    obtain ⟨sg, hsg2, hsg3⟩ := inI_of h5 (by decide)
    subst hsg3
    have rsg : aN (nI sg) = sg := aNn hsg2 (by decide)
    have hsg1 : inI (nI sg) 4 = true := h5
    refine lv_iload_n hx hb dX7_sheet_8 rfl (lv_at hl 2 rfl) ?_
    refine lv_bipush (v := 40) hx hb dX7_sheet_9 (by decide) ?_
    refine lv_icmp_le (tgt := 17) hx hb dX7_sheet_11 (by decide) (fun h11 => ?_) (fun h11 => ?_)
    · skip
      refine lv_iload_n hx hb dX7_sheet_17 rfl (lv_at hl 2 rfl) ?_
      refine lv_if_ge (tgt := 30) hx hb dX7_sheet_18 (by decide) (fun h18 => ?_) (fun h18 => ?_)
      · skip
        have e40 : (40 : Int32).toInt = 40 := rfl
        have e00 : (0 : Int32).toInt = 0 := rfl
        have hn0 := (i32_le_i _ _).mp h18
        have hn4 := (i32_le_i _ _).mp h11
        rw [e40] at hn4
        rw [e00] at hn0
        obtain ⟨kn, hkn1, hkn2, hkn3, hkn4⟩ := i32_nat (x := nn) (n := 41) hn0 (by omega)
        subst hkn2
        have rkn : aN (nI kn) = kn := aNn hkn1 (by decide)
        have hnn0 : ¬ nI kn < 0 := Int32.not_lt.mpr h18
        refine lv_aload_n hx hb dX7_sheet_30 rfl (lv_at hl 0 rfl) ?_
        refine zget zf_X7_61 hF hB 0 rfl rfl dX7_sheet_31 ?_
        refine lv_iload_n hx hb dX7_sheet_34 rfl (lv_at hl 1 rfl) ?_
        refine lv_iload_n hx hb dX7_sheet_35 rfl (lv_at hl 2 rfl) ?_
        refine zVv zm_X7_249 hF hB (c_X5_renew l D ka kb bd la9 rw9 sz sg kn (hsg2) (by omega)) [1, 2, 3, 4, 5, 6, 7] rfl (by decide) [(bd 6), (bd 25), (bd 26), (bd 27), (bd 28), (bd 29), (bd 30)] (fun _ => rfl) rfl 1 5 rfl rfl rfl ⟨Nat.le_of_ble_eq_true rfl, Nat.le_of_ble_eq_true rfl⟩ rfl hl.1 (Nat.le_of_ble_eq_true rfl) ⟨Nat.le_refl _, Nat.le_refl _⟩ dX7_sheet_36 ?_
        clear hB
        try clear locs
        try clear H
        intro u2 H locs hp hB
        replace hB : zB D A s ([((bd 31), .inr (7, [.ref (bd 0), .ref (bd 1), .ref (na 6), .ref (na 7), .ref (bd 2), .ref (bd 3), .ref (bd 4), .ref (bd 5), .ref (bd 6)])), ((bd 6), .inr (5, [.ref (bd 25), .ref (bd 30), .int la9])), ((bd 25), .inl (ka 4, 4, .inr (.inr (.inr (.inr (nB bd)))))), ((bd 26), .inl (ka 1, 40, .inr (.inl ((zfR rw9 sg kn) 0)))), ((bd 27), .inl (ka 1, 40, .inr (.inl ((zfR rw9 sg kn) 1)))), ((bd 28), .inl (ka 1, 40, .inr (.inl ((zfR rw9 sg kn) 2)))), ((bd 29), .inl (ka 1, 40, .inr (.inl ((zfR rw9 sg kn) 3)))), ((bd 30), .inl (ka 0, 4, .inl (upd sz sg (nI kn))))]) H locs := hB
        refine lv_iload_n hx hb dX7_sheet_39 rfl (lv_at hl 2 rfl) ?_
        have hK : ¬ ¬ (inI (nI sg) 4 = true ∧ nI kn ≤ 40) := fun e8 => e8 ⟨hsg1, h11⟩
        have hK3 : inI (nI sg) 4 = true ∧ nI kn ≤ 40 ∧ ¬ nI kn < 0 := ⟨hsg1, h11, hnn0⟩
        exact zreti hF hB (zfR rw9 sg kn) (⟨by rw [shA, if_neg hK, if_neg hnn0], fun a9 j9 _ h40 => by rw [zf_eq]; unfold shI; rw [(show (nI sg).toInt.toNat = sg from rsg), show (nI kn).toInt.toNat = kn from rkn]; exact if_cg ⟨fun e8 => ⟨hK3, e8⟩, fun e8 => e8.2⟩⟩) (by rw [shF, shS, if_neg hK, if_neg hnn0, if_pos hK3, (show (nI sg).toInt.toNat = sg from rsg)] <;> rfl) (rfl) dX7_sheet_40 hQ
      · skip
        refine lv_aload_n hx hb dX7_sheet_21 rfl (lv_at hl 0 rfl) ?_
        refine zget zf_X7_61 hF hB 0 rfl rfl dX7_sheet_22 ?_
        refine lv_iconst (v := 3) hx hb dX7_sheet_25 (by decide) ?_
        refine zVi zm_X7_80 hF hB (c_X5_find l D ka kb bd la9 (3 : Int32) ) [1] rfl (by decide) [(bd 6)] (fun _ => rfl) rfl 1 5 rfl rfl rfl ⟨Nat.le_of_ble_eq_true rfl, Nat.le_of_ble_eq_true rfl⟩ rfl hl.1 (Nat.le_of_ble_eq_true rfl) ⟨Nat.le_refl _, Nat.le_refl _⟩ dX7_sheet_26 ?_
        clear hB
        try clear locs
        try clear H
        intro r3 u3 H locs hp hB
        obtain rfl : r3 = (-10 : Int32) - (3 : Int32) := hp
        replace hB : zB D A s ([((bd 31), .inr (7, [.ref (bd 0), .ref (bd 1), .ref (na 6), .ref (na 7), .ref (bd 2), .ref (bd 3), .ref (bd 4), .ref (bd 5), .ref (bd 6)])), ((bd 6), .inr (5, [.ref (bd 25), .ref (bd 30), .int (3 : Int32)])), ((bd 25), .inl (ka 4, 4, .inr (.inr (.inr (.inr (nB bd)))))), ((bd 26), .inl (ka 1, 40, .inr (.inl (rw9 0)))), ((bd 27), .inl (ka 1, 40, .inr (.inl (rw9 1)))), ((bd 28), .inl (ka 1, 40, .inr (.inl (rw9 2)))), ((bd 29), .inl (ka 1, 40, .inr (.inl (rw9 3)))), ((bd 30), .inl (ka 0, 4, .inl sz))]) H locs := hB
        have hneg : nn < 0 := Int32.not_le.mp h18
        have hK : ¬ ¬ (inI (nI sg) 4 = true ∧ nn ≤ 40) := fun e8 => e8 ⟨hsg1, h11⟩
        exact zreti hF hB rw9 (⟨by rw [shA, if_neg hK, if_pos hneg] <;> rfl, fun a9 j9 _ _ => (if_neg (fun e8 => e8.1.2.2 hneg)).symm⟩) (by rw [shF, shS, if_neg hK, if_pos hneg, if_neg (fun e8 => e8.2.2 hneg)] <;> rfl) (rfl) dX7_sheet_29 hQ
    · skip
      refine lv_bipush (v := -2) hx hb dX7_sheet_14 (by decide) ?_
      have hK : ¬ (inI (nI sg) 4 = true ∧ nn ≤ 40) := fun e8 => h11 e8.2
      exact zreti hF hB rw9 (⟨by rw [shA, if_pos hK], fun a9 j9 _ _ => (if_neg (fun e8 => hK ⟨e8.1.1, e8.1.2.1⟩)).symm⟩) (by rw [shF, shS, if_pos hK, if_neg (fun e8 => hK ⟨e8.1, e8.2.1⟩)] <;> rfl) (rfl) dX7_sheet_16 hQ

set_option maxHeartbeats 4000000 in
set_option maxRecDepth 100000 in
theorem c_X7_lose (l : Launch) (D : va_G) (ka : Nat → ClassId) (kb : Nat → Nat) (bd : Nat → Nat) (na : Nat → Nat) (la9 : Int32) (sz : Nat → Int32) (rw9 : Nat → Nat → Int64) (ss : Int32) (hsz : okSz sz) : zI l D ka kb yX7_lose cX7_lose 3 .int 1 21 [.ref (bd 31), .int ss] ([((bd 31), .inr (7, [.ref (bd 0), .ref (bd 1), .ref (na 6), .ref (na 7), .ref (bd 2), .ref (bd 3), .ref (bd 4), .ref (bd 5), .ref (bd 6)])), ((bd 6), .inr (5, [.ref (bd 25), .ref (bd 30), .int la9])), ((bd 25), .inl (ka 4, 4, .inr (.inr (.inr (.inr (nB bd)))))), ((bd 26), .inl (ka 1, 40, .inr (.inl (rw9 0)))), ((bd 27), .inl (ka 1, 40, .inr (.inl (rw9 1)))), ((bd 28), .inl (ka 1, 40, .inr (.inl (rw9 2)))), ((bd 29), .inl (ka 1, 40, .inr (.inl (rw9 3)))), ((bd 30), .inl (ka 0, 4, .inl sz))]) (fun (r : Int32) (_ : Unit) => r = loA ss sz) (fun (_ : Unit) => [((bd 31), .inr (7, [.ref (bd 0), .ref (bd 1), .ref (na 6), .ref (na 7), .ref (bd 2), .ref (bd 3), .ref (bd 4), .ref (bd 5), .ref (bd 6)])), ((bd 6), .inr (5, [.ref (bd 25), .ref (bd 30), .int (laF (loF ss sz) la9)])), ((bd 25), .inl (ka 4, 4, .inr (.inr (.inr (.inr (nB bd)))))), ((bd 26), .inl (ka 1, 40, .inr (.inl (rw9 0)))), ((bd 27), .inl (ka 1, 40, .inr (.inl (rw9 1)))), ((bd 28), .inl (ka 1, 40, .inr (.inl (rw9 2)))), ((bd 29), .inl (ka 1, 40, .inr (.inl (rw9 3)))), ((bd 30), .inl (ka 0, 4, .inl (loS ss sz)))]) := by
  refine zI.mk RX7 (by decide +kernel) rfl (Nat.le_of_ble_eq_true rfl) ?_
  intro p e s m below meth c A ls args Q hQ hx hb hF hB hl
  replace hl : lv_has ls 3 [(0, .ref (bd 31)), (1, .int ss)] := hl
  refine lv_iload_n hx hb dX7_lose_0 rfl (lv_at hl 1 rfl) ?_
  refine lv_iconst (v := 4) hx hb dX7_lose_1 (by decide) ?_
  refine zSi zm_X7_65 hF hB (c_X7_isOutside l D ka kb ss 4 (by decide)) [] rfl (by decide) [] (fun _ => rfl) rfl rfl ⟨Nat.le_of_ble_eq_true rfl, Nat.le_of_ble_eq_true rfl⟩ rfl hl.1 (Nat.le_of_ble_eq_true rfl) ⟨Nat.le_refl _, Nat.le_refl _⟩ dX7_lose_2 ?_
  clear hB
  try clear locs
  try clear H
  intro r1 u1 H locs hp hB
  obtain rfl : r1 = bI (!(inI ss 4)) := hp
  replace hB : zB D A s ([((bd 31), .inr (7, [.ref (bd 0), .ref (bd 1), .ref (na 6), .ref (na 7), .ref (bd 2), .ref (bd 3), .ref (bd 4), .ref (bd 5), .ref (bd 6)])), ((bd 6), .inr (5, [.ref (bd 25), .ref (bd 30), .int la9])), ((bd 25), .inl (ka 4, 4, .inr (.inr (.inr (.inr (nB bd)))))), ((bd 26), .inl (ka 1, 40, .inr (.inl (rw9 0)))), ((bd 27), .inl (ka 1, 40, .inr (.inl (rw9 1)))), ((bd 28), .inl (ka 1, 40, .inr (.inl (rw9 2)))), ((bd 29), .inl (ka 1, 40, .inr (.inl (rw9 3)))), ((bd 30), .inl (ka 0, 4, .inl sz))]) H locs := hB
  refine lv_if_eq (tgt := 11) hx hb dX7_lose_5 (by decide) (fun h5 => ?_) (fun h5 => ?_)
  · skip
    replace h5 := (b9_f h5)
    obtain ⟨sg, hsg2, hsg3⟩ := inI_of h5 (by decide)
    subst hsg3
    have rsg : aN (nI sg) = sg := aNn hsg2 (by decide)
    have hsg1 : inI (nI sg) 4 = true := h5
    refine lv_aload_n hx hb dX7_lose_11 rfl (lv_at hl 0 rfl) ?_
    refine zget zf_X7_61 hF hB 0 rfl rfl dX7_lose_12 ?_
    refine lv_iload_n hx hb dX7_lose_15 rfl (lv_at hl 1 rfl) ?_
    refine zVi zm_X7_76 hF hB (c_X5_isLost l D ka kb bd la9 sz sg (hsg2)) [1, 7] rfl (by decide) [(bd 6), (bd 30)] (fun _ => rfl) rfl 1 5 rfl rfl rfl ⟨Nat.le_of_ble_eq_true rfl, Nat.le_of_ble_eq_true rfl⟩ rfl hl.1 (Nat.le_of_ble_eq_true rfl) ⟨Nat.le_refl _, Nat.le_refl _⟩ dX7_lose_16 ?_
    clear hB
    try clear locs
    try clear H
    intro r2 u2 H locs hp hB
    obtain rfl : r2 = bI (dB (sz sg = -1)) := hp
    replace hB : zB D A s ([((bd 31), .inr (7, [.ref (bd 0), .ref (bd 1), .ref (na 6), .ref (na 7), .ref (bd 2), .ref (bd 3), .ref (bd 4), .ref (bd 5), .ref (bd 6)])), ((bd 6), .inr (5, [.ref (bd 25), .ref (bd 30), .int la9])), ((bd 25), .inl (ka 4, 4, .inr (.inr (.inr (.inr (nB bd)))))), ((bd 26), .inl (ka 1, 40, .inr (.inl (rw9 0)))), ((bd 27), .inl (ka 1, 40, .inr (.inl (rw9 1)))), ((bd 28), .inl (ka 1, 40, .inr (.inl (rw9 2)))), ((bd 29), .inl (ka 1, 40, .inr (.inl (rw9 3)))), ((bd 30), .inl (ka 0, 4, .inl sz))]) H locs := hB
    refine lv_if_eq (tgt := 31) hx hb dX7_lose_19 (by decide) (fun h19 => ?_) (fun h19 => ?_)
    · skip
      have hls : ¬ sz sg = -1 := dB_f.mp (bI_eq0 h19)
      refine lv_aload_n hx hb dX7_lose_31 rfl (lv_at hl 0 rfl) ?_
      refine zget zf_X7_61 hF hB 0 rfl rfl dX7_lose_32 ?_
      refine lv_iload_n hx hb dX7_lose_35 rfl (lv_at hl 1 rfl) ?_
      refine zVi zm_X7_252 hF hB (c_X5_items l D ka kb bd la9 sz sg (hsg2)) [1, 7] rfl (by decide) [(bd 6), (bd 30)] (fun _ => rfl) rfl 1 5 rfl rfl rfl ⟨Nat.le_of_ble_eq_true rfl, Nat.le_of_ble_eq_true rfl⟩ rfl hl.1 (Nat.le_of_ble_eq_true rfl) ⟨Nat.le_refl _, Nat.le_refl _⟩ dX7_lose_36 ?_
      clear hB
      try clear locs
      try clear H
      intro r3 u3 H locs hp hB
      obtain rfl : r3 = sz sg := hp
      replace hB : zB D A s ([((bd 31), .inr (7, [.ref (bd 0), .ref (bd 1), .ref (na 6), .ref (na 7), .ref (bd 2), .ref (bd 3), .ref (bd 4), .ref (bd 5), .ref (bd 6)])), ((bd 6), .inr (5, [.ref (bd 25), .ref (bd 30), .int la9])), ((bd 25), .inl (ka 4, 4, .inr (.inr (.inr (.inr (nB bd)))))), ((bd 26), .inl (ka 1, 40, .inr (.inl (rw9 0)))), ((bd 27), .inl (ka 1, 40, .inr (.inl (rw9 1)))), ((bd 28), .inl (ka 1, 40, .inr (.inl (rw9 2)))), ((bd 29), .inl (ka 1, 40, .inr (.inl (rw9 3)))), ((bd 30), .inl (ka 0, 4, .inl sz))]) H locs := hB
      refine lv_istore_n (lv' := [(2, .int (sz sg)), (0, .ref (bd 31)), (1, .int (nI sg))]) hx hb dX7_lose_39 rfl hl (by decide) rfl ?_
      clear hl
      clear ls
      intro ls hl
      refine lv_aload_n hx hb dX7_lose_40 rfl (lv_at hl 1 rfl) ?_
      refine zget zf_X7_61 hF hB 0 rfl rfl dX7_lose_41 ?_
      refine lv_iload_n hx hb dX7_lose_44 rfl (lv_at hl 2 rfl) ?_
      refine zVv zm_X7_255 hF hB (c_X5_drop l D ka kb bd la9 sz sg (hsg2)) [1, 7] rfl (by decide) [(bd 6), (bd 30)] (fun _ => rfl) rfl 1 5 rfl rfl rfl ⟨Nat.le_of_ble_eq_true rfl, Nat.le_of_ble_eq_true rfl⟩ rfl hl.1 (Nat.le_of_ble_eq_true rfl) ⟨Nat.le_refl _, Nat.le_refl _⟩ dX7_lose_45 ?_
      clear hB
      try clear locs
      try clear H
      intro u4 H locs hp hB
      replace hB : zB D A s ([((bd 31), .inr (7, [.ref (bd 0), .ref (bd 1), .ref (na 6), .ref (na 7), .ref (bd 2), .ref (bd 3), .ref (bd 4), .ref (bd 5), .ref (bd 6)])), ((bd 6), .inr (5, [.ref (bd 25), .ref (bd 30), .int la9])), ((bd 25), .inl (ka 4, 4, .inr (.inr (.inr (.inr (nB bd)))))), ((bd 26), .inl (ka 1, 40, .inr (.inl (rw9 0)))), ((bd 27), .inl (ka 1, 40, .inr (.inl (rw9 1)))), ((bd 28), .inl (ka 1, 40, .inr (.inl (rw9 2)))), ((bd 29), .inl (ka 1, 40, .inr (.inl (rw9 3)))), ((bd 30), .inl (ka 0, 4, .inl (upd sz sg (-1))))]) H locs := hB
      refine lv_iload_n hx hb dX7_lose_48 rfl (lv_at hl 0 rfl) ?_
      exact zreti hF hB () (by rw [loA, if_neg (fun e8 => e8 hsg1), (show (nI sg).toInt.toNat = sg from rsg), if_neg hls]) (by rw [loF, loS, if_neg (fun e8 => e8 hsg1), (show (nI sg).toInt.toNat = sg from rsg), if_neg hls, if_pos ⟨hsg1, hls⟩] <;> rfl) (rfl) dX7_lose_49 hQ
    · skip
      have hls : sz sg = -1 := dB_t.mp (bI_ne0 h19)
      refine lv_aload_n hx hb dX7_lose_22 rfl (lv_at hl 0 rfl) ?_
      refine zget zf_X7_61 hF hB 0 rfl rfl dX7_lose_23 ?_
      refine lv_iconst (v := 1) hx hb dX7_lose_26 (by decide) ?_
      refine zVi zm_X7_80 hF hB (c_X5_find l D ka kb bd la9 (1 : Int32) ) [1] rfl (by decide) [(bd 6)] (fun _ => rfl) rfl 1 5 rfl rfl rfl ⟨Nat.le_of_ble_eq_true rfl, Nat.le_of_ble_eq_true rfl⟩ rfl hl.1 (Nat.le_of_ble_eq_true rfl) ⟨Nat.le_refl _, Nat.le_refl _⟩ dX7_lose_27 ?_
      clear hB
      try clear locs
      try clear H
      intro r5 u5 H locs hp hB
      obtain rfl : r5 = (-10 : Int32) - (1 : Int32) := hp
      replace hB : zB D A s ([((bd 31), .inr (7, [.ref (bd 0), .ref (bd 1), .ref (na 6), .ref (na 7), .ref (bd 2), .ref (bd 3), .ref (bd 4), .ref (bd 5), .ref (bd 6)])), ((bd 6), .inr (5, [.ref (bd 25), .ref (bd 30), .int (1 : Int32)])), ((bd 25), .inl (ka 4, 4, .inr (.inr (.inr (.inr (nB bd)))))), ((bd 26), .inl (ka 1, 40, .inr (.inl (rw9 0)))), ((bd 27), .inl (ka 1, 40, .inr (.inl (rw9 1)))), ((bd 28), .inl (ka 1, 40, .inr (.inl (rw9 2)))), ((bd 29), .inl (ka 1, 40, .inr (.inl (rw9 3)))), ((bd 30), .inl (ka 0, 4, .inl sz))]) H locs := hB
      exact zreti hF hB () (by rw [loA, if_neg (fun e8 => e8 hsg1), (show (nI sg).toInt.toNat = sg from rsg), if_pos hls] <;> rfl) (by rw [loF, loS, if_neg (fun e8 => e8 hsg1), (show (nI sg).toInt.toNat = sg from rsg), if_pos hls, if_neg (fun e8 => e8.2 hls)] <;> rfl) (rfl) dX7_lose_30 hQ
  · skip
    replace h5 := (b9_t h5)
    refine lv_bipush (v := -2) hx hb dX7_lose_8 (by decide) ?_
    have hK : ¬ inI ss 4 = true := by rw [h5]; decide
    exact zreti hF hB () (by rw [loA, if_pos hK]) (by rw [loF, loS, if_pos hK, if_neg (fun e8 => hK e8.1)] <;> rfl) (rfl) dX7_lose_10 hQ

set_option maxHeartbeats 4000000 in
set_option maxRecDepth 100000 in
theorem c_X7_lay (l : Launch) (D : va_G) (ka : Nat → ClassId) (kb : Nat → Nat) (bd : Nat → Nat) (na : Nat → Nat) (la9 : Int32) (sz : Nat → Int32) (rw9 : Nat → Nat → Int64) (ss : Int32) (ii : Int32) (vv : Int32) (oo : Int32) (hsz : okSz sz) : zI l D ka kb yX7_lay cX7_lay 5 .int 1 24 [.ref (bd 31), .int ss, .int ii, .int vv, .int oo] ([((bd 31), .inr (7, [.ref (bd 0), .ref (bd 1), .ref (na 6), .ref (na 7), .ref (bd 2), .ref (bd 3), .ref (bd 4), .ref (bd 5), .ref (bd 6)])), ((bd 6), .inr (5, [.ref (bd 25), .ref (bd 30), .int la9])), ((bd 25), .inl (ka 4, 4, .inr (.inr (.inr (.inr (nB bd)))))), ((bd 26), .inl (ka 1, 40, .inr (.inl (rw9 0)))), ((bd 27), .inl (ka 1, 40, .inr (.inl (rw9 1)))), ((bd 28), .inl (ka 1, 40, .inr (.inl (rw9 2)))), ((bd 29), .inl (ka 1, 40, .inr (.inl (rw9 3)))), ((bd 30), .inl (ka 0, 4, .inl sz))]) (fun (r : Int32) (rw2 : Nat → Nat → Int64) => r = lyA ss ii oo sz ∧ eqI rw2 (lyI ss ii vv oo sz rw9)) (fun (rw2 : Nat → Nat → Int64) => [((bd 31), .inr (7, [.ref (bd 0), .ref (bd 1), .ref (na 6), .ref (na 7), .ref (bd 2), .ref (bd 3), .ref (bd 4), .ref (bd 5), .ref (bd 6)])), ((bd 6), .inr (5, [.ref (bd 25), .ref (bd 30), .int (laF (lyF ss ii oo sz) la9)])), ((bd 25), .inl (ka 4, 4, .inr (.inr (.inr (.inr (nB bd)))))), ((bd 26), .inl (ka 1, 40, .inr (.inl (rw2 0)))), ((bd 27), .inl (ka 1, 40, .inr (.inl (rw2 1)))), ((bd 28), .inl (ka 1, 40, .inr (.inl (rw2 2)))), ((bd 29), .inl (ka 1, 40, .inr (.inl (rw2 3)))), ((bd 30), .inl (ka 0, 4, .inl sz))]) := by
  refine zI.mk RX7 (by decide +kernel) rfl (Nat.le_of_ble_eq_true rfl) ?_
  intro p e s m below meth c A ls args Q hQ hx hb hF hB hl
  replace hl : lv_has ls 5 [(0, .ref (bd 31)), (1, .int ss), (2, .int ii), (3, .int vv), (4, .int oo)] := hl
  refine lv_iload_n hx hb dX7_lay_0 rfl (lv_at hl 1 rfl) ?_
  refine lv_iconst (v := 4) hx hb dX7_lay_1 (by decide) ?_
  refine zSi zm_X7_65 hF hB (c_X7_isOutside l D ka kb ss 4 (by decide)) [] rfl (by decide) [] (fun _ => rfl) rfl rfl ⟨Nat.le_of_ble_eq_true rfl, Nat.le_of_ble_eq_true rfl⟩ rfl hl.1 (Nat.le_of_ble_eq_true rfl) ⟨Nat.le_refl _, Nat.le_refl _⟩ dX7_lay_2 ?_
  clear hB
  try clear locs
  try clear H
  intro r1 u1 H locs hp hB
  obtain rfl : r1 = bI (!(inI ss 4)) := hp
  replace hB : zB D A s ([((bd 31), .inr (7, [.ref (bd 0), .ref (bd 1), .ref (na 6), .ref (na 7), .ref (bd 2), .ref (bd 3), .ref (bd 4), .ref (bd 5), .ref (bd 6)])), ((bd 6), .inr (5, [.ref (bd 25), .ref (bd 30), .int la9])), ((bd 25), .inl (ka 4, 4, .inr (.inr (.inr (.inr (nB bd)))))), ((bd 26), .inl (ka 1, 40, .inr (.inl (rw9 0)))), ((bd 27), .inl (ka 1, 40, .inr (.inl (rw9 1)))), ((bd 28), .inl (ka 1, 40, .inr (.inl (rw9 2)))), ((bd 29), .inl (ka 1, 40, .inr (.inl (rw9 3)))), ((bd 30), .inl (ka 0, 4, .inl sz))]) H locs := hB
  refine lv_if_ne (tgt := 18) hx hb dX7_lay_5 (by decide) (fun h5 => ?_) (fun h5 => ?_)
  · skip
    replace h5 := (b9_t h5)
    refine lv_bipush (v := -2) hx hb dX7_lay_18 (by decide) ?_
    have hK : ¬ (inI ss 4 = true ∧ inI oo 63 = true) := fun e8 => absurd (h5.symm.trans e8.1) (by decide)
    exact zreti hF hB rw9 (⟨by rw [lyA, if_pos hK], fun a9 j9 _ _ => (if_neg (fun e8 => hK ⟨e8.1.1, e8.1.2.1⟩)).symm⟩) (by rw [lyF, if_pos hK] <;> rfl) (rfl) dX7_lay_20 hQ
  · skip
    replace h5 := (b9_f h5)
    obtain ⟨sg, hsg2, hsg3⟩ := inI_of h5 (by decide)
    subst hsg3
    have rsg : aN (nI sg) = sg := aNn hsg2 (by decide)
    have hsg1 : inI (nI sg) 4 = true := h5
    refine lv_iload hx hb dX7_lay_8 (lv_at hl 4 rfl) ?_
    refine lv_bipush (v := 63) hx hb dX7_lay_10 (by decide) ?_
    refine zSi zm_X7_65 hF hB (c_X7_isOutside l D ka kb oo 63 (by decide)) [] rfl (by decide) [] (fun _ => rfl) rfl rfl ⟨Nat.le_of_ble_eq_true rfl, Nat.le_of_ble_eq_true rfl⟩ rfl hl.1 (Nat.le_of_ble_eq_true rfl) ⟨Nat.le_refl _, Nat.le_refl _⟩ dX7_lay_12 ?_
    clear hB
    try clear locs
    try clear H
    intro r2 u2 H locs hp hB
    obtain rfl : r2 = bI (!(inI oo 63)) := hp
    replace hB : zB D A s ([((bd 31), .inr (7, [.ref (bd 0), .ref (bd 1), .ref (na 6), .ref (na 7), .ref (bd 2), .ref (bd 3), .ref (bd 4), .ref (bd 5), .ref (bd 6)])), ((bd 6), .inr (5, [.ref (bd 25), .ref (bd 30), .int la9])), ((bd 25), .inl (ka 4, 4, .inr (.inr (.inr (.inr (nB bd)))))), ((bd 26), .inl (ka 1, 40, .inr (.inl (rw9 0)))), ((bd 27), .inl (ka 1, 40, .inr (.inl (rw9 1)))), ((bd 28), .inl (ka 1, 40, .inr (.inl (rw9 2)))), ((bd 29), .inl (ka 1, 40, .inr (.inl (rw9 3)))), ((bd 30), .inl (ka 0, 4, .inl sz))]) H locs := hB
    refine lv_if_eq (tgt := 21) hx hb dX7_lay_15 (by decide) (fun h15 => ?_) (fun h15 => ?_)
    · skip
      replace h15 := (b9_f h15)
      refine lv_aload_n hx hb dX7_lay_21 rfl (lv_at hl 0 rfl) ?_
      refine zget zf_X7_61 hF hB 0 rfl rfl dX7_lay_22 ?_
      refine lv_iload_n hx hb dX7_lay_25 rfl (lv_at hl 1 rfl) ?_
      refine zVi zm_X7_76 hF hB (c_X5_isLost l D ka kb bd la9 sz sg (hsg2)) [1, 7] rfl (by decide) [(bd 6), (bd 30)] (fun _ => rfl) rfl 1 5 rfl rfl rfl ⟨Nat.le_of_ble_eq_true rfl, Nat.le_of_ble_eq_true rfl⟩ rfl hl.1 (Nat.le_of_ble_eq_true rfl) ⟨Nat.le_refl _, Nat.le_refl _⟩ dX7_lay_26 ?_
      clear hB
      try clear locs
      try clear H
      intro r3 u3 H locs hp hB
      obtain rfl : r3 = bI (dB (sz sg = -1)) := hp
      replace hB : zB D A s ([((bd 31), .inr (7, [.ref (bd 0), .ref (bd 1), .ref (na 6), .ref (na 7), .ref (bd 2), .ref (bd 3), .ref (bd 4), .ref (bd 5), .ref (bd 6)])), ((bd 6), .inr (5, [.ref (bd 25), .ref (bd 30), .int la9])), ((bd 25), .inl (ka 4, 4, .inr (.inr (.inr (.inr (nB bd)))))), ((bd 26), .inl (ka 1, 40, .inr (.inl (rw9 0)))), ((bd 27), .inl (ka 1, 40, .inr (.inl (rw9 1)))), ((bd 28), .inl (ka 1, 40, .inr (.inl (rw9 2)))), ((bd 29), .inl (ka 1, 40, .inr (.inl (rw9 3)))), ((bd 30), .inl (ka 0, 4, .inl sz))]) H locs := hB
      refine lv_if_eq (tgt := 41) hx hb dX7_lay_29 (by decide) (fun h29 => ?_) (fun h29 => ?_)
      · skip
        have hnl : ¬ sz sg = -1 := dB_f.mp (bI_eq0 h29)
        refine lv_aload_n hx hb dX7_lay_41 rfl (lv_at hl 0 rfl) ?_
        refine zget zf_X7_61 hF hB 0 rfl rfl dX7_lay_42 ?_
        refine lv_iload_n hx hb dX7_lay_45 rfl (lv_at hl 1 rfl) ?_
        refine lv_iload_n hx hb dX7_lay_46 rfl (lv_at hl 2 rfl) ?_
        refine lv_iconst (v := 1) hx hb dX7_lay_47 (by decide) ?_
        refine zVi zm_X7_84 hF hB (c_X5_lacks l D ka kb bd la9 sz sg ii (1 : Int32) (hsg2) (okSz_b hsz hsg2) (by decide)) [1, 7] rfl (by decide) [(bd 6), (bd 30)] (fun _ => rfl) rfl 1 5 rfl rfl rfl ⟨Nat.le_of_ble_eq_true rfl, Nat.le_of_ble_eq_true rfl⟩ rfl hl.1 (Nat.le_of_ble_eq_true rfl) ⟨Nat.le_refl _, Nat.le_refl _⟩ dX7_lay_48 ?_
        clear hB
        try clear locs
        try clear H
        intro r4 u4 H locs hp hB
        obtain rfl : r4 = bI (dB (¬ (0 ≤ ii.toInt ∧ ii.toInt + (1 : Int32).toInt ≤ (sz sg).toInt))) := hp
        replace hB : zB D A s ([((bd 31), .inr (7, [.ref (bd 0), .ref (bd 1), .ref (na 6), .ref (na 7), .ref (bd 2), .ref (bd 3), .ref (bd 4), .ref (bd 5), .ref (bd 6)])), ((bd 6), .inr (5, [.ref (bd 25), .ref (bd 30), .int la9])), ((bd 25), .inl (ka 4, 4, .inr (.inr (.inr (.inr (nB bd)))))), ((bd 26), .inl (ka 1, 40, .inr (.inl (rw9 0)))), ((bd 27), .inl (ka 1, 40, .inr (.inl (rw9 1)))), ((bd 28), .inl (ka 1, 40, .inr (.inl (rw9 2)))), ((bd 29), .inl (ka 1, 40, .inr (.inl (rw9 3)))), ((bd 30), .inl (ka 0, 4, .inl sz))]) H locs := hB
        refine lv_if_eq (tgt := 63) hx hb dX7_lay_51 (by decide) (fun h51 => ?_) (fun h51 => ?_)
        · skip
          have hlk := Decidable.of_not_not (dB_f.mp (bI_eq0 h51))
          have hlf : lkF (sz sg) ii 1 = 0 := lkF_is0 hnl hlk
          have h40 := (hsz sg hsg2).resolve_left hnl
          have e1 : (1 : Int32).toInt = 1 := rfl
          obtain ⟨jj, hj1, hj2, hj3, hj4⟩ := i32_nat (x := ii) (n := 40) hlk.1 (by omega)
          subst hj2
          have rjj : aN (nI jj) = jj := aNn (n := 40) hj1 (by decide)
          refine lv_aload_n hx hb dX7_lay_63 rfl (lv_at hl 0 rfl) ?_
          refine zget zf_X7_61 hF hB 0 rfl rfl dX7_lay_64 ?_
          refine lv_iload_n hx hb dX7_lay_67 rfl (lv_at hl 1 rfl) ?_
          refine lv_iload_n hx hb dX7_lay_68 rfl (lv_at hl 2 rfl) ?_
          refine lv_iload_n hx hb dX7_lay_69 rfl (lv_at hl 3 rfl) ?_
          refine lv_i2l (v := vv.toInt64) hx hb dX7_lay_70 rfl ?_
          refine lv_iload hx hb dX7_lay_71 (lv_at hl 4 rfl) ?_
          refine lv_lshl (v := (vv.toInt64 <<< (oo.toInt64 &&& 63))) hx hb dX7_lay_73 rfl ?_
          refine zVv zm_X7_258 hF hB (c_X5_store l D ka kb bd la9 rw9 sg jj (vv.toInt64 <<< (oo.toInt64 &&& 63)) (hsg2) (hj1)) [1, 2, 3, 4, 5, 6] rfl (by decide) [(bd 6), (bd 25), (bd 26), (bd 27), (bd 28), (bd 29)] (fun _ => rfl) rfl 1 5 rfl rfl rfl ⟨Nat.le_of_ble_eq_true rfl, Nat.le_of_ble_eq_true rfl⟩ rfl hl.1 (Nat.le_of_ble_eq_true rfl) ⟨Nat.le_refl _, Nat.le_refl _⟩ dX7_lay_74 ?_
          clear hB
          try clear locs
          try clear H
          intro u5 H locs hp hB
          replace hB : zB D A s ([((bd 31), .inr (7, [.ref (bd 0), .ref (bd 1), .ref (na 6), .ref (na 7), .ref (bd 2), .ref (bd 3), .ref (bd 4), .ref (bd 5), .ref (bd 6)])), ((bd 6), .inr (5, [.ref (bd 25), .ref (bd 30), .int la9])), ((bd 25), .inl (ka 4, 4, .inr (.inr (.inr (.inr (nB bd)))))), ((bd 26), .inl (ka 1, 40, .inr (.inl ((upR rw9 sg jj (vv.toInt64 <<< (oo.toInt64 &&& 63))) 0)))), ((bd 27), .inl (ka 1, 40, .inr (.inl ((upR rw9 sg jj (vv.toInt64 <<< (oo.toInt64 &&& 63))) 1)))), ((bd 28), .inl (ka 1, 40, .inr (.inl ((upR rw9 sg jj (vv.toInt64 <<< (oo.toInt64 &&& 63))) 2)))), ((bd 29), .inl (ka 1, 40, .inr (.inl ((upR rw9 sg jj (vv.toInt64 <<< (oo.toInt64 &&& 63))) 3)))), ((bd 30), .inl (ka 0, 4, .inl sz))]) H locs := hB
          refine lv_iconst (v := 1) hx hb dX7_lay_77 (by decide) ?_
          exact zreti hF hB (upR rw9 sg jj (vv.toInt64 <<< (oo.toInt64 &&& 63))) (⟨by rw [lyA, if_neg (fun e8 => e8 ⟨hsg1, h15⟩), (show (nI sg).toInt.toNat = sg from rsg), hlf] <;> rfl, fun a9 j9 _ _ => by rw [up_eq]; unfold lyI; rw [(show (nI sg).toInt.toNat = sg from rsg), show (nI jj).toInt.toNat = jj from rjj]; exact if_cg ⟨fun e8 => ⟨⟨hsg1, h15, hlf⟩, e8⟩, fun e8 => e8.2⟩⟩) (by rw [lyF, if_neg (fun e8 => e8 ⟨hsg1, h15⟩), (show (nI sg).toInt.toNat = sg from rsg), hlf] <;> rfl) (rfl) dX7_lay_78 hQ
        · skip
          have hlf : lkF (sz sg) ii 1 = 2 := lkF_is2 hnl (dB_t.mp (bI_ne0 h51))
          refine lv_aload_n hx hb dX7_lay_54 rfl (lv_at hl 0 rfl) ?_
          refine zget zf_X7_61 hF hB 0 rfl rfl dX7_lay_55 ?_
          refine lv_iconst (v := 2) hx hb dX7_lay_58 (by decide) ?_
          refine zVi zm_X7_80 hF hB (c_X5_find l D ka kb bd la9 (2 : Int32) ) [1] rfl (by decide) [(bd 6)] (fun _ => rfl) rfl 1 5 rfl rfl rfl ⟨Nat.le_of_ble_eq_true rfl, Nat.le_of_ble_eq_true rfl⟩ rfl hl.1 (Nat.le_of_ble_eq_true rfl) ⟨Nat.le_refl _, Nat.le_refl _⟩ dX7_lay_59 ?_
          clear hB
          try clear locs
          try clear H
          intro r6 u6 H locs hp hB
          obtain rfl : r6 = (-10 : Int32) - (2 : Int32) := hp
          replace hB : zB D A s ([((bd 31), .inr (7, [.ref (bd 0), .ref (bd 1), .ref (na 6), .ref (na 7), .ref (bd 2), .ref (bd 3), .ref (bd 4), .ref (bd 5), .ref (bd 6)])), ((bd 6), .inr (5, [.ref (bd 25), .ref (bd 30), .int (2 : Int32)])), ((bd 25), .inl (ka 4, 4, .inr (.inr (.inr (.inr (nB bd)))))), ((bd 26), .inl (ka 1, 40, .inr (.inl (rw9 0)))), ((bd 27), .inl (ka 1, 40, .inr (.inl (rw9 1)))), ((bd 28), .inl (ka 1, 40, .inr (.inl (rw9 2)))), ((bd 29), .inl (ka 1, 40, .inr (.inl (rw9 3)))), ((bd 30), .inl (ka 0, 4, .inl sz))]) H locs := hB
          exact zreti hF hB rw9 (⟨by rw [lyA, if_neg (fun e8 => e8 ⟨hsg1, h15⟩), (show (nI sg).toInt.toNat = sg from rsg), hlf] <;> rfl, fun a9 j9 _ _ => (if_neg (fun e8 => by have e7 := e8.1.2.2; rw [(show (nI sg).toInt.toNat = sg from rsg), hlf] at e7; exact absurd e7 (by decide))).symm⟩) (by rw [lyF, if_neg (fun e8 => e8 ⟨hsg1, h15⟩), (show (nI sg).toInt.toNat = sg from rsg), hlf] <;> rfl) (rfl) dX7_lay_62 hQ
      · skip
        have hlf : lkF (sz sg) ii 1 = 1 := lkF_is1 (dB_t.mp (bI_ne0 h29))
        refine lv_aload_n hx hb dX7_lay_32 rfl (lv_at hl 0 rfl) ?_
        refine zget zf_X7_61 hF hB 0 rfl rfl dX7_lay_33 ?_
        refine lv_iconst (v := 1) hx hb dX7_lay_36 (by decide) ?_
        refine zVi zm_X7_80 hF hB (c_X5_find l D ka kb bd la9 (1 : Int32) ) [1] rfl (by decide) [(bd 6)] (fun _ => rfl) rfl 1 5 rfl rfl rfl ⟨Nat.le_of_ble_eq_true rfl, Nat.le_of_ble_eq_true rfl⟩ rfl hl.1 (Nat.le_of_ble_eq_true rfl) ⟨Nat.le_refl _, Nat.le_refl _⟩ dX7_lay_37 ?_
        clear hB
        try clear locs
        try clear H
        intro r7 u7 H locs hp hB
        obtain rfl : r7 = (-10 : Int32) - (1 : Int32) := hp
        replace hB : zB D A s ([((bd 31), .inr (7, [.ref (bd 0), .ref (bd 1), .ref (na 6), .ref (na 7), .ref (bd 2), .ref (bd 3), .ref (bd 4), .ref (bd 5), .ref (bd 6)])), ((bd 6), .inr (5, [.ref (bd 25), .ref (bd 30), .int (1 : Int32)])), ((bd 25), .inl (ka 4, 4, .inr (.inr (.inr (.inr (nB bd)))))), ((bd 26), .inl (ka 1, 40, .inr (.inl (rw9 0)))), ((bd 27), .inl (ka 1, 40, .inr (.inl (rw9 1)))), ((bd 28), .inl (ka 1, 40, .inr (.inl (rw9 2)))), ((bd 29), .inl (ka 1, 40, .inr (.inl (rw9 3)))), ((bd 30), .inl (ka 0, 4, .inl sz))]) H locs := hB
        exact zreti hF hB rw9 (⟨by rw [lyA, if_neg (fun e8 => e8 ⟨hsg1, h15⟩), (show (nI sg).toInt.toNat = sg from rsg), hlf] <;> rfl, fun a9 j9 _ _ => (if_neg (fun e8 => by have e7 := e8.1.2.2; rw [(show (nI sg).toInt.toNat = sg from rsg), hlf] at e7; exact absurd e7 (by decide))).symm⟩) (by rw [lyF, if_neg (fun e8 => e8 ⟨hsg1, h15⟩), (show (nI sg).toInt.toNat = sg from rsg), hlf] <;> rfl) (rfl) dX7_lay_40 hQ
    · skip
      replace h15 := (b9_t h15)
      refine lv_bipush (v := -2) hx hb dX7_lay_18 (by decide) ?_
      have hK : ¬ (inI (nI sg) 4 = true ∧ inI oo 63 = true) := fun e8 => absurd (h15.symm.trans e8.2) (by decide)
      exact zreti hF hB rw9 (⟨by rw [lyA, if_pos hK], fun a9 j9 _ _ => (if_neg (fun e8 => hK ⟨e8.1.1, e8.1.2.1⟩)).symm⟩) (by rw [lyF, if_pos hK] <;> rfl) (rfl) dX7_lay_20 hQ

set_option maxHeartbeats 4000000 in
set_option maxRecDepth 100000 in
theorem c_X7_get (l : Launch) (D : va_G) (ka : Nat → ClassId) (kb : Nat → Nat) (bd : Nat → Nat) (na : Nat → Nat) (la9 : Int32) (sz : Nat → Int32) (rw9 : Nat → Nat → Int64) (ss : Int32) (ii : Int32) (hsz : okSz sz) : zL l D ka kb yX7_get cX7_get 3 1 23 [.ref (bd 31), .int ss, .int ii] ([((bd 31), .inr (7, [.ref (bd 0), .ref (bd 1), .ref (na 6), .ref (na 7), .ref (bd 2), .ref (bd 3), .ref (bd 4), .ref (bd 5), .ref (bd 6)])), ((bd 6), .inr (5, [.ref (bd 25), .ref (bd 30), .int la9])), ((bd 25), .inl (ka 4, 4, .inr (.inr (.inr (.inr (nB bd)))))), ((bd 26), .inl (ka 1, 40, .inr (.inl (rw9 0)))), ((bd 27), .inl (ka 1, 40, .inr (.inl (rw9 1)))), ((bd 28), .inl (ka 1, 40, .inr (.inl (rw9 2)))), ((bd 29), .inl (ka 1, 40, .inr (.inl (rw9 3)))), ((bd 30), .inl (ka 0, 4, .inl sz))]) (fun (r : Int64) (_ : Unit) => r = gtA ss ii sz rw9) (fun (_ : Unit) => [((bd 31), .inr (7, [.ref (bd 0), .ref (bd 1), .ref (na 6), .ref (na 7), .ref (bd 2), .ref (bd 3), .ref (bd 4), .ref (bd 5), .ref (bd 6)])), ((bd 6), .inr (5, [.ref (bd 25), .ref (bd 30), .int (laF (gtF ss ii sz) la9)])), ((bd 25), .inl (ka 4, 4, .inr (.inr (.inr (.inr (nB bd)))))), ((bd 26), .inl (ka 1, 40, .inr (.inl (rw9 0)))), ((bd 27), .inl (ka 1, 40, .inr (.inl (rw9 1)))), ((bd 28), .inl (ka 1, 40, .inr (.inl (rw9 2)))), ((bd 29), .inl (ka 1, 40, .inr (.inl (rw9 3)))), ((bd 30), .inl (ka 0, 4, .inl sz))]) := by
  refine zL.mk RX7 (by decide +kernel) rfl (Nat.le_of_ble_eq_true rfl) ?_
  intro p e s m below meth c A ls args Q hQ hx hb hF hB hl
  replace hl : lv_has ls 3 [(0, .ref (bd 31)), (1, .int ss), (2, .int ii)] := hl
  refine lv_iload_n hx hb dX7_get_0 rfl (lv_at hl 1 rfl) ?_
  refine lv_iconst (v := 4) hx hb dX7_get_1 (by decide) ?_
  refine zSi zm_X7_65 hF hB (c_X7_isOutside l D ka kb ss 4 (by decide)) [] rfl (by decide) [] (fun _ => rfl) rfl rfl ⟨Nat.le_of_ble_eq_true rfl, Nat.le_of_ble_eq_true rfl⟩ rfl hl.1 (Nat.le_of_ble_eq_true rfl) ⟨Nat.le_refl _, Nat.le_refl _⟩ dX7_get_2 ?_
  clear hB
  try clear locs
  try clear H
  intro r1 u1 H locs hp hB
  obtain rfl : r1 = bI (!(inI ss 4)) := hp
  replace hB : zB D A s ([((bd 31), .inr (7, [.ref (bd 0), .ref (bd 1), .ref (na 6), .ref (na 7), .ref (bd 2), .ref (bd 3), .ref (bd 4), .ref (bd 5), .ref (bd 6)])), ((bd 6), .inr (5, [.ref (bd 25), .ref (bd 30), .int la9])), ((bd 25), .inl (ka 4, 4, .inr (.inr (.inr (.inr (nB bd)))))), ((bd 26), .inl (ka 1, 40, .inr (.inl (rw9 0)))), ((bd 27), .inl (ka 1, 40, .inr (.inl (rw9 1)))), ((bd 28), .inl (ka 1, 40, .inr (.inl (rw9 2)))), ((bd 29), .inl (ka 1, 40, .inr (.inl (rw9 3)))), ((bd 30), .inl (ka 0, 4, .inl sz))]) H locs := hB
  refine lv_if_eq (tgt := 14) hx hb dX7_get_5 (by decide) (fun h5 => ?_) (fun h5 => ?_)
  · skip
    replace h5 := (b9_f h5)
    obtain ⟨sg, hsg2, hsg3⟩ := inI_of h5 (by decide)
    subst hsg3
    have rsg : aN (nI sg) = sg := aNn hsg2 (by decide)
    have hsg1 : inI (nI sg) 4 = true := h5
    refine lv_aload_n hx hb dX7_get_14 rfl (lv_at hl 0 rfl) ?_
    refine zget zf_X7_61 hF hB 0 rfl rfl dX7_get_15 ?_
    refine lv_iload_n hx hb dX7_get_18 rfl (lv_at hl 1 rfl) ?_
    refine zVi zm_X7_76 hF hB (c_X5_isLost l D ka kb bd la9 sz sg (hsg2)) [1, 7] rfl (by decide) [(bd 6), (bd 30)] (fun _ => rfl) rfl 1 5 rfl rfl rfl ⟨Nat.le_of_ble_eq_true rfl, Nat.le_of_ble_eq_true rfl⟩ rfl hl.1 (Nat.le_of_ble_eq_true rfl) ⟨Nat.le_refl _, Nat.le_refl _⟩ dX7_get_19 ?_
    clear hB
    try clear locs
    try clear H
    intro r2 u2 H locs hp hB
    obtain rfl : r2 = bI (dB (sz sg = -1)) := hp
    replace hB : zB D A s ([((bd 31), .inr (7, [.ref (bd 0), .ref (bd 1), .ref (na 6), .ref (na 7), .ref (bd 2), .ref (bd 3), .ref (bd 4), .ref (bd 5), .ref (bd 6)])), ((bd 6), .inr (5, [.ref (bd 25), .ref (bd 30), .int la9])), ((bd 25), .inl (ka 4, 4, .inr (.inr (.inr (.inr (nB bd)))))), ((bd 26), .inl (ka 1, 40, .inr (.inl (rw9 0)))), ((bd 27), .inl (ka 1, 40, .inr (.inl (rw9 1)))), ((bd 28), .inl (ka 1, 40, .inr (.inl (rw9 2)))), ((bd 29), .inl (ka 1, 40, .inr (.inl (rw9 3)))), ((bd 30), .inl (ka 0, 4, .inl sz))]) H locs := hB
    refine lv_if_eq (tgt := 37) hx hb dX7_get_22 (by decide) (fun h22 => ?_) (fun h22 => ?_)
    · skip
      have hnl : ¬ sz sg = -1 := dB_f.mp (bI_eq0 h22)
      refine lv_aload_n hx hb dX7_get_37 rfl (lv_at hl 0 rfl) ?_
      refine zget zf_X7_61 hF hB 0 rfl rfl dX7_get_38 ?_
      refine lv_iload_n hx hb dX7_get_41 rfl (lv_at hl 1 rfl) ?_
      refine lv_iload_n hx hb dX7_get_42 rfl (lv_at hl 2 rfl) ?_
      refine lv_iconst (v := 1) hx hb dX7_get_43 (by decide) ?_
      refine zVi zm_X7_84 hF hB (c_X5_lacks l D ka kb bd la9 sz sg ii (1 : Int32) (hsg2) (okSz_b hsz hsg2) (by decide)) [1, 7] rfl (by decide) [(bd 6), (bd 30)] (fun _ => rfl) rfl 1 5 rfl rfl rfl ⟨Nat.le_of_ble_eq_true rfl, Nat.le_of_ble_eq_true rfl⟩ rfl hl.1 (Nat.le_of_ble_eq_true rfl) ⟨Nat.le_refl _, Nat.le_refl _⟩ dX7_get_44 ?_
      clear hB
      try clear locs
      try clear H
      intro r3 u3 H locs hp hB
      obtain rfl : r3 = bI (dB (¬ (0 ≤ ii.toInt ∧ ii.toInt + (1 : Int32).toInt ≤ (sz sg).toInt))) := hp
      replace hB : zB D A s ([((bd 31), .inr (7, [.ref (bd 0), .ref (bd 1), .ref (na 6), .ref (na 7), .ref (bd 2), .ref (bd 3), .ref (bd 4), .ref (bd 5), .ref (bd 6)])), ((bd 6), .inr (5, [.ref (bd 25), .ref (bd 30), .int la9])), ((bd 25), .inl (ka 4, 4, .inr (.inr (.inr (.inr (nB bd)))))), ((bd 26), .inl (ka 1, 40, .inr (.inl (rw9 0)))), ((bd 27), .inl (ka 1, 40, .inr (.inl (rw9 1)))), ((bd 28), .inl (ka 1, 40, .inr (.inl (rw9 2)))), ((bd 29), .inl (ka 1, 40, .inr (.inl (rw9 3)))), ((bd 30), .inl (ka 0, 4, .inl sz))]) H locs := hB
      refine lv_if_eq (tgt := 62) hx hb dX7_get_47 (by decide) (fun h47 => ?_) (fun h47 => ?_)
      · skip
        have hlk := Decidable.of_not_not (dB_f.mp (bI_eq0 h47))
        have hlf : lkF (sz sg) ii 1 = 0 := lkF_is0 hnl hlk
        have h40 := (hsz sg hsg2).resolve_left hnl
        have e1 : (1 : Int32).toInt = 1 := rfl
        obtain ⟨jj, hj1, hj2, hj3, hj4⟩ := i32_nat (x := ii) (n := 40) hlk.1 (by omega)
        subst hj2
        have rjj : aN (nI jj) = jj := aNn (n := 40) hj1 (by decide)
        refine lv_aload_n hx hb dX7_get_62 rfl (lv_at hl 0 rfl) ?_
        refine zget zf_X7_61 hF hB 0 rfl rfl dX7_get_63 ?_
        refine lv_iload_n hx hb dX7_get_66 rfl (lv_at hl 1 rfl) ?_
        refine lv_iload_n hx hb dX7_get_67 rfl (lv_at hl 2 rfl) ?_
        refine zVl zm_X7_88 hF hB (c_X5_item l D ka kb bd la9 rw9 sg jj (hsg2) (hj1)) [1, 2, 3, 4, 5, 6] rfl (by decide) [(bd 6), (bd 25), (bd 26), (bd 27), (bd 28), (bd 29)] (fun _ => rfl) rfl 1 5 rfl rfl rfl ⟨Nat.le_of_ble_eq_true rfl, Nat.le_of_ble_eq_true rfl⟩ rfl hl.1 (Nat.le_of_ble_eq_true rfl) ⟨Nat.le_refl _, Nat.le_refl _⟩ dX7_get_68 ?_
        clear hB
        try clear locs
        try clear H
        intro r4 u4 H locs hp hB
        obtain rfl : r4 = rw9 sg jj := hp
        replace hB : zB D A s ([((bd 31), .inr (7, [.ref (bd 0), .ref (bd 1), .ref (na 6), .ref (na 7), .ref (bd 2), .ref (bd 3), .ref (bd 4), .ref (bd 5), .ref (bd 6)])), ((bd 6), .inr (5, [.ref (bd 25), .ref (bd 30), .int la9])), ((bd 25), .inl (ka 4, 4, .inr (.inr (.inr (.inr (nB bd)))))), ((bd 26), .inl (ka 1, 40, .inr (.inl (rw9 0)))), ((bd 27), .inl (ka 1, 40, .inr (.inl (rw9 1)))), ((bd 28), .inl (ka 1, 40, .inr (.inl (rw9 2)))), ((bd 29), .inl (ka 1, 40, .inr (.inl (rw9 3)))), ((bd 30), .inl (ka 0, 4, .inl sz))]) H locs := hB
        exact zretl hF hB () (by rw [gtA, if_neg (fun e8 => e8 hsg1), (show (nI sg).toInt.toNat = sg from rsg), hlf, if_pos rfl, show (nI jj).toInt.toNat = jj from rjj]) (by rw [gtF, if_neg (fun e8 => e8 hsg1), (show (nI sg).toInt.toNat = sg from rsg), hlf] <;> rfl) dX7_get_71 hQ
      · skip
        have hlf : lkF (sz sg) ii 1 = 2 := lkF_is2 hnl (dB_t.mp (bI_ne0 h47))
        refine lv_aload_n hx hb dX7_get_50 rfl (lv_at hl 0 rfl) ?_
        refine zget zf_X7_61 hF hB 0 rfl rfl dX7_get_51 ?_
        refine lv_iconst (v := 2) hx hb dX7_get_54 (by decide) ?_
        refine zVi zm_X7_80 hF hB (c_X5_find l D ka kb bd la9 (2 : Int32) ) [1] rfl (by decide) [(bd 6)] (fun _ => rfl) rfl 1 5 rfl rfl rfl ⟨Nat.le_of_ble_eq_true rfl, Nat.le_of_ble_eq_true rfl⟩ rfl hl.1 (Nat.le_of_ble_eq_true rfl) ⟨Nat.le_refl _, Nat.le_refl _⟩ dX7_get_55 ?_
        clear hB
        try clear locs
        try clear H
        intro r5 u5 H locs hp hB
        obtain rfl : r5 = (-10 : Int32) - (2 : Int32) := hp
        replace hB : zB D A s ([((bd 31), .inr (7, [.ref (bd 0), .ref (bd 1), .ref (na 6), .ref (na 7), .ref (bd 2), .ref (bd 3), .ref (bd 4), .ref (bd 5), .ref (bd 6)])), ((bd 6), .inr (5, [.ref (bd 25), .ref (bd 30), .int (2 : Int32)])), ((bd 25), .inl (ka 4, 4, .inr (.inr (.inr (.inr (nB bd)))))), ((bd 26), .inl (ka 1, 40, .inr (.inl (rw9 0)))), ((bd 27), .inl (ka 1, 40, .inr (.inl (rw9 1)))), ((bd 28), .inl (ka 1, 40, .inr (.inl (rw9 2)))), ((bd 29), .inl (ka 1, 40, .inr (.inl (rw9 3)))), ((bd 30), .inl (ka 0, 4, .inl sz))]) H locs := hB
        refine zSl zm_X7_109 hF hB (c_X7_asLong l D ka kb ((-10 : Int32) - (2 : Int32)) ) [] rfl (by decide) [] (fun _ => rfl) rfl rfl ⟨Nat.le_of_ble_eq_true rfl, Nat.le_of_ble_eq_true rfl⟩ rfl hl.1 (Nat.le_of_ble_eq_true rfl) ⟨Nat.le_refl _, Nat.le_refl _⟩ dX7_get_58 ?_
        clear hB
        try clear locs
        try clear H
        intro r6 u6 H locs hp hB
        obtain rfl : r6 = lMin - ((-10 : Int32) - (2 : Int32)).toInt64 := hp
        replace hB : zB D A s ([((bd 31), .inr (7, [.ref (bd 0), .ref (bd 1), .ref (na 6), .ref (na 7), .ref (bd 2), .ref (bd 3), .ref (bd 4), .ref (bd 5), .ref (bd 6)])), ((bd 6), .inr (5, [.ref (bd 25), .ref (bd 30), .int (2 : Int32)])), ((bd 25), .inl (ka 4, 4, .inr (.inr (.inr (.inr (nB bd)))))), ((bd 26), .inl (ka 1, 40, .inr (.inl (rw9 0)))), ((bd 27), .inl (ka 1, 40, .inr (.inl (rw9 1)))), ((bd 28), .inl (ka 1, 40, .inr (.inl (rw9 2)))), ((bd 29), .inl (ka 1, 40, .inr (.inl (rw9 3)))), ((bd 30), .inl (ka 0, 4, .inl sz))]) H locs := hB
        exact zretl hF hB () (by rw [gtA, if_neg (fun e8 => e8 hsg1), (show (nI sg).toInt.toNat = sg from rsg), hlf, if_neg (by decide)] <;> rfl) (by rw [gtF, if_neg (fun e8 => e8 hsg1), (show (nI sg).toInt.toNat = sg from rsg), hlf] <;> rfl) dX7_get_61 hQ
    · skip
      have hlf : lkF (sz sg) ii 1 = 1 := lkF_is1 (dB_t.mp (bI_ne0 h22))
      refine lv_aload_n hx hb dX7_get_25 rfl (lv_at hl 0 rfl) ?_
      refine zget zf_X7_61 hF hB 0 rfl rfl dX7_get_26 ?_
      refine lv_iconst (v := 1) hx hb dX7_get_29 (by decide) ?_
      refine zVi zm_X7_80 hF hB (c_X5_find l D ka kb bd la9 (1 : Int32) ) [1] rfl (by decide) [(bd 6)] (fun _ => rfl) rfl 1 5 rfl rfl rfl ⟨Nat.le_of_ble_eq_true rfl, Nat.le_of_ble_eq_true rfl⟩ rfl hl.1 (Nat.le_of_ble_eq_true rfl) ⟨Nat.le_refl _, Nat.le_refl _⟩ dX7_get_30 ?_
      clear hB
      try clear locs
      try clear H
      intro r7 u7 H locs hp hB
      obtain rfl : r7 = (-10 : Int32) - (1 : Int32) := hp
      replace hB : zB D A s ([((bd 31), .inr (7, [.ref (bd 0), .ref (bd 1), .ref (na 6), .ref (na 7), .ref (bd 2), .ref (bd 3), .ref (bd 4), .ref (bd 5), .ref (bd 6)])), ((bd 6), .inr (5, [.ref (bd 25), .ref (bd 30), .int (1 : Int32)])), ((bd 25), .inl (ka 4, 4, .inr (.inr (.inr (.inr (nB bd)))))), ((bd 26), .inl (ka 1, 40, .inr (.inl (rw9 0)))), ((bd 27), .inl (ka 1, 40, .inr (.inl (rw9 1)))), ((bd 28), .inl (ka 1, 40, .inr (.inl (rw9 2)))), ((bd 29), .inl (ka 1, 40, .inr (.inl (rw9 3)))), ((bd 30), .inl (ka 0, 4, .inl sz))]) H locs := hB
      refine zSl zm_X7_109 hF hB (c_X7_asLong l D ka kb ((-10 : Int32) - (1 : Int32)) ) [] rfl (by decide) [] (fun _ => rfl) rfl rfl ⟨Nat.le_of_ble_eq_true rfl, Nat.le_of_ble_eq_true rfl⟩ rfl hl.1 (Nat.le_of_ble_eq_true rfl) ⟨Nat.le_refl _, Nat.le_refl _⟩ dX7_get_33 ?_
      clear hB
      try clear locs
      try clear H
      intro r8 u8 H locs hp hB
      obtain rfl : r8 = lMin - ((-10 : Int32) - (1 : Int32)).toInt64 := hp
      replace hB : zB D A s ([((bd 31), .inr (7, [.ref (bd 0), .ref (bd 1), .ref (na 6), .ref (na 7), .ref (bd 2), .ref (bd 3), .ref (bd 4), .ref (bd 5), .ref (bd 6)])), ((bd 6), .inr (5, [.ref (bd 25), .ref (bd 30), .int (1 : Int32)])), ((bd 25), .inl (ka 4, 4, .inr (.inr (.inr (.inr (nB bd)))))), ((bd 26), .inl (ka 1, 40, .inr (.inl (rw9 0)))), ((bd 27), .inl (ka 1, 40, .inr (.inl (rw9 1)))), ((bd 28), .inl (ka 1, 40, .inr (.inl (rw9 2)))), ((bd 29), .inl (ka 1, 40, .inr (.inl (rw9 3)))), ((bd 30), .inl (ka 0, 4, .inl sz))]) H locs := hB
      exact zretl hF hB () (by rw [gtA, if_neg (fun e8 => e8 hsg1), (show (nI sg).toInt.toNat = sg from rsg), hlf, if_neg (by decide)] <;> rfl) (by rw [gtF, if_neg (fun e8 => e8 hsg1), (show (nI sg).toInt.toNat = sg from rsg), hlf] <;> rfl) dX7_get_36 hQ
  · skip
    replace h5 := (b9_t h5)
    refine lv_bipush (v := -2) hx hb dX7_get_8 (by decide) ?_
    refine zSl zm_X7_109 hF hB (c_X7_asLong l D ka kb (-2 : Int32) ) [] rfl (by decide) [] (fun _ => rfl) rfl rfl ⟨Nat.le_of_ble_eq_true rfl, Nat.le_of_ble_eq_true rfl⟩ rfl hl.1 (Nat.le_of_ble_eq_true rfl) ⟨Nat.le_refl _, Nat.le_refl _⟩ dX7_get_10 ?_
    clear hB
    try clear locs
    try clear H
    intro r9 u9 H locs hp hB
    obtain rfl : r9 = lMin - (-2 : Int32).toInt64 := hp
    replace hB : zB D A s ([((bd 31), .inr (7, [.ref (bd 0), .ref (bd 1), .ref (na 6), .ref (na 7), .ref (bd 2), .ref (bd 3), .ref (bd 4), .ref (bd 5), .ref (bd 6)])), ((bd 6), .inr (5, [.ref (bd 25), .ref (bd 30), .int la9])), ((bd 25), .inl (ka 4, 4, .inr (.inr (.inr (.inr (nB bd)))))), ((bd 26), .inl (ka 1, 40, .inr (.inl (rw9 0)))), ((bd 27), .inl (ka 1, 40, .inr (.inl (rw9 1)))), ((bd 28), .inl (ka 1, 40, .inr (.inl (rw9 2)))), ((bd 29), .inl (ka 1, 40, .inr (.inl (rw9 3)))), ((bd 30), .inl (ka 0, 4, .inl sz))]) H locs := hB
    have hK : ¬ inI ss 4 = true := by rw [h5]; decide
    exact zretl hF hB () (by rw [gtA, if_pos hK]) (by rw [gtF, if_pos hK] <;> rfl) dX7_get_13 hQ

set_option maxHeartbeats 4000000 in
set_option maxRecDepth 100000 in
theorem c_X7_copy (l : Launch) (D : va_G) (ka : Nat → ClassId) (kb : Nat → Nat) (bd : Nat → Nat) (na : Nat → Nat) (la9 : Int32) (sz : Nat → Int32) (rw9 : Nat → Nat → Int64) (ss : Int32) (ii : Int32) (tt : Int32) (jj : Int32) (nn : Int32) (hsz : okSz sz) : zI l D ka kb yX7_copy cX7_copy 6 .int 2 85 [.ref (bd 31), .int ss, .int ii, .int tt, .int jj, .int nn] ([((bd 31), .inr (7, [.ref (bd 0), .ref (bd 1), .ref (na 6), .ref (na 7), .ref (bd 2), .ref (bd 3), .ref (bd 4), .ref (bd 5), .ref (bd 6)])), ((bd 6), .inr (5, [.ref (bd 25), .ref (bd 30), .int la9])), ((bd 25), .inl (ka 4, 4, .inr (.inr (.inr (.inr (nB bd)))))), ((bd 26), .inl (ka 1, 40, .inr (.inl (rw9 0)))), ((bd 27), .inl (ka 1, 40, .inr (.inl (rw9 1)))), ((bd 28), .inl (ka 1, 40, .inr (.inl (rw9 2)))), ((bd 29), .inl (ka 1, 40, .inr (.inl (rw9 3)))), ((bd 30), .inl (ka 0, 4, .inl sz))]) (fun (r : Int32) (rw2 : Nat → Nat → Int64) => r = cpA ss ii tt jj nn sz ∧ eqI rw2 (cpI ss ii tt jj nn sz rw9)) (fun (rw2 : Nat → Nat → Int64) => [((bd 31), .inr (7, [.ref (bd 0), .ref (bd 1), .ref (na 6), .ref (na 7), .ref (bd 2), .ref (bd 3), .ref (bd 4), .ref (bd 5), .ref (bd 6)])), ((bd 6), .inr (5, [.ref (bd 25), .ref (bd 30), .int (laF (cpF ss ii tt jj nn sz) la9)])), ((bd 25), .inl (ka 4, 4, .inr (.inr (.inr (.inr (nB bd)))))), ((bd 26), .inl (ka 1, 40, .inr (.inl (rw2 0)))), ((bd 27), .inl (ka 1, 40, .inr (.inl (rw2 1)))), ((bd 28), .inl (ka 1, 40, .inr (.inl (rw2 2)))), ((bd 29), .inl (ka 1, 40, .inr (.inl (rw2 3)))), ((bd 30), .inl (ka 0, 4, .inl sz))]) := by
  refine zI.mk RX7 (by decide +kernel) rfl (Nat.le_of_ble_eq_true rfl) ?_
  intro p e s m below meth c A ls args Q hQ hx hb hF hB hl
  replace hl : lv_has ls 6 [(0, .ref (bd 31)), (1, .int ss), (2, .int ii), (3, .int tt), (4, .int jj), (5, .int nn)] := hl
  refine lv_iload_n hx hb dX7_copy_0 rfl (lv_at hl 1 rfl) ?_
  refine lv_iconst (v := 4) hx hb dX7_copy_1 (by decide) ?_
  refine zSi zm_X7_65 hF hB (c_X7_isOutside l D ka kb ss 4 (by decide)) [] rfl (by decide) [] (fun _ => rfl) rfl rfl ⟨Nat.le_of_ble_eq_true rfl, Nat.le_of_ble_eq_true rfl⟩ rfl hl.1 (Nat.le_of_ble_eq_true rfl) ⟨Nat.le_refl _, Nat.le_refl _⟩ dX7_copy_2 ?_
  clear hB
  try clear locs
  try clear H
  intro r1 u1 H locs hp hB
  obtain rfl : r1 = bI (!(inI ss 4)) := hp
  replace hB : zB D A s ([((bd 31), .inr (7, [.ref (bd 0), .ref (bd 1), .ref (na 6), .ref (na 7), .ref (bd 2), .ref (bd 3), .ref (bd 4), .ref (bd 5), .ref (bd 6)])), ((bd 6), .inr (5, [.ref (bd 25), .ref (bd 30), .int la9])), ((bd 25), .inl (ka 4, 4, .inr (.inr (.inr (.inr (nB bd)))))), ((bd 26), .inl (ka 1, 40, .inr (.inl (rw9 0)))), ((bd 27), .inl (ka 1, 40, .inr (.inl (rw9 1)))), ((bd 28), .inl (ka 1, 40, .inr (.inl (rw9 2)))), ((bd 29), .inl (ka 1, 40, .inr (.inl (rw9 3)))), ((bd 30), .inl (ka 0, 4, .inl sz))]) H locs := hB
  refine lv_if_ne (tgt := 16) hx hb dX7_copy_5 (by decide) (fun h5 => ?_) (fun h5 => ?_)
  · skip
    replace h5 := (b9_t h5)
    refine lv_bipush (v := -2) hx hb dX7_copy_16 (by decide) ?_
    have hK : ¬ (inI ss 4 = true ∧ inI tt 4 = true) := fun e8 => absurd (h5.symm.trans e8.1) (by decide)
    exact zreti hF hB rw9 (⟨by rw [cpA, if_pos hK], fun a9 j9 _ _ => (if_neg (fun e8 => hK ⟨e8.1.1, e8.1.2.1⟩)).symm⟩) (by rw [cpF, if_pos hK] <;> rfl) (rfl) dX7_copy_18 hQ
  · skip
    replace h5 := (b9_f h5)
    obtain ⟨sg, hsg2, hsg3⟩ := inI_of h5 (by decide)
    subst hsg3
    have rsg : aN (nI sg) = sg := aNn hsg2 (by decide)
    have hsg1 : inI (nI sg) 4 = true := h5
    refine lv_iload_n hx hb dX7_copy_8 rfl (lv_at hl 3 rfl) ?_
    refine lv_iconst (v := 4) hx hb dX7_copy_9 (by decide) ?_
    refine zSi zm_X7_65 hF hB (c_X7_isOutside l D ka kb tt 4 (by decide)) [] rfl (by decide) [] (fun _ => rfl) rfl rfl ⟨Nat.le_of_ble_eq_true rfl, Nat.le_of_ble_eq_true rfl⟩ rfl hl.1 (Nat.le_of_ble_eq_true rfl) ⟨Nat.le_refl _, Nat.le_refl _⟩ dX7_copy_10 ?_
    clear hB
    try clear locs
    try clear H
    intro r2 u2 H locs hp hB
    obtain rfl : r2 = bI (!(inI tt 4)) := hp
    replace hB : zB D A s ([((bd 31), .inr (7, [.ref (bd 0), .ref (bd 1), .ref (na 6), .ref (na 7), .ref (bd 2), .ref (bd 3), .ref (bd 4), .ref (bd 5), .ref (bd 6)])), ((bd 6), .inr (5, [.ref (bd 25), .ref (bd 30), .int la9])), ((bd 25), .inl (ka 4, 4, .inr (.inr (.inr (.inr (nB bd)))))), ((bd 26), .inl (ka 1, 40, .inr (.inl (rw9 0)))), ((bd 27), .inl (ka 1, 40, .inr (.inl (rw9 1)))), ((bd 28), .inl (ka 1, 40, .inr (.inl (rw9 2)))), ((bd 29), .inl (ka 1, 40, .inr (.inl (rw9 3)))), ((bd 30), .inl (ka 0, 4, .inl sz))]) H locs := hB
    refine lv_if_eq (tgt := 19) hx hb dX7_copy_13 (by decide) (fun h13 => ?_) (fun h13 => ?_)
    · skip
      replace h13 := (b9_f h13)
      obtain ⟨tg, htg2, htg3⟩ := inI_of h13 (by decide)
      subst htg3
      have rtg : aN (nI tg) = tg := aNn htg2 (by decide)
      have htg1 : inI (nI tg) 4 = true := h13
      refine lv_aload_n hx hb dX7_copy_19 rfl (lv_at hl 0 rfl) ?_
      refine zget zf_X7_61 hF hB 0 rfl rfl dX7_copy_20 ?_
      refine lv_iload_n hx hb dX7_copy_23 rfl (lv_at hl 1 rfl) ?_
      refine zVi zm_X7_76 hF hB (c_X5_isLost l D ka kb bd la9 sz sg (hsg2)) [1, 7] rfl (by decide) [(bd 6), (bd 30)] (fun _ => rfl) rfl 1 5 rfl rfl rfl ⟨Nat.le_of_ble_eq_true rfl, Nat.le_of_ble_eq_true rfl⟩ rfl hl.1 (Nat.le_of_ble_eq_true rfl) ⟨Nat.le_refl _, Nat.le_refl _⟩ dX7_copy_24 ?_
      clear hB
      try clear locs
      try clear H
      intro r3 u3 H locs hp hB
      obtain rfl : r3 = bI (dB (sz sg = -1)) := hp
      replace hB : zB D A s ([((bd 31), .inr (7, [.ref (bd 0), .ref (bd 1), .ref (na 6), .ref (na 7), .ref (bd 2), .ref (bd 3), .ref (bd 4), .ref (bd 5), .ref (bd 6)])), ((bd 6), .inr (5, [.ref (bd 25), .ref (bd 30), .int la9])), ((bd 25), .inl (ka 4, 4, .inr (.inr (.inr (.inr (nB bd)))))), ((bd 26), .inl (ka 1, 40, .inr (.inl (rw9 0)))), ((bd 27), .inl (ka 1, 40, .inr (.inl (rw9 1)))), ((bd 28), .inl (ka 1, 40, .inr (.inl (rw9 2)))), ((bd 29), .inl (ka 1, 40, .inr (.inl (rw9 3)))), ((bd 30), .inl (ka 0, 4, .inl sz))]) H locs := hB
      refine lv_if_ne (tgt := 41) hx hb dX7_copy_27 (by decide) (fun h27 => ?_) (fun h27 => ?_)
      · skip
        refine lv_aload_n hx hb dX7_copy_41 rfl (lv_at hl 0 rfl) ?_
        refine zget zf_X7_61 hF hB 0 rfl rfl dX7_copy_42 ?_
        refine lv_iconst (v := 1) hx hb dX7_copy_45 (by decide) ?_
        refine zVi zm_X7_80 hF hB (c_X5_find l D ka kb bd la9 (1 : Int32) ) [1] rfl (by decide) [(bd 6)] (fun _ => rfl) rfl 1 5 rfl rfl rfl ⟨Nat.le_of_ble_eq_true rfl, Nat.le_of_ble_eq_true rfl⟩ rfl hl.1 (Nat.le_of_ble_eq_true rfl) ⟨Nat.le_refl _, Nat.le_refl _⟩ dX7_copy_46 ?_
        clear hB
        try clear locs
        try clear H
        intro r4 u4 H locs hp hB
        obtain rfl : r4 = (-10 : Int32) - (1 : Int32) := hp
        replace hB : zB D A s ([((bd 31), .inr (7, [.ref (bd 0), .ref (bd 1), .ref (na 6), .ref (na 7), .ref (bd 2), .ref (bd 3), .ref (bd 4), .ref (bd 5), .ref (bd 6)])), ((bd 6), .inr (5, [.ref (bd 25), .ref (bd 30), .int (1 : Int32)])), ((bd 25), .inl (ka 4, 4, .inr (.inr (.inr (.inr (nB bd)))))), ((bd 26), .inl (ka 1, 40, .inr (.inl (rw9 0)))), ((bd 27), .inl (ka 1, 40, .inr (.inl (rw9 1)))), ((bd 28), .inl (ka 1, 40, .inr (.inl (rw9 2)))), ((bd 29), .inl (ka 1, 40, .inr (.inl (rw9 3)))), ((bd 30), .inl (ka 0, 4, .inl sz))]) H locs := hB
        have hcf : cpF (nI sg) ii (nI tg) jj nn sz = 1 := by rw [cpF, if_neg (fun e8 => e8 ⟨hsg1, htg1⟩), (show (nI sg).toInt.toNat = sg from rsg), (show (nI tg).toInt.toNat = tg from rtg), if_pos (Or.inl (dB_t.mp (bI_ne0 h27)))]
        exact zreti hF hB rw9 (⟨by rw [cpA, if_neg (fun e8 => e8 ⟨hsg1, htg1⟩), hcf] <;> rfl, fun a9 j9 _ _ => (if_neg (fun e8 => by have e7 := e8.1.2.2; rw [hcf] at e7; exact absurd e7 (by decide))).symm⟩) (by rw [hcf] <;> rfl) (rfl) dX7_copy_49 hQ
      · skip
        refine lv_aload_n hx hb dX7_copy_30 rfl (lv_at hl 0 rfl) ?_
        refine zget zf_X7_61 hF hB 0 rfl rfl dX7_copy_31 ?_
        refine lv_iload_n hx hb dX7_copy_34 rfl (lv_at hl 3 rfl) ?_
        refine zVi zm_X7_76 hF hB (c_X5_isLost l D ka kb bd la9 sz tg (htg2)) [1, 7] rfl (by decide) [(bd 6), (bd 30)] (fun _ => rfl) rfl 1 5 rfl rfl rfl ⟨Nat.le_of_ble_eq_true rfl, Nat.le_of_ble_eq_true rfl⟩ rfl hl.1 (Nat.le_of_ble_eq_true rfl) ⟨Nat.le_refl _, Nat.le_refl _⟩ dX7_copy_35 ?_
        clear hB
        try clear locs
        try clear H
        intro r5 u5 H locs hp hB
        obtain rfl : r5 = bI (dB (sz tg = -1)) := hp
        replace hB : zB D A s ([((bd 31), .inr (7, [.ref (bd 0), .ref (bd 1), .ref (na 6), .ref (na 7), .ref (bd 2), .ref (bd 3), .ref (bd 4), .ref (bd 5), .ref (bd 6)])), ((bd 6), .inr (5, [.ref (bd 25), .ref (bd 30), .int la9])), ((bd 25), .inl (ka 4, 4, .inr (.inr (.inr (.inr (nB bd)))))), ((bd 26), .inl (ka 1, 40, .inr (.inl (rw9 0)))), ((bd 27), .inl (ka 1, 40, .inr (.inl (rw9 1)))), ((bd 28), .inl (ka 1, 40, .inr (.inl (rw9 2)))), ((bd 29), .inl (ka 1, 40, .inr (.inl (rw9 3)))), ((bd 30), .inl (ka 0, 4, .inl sz))]) H locs := hB
        refine lv_if_eq (tgt := 50) hx hb dX7_copy_38 (by decide) (fun h38 => ?_) (fun h38 => ?_)
        · skip
          refine lv_iload hx hb dX7_copy_50 (lv_at hl 5 rfl) ?_
          refine lv_if_lt (tgt := 84) hx hb dX7_copy_52 (by decide) (fun h52 => ?_) (fun h52 => ?_)
          · skip
            refine lv_aload_n hx hb dX7_copy_84 rfl (lv_at hl 0 rfl) ?_
            refine zget zf_X7_61 hF hB 0 rfl rfl dX7_copy_85 ?_
            refine lv_iconst (v := 2) hx hb dX7_copy_88 (by decide) ?_
            refine zVi zm_X7_80 hF hB (c_X5_find l D ka kb bd la9 (2 : Int32) ) [1] rfl (by decide) [(bd 6)] (fun _ => rfl) rfl 1 5 rfl rfl rfl ⟨Nat.le_of_ble_eq_true rfl, Nat.le_of_ble_eq_true rfl⟩ rfl hl.1 (Nat.le_of_ble_eq_true rfl) ⟨Nat.le_refl _, Nat.le_refl _⟩ dX7_copy_89 ?_
            clear hB
            try clear locs
            try clear H
            intro r6 u6 H locs hp hB
            obtain rfl : r6 = (-10 : Int32) - (2 : Int32) := hp
            replace hB : zB D A s ([((bd 31), .inr (7, [.ref (bd 0), .ref (bd 1), .ref (na 6), .ref (na 7), .ref (bd 2), .ref (bd 3), .ref (bd 4), .ref (bd 5), .ref (bd 6)])), ((bd 6), .inr (5, [.ref (bd 25), .ref (bd 30), .int (2 : Int32)])), ((bd 25), .inl (ka 4, 4, .inr (.inr (.inr (.inr (nB bd)))))), ((bd 26), .inl (ka 1, 40, .inr (.inl (rw9 0)))), ((bd 27), .inl (ka 1, 40, .inr (.inl (rw9 1)))), ((bd 28), .inl (ka 1, 40, .inr (.inl (rw9 2)))), ((bd 29), .inl (ka 1, 40, .inr (.inl (rw9 3)))), ((bd 30), .inl (ka 0, 4, .inl sz))]) H locs := hB
            have hcf : cpF (nI sg) ii (nI tg) jj nn sz = 2 := by rw [cpF, if_neg (fun e8 => e8 ⟨hsg1, htg1⟩), (show (nI sg).toInt.toNat = sg from rsg), (show (nI tg).toInt.toNat = tg from rtg), if_neg (fun e8 => e8.elim (dB_f.mp (bI_eq0 h27)) (dB_f.mp (bI_eq0 h38))), if_neg (fun e8 => by have e6 := dB_t.mp e8; have e7 := (i32_lt_i _ _).mp h52; rw [show (0 : Int32).toInt = 0 from rfl] at e7; omega)]
            exact zreti hF hB rw9 (⟨by rw [cpA, if_neg (fun e8 => e8 ⟨hsg1, htg1⟩), hcf] <;> rfl, fun a9 j9 _ _ => (if_neg (fun e8 => by have e7 := e8.1.2.2; rw [hcf] at e7; exact absurd e7 (by decide))).symm⟩) (by rw [hcf] <;> rfl) (rfl) dX7_copy_92 hQ
          · skip
            refine lv_aload_n hx hb dX7_copy_55 rfl (lv_at hl 0 rfl) ?_
            refine zget zf_X7_61 hF hB 0 rfl rfl dX7_copy_56 ?_
            refine lv_iload_n hx hb dX7_copy_59 rfl (lv_at hl 1 rfl) ?_
            refine lv_iload_n hx hb dX7_copy_60 rfl (lv_at hl 2 rfl) ?_
            refine lv_iload hx hb dX7_copy_61 (lv_at hl 5 rfl) ?_
            refine zVi zm_X7_84 hF hB (c_X5_lacks l D ka kb bd la9 sz sg ii nn (hsg2) (okSz_b hsz hsg2) (by have e7 := mt (i32_lt_i _ _).mpr h52; rw [show (0 : Int32).toInt = 0 from rfl] at e7; omega)) [1, 7] rfl (by decide) [(bd 6), (bd 30)] (fun _ => rfl) rfl 1 5 rfl rfl rfl ⟨Nat.le_of_ble_eq_true rfl, Nat.le_of_ble_eq_true rfl⟩ rfl hl.1 (Nat.le_of_ble_eq_true rfl) ⟨Nat.le_refl _, Nat.le_refl _⟩ dX7_copy_63 ?_
            clear hB
            try clear locs
            try clear H
            intro r7 u7 H locs hp hB
            obtain rfl : r7 = bI (dB (¬ (0 ≤ ii.toInt ∧ ii.toInt + nn.toInt ≤ (sz sg).toInt))) := hp
            replace hB : zB D A s ([((bd 31), .inr (7, [.ref (bd 0), .ref (bd 1), .ref (na 6), .ref (na 7), .ref (bd 2), .ref (bd 3), .ref (bd 4), .ref (bd 5), .ref (bd 6)])), ((bd 6), .inr (5, [.ref (bd 25), .ref (bd 30), .int la9])), ((bd 25), .inl (ka 4, 4, .inr (.inr (.inr (.inr (nB bd)))))), ((bd 26), .inl (ka 1, 40, .inr (.inl (rw9 0)))), ((bd 27), .inl (ka 1, 40, .inr (.inl (rw9 1)))), ((bd 28), .inl (ka 1, 40, .inr (.inl (rw9 2)))), ((bd 29), .inl (ka 1, 40, .inr (.inl (rw9 3)))), ((bd 30), .inl (ka 0, 4, .inl sz))]) H locs := hB
            refine lv_if_ne (tgt := 84) hx hb dX7_copy_66 (by decide) (fun h66 => ?_) (fun h66 => ?_)
            · skip
              refine lv_aload_n hx hb dX7_copy_84 rfl (lv_at hl 0 rfl) ?_
              refine zget zf_X7_61 hF hB 0 rfl rfl dX7_copy_85 ?_
              refine lv_iconst (v := 2) hx hb dX7_copy_88 (by decide) ?_
              refine zVi zm_X7_80 hF hB (c_X5_find l D ka kb bd la9 (2 : Int32) ) [1] rfl (by decide) [(bd 6)] (fun _ => rfl) rfl 1 5 rfl rfl rfl ⟨Nat.le_of_ble_eq_true rfl, Nat.le_of_ble_eq_true rfl⟩ rfl hl.1 (Nat.le_of_ble_eq_true rfl) ⟨Nat.le_refl _, Nat.le_refl _⟩ dX7_copy_89 ?_
              clear hB
              try clear locs
              try clear H
              intro r8 u8 H locs hp hB
              obtain rfl : r8 = (-10 : Int32) - (2 : Int32) := hp
              replace hB : zB D A s ([((bd 31), .inr (7, [.ref (bd 0), .ref (bd 1), .ref (na 6), .ref (na 7), .ref (bd 2), .ref (bd 3), .ref (bd 4), .ref (bd 5), .ref (bd 6)])), ((bd 6), .inr (5, [.ref (bd 25), .ref (bd 30), .int (2 : Int32)])), ((bd 25), .inl (ka 4, 4, .inr (.inr (.inr (.inr (nB bd)))))), ((bd 26), .inl (ka 1, 40, .inr (.inl (rw9 0)))), ((bd 27), .inl (ka 1, 40, .inr (.inl (rw9 1)))), ((bd 28), .inl (ka 1, 40, .inr (.inl (rw9 2)))), ((bd 29), .inl (ka 1, 40, .inr (.inl (rw9 3)))), ((bd 30), .inl (ka 0, 4, .inl sz))]) H locs := hB
              have hcf : cpF (nI sg) ii (nI tg) jj nn sz = 2 := by rw [cpF, if_neg (fun e8 => e8 ⟨hsg1, htg1⟩), (show (nI sg).toInt.toNat = sg from rsg), (show (nI tg).toInt.toNat = tg from rtg), if_neg (fun e8 => e8.elim (dB_f.mp (bI_eq0 h27)) (dB_f.mp (bI_eq0 h38))), if_neg (fun e8 => by have e6 := dB_t.mp e8; have e7 := dB_t.mp (bI_ne0 h66); omega)]
              exact zreti hF hB rw9 (⟨by rw [cpA, if_neg (fun e8 => e8 ⟨hsg1, htg1⟩), hcf] <;> rfl, fun a9 j9 _ _ => (if_neg (fun e8 => by have e7 := e8.1.2.2; rw [hcf] at e7; exact absurd e7 (by decide))).symm⟩) (by rw [hcf] <;> rfl) (rfl) dX7_copy_92 hQ
            · skip
              refine lv_aload_n hx hb dX7_copy_69 rfl (lv_at hl 0 rfl) ?_
              refine zget zf_X7_61 hF hB 0 rfl rfl dX7_copy_70 ?_
              refine lv_iload_n hx hb dX7_copy_73 rfl (lv_at hl 3 rfl) ?_
              refine lv_iload hx hb dX7_copy_74 (lv_at hl 4 rfl) ?_
              refine lv_iload hx hb dX7_copy_76 (lv_at hl 5 rfl) ?_
              refine zVi zm_X7_84 hF hB (c_X5_lacks l D ka kb bd la9 sz tg jj nn (htg2) (okSz_b hsz htg2) (by have e7 := mt (i32_lt_i _ _).mpr h52; rw [show (0 : Int32).toInt = 0 from rfl] at e7; omega)) [1, 7] rfl (by decide) [(bd 6), (bd 30)] (fun _ => rfl) rfl 1 5 rfl rfl rfl ⟨Nat.le_of_ble_eq_true rfl, Nat.le_of_ble_eq_true rfl⟩ rfl hl.1 (Nat.le_of_ble_eq_true rfl) ⟨Nat.le_refl _, Nat.le_refl _⟩ dX7_copy_78 ?_
              clear hB
              try clear locs
              try clear H
              intro r9 u9 H locs hp hB
              obtain rfl : r9 = bI (dB (¬ (0 ≤ jj.toInt ∧ jj.toInt + nn.toInt ≤ (sz tg).toInt))) := hp
              replace hB : zB D A s ([((bd 31), .inr (7, [.ref (bd 0), .ref (bd 1), .ref (na 6), .ref (na 7), .ref (bd 2), .ref (bd 3), .ref (bd 4), .ref (bd 5), .ref (bd 6)])), ((bd 6), .inr (5, [.ref (bd 25), .ref (bd 30), .int la9])), ((bd 25), .inl (ka 4, 4, .inr (.inr (.inr (.inr (nB bd)))))), ((bd 26), .inl (ka 1, 40, .inr (.inl (rw9 0)))), ((bd 27), .inl (ka 1, 40, .inr (.inl (rw9 1)))), ((bd 28), .inl (ka 1, 40, .inr (.inl (rw9 2)))), ((bd 29), .inl (ka 1, 40, .inr (.inl (rw9 3)))), ((bd 30), .inl (ka 0, 4, .inl sz))]) H locs := hB
              refine lv_if_eq (tgt := 93) hx hb dX7_copy_81 (by decide) (fun h81 => ?_) (fun h81 => ?_)
              · skip
                have hn0 : 0 ≤ nn.toInt := by have e7 := mt (i32_lt_i _ _).mpr h52; rw [show (0 : Int32).toInt = 0 from rfl] at e7; omega
                have hnl1 : ¬ sz sg = -1 := dB_f.mp (bI_eq0 h27)
                have hnl2 : ¬ sz tg = -1 := dB_f.mp (bI_eq0 h38)
                have hk1 := Decidable.of_not_not (dB_f.mp (bI_eq0 h66))
                have hk2 := Decidable.of_not_not (dB_f.mp (bI_eq0 h81))
                have h401 := (hsz sg hsg2).resolve_left hnl1
                have h402 := (hsz tg htg2).resolve_left hnl2
                obtain ⟨ix, hix1, hix2, hix3, hix4⟩ := i32_nat (x := ii) (n := 41) hk1.1 (by omega)
                obtain ⟨jx, hjx1, hjx2, hjx3, hjx4⟩ := i32_nat (x := jj) (n := 41) hk2.1 (by omega)
                obtain ⟨nx, hnx1, hnx2, hnx3, hnx4⟩ := i32_nat (x := nn) (n := 41) hn0 (by omega)
                subst hix2; subst hjx2; subst hnx2
                have rix : aN (nI ix) = ix := aNn hix1 (by decide)
                have rjx : aN (nI jx) = jx := aNn hjx1 (by decide)
                have rnx : aN (nI nx) = nx := aNn hnx1 (by decide)
                have hcf : cpF (nI sg) (nI ix) (nI tg) (nI jx) (nI nx) sz = 0 := by rw [cpF, if_neg (fun e8 => e8 ⟨hsg1, htg1⟩), (show (nI sg).toInt.toNat = sg from rsg), (show (nI tg).toInt.toNat = tg from rtg), if_neg (fun e8 => e8.elim hnl1 hnl2), if_pos (dB_t.mpr ⟨hk1.1, hk2.1, hn0, hk1.2, hk2.2⟩)]
                refine lv_aload_n hx hb dX7_copy_93 rfl (lv_at hl 0 rfl) ?_
                refine zget zf_X7_61 hF hB 0 rfl rfl dX7_copy_94 ?_
                refine lv_iload_n hx hb dX7_copy_97 rfl (lv_at hl 1 rfl) ?_
                refine lv_iload_n hx hb dX7_copy_98 rfl (lv_at hl 2 rfl) ?_
                refine lv_iload_n hx hb dX7_copy_99 rfl (lv_at hl 3 rfl) ?_
                refine lv_iload hx hb dX7_copy_100 (lv_at hl 4 rfl) ?_
                refine lv_iload hx hb dX7_copy_102 (lv_at hl 5 rfl) ?_
                refine zVv zm_X7_262 hF hB (c_X5_move l D ka kb bd la9 rw9 sg ix tg jx nx (hsg2) (htg2) (by omega) (by omega)) [1, 2, 3, 4, 5, 6] rfl (by decide) [(bd 6), (bd 25), (bd 26), (bd 27), (bd 28), (bd 29)] (fun _ => rfl) rfl 1 5 rfl rfl rfl ⟨Nat.le_of_ble_eq_true rfl, Nat.le_of_ble_eq_true rfl⟩ rfl hl.1 (Nat.le_of_ble_eq_true rfl) ⟨Nat.le_refl _, Nat.le_refl _⟩ dX7_copy_104 ?_
                clear hB
                try clear locs
                try clear H
                intro u10 H locs hp hB
                replace hB : zB D A s ([((bd 31), .inr (7, [.ref (bd 0), .ref (bd 1), .ref (na 6), .ref (na 7), .ref (bd 2), .ref (bd 3), .ref (bd 4), .ref (bd 5), .ref (bd 6)])), ((bd 6), .inr (5, [.ref (bd 25), .ref (bd 30), .int la9])), ((bd 25), .inl (ka 4, 4, .inr (.inr (.inr (.inr (nB bd)))))), ((bd 26), .inl (ka 1, 40, .inr (.inl ((mvR rw9 sg ix tg jx nx) 0)))), ((bd 27), .inl (ka 1, 40, .inr (.inl ((mvR rw9 sg ix tg jx nx) 1)))), ((bd 28), .inl (ka 1, 40, .inr (.inl ((mvR rw9 sg ix tg jx nx) 2)))), ((bd 29), .inl (ka 1, 40, .inr (.inl ((mvR rw9 sg ix tg jx nx) 3)))), ((bd 30), .inl (ka 0, 4, .inl sz))]) H locs := hB
                refine lv_iconst (v := 1) hx hb dX7_copy_107 (by decide) ?_
                exact zreti hF hB (mvR rw9 sg ix tg jx nx) (⟨by rw [cpA, if_neg (fun e8 => e8 ⟨hsg1, htg1⟩), hcf] <;> rfl, fun a9 j9 _ _ => by rw [mv_eq]; unfold cpI; rw [(show (nI sg).toInt.toNat = sg from rsg), (show (nI tg).toInt.toNat = tg from rtg), show (nI ix).toInt.toNat = ix from rix, show (nI jx).toInt.toNat = jx from rjx, show (nI nx).toInt.toNat = nx from rnx]; exact if_cg ⟨fun e8 => ⟨⟨hsg1, htg1, hcf⟩, e8⟩, fun e8 => e8.2⟩⟩) (by rw [hcf] <;> rfl) (rfl) dX7_copy_108 hQ
              · skip
                refine lv_aload_n hx hb dX7_copy_84 rfl (lv_at hl 0 rfl) ?_
                refine zget zf_X7_61 hF hB 0 rfl rfl dX7_copy_85 ?_
                refine lv_iconst (v := 2) hx hb dX7_copy_88 (by decide) ?_
                refine zVi zm_X7_80 hF hB (c_X5_find l D ka kb bd la9 (2 : Int32) ) [1] rfl (by decide) [(bd 6)] (fun _ => rfl) rfl 1 5 rfl rfl rfl ⟨Nat.le_of_ble_eq_true rfl, Nat.le_of_ble_eq_true rfl⟩ rfl hl.1 (Nat.le_of_ble_eq_true rfl) ⟨Nat.le_refl _, Nat.le_refl _⟩ dX7_copy_89 ?_
                clear hB
                try clear locs
                try clear H
                intro r11 u11 H locs hp hB
                obtain rfl : r11 = (-10 : Int32) - (2 : Int32) := hp
                replace hB : zB D A s ([((bd 31), .inr (7, [.ref (bd 0), .ref (bd 1), .ref (na 6), .ref (na 7), .ref (bd 2), .ref (bd 3), .ref (bd 4), .ref (bd 5), .ref (bd 6)])), ((bd 6), .inr (5, [.ref (bd 25), .ref (bd 30), .int (2 : Int32)])), ((bd 25), .inl (ka 4, 4, .inr (.inr (.inr (.inr (nB bd)))))), ((bd 26), .inl (ka 1, 40, .inr (.inl (rw9 0)))), ((bd 27), .inl (ka 1, 40, .inr (.inl (rw9 1)))), ((bd 28), .inl (ka 1, 40, .inr (.inl (rw9 2)))), ((bd 29), .inl (ka 1, 40, .inr (.inl (rw9 3)))), ((bd 30), .inl (ka 0, 4, .inl sz))]) H locs := hB
                have hcf : cpF (nI sg) ii (nI tg) jj nn sz = 2 := by rw [cpF, if_neg (fun e8 => e8 ⟨hsg1, htg1⟩), (show (nI sg).toInt.toNat = sg from rsg), (show (nI tg).toInt.toNat = tg from rtg), if_neg (fun e8 => e8.elim (dB_f.mp (bI_eq0 h27)) (dB_f.mp (bI_eq0 h38))), if_neg (fun e8 => by have e6 := dB_t.mp e8; have e7 := dB_t.mp (bI_ne0 h81); omega)]
                exact zreti hF hB rw9 (⟨by rw [cpA, if_neg (fun e8 => e8 ⟨hsg1, htg1⟩), hcf] <;> rfl, fun a9 j9 _ _ => (if_neg (fun e8 => by have e7 := e8.1.2.2; rw [hcf] at e7; exact absurd e7 (by decide))).symm⟩) (by rw [hcf] <;> rfl) (rfl) dX7_copy_92 hQ
        · skip
          refine lv_aload_n hx hb dX7_copy_41 rfl (lv_at hl 0 rfl) ?_
          refine zget zf_X7_61 hF hB 0 rfl rfl dX7_copy_42 ?_
          refine lv_iconst (v := 1) hx hb dX7_copy_45 (by decide) ?_
          refine zVi zm_X7_80 hF hB (c_X5_find l D ka kb bd la9 (1 : Int32) ) [1] rfl (by decide) [(bd 6)] (fun _ => rfl) rfl 1 5 rfl rfl rfl ⟨Nat.le_of_ble_eq_true rfl, Nat.le_of_ble_eq_true rfl⟩ rfl hl.1 (Nat.le_of_ble_eq_true rfl) ⟨Nat.le_refl _, Nat.le_refl _⟩ dX7_copy_46 ?_
          clear hB
          try clear locs
          try clear H
          intro r12 u12 H locs hp hB
          obtain rfl : r12 = (-10 : Int32) - (1 : Int32) := hp
          replace hB : zB D A s ([((bd 31), .inr (7, [.ref (bd 0), .ref (bd 1), .ref (na 6), .ref (na 7), .ref (bd 2), .ref (bd 3), .ref (bd 4), .ref (bd 5), .ref (bd 6)])), ((bd 6), .inr (5, [.ref (bd 25), .ref (bd 30), .int (1 : Int32)])), ((bd 25), .inl (ka 4, 4, .inr (.inr (.inr (.inr (nB bd)))))), ((bd 26), .inl (ka 1, 40, .inr (.inl (rw9 0)))), ((bd 27), .inl (ka 1, 40, .inr (.inl (rw9 1)))), ((bd 28), .inl (ka 1, 40, .inr (.inl (rw9 2)))), ((bd 29), .inl (ka 1, 40, .inr (.inl (rw9 3)))), ((bd 30), .inl (ka 0, 4, .inl sz))]) H locs := hB
          have hcf : cpF (nI sg) ii (nI tg) jj nn sz = 1 := by rw [cpF, if_neg (fun e8 => e8 ⟨hsg1, htg1⟩), (show (nI sg).toInt.toNat = sg from rsg), (show (nI tg).toInt.toNat = tg from rtg), if_pos (Or.inr (dB_t.mp (bI_ne0 h38)))]
          exact zreti hF hB rw9 (⟨by rw [cpA, if_neg (fun e8 => e8 ⟨hsg1, htg1⟩), hcf] <;> rfl, fun a9 j9 _ _ => (if_neg (fun e8 => by have e7 := e8.1.2.2; rw [hcf] at e7; exact absurd e7 (by decide))).symm⟩) (by rw [hcf] <;> rfl) (rfl) dX7_copy_49 hQ
    · skip
      replace h13 := (b9_t h13)
      refine lv_bipush (v := -2) hx hb dX7_copy_16 (by decide) ?_
      have hK : ¬ (inI (nI sg) 4 = true ∧ inI tt 4 = true) := fun e8 => absurd (h13.symm.trans e8.2) (by decide)
      exact zreti hF hB rw9 (⟨by rw [cpA, if_pos hK], fun a9 j9 _ _ => (if_neg (fun e8 => hK ⟨e8.1.1, e8.1.2.1⟩)).symm⟩) (by rw [cpF, if_pos hK] <;> rfl) (rfl) dX7_copy_18 hQ

set_option maxHeartbeats 4000000 in
set_option maxRecDepth 100000 in
theorem c_X7_write (l : Launch) (D : va_G) (ka : Nat → ClassId) (kb : Nat → Nat) (bd : Nat → Nat) (na : Nat → Nat) (la9 : Int32) (sz : Nat → Int32) (rw9 : Nat → Nat → Int64) (N : Nat → N5) (ss : Int32) (hsz : okSz sz) : zI l D ka kb yX7_write cX7_write 4 .int 1 60 [.ref (bd 31), .int ss] ([((bd 31), .inr (7, [.ref (bd 0), .ref (bd 1), .ref (na 6), .ref (na 7), .ref (bd 2), .ref (bd 3), .ref (bd 4), .ref (bd 5), .ref (bd 6)])), ((bd 6), .inr (5, [.ref (bd 25), .ref (bd 30), .int la9])), ((bd 25), .inl (ka 4, 4, .inr (.inr (.inr (.inr (nB bd)))))), ((bd 26), .inl (ka 1, 40, .inr (.inl (rw9 0)))), ((bd 27), .inl (ka 1, 40, .inr (.inl (rw9 1)))), ((bd 28), .inl (ka 1, 40, .inr (.inl (rw9 2)))), ((bd 29), .inl (ka 1, 40, .inr (.inl (rw9 3)))), ((bd 30), .inl (ka 0, 4, .inl sz)), ((bd 1), .inl (ka 3, 6, .inr (.inr (.inr (.inr (nR na 0))))))] ++ nP na N) (fun (r : Int32) (rw2 : Nat → Nat → Int64) => r = wrA ss sz ∧ eqI rw2 (wrI ss sz (nN N) rw9)) (fun (rw2 : Nat → Nat → Int64) => [((bd 31), .inr (7, [.ref (bd 0), .ref (bd 1), .ref (na 6), .ref (na 7), .ref (bd 2), .ref (bd 3), .ref (bd 4), .ref (bd 5), .ref (bd 6)])), ((bd 6), .inr (5, [.ref (bd 25), .ref (bd 30), .int (laF (wrF ss sz) la9)])), ((bd 25), .inl (ka 4, 4, .inr (.inr (.inr (.inr (nB bd)))))), ((bd 26), .inl (ka 1, 40, .inr (.inl (rw2 0)))), ((bd 27), .inl (ka 1, 40, .inr (.inl (rw2 1)))), ((bd 28), .inl (ka 1, 40, .inr (.inl (rw2 2)))), ((bd 29), .inl (ka 1, 40, .inr (.inl (rw2 3)))), ((bd 30), .inl (ka 0, 4, .inl sz)), ((bd 1), .inl (ka 3, 6, .inr (.inr (.inr (.inr (nR na 0))))))] ++ nP na N) := by
  refine zI.mk RX7 (by decide +kernel) rfl (Nat.le_of_ble_eq_true rfl) ?_
  intro p e s m below meth c A ls args Q hQ hx hb hF hB hl
  replace hl : lv_has ls 4 [(0, .ref (bd 31)), (1, .int ss)] := hl
  refine lv_iload_n hx hb dX7_write_0 rfl (lv_at hl 1 rfl) ?_
  refine lv_iconst (v := 4) hx hb dX7_write_1 (by decide) ?_
  refine zSi zm_X7_65 hF hB (c_X7_isOutside l D ka kb ss 4 (by decide)) [] rfl (by decide) [] (fun _ => rfl) rfl rfl ⟨Nat.le_of_ble_eq_true rfl, Nat.le_of_ble_eq_true rfl⟩ rfl hl.1 (Nat.le_of_ble_eq_true rfl) ⟨Nat.le_refl _, Nat.le_refl _⟩ dX7_write_2 ?_
  clear hB
  try clear locs
  try clear H
  intro r1 u1 H locs hp hB
  obtain rfl : r1 = bI (!(inI ss 4)) := hp
  replace hB : zB D A s ([((bd 31), .inr (7, [.ref (bd 0), .ref (bd 1), .ref (na 6), .ref (na 7), .ref (bd 2), .ref (bd 3), .ref (bd 4), .ref (bd 5), .ref (bd 6)])), ((bd 6), .inr (5, [.ref (bd 25), .ref (bd 30), .int la9])), ((bd 25), .inl (ka 4, 4, .inr (.inr (.inr (.inr (nB bd)))))), ((bd 26), .inl (ka 1, 40, .inr (.inl (rw9 0)))), ((bd 27), .inl (ka 1, 40, .inr (.inl (rw9 1)))), ((bd 28), .inl (ka 1, 40, .inr (.inl (rw9 2)))), ((bd 29), .inl (ka 1, 40, .inr (.inl (rw9 3)))), ((bd 30), .inl (ka 0, 4, .inl sz)), ((bd 1), .inl (ka 3, 6, .inr (.inr (.inr (.inr (nR na 0))))))] ++ nP na N) H locs := hB
  refine lv_if_eq (tgt := 11) hx hb dX7_write_5 (by decide) (fun h5 => ?_) (fun h5 => ?_)
  · skip
    replace h5 := (b9_f h5)
    obtain ⟨sg, hsg2, hsg3⟩ := inI_of h5 (by decide)
    subst hsg3
    have rsg : aN (nI sg) = sg := aNn hsg2 (by decide)
    have hsg1 : inI (nI sg) 4 = true := h5
    refine lv_aload_n hx hb dX7_write_11 rfl (lv_at hl 0 rfl) ?_
    refine zget zf_X7_61 hF hB 0 rfl rfl dX7_write_12 ?_
    refine lv_iload_n hx hb dX7_write_15 rfl (lv_at hl 1 rfl) ?_
    refine zVi zm_X7_76 hF hB (c_X5_isLost l D ka kb bd la9 sz sg (hsg2)) [1, 7] rfl (by decide) [(bd 6), (bd 30)] (fun _ => rfl) rfl 1 5 rfl rfl rfl ⟨Nat.le_of_ble_eq_true rfl, Nat.le_of_ble_eq_true rfl⟩ rfl hl.1 (Nat.le_of_ble_eq_true rfl) ⟨Nat.le_refl _, Nat.le_refl _⟩ dX7_write_16 ?_
    clear hB
    try clear locs
    try clear H
    intro r2 u2 H locs hp hB
    obtain rfl : r2 = bI (dB (sz sg = -1)) := hp
    replace hB : zB D A s ([((bd 31), .inr (7, [.ref (bd 0), .ref (bd 1), .ref (na 6), .ref (na 7), .ref (bd 2), .ref (bd 3), .ref (bd 4), .ref (bd 5), .ref (bd 6)])), ((bd 6), .inr (5, [.ref (bd 25), .ref (bd 30), .int la9])), ((bd 25), .inl (ka 4, 4, .inr (.inr (.inr (.inr (nB bd)))))), ((bd 26), .inl (ka 1, 40, .inr (.inl (rw9 0)))), ((bd 27), .inl (ka 1, 40, .inr (.inl (rw9 1)))), ((bd 28), .inl (ka 1, 40, .inr (.inl (rw9 2)))), ((bd 29), .inl (ka 1, 40, .inr (.inl (rw9 3)))), ((bd 30), .inl (ka 0, 4, .inl sz)), ((bd 1), .inl (ka 3, 6, .inr (.inr (.inr (.inr (nR na 0))))))] ++ nP na N) H locs := hB
    refine lv_if_eq (tgt := 31) hx hb dX7_write_19 (by decide) (fun h19 => ?_) (fun h19 => ?_)
    · skip
      have hls : ¬ sz sg = -1 := dB_f.mp (bI_eq0 h19)
      have h40 := (hsz sg hsg2).resolve_left hls
      have hwA : ∃ kw, kw ≤ 30 ∧ wrA (nI sg) sz = nI kw := by
        have e30 : (30 : Int32).toInt = 30 := rfl
        rw [wrA, if_neg (fun e8 => e8 hsg1), (show (nI sg).toInt.toNat = sg from rsg), if_neg hls]
        by_cases e8 : sz sg < 30
        · rw [if_pos e8]
          have e7 := (i32_lt_i _ _).mp e8
          exact ⟨aN (sz sg), by unfold aN; omega, ofNat_of h40.1⟩
        · rw [if_neg e8]; exact ⟨30, by omega, rfl⟩
      obtain ⟨kw, hkw, hwA⟩ := hwA
      have rkw : aN (nI kw) = kw := aNn (n := 31) (by omega) (by decide)
      refine lv_aload_n hx hb dX7_write_31 rfl (lv_at hl 0 rfl) ?_
      refine zget zf_X7_61 hF hB 0 rfl rfl dX7_write_32 ?_
      refine lv_iload_n hx hb dX7_write_35 rfl (lv_at hl 1 rfl) ?_
      refine zVi zm_X7_252 hF hB (c_X5_items l D ka kb bd la9 sz sg (hsg2)) [1, 7] rfl (by decide) [(bd 6), (bd 30)] (fun _ => rfl) rfl 1 5 rfl rfl rfl ⟨Nat.le_of_ble_eq_true rfl, Nat.le_of_ble_eq_true rfl⟩ rfl hl.1 (Nat.le_of_ble_eq_true rfl) ⟨Nat.le_refl _, Nat.le_refl _⟩ dX7_write_36 ?_
      clear hB
      try clear locs
      try clear H
      intro r3 u3 H locs hp hB
      obtain rfl : r3 = sz sg := hp
      replace hB : zB D A s ([((bd 31), .inr (7, [.ref (bd 0), .ref (bd 1), .ref (na 6), .ref (na 7), .ref (bd 2), .ref (bd 3), .ref (bd 4), .ref (bd 5), .ref (bd 6)])), ((bd 6), .inr (5, [.ref (bd 25), .ref (bd 30), .int la9])), ((bd 25), .inl (ka 4, 4, .inr (.inr (.inr (.inr (nB bd)))))), ((bd 26), .inl (ka 1, 40, .inr (.inl (rw9 0)))), ((bd 27), .inl (ka 1, 40, .inr (.inl (rw9 1)))), ((bd 28), .inl (ka 1, 40, .inr (.inl (rw9 2)))), ((bd 29), .inl (ka 1, 40, .inr (.inl (rw9 3)))), ((bd 30), .inl (ka 0, 4, .inl sz)), ((bd 1), .inl (ka 3, 6, .inr (.inr (.inr (.inr (nR na 0))))))] ++ nP na N) H locs := hB
      refine lv_bipush (v := 30) hx hb dX7_write_39 (by decide) ?_
      refine zmini ww_39_4 hF hl.1 (Nat.le_of_ble_eq_true rfl) (Nat.le_of_ble_eq_true rfl) ⟨Nat.le_refl _, Nat.le_refl _⟩ dX7_write_41 ?_
      refine ztopi (y := nI kw) (wr_min hls hsg1 rsg hwA) ?_
      refine lv_istore_n (lv' := [(2, .int (nI kw)), (0, .ref (bd 31)), (1, .int (nI sg))]) hx hb dX7_write_44 rfl hl (by decide) rfl ?_
      clear hl
      clear ls
      intro ls hl
      refine lv_iconst (v := 0) hx hb dX7_write_45 (by decide) ?_
      refine lv_istore_n (lv' := [(3, .int (0 : Int32)), (2, .int (nI kw)), (0, .ref (bd 31)), (1, .int (nI sg))]) hx hb dX7_write_46 rfl hl (by decide) rfl ?_
      clear hl
      clear ls
      intro ls hl
      have lp47 : ∀ (fl : Nat) (i : Nat), (hi : i ≤ kw) → kw - i < fl → ∀ (H : Heap) (locs : List Loc), zB D A s ([((bd 31), .inr (7, [.ref (bd 0), .ref (bd 1), .ref (na 6), .ref (na 7), .ref (bd 2), .ref (bd 3), .ref (bd 4), .ref (bd 5), .ref (bd 6)])), ((bd 6), .inr (5, [.ref (bd 25), .ref (bd 30), .int la9])), ((bd 25), .inl (ka 4, 4, .inr (.inr (.inr (.inr (nB bd)))))), ((bd 26), .inl (ka 1, 40, .inr (.inl (wrL N rw9 sg i 0)))), ((bd 27), .inl (ka 1, 40, .inr (.inl (wrL N rw9 sg i 1)))), ((bd 28), .inl (ka 1, 40, .inr (.inl (wrL N rw9 sg i 2)))), ((bd 29), .inl (ka 1, 40, .inr (.inl (wrL N rw9 sg i 3)))), ((bd 30), .inl (ka 0, 4, .inl sz)), ((bd 1), .inl (ka 3, 6, .inr (.inr (.inr (.inr (nR na 0))))))] ++ nP na N) H locs → ∀ ls : Array Slot, lv_has ls 4 [(3, .int (nI i)), (2, .int (nI kw)), (0, .ref (bd 31)), (1, .int (nI sg))] → W p l e (zRm 1 60 0 0) s m args below meth c H locs 0 0 Q (F0 m 47 ls []) := by
        intro fl
        induction fl with
        | zero => intro i hi hfl; exact absurd hfl (Nat.not_lt_zero _)
        | succ fl ih47 =>
          intro i hi hfl47 H locs hB ls hl
          refine lv_iload_n hx hb dX7_write_47 rfl (lv_at hl 0 rfl) ?_
          refine lv_iload_n hx hb dX7_write_48 rfl (lv_at hl 1 rfl) ?_
          refine lv_icmp_ge (tgt := 81) hx hb dX7_write_49 (by decide) (fun h49 => ?_) (fun h49 => ?_)
          · skip
            have hie : i = kw := by have := (nI_leI (by omega) (by omega)).mp h49; omega
            refine lv_iload_n hx hb dX7_write_81 rfl (lv_at hl 1 rfl) ?_
            exact zreti hF hB (wrL N rw9 sg kw) (⟨hwA.symm, fun a9 j9 _ _ => by unfold wrL wrI; rw [hwA, (show (nI sg).toInt.toNat = sg from rsg), show (nI kw).toInt.toNat = kw from rkw]; exact if_cg ⟨fun e8 => ⟨⟨hsg1, hls⟩, e8⟩, fun e8 => e8.2⟩⟩) (by rw [wrF, if_neg (fun e8 => e8 hsg1), (show (nI sg).toInt.toNat = sg from rsg), if_neg hls, hie] <;> rfl) (rfl) dX7_write_82 hQ
          · skip
            have hi2 : i < kw := Nat.not_le.mp (fun e9 => h49 ((nI_leI (by omega) (by omega)).mpr e9))
            refine lv_aload_n hx hb dX7_write_52 rfl (lv_at hl 2 rfl) ?_
            refine zget zf_X7_61 hF hB 0 rfl rfl dX7_write_53 ?_
            refine lv_iload_n hx hb dX7_write_56 rfl (lv_at hl 3 rfl) ?_
            refine lv_iload_n hx hb dX7_write_57 rfl (lv_at hl 0 rfl) ?_
            refine lv_aload_n hx hb dX7_write_58 rfl (lv_at hl 2 rfl) ?_
            refine zget zf_X7_18 hF hB 0 rfl rfl dX7_write_59 ?_
            refine lv_iload_n hx hb dX7_write_62 rfl (lv_at hl 0 rfl) ?_
            refine lv_iconst (v := 5) hx hb dX7_write_63 (by decide) ?_
            refine lv_idiv hx hb dX7_write_64 (by decide) ?_
            refine ztopi (y := nI (i / 5)) (dv_i (by omega)) ?_
            refine zaald hF hB 8 rfl (t0 := 3) rfl (i / 5) (rfl) (by omega) (by decide) (r := na (i / 5)) (nR_0 _ _) dX7_write_65 ?_
            refine lv_iload_n hx hb dX7_write_66 rfl (lv_at hl 0 rfl) ?_
            refine lv_iconst (v := 5) hx hb dX7_write_67 (by decide) ?_
            refine lv_irem hx hb dX7_write_68 (by decide) ?_
            refine ztopi (y := nI (i % 5)) (pk_rem (a := i) (d := 5) (by omega) (by decide) (by decide)) ?_
            refine zVl zm_X7_113 hF hB (c_X1_item l D ka kb (na (i / 5)) (N (i / 5)) (i % 5) (by omega)) [9 + (i / 5)] (zsel_num rfl (by omega)) (va_nd_1 _) [na (i / 5)] (fun _ => rfl) rfl (9 + (i / 5)) 1 rfl (nP_atn rfl (by omega)) rfl ⟨Nat.le_of_ble_eq_true rfl, Nat.le_of_ble_eq_true rfl⟩ rfl hl.1 (Nat.le_of_ble_eq_true rfl) ⟨Nat.le_refl _, Nat.le_refl _⟩ dX7_write_69 ?_
            clear hB
            try clear locs
            try clear H
            intro r4 u4 H locs hp hB
            obtain rfl : r4 = cmp5 (N (i / 5)) (i % 5) := hp
            replace hB : zB D A s ([((bd 31), .inr (7, [.ref (bd 0), .ref (bd 1), .ref (na 6), .ref (na 7), .ref (bd 2), .ref (bd 3), .ref (bd 4), .ref (bd 5), .ref (bd 6)])), ((bd 6), .inr (5, [.ref (bd 25), .ref (bd 30), .int la9])), ((bd 25), .inl (ka 4, 4, .inr (.inr (.inr (.inr (nB bd)))))), ((bd 26), .inl (ka 1, 40, .inr (.inl (wrL N rw9 sg i 0)))), ((bd 27), .inl (ka 1, 40, .inr (.inl (wrL N rw9 sg i 1)))), ((bd 28), .inl (ka 1, 40, .inr (.inl (wrL N rw9 sg i 2)))), ((bd 29), .inl (ka 1, 40, .inr (.inl (wrL N rw9 sg i 3)))), ((bd 30), .inl (ka 0, 4, .inl sz)), ((bd 1), .inl (ka 3, 6, .inr (.inr (.inr (.inr (nR na 0))))))] ++ nP na N) H locs := (by have e9 := zB_num (X := (N (i / 5))) hB rfl (by omega); rw [upN_id] at e9; exact e9)
            refine zVv zm_X7_258 hF hB (c_X5_store l D ka kb bd la9 (wrL N rw9 sg i) sg i (cmp5 (N (i / 5)) (i % 5)) (hsg2) (by omega)) [1, 2, 3, 4, 5, 6] rfl (by decide) [(bd 6), (bd 25), (bd 26), (bd 27), (bd 28), (bd 29)] (fun _ => rfl) rfl 1 5 rfl rfl rfl ⟨Nat.le_of_ble_eq_true rfl, Nat.le_of_ble_eq_true rfl⟩ rfl hl.1 (Nat.le_of_ble_eq_true rfl) ⟨Nat.le_refl _, Nat.le_refl _⟩ dX7_write_72 ?_
            clear hB
            try clear locs
            try clear H
            intro u5 H locs hp hB
            replace hB : zB D A s ([((bd 31), .inr (7, [.ref (bd 0), .ref (bd 1), .ref (na 6), .ref (na 7), .ref (bd 2), .ref (bd 3), .ref (bd 4), .ref (bd 5), .ref (bd 6)])), ((bd 6), .inr (5, [.ref (bd 25), .ref (bd 30), .int la9])), ((bd 25), .inl (ka 4, 4, .inr (.inr (.inr (.inr (nB bd)))))), ((bd 26), .inl (ka 1, 40, .inr (.inl ((upR (wrL N rw9 sg i) sg i (cmp5 (N (i / 5)) (i % 5))) 0)))), ((bd 27), .inl (ka 1, 40, .inr (.inl ((upR (wrL N rw9 sg i) sg i (cmp5 (N (i / 5)) (i % 5))) 1)))), ((bd 28), .inl (ka 1, 40, .inr (.inl ((upR (wrL N rw9 sg i) sg i (cmp5 (N (i / 5)) (i % 5))) 2)))), ((bd 29), .inl (ka 1, 40, .inr (.inl ((upR (wrL N rw9 sg i) sg i (cmp5 (N (i / 5)) (i % 5))) 3)))), ((bd 30), .inl (ka 0, 4, .inl sz)), ((bd 1), .inl (ka 3, 6, .inr (.inr (.inr (.inr (nR na 0))))))] ++ nP na N) H locs := hB
            refine lv_iinc (v := nI (i + 1)) (lv' := [(3, .int (nI (i + 1))), (2, .int (nI kw)), (0, .ref (bd 31)), (1, .int (nI sg))]) hx hb dX7_write_75 hl (k := 0) rfl (nI_1 _) (by decide) rfl ?_
            clear hl
            clear ls
            intro ls hl
            refine lv_goto (tgt := 47) hx hb dX7_write_78 (by decide) ?_
            exact ih47 (i + 1) (by omega) (by omega) _ _ (by rw [wrL_s] at hB; exact hB) _ (lv_sub hl [0, 1, 2, 3] rfl)
      exact lp47 (kw - 0 + 1) 0 (Nat.zero_le _) (by omega) _ _ (by rw [wrL_0]; exact hB) _ (lv_sub hl [0, 1, 2, 3] rfl)
    · skip
      have hls : sz sg = -1 := dB_t.mp (bI_ne0 h19)
      refine lv_aload_n hx hb dX7_write_22 rfl (lv_at hl 0 rfl) ?_
      refine zget zf_X7_61 hF hB 0 rfl rfl dX7_write_23 ?_
      refine lv_iconst (v := 1) hx hb dX7_write_26 (by decide) ?_
      refine zVi zm_X7_80 hF hB (c_X5_find l D ka kb bd la9 (1 : Int32) ) [1] rfl (by decide) [(bd 6)] (fun _ => rfl) rfl 1 5 rfl rfl rfl ⟨Nat.le_of_ble_eq_true rfl, Nat.le_of_ble_eq_true rfl⟩ rfl hl.1 (Nat.le_of_ble_eq_true rfl) ⟨Nat.le_refl _, Nat.le_refl _⟩ dX7_write_27 ?_
      clear hB
      try clear locs
      try clear H
      intro r6 u6 H locs hp hB
      obtain rfl : r6 = (-10 : Int32) - (1 : Int32) := hp
      replace hB : zB D A s ([((bd 31), .inr (7, [.ref (bd 0), .ref (bd 1), .ref (na 6), .ref (na 7), .ref (bd 2), .ref (bd 3), .ref (bd 4), .ref (bd 5), .ref (bd 6)])), ((bd 6), .inr (5, [.ref (bd 25), .ref (bd 30), .int (1 : Int32)])), ((bd 25), .inl (ka 4, 4, .inr (.inr (.inr (.inr (nB bd)))))), ((bd 26), .inl (ka 1, 40, .inr (.inl (rw9 0)))), ((bd 27), .inl (ka 1, 40, .inr (.inl (rw9 1)))), ((bd 28), .inl (ka 1, 40, .inr (.inl (rw9 2)))), ((bd 29), .inl (ka 1, 40, .inr (.inl (rw9 3)))), ((bd 30), .inl (ka 0, 4, .inl sz)), ((bd 1), .inl (ka 3, 6, .inr (.inr (.inr (.inr (nR na 0))))))] ++ nP na N) H locs := hB
      exact zreti hF hB rw9 (⟨by rw [wrA, if_neg (fun e8 => e8 hsg1), (show (nI sg).toInt.toNat = sg from rsg), if_pos hls] <;> rfl, fun a9 j9 _ _ => (if_neg (fun e8 => by have e7 := e8.1.2; rw [(show (nI sg).toInt.toNat = sg from rsg)] at e7; exact e7 hls)).symm⟩) (by rw [wrF, if_neg (fun e8 => e8 hsg1), (show (nI sg).toInt.toNat = sg from rsg), if_pos hls] <;> rfl) (rfl) dX7_write_30 hQ
  · skip
    replace h5 := (b9_t h5)
    refine lv_bipush (v := -2) hx hb dX7_write_8 (by decide) ?_
    have hK : ¬ inI ss 4 = true := by rw [h5]; decide
    exact zreti hF hB rw9 (⟨by rw [wrA, if_pos hK], fun a9 j9 _ _ => (if_neg (fun e8 => hK e8.1.1)).symm⟩) (by rw [wrF, if_pos hK] <;> rfl) (rfl) dX7_write_10 hQ
