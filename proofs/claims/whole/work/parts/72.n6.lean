def nB (bd : Nat → Nat) : Nat → Option Nat := fun j => some (bd (26 + j))
def upR (f : Nat → Nat → Int64) (s i : Nat) (v : Int64) : Nat → Nat → Int64 := fun a => if a = s then vp_updL (f s) i v else f a
def zfR (f : Nat → Nat → Int64) (s n : Nat) : Nat → Nat → Int64 := fun a => if a = s then zfill (f s) 0 n else f a
def mvR (f : Nat → Nat → Int64) (s i t j n : Nat) : Nat → Nat → Int64 := fun a => if a = t then va_cpy (f s) (f t) i j n else f a
set_option maxHeartbeats 4000000 in
set_option maxRecDepth 100000 in
theorem c_X5_find (l : Launch) (D : va_G) (ka : Nat → ClassId) (kb : Nat → Nat) (bd : Nat → Nat) (la9 : Int32) (v : Int32)  : zI l D ka kb yX5_find cX5_find 2 .int 0 0 [.ref (bd 6), .int v] ([((bd 6), .inr (5, [.ref (bd 25), .ref (bd 30), .int la9]))]) (fun (r : Int32) (_ : Unit) => r = (-10 : Int32) - v) (fun (_ : Unit) => [((bd 6), .inr (5, [.ref (bd 25), .ref (bd 30), .int v]))]) := by
  refine zI.mk RX5 (by decide +kernel) rfl (Nat.le_of_ble_eq_true rfl) ?_
  intro p e s m below meth c A ls args Q hQ hx hb hF hB hl
  replace hl : lv_has ls 2 [(0, .ref (bd 6)), (1, .int v)] := hl
  refine lv_aload_n hx hb dX5_find_0 rfl (lv_at hl 0 rfl) ?_
  refine lv_iload_n hx hb dX5_find_1 rfl (lv_at hl 1 rfl) ?_
  refine zput_f zp_X5_20 hF hB 0 rfl (rfl) (rfl) (Nat.le_of_ble_eq_true rfl) dX5_find_2 ?_
  clear hB
  try clear locs
  try clear H
  intro H locs hB
  replace hB : zB D A s ([((bd 6), .inr (5, [.ref (bd 25), .ref (bd 30), .int v]))]) H locs := hB
  refine lv_bipush (v := -10) hx hb dX5_find_5 (by decide) ?_
  refine lv_iload_n hx hb dX5_find_7 rfl (lv_at hl 1 rfl) ?_
  refine lv_isub hx hb dX5_find_8 ?_
  exact zreti hF hB () (rfl) (rfl) (rfl) dX5_find_9 hQ

set_option maxHeartbeats 4000000 in
set_option maxRecDepth 100000 in
theorem c_X5_latestFinding (l : Launch) (D : va_G) (ka : Nat → ClassId) (kb : Nat → Nat) (bd : Nat → Nat) (la9 : Int32)  : zI l D ka kb yX5_latestFinding cX5_latestFinding 1 .int 0 0 [.ref (bd 6)] ([((bd 6), .inr (5, [.ref (bd 25), .ref (bd 30), .int la9]))]) (fun (r : Int32) (_ : Unit) => r = la9) (fun (_ : Unit) => [((bd 6), .inr (5, [.ref (bd 25), .ref (bd 30), .int la9]))]) := by
  refine zI.mk RX5 (by decide +kernel) rfl (Nat.le_of_ble_eq_true rfl) ?_
  intro p e s m below meth c A ls args Q hQ hx hb hF hB hl
  replace hl : lv_has ls 1 [(0, .ref (bd 6))] := hl
  refine lv_aload_n hx hb dX5_latestFinding_0 rfl (lv_at hl 0 rfl) ?_
  refine zget zf_X5_20 hF hB 0 rfl rfl dX5_latestFinding_1 ?_
  exact zreti hF hB () (rfl) (rfl) (rfl) dX5_latestFinding_4 hQ

set_option maxHeartbeats 4000000 in
set_option maxRecDepth 100000 in
theorem c_X5_isLost (l : Launch) (D : va_G) (ka : Nat → ClassId) (kb : Nat → Nat) (bd : Nat → Nat) (la9 : Int32) (sz : Nat → Int32) (s9 : Nat) (hs9 : s9 < 4) : zI l D ka kb yX5_isLost cX5_isLost 2 .boolean 0 0 [.ref (bd 6), .int (nI s9)] ([((bd 6), .inr (5, [.ref (bd 25), .ref (bd 30), .int la9])), ((bd 30), .inl (ka 0, 4, .inl sz))]) (fun (r : Int32) (_ : Unit) => r = bI (dB (sz s9 = -1))) (fun (_ : Unit) => [((bd 6), .inr (5, [.ref (bd 25), .ref (bd 30), .int la9])), ((bd 30), .inl (ka 0, 4, .inl sz))]) := by
  refine zI.mk RX5 (by decide +kernel) rfl (Nat.le_of_ble_eq_true rfl) ?_
  intro p e s m below meth c A ls args Q hQ hx hb hF hB hl
  replace hl : lv_has ls 2 [(0, .ref (bd 6)), (1, .int (nI s9))] := hl
  refine lv_aload_n hx hb dX5_isLost_0 rfl (lv_at hl 0 rfl) ?_
  refine zget zf_X5_16 hF hB 0 rfl rfl dX5_isLost_1 ?_
  refine lv_iload_n hx hb dX5_isLost_4 rfl (lv_at hl 1 rfl) ?_
  refine ziald hF hB 1 rfl s9 (rfl) (by omega) (by decide) (v := (sz s9)) (rfl) dX5_isLost_5 ?_
  refine lv_iconst (v := -1) hx hb dX5_isLost_6 (by decide) ?_
  refine lv_icmp_ne (tgt := 14) hx hb dX5_isLost_7 (by decide) (fun h7 => ?_) (fun h7 => ?_)
  · skip
    refine lv_iconst (v := 0) hx hb dX5_isLost_14 (by decide) ?_
    refine ztopi (y := bI (dB (sz s9 = -1))) (bI_0 (dB_f.mpr h7)) ?_
    exact zreti hF hB () (rfl) (rfl) (zbI_n _) dX5_isLost_15 hQ
  · skip
    refine lv_iconst (v := 1) hx hb dX5_isLost_10 (by decide) ?_
    refine ztopi (y := bI (dB (sz s9 = -1))) (bI_1 (dB_t.mpr h7)) ?_
    refine lv_goto (tgt := 15) hx hb dX5_isLost_11 (by decide) ?_
    exact zreti hF hB () (rfl) (rfl) (zbI_n _) dX5_isLost_15 hQ

set_option maxHeartbeats 4000000 in
set_option maxRecDepth 100000 in
theorem c_X5_lacks (l : Launch) (D : va_G) (ka : Nat → ClassId) (kb : Nat → Nat) (bd : Nat → Nat) (la9 : Int32) (sz : Nat → Int32) (s9 : Nat) (i : Int32) (n : Int32) (hs9 : s9 < 4) (hsz : -1 ≤ (sz s9).toInt ∧ (sz s9).toInt ≤ 40) (hn : 0 ≤ n.toInt) : zI l D ka kb yX5_lacks cX5_lacks 4 .boolean 0 0 [.ref (bd 6), .int (nI s9), .int i, .int n] ([((bd 6), .inr (5, [.ref (bd 25), .ref (bd 30), .int la9])), ((bd 30), .inl (ka 0, 4, .inl sz))]) (fun (r : Int32) (_ : Unit) => r = bI (dB (¬ (0 ≤ i.toInt ∧ i.toInt + n.toInt ≤ (sz s9).toInt)))) (fun (_ : Unit) => [((bd 6), .inr (5, [.ref (bd 25), .ref (bd 30), .int la9])), ((bd 30), .inl (ka 0, 4, .inl sz))]) := by
  refine zI.mk RX5 (by decide +kernel) rfl (Nat.le_of_ble_eq_true rfl) ?_
  intro p e s m below meth c A ls args Q hQ hx hb hF hB hl
  replace hl : lv_has ls 4 [(0, .ref (bd 6)), (1, .int (nI s9)), (2, .int i), (3, .int n)] := hl
  have hnr := i32_rng n
  have hsn : (sz s9 - n).toInt = (sz s9).toInt - n.toInt := i32_sub (by omega)
  have e0 : (0 : Int32).toInt = 0 := rfl
  refine lv_iload_n hx hb dX5_lacks_0 rfl (lv_at hl 2 rfl) ?_
  refine lv_if_lt (tgt := 16) hx hb dX5_lacks_1 (by decide) (fun h1 => ?_) (fun h1 => ?_)
  · skip
    refine lv_iconst (v := 1) hx hb dX5_lacks_16 (by decide) ?_
    refine ztopi (y := bI (dB (¬ (0 ≤ i.toInt ∧ i.toInt + n.toInt ≤ (sz s9).toInt)))) (bI_1 (dB_t.mpr (fun e8 => by have e7 := (i32_lt_i _ _).mp h1; omega))) ?_
    refine lv_goto (tgt := 21) hx hb dX5_lacks_17 (by decide) ?_
    exact zreti hF hB () (rfl) (rfl) (zbI_n _) dX5_lacks_21 hQ
  · skip
    refine lv_iload_n hx hb dX5_lacks_4 rfl (lv_at hl 2 rfl) ?_
    refine lv_aload_n hx hb dX5_lacks_5 rfl (lv_at hl 0 rfl) ?_
    refine zget zf_X5_16 hF hB 0 rfl rfl dX5_lacks_6 ?_
    refine lv_iload_n hx hb dX5_lacks_9 rfl (lv_at hl 1 rfl) ?_
    refine ziald hF hB 1 rfl s9 (rfl) (by omega) (by decide) (v := (sz s9)) (rfl) dX5_lacks_10 ?_
    refine lv_iload_n hx hb dX5_lacks_11 rfl (lv_at hl 3 rfl) ?_
    refine lv_isub hx hb dX5_lacks_12 ?_
    refine lv_icmp_le (tgt := 20) hx hb dX5_lacks_13 (by decide) (fun h13 => ?_) (fun h13 => ?_)
    · skip
      refine lv_iconst (v := 0) hx hb dX5_lacks_20 (by decide) ?_
      refine ztopi (y := bI (dB (¬ (0 ≤ i.toInt ∧ i.toInt + n.toInt ≤ (sz s9).toInt)))) (bI_0 (dB_f.mpr (fun e8 => e8 (by have e7 := mt (i32_lt_i _ _).mpr h1; have e6 := (i32_le_i _ _).mp h13; omega)))) ?_
      exact zreti hF hB () (rfl) (rfl) (zbI_n _) dX5_lacks_21 hQ
    · skip
      refine lv_iconst (v := 1) hx hb dX5_lacks_16 (by decide) ?_
      refine ztopi (y := bI (dB (¬ (0 ≤ i.toInt ∧ i.toInt + n.toInt ≤ (sz s9).toInt)))) (bI_1 (dB_t.mpr (fun e8 => by have e7 := mt (i32_le_i _ _).mpr h13; omega))) ?_
      refine lv_goto (tgt := 21) hx hb dX5_lacks_17 (by decide) ?_
      exact zreti hF hB () (rfl) (rfl) (zbI_n _) dX5_lacks_21 hQ

set_option maxHeartbeats 4000000 in
set_option maxRecDepth 100000 in
theorem c_X5_items (l : Launch) (D : va_G) (ka : Nat → ClassId) (kb : Nat → Nat) (bd : Nat → Nat) (la9 : Int32) (sz : Nat → Int32) (s9 : Nat) (hs9 : s9 < 4) : zI l D ka kb yX5_items cX5_items 2 .int 0 0 [.ref (bd 6), .int (nI s9)] ([((bd 6), .inr (5, [.ref (bd 25), .ref (bd 30), .int la9])), ((bd 30), .inl (ka 0, 4, .inl sz))]) (fun (r : Int32) (_ : Unit) => r = sz s9) (fun (_ : Unit) => [((bd 6), .inr (5, [.ref (bd 25), .ref (bd 30), .int la9])), ((bd 30), .inl (ka 0, 4, .inl sz))]) := by
  refine zI.mk RX5 (by decide +kernel) rfl (Nat.le_of_ble_eq_true rfl) ?_
  intro p e s m below meth c A ls args Q hQ hx hb hF hB hl
  replace hl : lv_has ls 2 [(0, .ref (bd 6)), (1, .int (nI s9))] := hl
  refine lv_aload_n hx hb dX5_items_0 rfl (lv_at hl 0 rfl) ?_
  refine zget zf_X5_16 hF hB 0 rfl rfl dX5_items_1 ?_
  refine lv_iload_n hx hb dX5_items_4 rfl (lv_at hl 1 rfl) ?_
  refine ziald hF hB 1 rfl s9 (rfl) (by omega) (by decide) (v := (sz s9)) (rfl) dX5_items_5 ?_
  exact zreti hF hB () (rfl) (rfl) (rfl) dX5_items_6 hQ

set_option maxHeartbeats 4000000 in
set_option maxRecDepth 100000 in
theorem c_X5_drop (l : Launch) (D : va_G) (ka : Nat → ClassId) (kb : Nat → Nat) (bd : Nat → Nat) (la9 : Int32) (sz : Nat → Int32) (s9 : Nat) (hs9 : s9 < 4) : zV l D ka kb yX5_drop cX5_drop 2 0 0 [.ref (bd 6), .int (nI s9)] ([((bd 6), .inr (5, [.ref (bd 25), .ref (bd 30), .int la9])), ((bd 30), .inl (ka 0, 4, .inl sz))]) (fun (_ : Unit) => True) (fun (_ : Unit) => [((bd 6), .inr (5, [.ref (bd 25), .ref (bd 30), .int la9])), ((bd 30), .inl (ka 0, 4, .inl (upd sz s9 (-1))))]) := by
  refine zV.mk RX5 (by decide +kernel) rfl (Nat.le_of_ble_eq_true rfl) ?_
  intro p e s m below meth c A ls args Q hQ hx hb hF hB hl
  replace hl : lv_has ls 2 [(0, .ref (bd 6)), (1, .int (nI s9))] := hl
  refine lv_aload_n hx hb dX5_drop_0 rfl (lv_at hl 0 rfl) ?_
  refine zget zf_X5_16 hF hB 0 rfl rfl dX5_drop_1 ?_
  refine lv_iload_n hx hb dX5_drop_4 rfl (lv_at hl 1 rfl) ?_
  refine lv_iconst (v := -1) hx hb dX5_drop_5 (by decide) ?_
  refine ziast hF hB 1 rfl s9 (rfl) (by omega) (by decide) dX5_drop_6 ?_
  clear hB
  try clear locs
  try clear H
  intro H locs hB
  replace hB : zB D A s ([((bd 6), .inr (5, [.ref (bd 25), .ref (bd 30), .int la9])), ((bd 30), .inl (ka 0, 4, .inl (upd sz s9 (-1 : Int32))))]) H locs := hB
  exact zretv hF hB () (trivial) (rfl) dX5_drop_7 hQ

set_option maxHeartbeats 4000000 in
set_option maxRecDepth 100000 in
theorem c_X5_item_0 (l : Launch) (D : va_G) (ka : Nat → ClassId) (kb : Nat → Nat) (bd : Nat → Nat) (la9 : Int32) (rw9 : Nat → Nat → Int64) (i : Nat) (hi : i < 40) : zL l D ka kb yX5_item cX5_item 3 0 0 [.ref (bd 6), .int (nI 0), .int (nI i)] ([((bd 6), .inr (5, [.ref (bd 25), .ref (bd 30), .int la9])), ((bd 25), .inl (ka 4, 4, .inr (.inr (.inr (.inr (nB bd)))))), ((bd 26), .inl (ka 1, 40, .inr (.inl (rw9 0)))), ((bd 27), .inl (ka 1, 40, .inr (.inl (rw9 1)))), ((bd 28), .inl (ka 1, 40, .inr (.inl (rw9 2)))), ((bd 29), .inl (ka 1, 40, .inr (.inl (rw9 3))))]) (fun (r : Int64) (_ : Unit) => r = rw9 0 i) (fun (_ : Unit) => [((bd 6), .inr (5, [.ref (bd 25), .ref (bd 30), .int la9])), ((bd 25), .inl (ka 4, 4, .inr (.inr (.inr (.inr (nB bd)))))), ((bd 26), .inl (ka 1, 40, .inr (.inl (rw9 0)))), ((bd 27), .inl (ka 1, 40, .inr (.inl (rw9 1)))), ((bd 28), .inl (ka 1, 40, .inr (.inl (rw9 2)))), ((bd 29), .inl (ka 1, 40, .inr (.inl (rw9 3))))]) := by
  refine zL.mk RX5 (by decide +kernel) rfl (Nat.le_of_ble_eq_true rfl) ?_
  intro p e s m below meth c A ls args Q hQ hx hb hF hB hl
  replace hl : lv_has ls 3 [(0, .ref (bd 6)), (1, .int (nI 0)), (2, .int (nI i))] := hl
  refine lv_aload_n hx hb dX5_item_0 rfl (lv_at hl 0 rfl) ?_
  refine zget zf_X5_11 hF hB 0 rfl rfl dX5_item_1 ?_
  refine lv_iload_n hx hb dX5_item_4 rfl (lv_at hl 1 rfl) ?_
  refine zaaldA hF hB 1 rfl 0 (rfl) (by omega) (by decide) (r := bd 26) rfl dX5_item_5 ?_
  refine lv_iload_n hx hb dX5_item_6 rfl (lv_at hl 2 rfl) ?_
  refine zlald hF hB 2 rfl i (rfl) (by omega) (by decide) (v := ((rw9 0) i)) (rfl) dX5_item_7 ?_
  exact zretl hF hB () (rfl) (rfl) dX5_item_8 hQ

set_option maxHeartbeats 4000000 in
set_option maxRecDepth 100000 in
theorem c_X5_item_1 (l : Launch) (D : va_G) (ka : Nat → ClassId) (kb : Nat → Nat) (bd : Nat → Nat) (la9 : Int32) (rw9 : Nat → Nat → Int64) (i : Nat) (hi : i < 40) : zL l D ka kb yX5_item cX5_item 3 0 0 [.ref (bd 6), .int (nI 1), .int (nI i)] ([((bd 6), .inr (5, [.ref (bd 25), .ref (bd 30), .int la9])), ((bd 25), .inl (ka 4, 4, .inr (.inr (.inr (.inr (nB bd)))))), ((bd 26), .inl (ka 1, 40, .inr (.inl (rw9 0)))), ((bd 27), .inl (ka 1, 40, .inr (.inl (rw9 1)))), ((bd 28), .inl (ka 1, 40, .inr (.inl (rw9 2)))), ((bd 29), .inl (ka 1, 40, .inr (.inl (rw9 3))))]) (fun (r : Int64) (_ : Unit) => r = rw9 1 i) (fun (_ : Unit) => [((bd 6), .inr (5, [.ref (bd 25), .ref (bd 30), .int la9])), ((bd 25), .inl (ka 4, 4, .inr (.inr (.inr (.inr (nB bd)))))), ((bd 26), .inl (ka 1, 40, .inr (.inl (rw9 0)))), ((bd 27), .inl (ka 1, 40, .inr (.inl (rw9 1)))), ((bd 28), .inl (ka 1, 40, .inr (.inl (rw9 2)))), ((bd 29), .inl (ka 1, 40, .inr (.inl (rw9 3))))]) := by
  refine zL.mk RX5 (by decide +kernel) rfl (Nat.le_of_ble_eq_true rfl) ?_
  intro p e s m below meth c A ls args Q hQ hx hb hF hB hl
  replace hl : lv_has ls 3 [(0, .ref (bd 6)), (1, .int (nI 1)), (2, .int (nI i))] := hl
  refine lv_aload_n hx hb dX5_item_0 rfl (lv_at hl 0 rfl) ?_
  refine zget zf_X5_11 hF hB 0 rfl rfl dX5_item_1 ?_
  refine lv_iload_n hx hb dX5_item_4 rfl (lv_at hl 1 rfl) ?_
  refine zaaldA hF hB 1 rfl 1 (rfl) (by omega) (by decide) (r := bd 27) rfl dX5_item_5 ?_
  refine lv_iload_n hx hb dX5_item_6 rfl (lv_at hl 2 rfl) ?_
  refine zlald hF hB 3 rfl i (rfl) (by omega) (by decide) (v := ((rw9 1) i)) (rfl) dX5_item_7 ?_
  exact zretl hF hB () (rfl) (rfl) dX5_item_8 hQ

set_option maxHeartbeats 4000000 in
set_option maxRecDepth 100000 in
theorem c_X5_item_2 (l : Launch) (D : va_G) (ka : Nat → ClassId) (kb : Nat → Nat) (bd : Nat → Nat) (la9 : Int32) (rw9 : Nat → Nat → Int64) (i : Nat) (hi : i < 40) : zL l D ka kb yX5_item cX5_item 3 0 0 [.ref (bd 6), .int (nI 2), .int (nI i)] ([((bd 6), .inr (5, [.ref (bd 25), .ref (bd 30), .int la9])), ((bd 25), .inl (ka 4, 4, .inr (.inr (.inr (.inr (nB bd)))))), ((bd 26), .inl (ka 1, 40, .inr (.inl (rw9 0)))), ((bd 27), .inl (ka 1, 40, .inr (.inl (rw9 1)))), ((bd 28), .inl (ka 1, 40, .inr (.inl (rw9 2)))), ((bd 29), .inl (ka 1, 40, .inr (.inl (rw9 3))))]) (fun (r : Int64) (_ : Unit) => r = rw9 2 i) (fun (_ : Unit) => [((bd 6), .inr (5, [.ref (bd 25), .ref (bd 30), .int la9])), ((bd 25), .inl (ka 4, 4, .inr (.inr (.inr (.inr (nB bd)))))), ((bd 26), .inl (ka 1, 40, .inr (.inl (rw9 0)))), ((bd 27), .inl (ka 1, 40, .inr (.inl (rw9 1)))), ((bd 28), .inl (ka 1, 40, .inr (.inl (rw9 2)))), ((bd 29), .inl (ka 1, 40, .inr (.inl (rw9 3))))]) := by
  refine zL.mk RX5 (by decide +kernel) rfl (Nat.le_of_ble_eq_true rfl) ?_
  intro p e s m below meth c A ls args Q hQ hx hb hF hB hl
  replace hl : lv_has ls 3 [(0, .ref (bd 6)), (1, .int (nI 2)), (2, .int (nI i))] := hl
  refine lv_aload_n hx hb dX5_item_0 rfl (lv_at hl 0 rfl) ?_
  refine zget zf_X5_11 hF hB 0 rfl rfl dX5_item_1 ?_
  refine lv_iload_n hx hb dX5_item_4 rfl (lv_at hl 1 rfl) ?_
  refine zaaldA hF hB 1 rfl 2 (rfl) (by omega) (by decide) (r := bd 28) rfl dX5_item_5 ?_
  refine lv_iload_n hx hb dX5_item_6 rfl (lv_at hl 2 rfl) ?_
  refine zlald hF hB 4 rfl i (rfl) (by omega) (by decide) (v := ((rw9 2) i)) (rfl) dX5_item_7 ?_
  exact zretl hF hB () (rfl) (rfl) dX5_item_8 hQ

set_option maxHeartbeats 4000000 in
set_option maxRecDepth 100000 in
theorem c_X5_item_3 (l : Launch) (D : va_G) (ka : Nat → ClassId) (kb : Nat → Nat) (bd : Nat → Nat) (la9 : Int32) (rw9 : Nat → Nat → Int64) (i : Nat) (hi : i < 40) : zL l D ka kb yX5_item cX5_item 3 0 0 [.ref (bd 6), .int (nI 3), .int (nI i)] ([((bd 6), .inr (5, [.ref (bd 25), .ref (bd 30), .int la9])), ((bd 25), .inl (ka 4, 4, .inr (.inr (.inr (.inr (nB bd)))))), ((bd 26), .inl (ka 1, 40, .inr (.inl (rw9 0)))), ((bd 27), .inl (ka 1, 40, .inr (.inl (rw9 1)))), ((bd 28), .inl (ka 1, 40, .inr (.inl (rw9 2)))), ((bd 29), .inl (ka 1, 40, .inr (.inl (rw9 3))))]) (fun (r : Int64) (_ : Unit) => r = rw9 3 i) (fun (_ : Unit) => [((bd 6), .inr (5, [.ref (bd 25), .ref (bd 30), .int la9])), ((bd 25), .inl (ka 4, 4, .inr (.inr (.inr (.inr (nB bd)))))), ((bd 26), .inl (ka 1, 40, .inr (.inl (rw9 0)))), ((bd 27), .inl (ka 1, 40, .inr (.inl (rw9 1)))), ((bd 28), .inl (ka 1, 40, .inr (.inl (rw9 2)))), ((bd 29), .inl (ka 1, 40, .inr (.inl (rw9 3))))]) := by
  refine zL.mk RX5 (by decide +kernel) rfl (Nat.le_of_ble_eq_true rfl) ?_
  intro p e s m below meth c A ls args Q hQ hx hb hF hB hl
  replace hl : lv_has ls 3 [(0, .ref (bd 6)), (1, .int (nI 3)), (2, .int (nI i))] := hl
  refine lv_aload_n hx hb dX5_item_0 rfl (lv_at hl 0 rfl) ?_
  refine zget zf_X5_11 hF hB 0 rfl rfl dX5_item_1 ?_
  refine lv_iload_n hx hb dX5_item_4 rfl (lv_at hl 1 rfl) ?_
  refine zaaldA hF hB 1 rfl 3 (rfl) (by omega) (by decide) (r := bd 29) rfl dX5_item_5 ?_
  refine lv_iload_n hx hb dX5_item_6 rfl (lv_at hl 2 rfl) ?_
  refine zlald hF hB 5 rfl i (rfl) (by omega) (by decide) (v := ((rw9 3) i)) (rfl) dX5_item_7 ?_
  exact zretl hF hB () (rfl) (rfl) dX5_item_8 hQ

theorem c_X5_item (l : Launch) (D : va_G) (ka : Nat → ClassId) (kb : Nat → Nat) (bd : Nat → Nat) (la9 : Int32) (rw9 : Nat → Nat → Int64) (s9 : Nat) (i : Nat) (hs9 : s9 < 4) (hi : i < 40) : zL l D ka kb yX5_item cX5_item 3 0 0 [.ref (bd 6), .int (nI s9), .int (nI i)] ([((bd 6), .inr (5, [.ref (bd 25), .ref (bd 30), .int la9])), ((bd 25), .inl (ka 4, 4, .inr (.inr (.inr (.inr (nB bd)))))), ((bd 26), .inl (ka 1, 40, .inr (.inl (rw9 0)))), ((bd 27), .inl (ka 1, 40, .inr (.inl (rw9 1)))), ((bd 28), .inl (ka 1, 40, .inr (.inl (rw9 2)))), ((bd 29), .inl (ka 1, 40, .inr (.inl (rw9 3))))]) (fun (r : Int64) (_ : Unit) => r = rw9 s9 i) (fun (_ : Unit) => [((bd 6), .inr (5, [.ref (bd 25), .ref (bd 30), .int la9])), ((bd 25), .inl (ka 4, 4, .inr (.inr (.inr (.inr (nB bd)))))), ((bd 26), .inl (ka 1, 40, .inr (.inl (rw9 0)))), ((bd 27), .inl (ka 1, 40, .inr (.inl (rw9 1)))), ((bd 28), .inl (ka 1, 40, .inr (.inl (rw9 2)))), ((bd 29), .inl (ka 1, 40, .inr (.inl (rw9 3))))]) := by
  rcases (show s9 = 0 ∨ s9 = 1 ∨ s9 = 2 ∨ s9 = 3 by omega) with rfl | rfl | rfl | rfl
  · exact c_X5_item_0 l D ka kb bd la9 rw9 i hi
  · exact c_X5_item_1 l D ka kb bd la9 rw9 i hi
  · exact c_X5_item_2 l D ka kb bd la9 rw9 i hi
  · exact c_X5_item_3 l D ka kb bd la9 rw9 i hi

set_option maxHeartbeats 4000000 in
set_option maxRecDepth 100000 in
theorem c_X5_store_0 (l : Launch) (D : va_G) (ka : Nat → ClassId) (kb : Nat → Nat) (bd : Nat → Nat) (la9 : Int32) (rw9 : Nat → Nat → Int64) (i : Nat) (v : Int64) (hi : i < 40) : zV l D ka kb yX5_store cX5_store 5 0 0 [.ref (bd 6), .int (nI 0), .int (nI i), .long v] ([((bd 6), .inr (5, [.ref (bd 25), .ref (bd 30), .int la9])), ((bd 25), .inl (ka 4, 4, .inr (.inr (.inr (.inr (nB bd)))))), ((bd 26), .inl (ka 1, 40, .inr (.inl (rw9 0)))), ((bd 27), .inl (ka 1, 40, .inr (.inl (rw9 1)))), ((bd 28), .inl (ka 1, 40, .inr (.inl (rw9 2)))), ((bd 29), .inl (ka 1, 40, .inr (.inl (rw9 3))))]) (fun (_ : Unit) => True) (fun (_ : Unit) => [((bd 6), .inr (5, [.ref (bd 25), .ref (bd 30), .int la9])), ((bd 25), .inl (ka 4, 4, .inr (.inr (.inr (.inr (nB bd)))))), ((bd 26), .inl (ka 1, 40, .inr (.inl ((upR rw9 0 i v) 0)))), ((bd 27), .inl (ka 1, 40, .inr (.inl ((upR rw9 0 i v) 1)))), ((bd 28), .inl (ka 1, 40, .inr (.inl ((upR rw9 0 i v) 2)))), ((bd 29), .inl (ka 1, 40, .inr (.inl ((upR rw9 0 i v) 3))))]) := by
  refine zV.mk RX5 (by decide +kernel) rfl (Nat.le_of_ble_eq_true rfl) ?_
  intro p e s m below meth c A ls args Q hQ hx hb hF hB hl
  replace hl : lv_has ls 5 [(0, .ref (bd 6)), (1, .int (nI 0)), (2, .int (nI i)), (3, .long v)] := hl
  refine lv_aload_n hx hb dX5_store_0 rfl (lv_at hl 0 rfl) ?_
  refine zget zf_X5_11 hF hB 0 rfl rfl dX5_store_1 ?_
  refine lv_iload_n hx hb dX5_store_4 rfl (lv_at hl 1 rfl) ?_
  refine zaaldA hF hB 1 rfl 0 (rfl) (by omega) (by decide) (r := bd 26) rfl dX5_store_5 ?_
  refine lv_iload_n hx hb dX5_store_6 rfl (lv_at hl 2 rfl) ?_
  refine lv_lload_n hx hb dX5_store_7 rfl (lv_at hl 3 rfl) ?_
  refine zlast hF hB 2 rfl i (rfl) (by omega) (by decide) dX5_store_8 ?_
  clear hB
  try clear locs
  try clear H
  intro H locs hB
  replace hB : zB D A s ([((bd 6), .inr (5, [.ref (bd 25), .ref (bd 30), .int la9])), ((bd 25), .inl (ka 4, 4, .inr (.inr (.inr (.inr (nB bd)))))), ((bd 26), .inl (ka 1, 40, .inr (.inl (vp_updL (rw9 0) i v)))), ((bd 27), .inl (ka 1, 40, .inr (.inl (rw9 1)))), ((bd 28), .inl (ka 1, 40, .inr (.inl (rw9 2)))), ((bd 29), .inl (ka 1, 40, .inr (.inl (rw9 3))))]) H locs := hB
  exact zretv hF hB () (trivial) (rfl) dX5_store_9 hQ

set_option maxHeartbeats 4000000 in
set_option maxRecDepth 100000 in
theorem c_X5_store_1 (l : Launch) (D : va_G) (ka : Nat → ClassId) (kb : Nat → Nat) (bd : Nat → Nat) (la9 : Int32) (rw9 : Nat → Nat → Int64) (i : Nat) (v : Int64) (hi : i < 40) : zV l D ka kb yX5_store cX5_store 5 0 0 [.ref (bd 6), .int (nI 1), .int (nI i), .long v] ([((bd 6), .inr (5, [.ref (bd 25), .ref (bd 30), .int la9])), ((bd 25), .inl (ka 4, 4, .inr (.inr (.inr (.inr (nB bd)))))), ((bd 26), .inl (ka 1, 40, .inr (.inl (rw9 0)))), ((bd 27), .inl (ka 1, 40, .inr (.inl (rw9 1)))), ((bd 28), .inl (ka 1, 40, .inr (.inl (rw9 2)))), ((bd 29), .inl (ka 1, 40, .inr (.inl (rw9 3))))]) (fun (_ : Unit) => True) (fun (_ : Unit) => [((bd 6), .inr (5, [.ref (bd 25), .ref (bd 30), .int la9])), ((bd 25), .inl (ka 4, 4, .inr (.inr (.inr (.inr (nB bd)))))), ((bd 26), .inl (ka 1, 40, .inr (.inl ((upR rw9 1 i v) 0)))), ((bd 27), .inl (ka 1, 40, .inr (.inl ((upR rw9 1 i v) 1)))), ((bd 28), .inl (ka 1, 40, .inr (.inl ((upR rw9 1 i v) 2)))), ((bd 29), .inl (ka 1, 40, .inr (.inl ((upR rw9 1 i v) 3))))]) := by
  refine zV.mk RX5 (by decide +kernel) rfl (Nat.le_of_ble_eq_true rfl) ?_
  intro p e s m below meth c A ls args Q hQ hx hb hF hB hl
  replace hl : lv_has ls 5 [(0, .ref (bd 6)), (1, .int (nI 1)), (2, .int (nI i)), (3, .long v)] := hl
  refine lv_aload_n hx hb dX5_store_0 rfl (lv_at hl 0 rfl) ?_
  refine zget zf_X5_11 hF hB 0 rfl rfl dX5_store_1 ?_
  refine lv_iload_n hx hb dX5_store_4 rfl (lv_at hl 1 rfl) ?_
  refine zaaldA hF hB 1 rfl 1 (rfl) (by omega) (by decide) (r := bd 27) rfl dX5_store_5 ?_
  refine lv_iload_n hx hb dX5_store_6 rfl (lv_at hl 2 rfl) ?_
  refine lv_lload_n hx hb dX5_store_7 rfl (lv_at hl 3 rfl) ?_
  refine zlast hF hB 3 rfl i (rfl) (by omega) (by decide) dX5_store_8 ?_
  clear hB
  try clear locs
  try clear H
  intro H locs hB
  replace hB : zB D A s ([((bd 6), .inr (5, [.ref (bd 25), .ref (bd 30), .int la9])), ((bd 25), .inl (ka 4, 4, .inr (.inr (.inr (.inr (nB bd)))))), ((bd 26), .inl (ka 1, 40, .inr (.inl (rw9 0)))), ((bd 27), .inl (ka 1, 40, .inr (.inl (vp_updL (rw9 1) i v)))), ((bd 28), .inl (ka 1, 40, .inr (.inl (rw9 2)))), ((bd 29), .inl (ka 1, 40, .inr (.inl (rw9 3))))]) H locs := hB
  exact zretv hF hB () (trivial) (rfl) dX5_store_9 hQ

set_option maxHeartbeats 4000000 in
set_option maxRecDepth 100000 in
theorem c_X5_store_2 (l : Launch) (D : va_G) (ka : Nat → ClassId) (kb : Nat → Nat) (bd : Nat → Nat) (la9 : Int32) (rw9 : Nat → Nat → Int64) (i : Nat) (v : Int64) (hi : i < 40) : zV l D ka kb yX5_store cX5_store 5 0 0 [.ref (bd 6), .int (nI 2), .int (nI i), .long v] ([((bd 6), .inr (5, [.ref (bd 25), .ref (bd 30), .int la9])), ((bd 25), .inl (ka 4, 4, .inr (.inr (.inr (.inr (nB bd)))))), ((bd 26), .inl (ka 1, 40, .inr (.inl (rw9 0)))), ((bd 27), .inl (ka 1, 40, .inr (.inl (rw9 1)))), ((bd 28), .inl (ka 1, 40, .inr (.inl (rw9 2)))), ((bd 29), .inl (ka 1, 40, .inr (.inl (rw9 3))))]) (fun (_ : Unit) => True) (fun (_ : Unit) => [((bd 6), .inr (5, [.ref (bd 25), .ref (bd 30), .int la9])), ((bd 25), .inl (ka 4, 4, .inr (.inr (.inr (.inr (nB bd)))))), ((bd 26), .inl (ka 1, 40, .inr (.inl ((upR rw9 2 i v) 0)))), ((bd 27), .inl (ka 1, 40, .inr (.inl ((upR rw9 2 i v) 1)))), ((bd 28), .inl (ka 1, 40, .inr (.inl ((upR rw9 2 i v) 2)))), ((bd 29), .inl (ka 1, 40, .inr (.inl ((upR rw9 2 i v) 3))))]) := by
  refine zV.mk RX5 (by decide +kernel) rfl (Nat.le_of_ble_eq_true rfl) ?_
  intro p e s m below meth c A ls args Q hQ hx hb hF hB hl
  replace hl : lv_has ls 5 [(0, .ref (bd 6)), (1, .int (nI 2)), (2, .int (nI i)), (3, .long v)] := hl
  refine lv_aload_n hx hb dX5_store_0 rfl (lv_at hl 0 rfl) ?_
  refine zget zf_X5_11 hF hB 0 rfl rfl dX5_store_1 ?_
  refine lv_iload_n hx hb dX5_store_4 rfl (lv_at hl 1 rfl) ?_
  refine zaaldA hF hB 1 rfl 2 (rfl) (by omega) (by decide) (r := bd 28) rfl dX5_store_5 ?_
  refine lv_iload_n hx hb dX5_store_6 rfl (lv_at hl 2 rfl) ?_
  refine lv_lload_n hx hb dX5_store_7 rfl (lv_at hl 3 rfl) ?_
  refine zlast hF hB 4 rfl i (rfl) (by omega) (by decide) dX5_store_8 ?_
  clear hB
  try clear locs
  try clear H
  intro H locs hB
  replace hB : zB D A s ([((bd 6), .inr (5, [.ref (bd 25), .ref (bd 30), .int la9])), ((bd 25), .inl (ka 4, 4, .inr (.inr (.inr (.inr (nB bd)))))), ((bd 26), .inl (ka 1, 40, .inr (.inl (rw9 0)))), ((bd 27), .inl (ka 1, 40, .inr (.inl (rw9 1)))), ((bd 28), .inl (ka 1, 40, .inr (.inl (vp_updL (rw9 2) i v)))), ((bd 29), .inl (ka 1, 40, .inr (.inl (rw9 3))))]) H locs := hB
  exact zretv hF hB () (trivial) (rfl) dX5_store_9 hQ

set_option maxHeartbeats 4000000 in
set_option maxRecDepth 100000 in
theorem c_X5_store_3 (l : Launch) (D : va_G) (ka : Nat → ClassId) (kb : Nat → Nat) (bd : Nat → Nat) (la9 : Int32) (rw9 : Nat → Nat → Int64) (i : Nat) (v : Int64) (hi : i < 40) : zV l D ka kb yX5_store cX5_store 5 0 0 [.ref (bd 6), .int (nI 3), .int (nI i), .long v] ([((bd 6), .inr (5, [.ref (bd 25), .ref (bd 30), .int la9])), ((bd 25), .inl (ka 4, 4, .inr (.inr (.inr (.inr (nB bd)))))), ((bd 26), .inl (ka 1, 40, .inr (.inl (rw9 0)))), ((bd 27), .inl (ka 1, 40, .inr (.inl (rw9 1)))), ((bd 28), .inl (ka 1, 40, .inr (.inl (rw9 2)))), ((bd 29), .inl (ka 1, 40, .inr (.inl (rw9 3))))]) (fun (_ : Unit) => True) (fun (_ : Unit) => [((bd 6), .inr (5, [.ref (bd 25), .ref (bd 30), .int la9])), ((bd 25), .inl (ka 4, 4, .inr (.inr (.inr (.inr (nB bd)))))), ((bd 26), .inl (ka 1, 40, .inr (.inl ((upR rw9 3 i v) 0)))), ((bd 27), .inl (ka 1, 40, .inr (.inl ((upR rw9 3 i v) 1)))), ((bd 28), .inl (ka 1, 40, .inr (.inl ((upR rw9 3 i v) 2)))), ((bd 29), .inl (ka 1, 40, .inr (.inl ((upR rw9 3 i v) 3))))]) := by
  refine zV.mk RX5 (by decide +kernel) rfl (Nat.le_of_ble_eq_true rfl) ?_
  intro p e s m below meth c A ls args Q hQ hx hb hF hB hl
  replace hl : lv_has ls 5 [(0, .ref (bd 6)), (1, .int (nI 3)), (2, .int (nI i)), (3, .long v)] := hl
  refine lv_aload_n hx hb dX5_store_0 rfl (lv_at hl 0 rfl) ?_
  refine zget zf_X5_11 hF hB 0 rfl rfl dX5_store_1 ?_
  refine lv_iload_n hx hb dX5_store_4 rfl (lv_at hl 1 rfl) ?_
  refine zaaldA hF hB 1 rfl 3 (rfl) (by omega) (by decide) (r := bd 29) rfl dX5_store_5 ?_
  refine lv_iload_n hx hb dX5_store_6 rfl (lv_at hl 2 rfl) ?_
  refine lv_lload_n hx hb dX5_store_7 rfl (lv_at hl 3 rfl) ?_
  refine zlast hF hB 5 rfl i (rfl) (by omega) (by decide) dX5_store_8 ?_
  clear hB
  try clear locs
  try clear H
  intro H locs hB
  replace hB : zB D A s ([((bd 6), .inr (5, [.ref (bd 25), .ref (bd 30), .int la9])), ((bd 25), .inl (ka 4, 4, .inr (.inr (.inr (.inr (nB bd)))))), ((bd 26), .inl (ka 1, 40, .inr (.inl (rw9 0)))), ((bd 27), .inl (ka 1, 40, .inr (.inl (rw9 1)))), ((bd 28), .inl (ka 1, 40, .inr (.inl (rw9 2)))), ((bd 29), .inl (ka 1, 40, .inr (.inl (vp_updL (rw9 3) i v))))]) H locs := hB
  exact zretv hF hB () (trivial) (rfl) dX5_store_9 hQ

theorem c_X5_store (l : Launch) (D : va_G) (ka : Nat → ClassId) (kb : Nat → Nat) (bd : Nat → Nat) (la9 : Int32) (rw9 : Nat → Nat → Int64) (s9 : Nat) (i : Nat) (v : Int64) (hs9 : s9 < 4) (hi : i < 40) : zV l D ka kb yX5_store cX5_store 5 0 0 [.ref (bd 6), .int (nI s9), .int (nI i), .long v] ([((bd 6), .inr (5, [.ref (bd 25), .ref (bd 30), .int la9])), ((bd 25), .inl (ka 4, 4, .inr (.inr (.inr (.inr (nB bd)))))), ((bd 26), .inl (ka 1, 40, .inr (.inl (rw9 0)))), ((bd 27), .inl (ka 1, 40, .inr (.inl (rw9 1)))), ((bd 28), .inl (ka 1, 40, .inr (.inl (rw9 2)))), ((bd 29), .inl (ka 1, 40, .inr (.inl (rw9 3))))]) (fun (_ : Unit) => True) (fun (_ : Unit) => [((bd 6), .inr (5, [.ref (bd 25), .ref (bd 30), .int la9])), ((bd 25), .inl (ka 4, 4, .inr (.inr (.inr (.inr (nB bd)))))), ((bd 26), .inl (ka 1, 40, .inr (.inl ((upR rw9 s9 i v) 0)))), ((bd 27), .inl (ka 1, 40, .inr (.inl ((upR rw9 s9 i v) 1)))), ((bd 28), .inl (ka 1, 40, .inr (.inl ((upR rw9 s9 i v) 2)))), ((bd 29), .inl (ka 1, 40, .inr (.inl ((upR rw9 s9 i v) 3))))]) := by
  rcases (show s9 = 0 ∨ s9 = 1 ∨ s9 = 2 ∨ s9 = 3 by omega) with rfl | rfl | rfl | rfl
  · exact c_X5_store_0 l D ka kb bd la9 rw9 i v hi
  · exact c_X5_store_1 l D ka kb bd la9 rw9 i v hi
  · exact c_X5_store_2 l D ka kb bd la9 rw9 i v hi
  · exact c_X5_store_3 l D ka kb bd la9 rw9 i v hi

set_option maxHeartbeats 4000000 in
set_option maxRecDepth 100000 in
theorem c_X5_renew_0 (l : Launch) (D : va_G) (ka : Nat → ClassId) (kb : Nat → Nat) (bd : Nat → Nat) (la9 : Int32) (rw9 : Nat → Nat → Int64) (sz : Nat → Int32) (n : Nat) (hn : n ≤ 40) : zV l D ka kb yX5_renew cX5_renew 4 0 0 [.ref (bd 6), .int (nI 0), .int (nI n)] ([((bd 6), .inr (5, [.ref (bd 25), .ref (bd 30), .int la9])), ((bd 25), .inl (ka 4, 4, .inr (.inr (.inr (.inr (nB bd)))))), ((bd 26), .inl (ka 1, 40, .inr (.inl (rw9 0)))), ((bd 27), .inl (ka 1, 40, .inr (.inl (rw9 1)))), ((bd 28), .inl (ka 1, 40, .inr (.inl (rw9 2)))), ((bd 29), .inl (ka 1, 40, .inr (.inl (rw9 3)))), ((bd 30), .inl (ka 0, 4, .inl sz))]) (fun (_ : Unit) => True) (fun (_ : Unit) => [((bd 6), .inr (5, [.ref (bd 25), .ref (bd 30), .int la9])), ((bd 25), .inl (ka 4, 4, .inr (.inr (.inr (.inr (nB bd)))))), ((bd 26), .inl (ka 1, 40, .inr (.inl ((zfR rw9 0 n) 0)))), ((bd 27), .inl (ka 1, 40, .inr (.inl ((zfR rw9 0 n) 1)))), ((bd 28), .inl (ka 1, 40, .inr (.inl ((zfR rw9 0 n) 2)))), ((bd 29), .inl (ka 1, 40, .inr (.inl ((zfR rw9 0 n) 3)))), ((bd 30), .inl (ka 0, 4, .inl (upd sz 0 (nI n))))]) := by
  refine zV.mk RX5 (by decide +kernel) rfl (Nat.le_of_ble_eq_true rfl) ?_
  intro p e s m below meth c A ls args Q hQ hx hb hF hB hl
  replace hl : lv_has ls 4 [(0, .ref (bd 6)), (1, .int (nI 0)), (2, .int (nI n))] := hl
  refine lv_aload_n hx hb dX5_renew_0 rfl (lv_at hl 0 rfl) ?_
  refine zget zf_X5_16 hF hB 0 rfl rfl dX5_renew_1 ?_
  refine lv_iload_n hx hb dX5_renew_4 rfl (lv_at hl 1 rfl) ?_
  refine lv_iload_n hx hb dX5_renew_5 rfl (lv_at hl 2 rfl) ?_
  refine ziast hF hB 6 rfl 0 (rfl) (by omega) (by decide) dX5_renew_6 ?_
  clear hB
  try clear locs
  try clear H
  intro H locs hB
  replace hB : zB D A s ([((bd 6), .inr (5, [.ref (bd 25), .ref (bd 30), .int la9])), ((bd 25), .inl (ka 4, 4, .inr (.inr (.inr (.inr (nB bd)))))), ((bd 26), .inl (ka 1, 40, .inr (.inl (rw9 0)))), ((bd 27), .inl (ka 1, 40, .inr (.inl (rw9 1)))), ((bd 28), .inl (ka 1, 40, .inr (.inl (rw9 2)))), ((bd 29), .inl (ka 1, 40, .inr (.inl (rw9 3)))), ((bd 30), .inl (ka 0, 4, .inl (upd sz 0 (nI n))))]) H locs := hB
  refine lv_iconst (v := 0) hx hb dX5_renew_7 (by decide) ?_
  refine lv_istore_n (lv' := [(3, .int (0 : Int32)), (0, .ref (bd 6)), (1, .int (nI 0)), (2, .int (nI n))]) hx hb dX5_renew_8 rfl hl (by decide) rfl ?_
  clear hl
  clear ls
  intro ls hl
  have lp9 : ∀ (fl : Nat) (j : Nat), (hj : j ≤ n) → n - j < fl → ∀ (H : Heap) (locs : List Loc), zB D A s ([((bd 6), .inr (5, [.ref (bd 25), .ref (bd 30), .int la9])), ((bd 25), .inl (ka 4, 4, .inr (.inr (.inr (.inr (nB bd)))))), ((bd 26), .inl (ka 1, 40, .inr (.inl (zfill (rw9 0) 0 j)))), ((bd 27), .inl (ka 1, 40, .inr (.inl (rw9 1)))), ((bd 28), .inl (ka 1, 40, .inr (.inl (rw9 2)))), ((bd 29), .inl (ka 1, 40, .inr (.inl (rw9 3)))), ((bd 30), .inl (ka 0, 4, .inl (upd sz 0 (nI n))))]) H locs → ∀ ls : Array Slot, lv_has ls 4 [(3, .int (nI j)), (0, .ref (bd 6)), (1, .int (nI 0)), (2, .int (nI n))] → W p l e (zRm 0 0 0 0) s m args below meth c H locs 0 0 Q (F0 m 9 ls []) := by
    intro fl
    induction fl with
    | zero => intro j hj hfl; exact absurd hfl (Nat.not_lt_zero _)
    | succ fl ih9 =>
      intro j hj hfl9 H locs hB ls hl
      refine lv_iload_n hx hb dX5_renew_9 rfl (lv_at hl 0 rfl) ?_
      refine lv_iload_n hx hb dX5_renew_10 rfl (lv_at hl 3 rfl) ?_
      refine lv_icmp_ge (tgt := 29) hx hb dX5_renew_11 (by decide) (fun h11 => ?_) (fun h11 => ?_)
      · skip
        have hj2 : j = n := by have := (nI_leI (by omega) (by omega)).mp h11; omega
        subst hj2
        exact zretv hF hB () (trivial) (rfl) dX5_renew_29 hQ
      · skip
        have hj2 : j < n := Nat.not_le.mp (fun e9 => h11 ((nI_leI (by omega) (by omega)).mpr e9))
        refine lv_aload_n hx hb dX5_renew_14 rfl (lv_at hl 1 rfl) ?_
        refine zget zf_X5_11 hF hB 0 rfl rfl dX5_renew_15 ?_
        refine lv_iload_n hx hb dX5_renew_18 rfl (lv_at hl 2 rfl) ?_
        refine zaaldA hF hB 1 rfl 0 (rfl) (by omega) (by decide) (r := bd 26) rfl dX5_renew_19 ?_
        refine lv_iload_n hx hb dX5_renew_20 rfl (lv_at hl 0 rfl) ?_
        refine lv_lconst (v := 0) hx hb dX5_renew_21 (by decide) ?_
        refine zlast hF hB 2 rfl j (rfl) (by omega) (by decide) dX5_renew_22 ?_
        clear hB
        try clear locs
        try clear H
        intro H locs hB
        replace hB : zB D A s ([((bd 6), .inr (5, [.ref (bd 25), .ref (bd 30), .int la9])), ((bd 25), .inl (ka 4, 4, .inr (.inr (.inr (.inr (nB bd)))))), ((bd 26), .inl (ka 1, 40, .inr (.inl (vp_updL (zfill (rw9 0) 0 j) j (0 : Int64))))), ((bd 27), .inl (ka 1, 40, .inr (.inl (rw9 1)))), ((bd 28), .inl (ka 1, 40, .inr (.inl (rw9 2)))), ((bd 29), .inl (ka 1, 40, .inr (.inl (rw9 3)))), ((bd 30), .inl (ka 0, 4, .inl (upd sz 0 (nI n))))]) H locs := hB
        refine lv_iinc (v := nI (j + 1)) (lv' := [(3, .int (nI (j + 1))), (0, .ref (bd 6)), (1, .int (nI 0)), (2, .int (nI n))]) hx hb dX5_renew_23 hl (k := 0) rfl (nI_1 _) (by decide) rfl ?_
        clear hl
        clear ls
        intro ls hl
        refine lv_goto (tgt := 9) hx hb dX5_renew_26 (by decide) ?_
        exact ih9 (j + 1) (by omega) (by omega) _ _ (by have e9 := zfill_s (rw9 0) 0 j; rw [Nat.zero_add] at e9; rw [e9] at hB; exact hB) _ (lv_sub hl [0, 1, 2, 3] rfl)
  exact lp9 (n - 0 + 1) 0 (Nat.zero_le _) (by omega) _ _ (by rw [zfill_0]; exact hB) _ (lv_sub hl [0, 1, 2, 3] rfl)

set_option maxHeartbeats 4000000 in
set_option maxRecDepth 100000 in
theorem c_X5_renew_1 (l : Launch) (D : va_G) (ka : Nat → ClassId) (kb : Nat → Nat) (bd : Nat → Nat) (la9 : Int32) (rw9 : Nat → Nat → Int64) (sz : Nat → Int32) (n : Nat) (hn : n ≤ 40) : zV l D ka kb yX5_renew cX5_renew 4 0 0 [.ref (bd 6), .int (nI 1), .int (nI n)] ([((bd 6), .inr (5, [.ref (bd 25), .ref (bd 30), .int la9])), ((bd 25), .inl (ka 4, 4, .inr (.inr (.inr (.inr (nB bd)))))), ((bd 26), .inl (ka 1, 40, .inr (.inl (rw9 0)))), ((bd 27), .inl (ka 1, 40, .inr (.inl (rw9 1)))), ((bd 28), .inl (ka 1, 40, .inr (.inl (rw9 2)))), ((bd 29), .inl (ka 1, 40, .inr (.inl (rw9 3)))), ((bd 30), .inl (ka 0, 4, .inl sz))]) (fun (_ : Unit) => True) (fun (_ : Unit) => [((bd 6), .inr (5, [.ref (bd 25), .ref (bd 30), .int la9])), ((bd 25), .inl (ka 4, 4, .inr (.inr (.inr (.inr (nB bd)))))), ((bd 26), .inl (ka 1, 40, .inr (.inl ((zfR rw9 1 n) 0)))), ((bd 27), .inl (ka 1, 40, .inr (.inl ((zfR rw9 1 n) 1)))), ((bd 28), .inl (ka 1, 40, .inr (.inl ((zfR rw9 1 n) 2)))), ((bd 29), .inl (ka 1, 40, .inr (.inl ((zfR rw9 1 n) 3)))), ((bd 30), .inl (ka 0, 4, .inl (upd sz 1 (nI n))))]) := by
  refine zV.mk RX5 (by decide +kernel) rfl (Nat.le_of_ble_eq_true rfl) ?_
  intro p e s m below meth c A ls args Q hQ hx hb hF hB hl
  replace hl : lv_has ls 4 [(0, .ref (bd 6)), (1, .int (nI 1)), (2, .int (nI n))] := hl
  refine lv_aload_n hx hb dX5_renew_0 rfl (lv_at hl 0 rfl) ?_
  refine zget zf_X5_16 hF hB 0 rfl rfl dX5_renew_1 ?_
  refine lv_iload_n hx hb dX5_renew_4 rfl (lv_at hl 1 rfl) ?_
  refine lv_iload_n hx hb dX5_renew_5 rfl (lv_at hl 2 rfl) ?_
  refine ziast hF hB 6 rfl 1 (rfl) (by omega) (by decide) dX5_renew_6 ?_
  clear hB
  try clear locs
  try clear H
  intro H locs hB
  replace hB : zB D A s ([((bd 6), .inr (5, [.ref (bd 25), .ref (bd 30), .int la9])), ((bd 25), .inl (ka 4, 4, .inr (.inr (.inr (.inr (nB bd)))))), ((bd 26), .inl (ka 1, 40, .inr (.inl (rw9 0)))), ((bd 27), .inl (ka 1, 40, .inr (.inl (rw9 1)))), ((bd 28), .inl (ka 1, 40, .inr (.inl (rw9 2)))), ((bd 29), .inl (ka 1, 40, .inr (.inl (rw9 3)))), ((bd 30), .inl (ka 0, 4, .inl (upd sz 1 (nI n))))]) H locs := hB
  refine lv_iconst (v := 0) hx hb dX5_renew_7 (by decide) ?_
  refine lv_istore_n (lv' := [(3, .int (0 : Int32)), (0, .ref (bd 6)), (1, .int (nI 1)), (2, .int (nI n))]) hx hb dX5_renew_8 rfl hl (by decide) rfl ?_
  clear hl
  clear ls
  intro ls hl
  have lp9 : ∀ (fl : Nat) (j : Nat), (hj : j ≤ n) → n - j < fl → ∀ (H : Heap) (locs : List Loc), zB D A s ([((bd 6), .inr (5, [.ref (bd 25), .ref (bd 30), .int la9])), ((bd 25), .inl (ka 4, 4, .inr (.inr (.inr (.inr (nB bd)))))), ((bd 26), .inl (ka 1, 40, .inr (.inl (rw9 0)))), ((bd 27), .inl (ka 1, 40, .inr (.inl (zfill (rw9 1) 0 j)))), ((bd 28), .inl (ka 1, 40, .inr (.inl (rw9 2)))), ((bd 29), .inl (ka 1, 40, .inr (.inl (rw9 3)))), ((bd 30), .inl (ka 0, 4, .inl (upd sz 1 (nI n))))]) H locs → ∀ ls : Array Slot, lv_has ls 4 [(3, .int (nI j)), (0, .ref (bd 6)), (1, .int (nI 1)), (2, .int (nI n))] → W p l e (zRm 0 0 0 0) s m args below meth c H locs 0 0 Q (F0 m 9 ls []) := by
    intro fl
    induction fl with
    | zero => intro j hj hfl; exact absurd hfl (Nat.not_lt_zero _)
    | succ fl ih9 =>
      intro j hj hfl9 H locs hB ls hl
      refine lv_iload_n hx hb dX5_renew_9 rfl (lv_at hl 0 rfl) ?_
      refine lv_iload_n hx hb dX5_renew_10 rfl (lv_at hl 3 rfl) ?_
      refine lv_icmp_ge (tgt := 29) hx hb dX5_renew_11 (by decide) (fun h11 => ?_) (fun h11 => ?_)
      · skip
        have hj2 : j = n := by have := (nI_leI (by omega) (by omega)).mp h11; omega
        subst hj2
        exact zretv hF hB () (trivial) (rfl) dX5_renew_29 hQ
      · skip
        have hj2 : j < n := Nat.not_le.mp (fun e9 => h11 ((nI_leI (by omega) (by omega)).mpr e9))
        refine lv_aload_n hx hb dX5_renew_14 rfl (lv_at hl 1 rfl) ?_
        refine zget zf_X5_11 hF hB 0 rfl rfl dX5_renew_15 ?_
        refine lv_iload_n hx hb dX5_renew_18 rfl (lv_at hl 2 rfl) ?_
        refine zaaldA hF hB 1 rfl 1 (rfl) (by omega) (by decide) (r := bd 27) rfl dX5_renew_19 ?_
        refine lv_iload_n hx hb dX5_renew_20 rfl (lv_at hl 0 rfl) ?_
        refine lv_lconst (v := 0) hx hb dX5_renew_21 (by decide) ?_
        refine zlast hF hB 3 rfl j (rfl) (by omega) (by decide) dX5_renew_22 ?_
        clear hB
        try clear locs
        try clear H
        intro H locs hB
        replace hB : zB D A s ([((bd 6), .inr (5, [.ref (bd 25), .ref (bd 30), .int la9])), ((bd 25), .inl (ka 4, 4, .inr (.inr (.inr (.inr (nB bd)))))), ((bd 26), .inl (ka 1, 40, .inr (.inl (rw9 0)))), ((bd 27), .inl (ka 1, 40, .inr (.inl (vp_updL (zfill (rw9 1) 0 j) j (0 : Int64))))), ((bd 28), .inl (ka 1, 40, .inr (.inl (rw9 2)))), ((bd 29), .inl (ka 1, 40, .inr (.inl (rw9 3)))), ((bd 30), .inl (ka 0, 4, .inl (upd sz 1 (nI n))))]) H locs := hB
        refine lv_iinc (v := nI (j + 1)) (lv' := [(3, .int (nI (j + 1))), (0, .ref (bd 6)), (1, .int (nI 1)), (2, .int (nI n))]) hx hb dX5_renew_23 hl (k := 0) rfl (nI_1 _) (by decide) rfl ?_
        clear hl
        clear ls
        intro ls hl
        refine lv_goto (tgt := 9) hx hb dX5_renew_26 (by decide) ?_
        exact ih9 (j + 1) (by omega) (by omega) _ _ (by have e9 := zfill_s (rw9 1) 0 j; rw [Nat.zero_add] at e9; rw [e9] at hB; exact hB) _ (lv_sub hl [0, 1, 2, 3] rfl)
  exact lp9 (n - 0 + 1) 0 (Nat.zero_le _) (by omega) _ _ (by rw [zfill_0]; exact hB) _ (lv_sub hl [0, 1, 2, 3] rfl)

set_option maxHeartbeats 4000000 in
set_option maxRecDepth 100000 in
theorem c_X5_renew_2 (l : Launch) (D : va_G) (ka : Nat → ClassId) (kb : Nat → Nat) (bd : Nat → Nat) (la9 : Int32) (rw9 : Nat → Nat → Int64) (sz : Nat → Int32) (n : Nat) (hn : n ≤ 40) : zV l D ka kb yX5_renew cX5_renew 4 0 0 [.ref (bd 6), .int (nI 2), .int (nI n)] ([((bd 6), .inr (5, [.ref (bd 25), .ref (bd 30), .int la9])), ((bd 25), .inl (ka 4, 4, .inr (.inr (.inr (.inr (nB bd)))))), ((bd 26), .inl (ka 1, 40, .inr (.inl (rw9 0)))), ((bd 27), .inl (ka 1, 40, .inr (.inl (rw9 1)))), ((bd 28), .inl (ka 1, 40, .inr (.inl (rw9 2)))), ((bd 29), .inl (ka 1, 40, .inr (.inl (rw9 3)))), ((bd 30), .inl (ka 0, 4, .inl sz))]) (fun (_ : Unit) => True) (fun (_ : Unit) => [((bd 6), .inr (5, [.ref (bd 25), .ref (bd 30), .int la9])), ((bd 25), .inl (ka 4, 4, .inr (.inr (.inr (.inr (nB bd)))))), ((bd 26), .inl (ka 1, 40, .inr (.inl ((zfR rw9 2 n) 0)))), ((bd 27), .inl (ka 1, 40, .inr (.inl ((zfR rw9 2 n) 1)))), ((bd 28), .inl (ka 1, 40, .inr (.inl ((zfR rw9 2 n) 2)))), ((bd 29), .inl (ka 1, 40, .inr (.inl ((zfR rw9 2 n) 3)))), ((bd 30), .inl (ka 0, 4, .inl (upd sz 2 (nI n))))]) := by
  refine zV.mk RX5 (by decide +kernel) rfl (Nat.le_of_ble_eq_true rfl) ?_
  intro p e s m below meth c A ls args Q hQ hx hb hF hB hl
  replace hl : lv_has ls 4 [(0, .ref (bd 6)), (1, .int (nI 2)), (2, .int (nI n))] := hl
  refine lv_aload_n hx hb dX5_renew_0 rfl (lv_at hl 0 rfl) ?_
  refine zget zf_X5_16 hF hB 0 rfl rfl dX5_renew_1 ?_
  refine lv_iload_n hx hb dX5_renew_4 rfl (lv_at hl 1 rfl) ?_
  refine lv_iload_n hx hb dX5_renew_5 rfl (lv_at hl 2 rfl) ?_
  refine ziast hF hB 6 rfl 2 (rfl) (by omega) (by decide) dX5_renew_6 ?_
  clear hB
  try clear locs
  try clear H
  intro H locs hB
  replace hB : zB D A s ([((bd 6), .inr (5, [.ref (bd 25), .ref (bd 30), .int la9])), ((bd 25), .inl (ka 4, 4, .inr (.inr (.inr (.inr (nB bd)))))), ((bd 26), .inl (ka 1, 40, .inr (.inl (rw9 0)))), ((bd 27), .inl (ka 1, 40, .inr (.inl (rw9 1)))), ((bd 28), .inl (ka 1, 40, .inr (.inl (rw9 2)))), ((bd 29), .inl (ka 1, 40, .inr (.inl (rw9 3)))), ((bd 30), .inl (ka 0, 4, .inl (upd sz 2 (nI n))))]) H locs := hB
  refine lv_iconst (v := 0) hx hb dX5_renew_7 (by decide) ?_
  refine lv_istore_n (lv' := [(3, .int (0 : Int32)), (0, .ref (bd 6)), (1, .int (nI 2)), (2, .int (nI n))]) hx hb dX5_renew_8 rfl hl (by decide) rfl ?_
  clear hl
  clear ls
  intro ls hl
  have lp9 : ∀ (fl : Nat) (j : Nat), (hj : j ≤ n) → n - j < fl → ∀ (H : Heap) (locs : List Loc), zB D A s ([((bd 6), .inr (5, [.ref (bd 25), .ref (bd 30), .int la9])), ((bd 25), .inl (ka 4, 4, .inr (.inr (.inr (.inr (nB bd)))))), ((bd 26), .inl (ka 1, 40, .inr (.inl (rw9 0)))), ((bd 27), .inl (ka 1, 40, .inr (.inl (rw9 1)))), ((bd 28), .inl (ka 1, 40, .inr (.inl (zfill (rw9 2) 0 j)))), ((bd 29), .inl (ka 1, 40, .inr (.inl (rw9 3)))), ((bd 30), .inl (ka 0, 4, .inl (upd sz 2 (nI n))))]) H locs → ∀ ls : Array Slot, lv_has ls 4 [(3, .int (nI j)), (0, .ref (bd 6)), (1, .int (nI 2)), (2, .int (nI n))] → W p l e (zRm 0 0 0 0) s m args below meth c H locs 0 0 Q (F0 m 9 ls []) := by
    intro fl
    induction fl with
    | zero => intro j hj hfl; exact absurd hfl (Nat.not_lt_zero _)
    | succ fl ih9 =>
      intro j hj hfl9 H locs hB ls hl
      refine lv_iload_n hx hb dX5_renew_9 rfl (lv_at hl 0 rfl) ?_
      refine lv_iload_n hx hb dX5_renew_10 rfl (lv_at hl 3 rfl) ?_
      refine lv_icmp_ge (tgt := 29) hx hb dX5_renew_11 (by decide) (fun h11 => ?_) (fun h11 => ?_)
      · skip
        have hj2 : j = n := by have := (nI_leI (by omega) (by omega)).mp h11; omega
        subst hj2
        exact zretv hF hB () (trivial) (rfl) dX5_renew_29 hQ
      · skip
        have hj2 : j < n := Nat.not_le.mp (fun e9 => h11 ((nI_leI (by omega) (by omega)).mpr e9))
        refine lv_aload_n hx hb dX5_renew_14 rfl (lv_at hl 1 rfl) ?_
        refine zget zf_X5_11 hF hB 0 rfl rfl dX5_renew_15 ?_
        refine lv_iload_n hx hb dX5_renew_18 rfl (lv_at hl 2 rfl) ?_
        refine zaaldA hF hB 1 rfl 2 (rfl) (by omega) (by decide) (r := bd 28) rfl dX5_renew_19 ?_
        refine lv_iload_n hx hb dX5_renew_20 rfl (lv_at hl 0 rfl) ?_
        refine lv_lconst (v := 0) hx hb dX5_renew_21 (by decide) ?_
        refine zlast hF hB 4 rfl j (rfl) (by omega) (by decide) dX5_renew_22 ?_
        clear hB
        try clear locs
        try clear H
        intro H locs hB
        replace hB : zB D A s ([((bd 6), .inr (5, [.ref (bd 25), .ref (bd 30), .int la9])), ((bd 25), .inl (ka 4, 4, .inr (.inr (.inr (.inr (nB bd)))))), ((bd 26), .inl (ka 1, 40, .inr (.inl (rw9 0)))), ((bd 27), .inl (ka 1, 40, .inr (.inl (rw9 1)))), ((bd 28), .inl (ka 1, 40, .inr (.inl (vp_updL (zfill (rw9 2) 0 j) j (0 : Int64))))), ((bd 29), .inl (ka 1, 40, .inr (.inl (rw9 3)))), ((bd 30), .inl (ka 0, 4, .inl (upd sz 2 (nI n))))]) H locs := hB
        refine lv_iinc (v := nI (j + 1)) (lv' := [(3, .int (nI (j + 1))), (0, .ref (bd 6)), (1, .int (nI 2)), (2, .int (nI n))]) hx hb dX5_renew_23 hl (k := 0) rfl (nI_1 _) (by decide) rfl ?_
        clear hl
        clear ls
        intro ls hl
        refine lv_goto (tgt := 9) hx hb dX5_renew_26 (by decide) ?_
        exact ih9 (j + 1) (by omega) (by omega) _ _ (by have e9 := zfill_s (rw9 2) 0 j; rw [Nat.zero_add] at e9; rw [e9] at hB; exact hB) _ (lv_sub hl [0, 1, 2, 3] rfl)
  exact lp9 (n - 0 + 1) 0 (Nat.zero_le _) (by omega) _ _ (by rw [zfill_0]; exact hB) _ (lv_sub hl [0, 1, 2, 3] rfl)

set_option maxHeartbeats 4000000 in
set_option maxRecDepth 100000 in
theorem c_X5_renew_3 (l : Launch) (D : va_G) (ka : Nat → ClassId) (kb : Nat → Nat) (bd : Nat → Nat) (la9 : Int32) (rw9 : Nat → Nat → Int64) (sz : Nat → Int32) (n : Nat) (hn : n ≤ 40) : zV l D ka kb yX5_renew cX5_renew 4 0 0 [.ref (bd 6), .int (nI 3), .int (nI n)] ([((bd 6), .inr (5, [.ref (bd 25), .ref (bd 30), .int la9])), ((bd 25), .inl (ka 4, 4, .inr (.inr (.inr (.inr (nB bd)))))), ((bd 26), .inl (ka 1, 40, .inr (.inl (rw9 0)))), ((bd 27), .inl (ka 1, 40, .inr (.inl (rw9 1)))), ((bd 28), .inl (ka 1, 40, .inr (.inl (rw9 2)))), ((bd 29), .inl (ka 1, 40, .inr (.inl (rw9 3)))), ((bd 30), .inl (ka 0, 4, .inl sz))]) (fun (_ : Unit) => True) (fun (_ : Unit) => [((bd 6), .inr (5, [.ref (bd 25), .ref (bd 30), .int la9])), ((bd 25), .inl (ka 4, 4, .inr (.inr (.inr (.inr (nB bd)))))), ((bd 26), .inl (ka 1, 40, .inr (.inl ((zfR rw9 3 n) 0)))), ((bd 27), .inl (ka 1, 40, .inr (.inl ((zfR rw9 3 n) 1)))), ((bd 28), .inl (ka 1, 40, .inr (.inl ((zfR rw9 3 n) 2)))), ((bd 29), .inl (ka 1, 40, .inr (.inl ((zfR rw9 3 n) 3)))), ((bd 30), .inl (ka 0, 4, .inl (upd sz 3 (nI n))))]) := by
  refine zV.mk RX5 (by decide +kernel) rfl (Nat.le_of_ble_eq_true rfl) ?_
  intro p e s m below meth c A ls args Q hQ hx hb hF hB hl
  replace hl : lv_has ls 4 [(0, .ref (bd 6)), (1, .int (nI 3)), (2, .int (nI n))] := hl
  refine lv_aload_n hx hb dX5_renew_0 rfl (lv_at hl 0 rfl) ?_
  refine zget zf_X5_16 hF hB 0 rfl rfl dX5_renew_1 ?_
  refine lv_iload_n hx hb dX5_renew_4 rfl (lv_at hl 1 rfl) ?_
  refine lv_iload_n hx hb dX5_renew_5 rfl (lv_at hl 2 rfl) ?_
  refine ziast hF hB 6 rfl 3 (rfl) (by omega) (by decide) dX5_renew_6 ?_
  clear hB
  try clear locs
  try clear H
  intro H locs hB
  replace hB : zB D A s ([((bd 6), .inr (5, [.ref (bd 25), .ref (bd 30), .int la9])), ((bd 25), .inl (ka 4, 4, .inr (.inr (.inr (.inr (nB bd)))))), ((bd 26), .inl (ka 1, 40, .inr (.inl (rw9 0)))), ((bd 27), .inl (ka 1, 40, .inr (.inl (rw9 1)))), ((bd 28), .inl (ka 1, 40, .inr (.inl (rw9 2)))), ((bd 29), .inl (ka 1, 40, .inr (.inl (rw9 3)))), ((bd 30), .inl (ka 0, 4, .inl (upd sz 3 (nI n))))]) H locs := hB
  refine lv_iconst (v := 0) hx hb dX5_renew_7 (by decide) ?_
  refine lv_istore_n (lv' := [(3, .int (0 : Int32)), (0, .ref (bd 6)), (1, .int (nI 3)), (2, .int (nI n))]) hx hb dX5_renew_8 rfl hl (by decide) rfl ?_
  clear hl
  clear ls
  intro ls hl
  have lp9 : ∀ (fl : Nat) (j : Nat), (hj : j ≤ n) → n - j < fl → ∀ (H : Heap) (locs : List Loc), zB D A s ([((bd 6), .inr (5, [.ref (bd 25), .ref (bd 30), .int la9])), ((bd 25), .inl (ka 4, 4, .inr (.inr (.inr (.inr (nB bd)))))), ((bd 26), .inl (ka 1, 40, .inr (.inl (rw9 0)))), ((bd 27), .inl (ka 1, 40, .inr (.inl (rw9 1)))), ((bd 28), .inl (ka 1, 40, .inr (.inl (rw9 2)))), ((bd 29), .inl (ka 1, 40, .inr (.inl (zfill (rw9 3) 0 j)))), ((bd 30), .inl (ka 0, 4, .inl (upd sz 3 (nI n))))]) H locs → ∀ ls : Array Slot, lv_has ls 4 [(3, .int (nI j)), (0, .ref (bd 6)), (1, .int (nI 3)), (2, .int (nI n))] → W p l e (zRm 0 0 0 0) s m args below meth c H locs 0 0 Q (F0 m 9 ls []) := by
    intro fl
    induction fl with
    | zero => intro j hj hfl; exact absurd hfl (Nat.not_lt_zero _)
    | succ fl ih9 =>
      intro j hj hfl9 H locs hB ls hl
      refine lv_iload_n hx hb dX5_renew_9 rfl (lv_at hl 0 rfl) ?_
      refine lv_iload_n hx hb dX5_renew_10 rfl (lv_at hl 3 rfl) ?_
      refine lv_icmp_ge (tgt := 29) hx hb dX5_renew_11 (by decide) (fun h11 => ?_) (fun h11 => ?_)
      · skip
        have hj2 : j = n := by have := (nI_leI (by omega) (by omega)).mp h11; omega
        subst hj2
        exact zretv hF hB () (trivial) (rfl) dX5_renew_29 hQ
      · skip
        have hj2 : j < n := Nat.not_le.mp (fun e9 => h11 ((nI_leI (by omega) (by omega)).mpr e9))
        refine lv_aload_n hx hb dX5_renew_14 rfl (lv_at hl 1 rfl) ?_
        refine zget zf_X5_11 hF hB 0 rfl rfl dX5_renew_15 ?_
        refine lv_iload_n hx hb dX5_renew_18 rfl (lv_at hl 2 rfl) ?_
        refine zaaldA hF hB 1 rfl 3 (rfl) (by omega) (by decide) (r := bd 29) rfl dX5_renew_19 ?_
        refine lv_iload_n hx hb dX5_renew_20 rfl (lv_at hl 0 rfl) ?_
        refine lv_lconst (v := 0) hx hb dX5_renew_21 (by decide) ?_
        refine zlast hF hB 5 rfl j (rfl) (by omega) (by decide) dX5_renew_22 ?_
        clear hB
        try clear locs
        try clear H
        intro H locs hB
        replace hB : zB D A s ([((bd 6), .inr (5, [.ref (bd 25), .ref (bd 30), .int la9])), ((bd 25), .inl (ka 4, 4, .inr (.inr (.inr (.inr (nB bd)))))), ((bd 26), .inl (ka 1, 40, .inr (.inl (rw9 0)))), ((bd 27), .inl (ka 1, 40, .inr (.inl (rw9 1)))), ((bd 28), .inl (ka 1, 40, .inr (.inl (rw9 2)))), ((bd 29), .inl (ka 1, 40, .inr (.inl (vp_updL (zfill (rw9 3) 0 j) j (0 : Int64))))), ((bd 30), .inl (ka 0, 4, .inl (upd sz 3 (nI n))))]) H locs := hB
        refine lv_iinc (v := nI (j + 1)) (lv' := [(3, .int (nI (j + 1))), (0, .ref (bd 6)), (1, .int (nI 3)), (2, .int (nI n))]) hx hb dX5_renew_23 hl (k := 0) rfl (nI_1 _) (by decide) rfl ?_
        clear hl
        clear ls
        intro ls hl
        refine lv_goto (tgt := 9) hx hb dX5_renew_26 (by decide) ?_
        exact ih9 (j + 1) (by omega) (by omega) _ _ (by have e9 := zfill_s (rw9 3) 0 j; rw [Nat.zero_add] at e9; rw [e9] at hB; exact hB) _ (lv_sub hl [0, 1, 2, 3] rfl)
  exact lp9 (n - 0 + 1) 0 (Nat.zero_le _) (by omega) _ _ (by rw [zfill_0]; exact hB) _ (lv_sub hl [0, 1, 2, 3] rfl)

theorem c_X5_renew (l : Launch) (D : va_G) (ka : Nat → ClassId) (kb : Nat → Nat) (bd : Nat → Nat) (la9 : Int32) (rw9 : Nat → Nat → Int64) (sz : Nat → Int32) (s9 : Nat) (n : Nat) (hs9 : s9 < 4) (hn : n ≤ 40) : zV l D ka kb yX5_renew cX5_renew 4 0 0 [.ref (bd 6), .int (nI s9), .int (nI n)] ([((bd 6), .inr (5, [.ref (bd 25), .ref (bd 30), .int la9])), ((bd 25), .inl (ka 4, 4, .inr (.inr (.inr (.inr (nB bd)))))), ((bd 26), .inl (ka 1, 40, .inr (.inl (rw9 0)))), ((bd 27), .inl (ka 1, 40, .inr (.inl (rw9 1)))), ((bd 28), .inl (ka 1, 40, .inr (.inl (rw9 2)))), ((bd 29), .inl (ka 1, 40, .inr (.inl (rw9 3)))), ((bd 30), .inl (ka 0, 4, .inl sz))]) (fun (_ : Unit) => True) (fun (_ : Unit) => [((bd 6), .inr (5, [.ref (bd 25), .ref (bd 30), .int la9])), ((bd 25), .inl (ka 4, 4, .inr (.inr (.inr (.inr (nB bd)))))), ((bd 26), .inl (ka 1, 40, .inr (.inl ((zfR rw9 s9 n) 0)))), ((bd 27), .inl (ka 1, 40, .inr (.inl ((zfR rw9 s9 n) 1)))), ((bd 28), .inl (ka 1, 40, .inr (.inl ((zfR rw9 s9 n) 2)))), ((bd 29), .inl (ka 1, 40, .inr (.inl ((zfR rw9 s9 n) 3)))), ((bd 30), .inl (ka 0, 4, .inl (upd sz s9 (nI n))))]) := by
  rcases (show s9 = 0 ∨ s9 = 1 ∨ s9 = 2 ∨ s9 = 3 by omega) with rfl | rfl | rfl | rfl
  · exact c_X5_renew_0 l D ka kb bd la9 rw9 sz n hn
  · exact c_X5_renew_1 l D ka kb bd la9 rw9 sz n hn
  · exact c_X5_renew_2 l D ka kb bd la9 rw9 sz n hn
  · exact c_X5_renew_3 l D ka kb bd la9 rw9 sz n hn

set_option maxHeartbeats 4000000 in
set_option maxRecDepth 100000 in
theorem c_X5_move_0_0 (l : Launch) (D : va_G) (ka : Nat → ClassId) (kb : Nat → Nat) (bd : Nat → Nat) (la9 : Int32) (rw9 : Nat → Nat → Int64) (i : Nat) (j : Nat) (n : Nat) (hin : i + n ≤ 40) (hjn : j + n ≤ 40) : zV l D ka kb yX5_move cX5_move 6 1 60 [.ref (bd 6), .int (nI 0), .int (nI i), .int (nI 0), .int (nI j), .int (nI n)] ([((bd 6), .inr (5, [.ref (bd 25), .ref (bd 30), .int la9])), ((bd 25), .inl (ka 4, 4, .inr (.inr (.inr (.inr (nB bd)))))), ((bd 26), .inl (ka 1, 40, .inr (.inl (rw9 0)))), ((bd 27), .inl (ka 1, 40, .inr (.inl (rw9 1)))), ((bd 28), .inl (ka 1, 40, .inr (.inl (rw9 2)))), ((bd 29), .inl (ka 1, 40, .inr (.inl (rw9 3))))]) (fun (_ : Unit) => True) (fun (_ : Unit) => [((bd 6), .inr (5, [.ref (bd 25), .ref (bd 30), .int la9])), ((bd 25), .inl (ka 4, 4, .inr (.inr (.inr (.inr (nB bd)))))), ((bd 26), .inl (ka 1, 40, .inr (.inl ((mvR rw9 0 i 0 j n) 0)))), ((bd 27), .inl (ka 1, 40, .inr (.inl ((mvR rw9 0 i 0 j n) 1)))), ((bd 28), .inl (ka 1, 40, .inr (.inl ((mvR rw9 0 i 0 j n) 2)))), ((bd 29), .inl (ka 1, 40, .inr (.inl ((mvR rw9 0 i 0 j n) 3))))]) := by
  refine zV.mk RX5 (by decide +kernel) rfl (Nat.le_of_ble_eq_true rfl) ?_
  intro p e s m below meth c A ls args Q hQ hx hb hF hB hl
  replace hl : lv_has ls 6 [(0, .ref (bd 6)), (1, .int (nI 0)), (2, .int (nI i)), (3, .int (nI 0)), (4, .int (nI j)), (5, .int (nI n))] := hl
  refine lv_aload_n hx hb dX5_move_0 rfl (lv_at hl 0 rfl) ?_
  refine zget zf_X5_11 hF hB 0 rfl rfl dX5_move_1 ?_
  refine lv_iload_n hx hb dX5_move_4 rfl (lv_at hl 1 rfl) ?_
  refine zaaldA hF hB 1 rfl 0 (rfl) (by omega) (by decide) (r := bd 26) rfl dX5_move_5 ?_
  refine lv_iload_n hx hb dX5_move_6 rfl (lv_at hl 2 rfl) ?_
  refine lv_aload_n hx hb dX5_move_7 rfl (lv_at hl 0 rfl) ?_
  refine zget zf_X5_11 hF hB 0 rfl rfl dX5_move_8 ?_
  refine lv_iload_n hx hb dX5_move_11 rfl (lv_at hl 3 rfl) ?_
  refine zaaldA hF hB 1 rfl 0 (rfl) (by omega) (by decide) (r := bd 26) rfl dX5_move_12 ?_
  refine lv_iload hx hb dX5_move_13 (lv_at hl 4 rfl) ?_
  refine lv_iload hx hb dX5_move_15 (lv_at hl 5 rfl) ?_
  refine zcopyl ww_42_11 ww_42_12 ww_42_13 ww_42_14 hF hl.1 hB 2 2 rfl rfl i j n (by omega) (by omega) (by decide) (by decide) (Nat.le_of_ble_eq_true rfl) (by decide) dX5_move_17 ?_
  clear hB
  try clear locs
  try clear H
  intro H locs hB
  replace hB : zB D A s ([((bd 6), .inr (5, [.ref (bd 25), .ref (bd 30), .int la9])), ((bd 25), .inl (ka 4, 4, .inr (.inr (.inr (.inr (nB bd)))))), ((bd 26), .inl (ka 1, 40, .inr (.inl (va_cpy (rw9 0) (rw9 0) i j n)))), ((bd 27), .inl (ka 1, 40, .inr (.inl (rw9 1)))), ((bd 28), .inl (ka 1, 40, .inr (.inl (rw9 2)))), ((bd 29), .inl (ka 1, 40, .inr (.inl (rw9 3))))]) H locs := hB
  exact zretv hF hB () (trivial) (rfl) dX5_move_20 hQ

set_option maxHeartbeats 4000000 in
set_option maxRecDepth 100000 in
theorem c_X5_move_0_1 (l : Launch) (D : va_G) (ka : Nat → ClassId) (kb : Nat → Nat) (bd : Nat → Nat) (la9 : Int32) (rw9 : Nat → Nat → Int64) (i : Nat) (j : Nat) (n : Nat) (hin : i + n ≤ 40) (hjn : j + n ≤ 40) : zV l D ka kb yX5_move cX5_move 6 1 60 [.ref (bd 6), .int (nI 0), .int (nI i), .int (nI 1), .int (nI j), .int (nI n)] ([((bd 6), .inr (5, [.ref (bd 25), .ref (bd 30), .int la9])), ((bd 25), .inl (ka 4, 4, .inr (.inr (.inr (.inr (nB bd)))))), ((bd 26), .inl (ka 1, 40, .inr (.inl (rw9 0)))), ((bd 27), .inl (ka 1, 40, .inr (.inl (rw9 1)))), ((bd 28), .inl (ka 1, 40, .inr (.inl (rw9 2)))), ((bd 29), .inl (ka 1, 40, .inr (.inl (rw9 3))))]) (fun (_ : Unit) => True) (fun (_ : Unit) => [((bd 6), .inr (5, [.ref (bd 25), .ref (bd 30), .int la9])), ((bd 25), .inl (ka 4, 4, .inr (.inr (.inr (.inr (nB bd)))))), ((bd 26), .inl (ka 1, 40, .inr (.inl ((mvR rw9 0 i 1 j n) 0)))), ((bd 27), .inl (ka 1, 40, .inr (.inl ((mvR rw9 0 i 1 j n) 1)))), ((bd 28), .inl (ka 1, 40, .inr (.inl ((mvR rw9 0 i 1 j n) 2)))), ((bd 29), .inl (ka 1, 40, .inr (.inl ((mvR rw9 0 i 1 j n) 3))))]) := by
  refine zV.mk RX5 (by decide +kernel) rfl (Nat.le_of_ble_eq_true rfl) ?_
  intro p e s m below meth c A ls args Q hQ hx hb hF hB hl
  replace hl : lv_has ls 6 [(0, .ref (bd 6)), (1, .int (nI 0)), (2, .int (nI i)), (3, .int (nI 1)), (4, .int (nI j)), (5, .int (nI n))] := hl
  refine lv_aload_n hx hb dX5_move_0 rfl (lv_at hl 0 rfl) ?_
  refine zget zf_X5_11 hF hB 0 rfl rfl dX5_move_1 ?_
  refine lv_iload_n hx hb dX5_move_4 rfl (lv_at hl 1 rfl) ?_
  refine zaaldA hF hB 1 rfl 0 (rfl) (by omega) (by decide) (r := bd 26) rfl dX5_move_5 ?_
  refine lv_iload_n hx hb dX5_move_6 rfl (lv_at hl 2 rfl) ?_
  refine lv_aload_n hx hb dX5_move_7 rfl (lv_at hl 0 rfl) ?_
  refine zget zf_X5_11 hF hB 0 rfl rfl dX5_move_8 ?_
  refine lv_iload_n hx hb dX5_move_11 rfl (lv_at hl 3 rfl) ?_
  refine zaaldA hF hB 1 rfl 1 (rfl) (by omega) (by decide) (r := bd 27) rfl dX5_move_12 ?_
  refine lv_iload hx hb dX5_move_13 (lv_at hl 4 rfl) ?_
  refine lv_iload hx hb dX5_move_15 (lv_at hl 5 rfl) ?_
  refine zcopyl ww_42_11 ww_42_12 ww_42_13 ww_42_14 hF hl.1 hB 2 3 rfl rfl i j n (by omega) (by omega) (by decide) (by decide) (Nat.le_of_ble_eq_true rfl) (by decide) dX5_move_17 ?_
  clear hB
  try clear locs
  try clear H
  intro H locs hB
  replace hB : zB D A s ([((bd 6), .inr (5, [.ref (bd 25), .ref (bd 30), .int la9])), ((bd 25), .inl (ka 4, 4, .inr (.inr (.inr (.inr (nB bd)))))), ((bd 26), .inl (ka 1, 40, .inr (.inl (rw9 0)))), ((bd 27), .inl (ka 1, 40, .inr (.inl (va_cpy (rw9 0) (rw9 1) i j n)))), ((bd 28), .inl (ka 1, 40, .inr (.inl (rw9 2)))), ((bd 29), .inl (ka 1, 40, .inr (.inl (rw9 3))))]) H locs := hB
  exact zretv hF hB () (trivial) (rfl) dX5_move_20 hQ

set_option maxHeartbeats 4000000 in
set_option maxRecDepth 100000 in
theorem c_X5_move_0_2 (l : Launch) (D : va_G) (ka : Nat → ClassId) (kb : Nat → Nat) (bd : Nat → Nat) (la9 : Int32) (rw9 : Nat → Nat → Int64) (i : Nat) (j : Nat) (n : Nat) (hin : i + n ≤ 40) (hjn : j + n ≤ 40) : zV l D ka kb yX5_move cX5_move 6 1 60 [.ref (bd 6), .int (nI 0), .int (nI i), .int (nI 2), .int (nI j), .int (nI n)] ([((bd 6), .inr (5, [.ref (bd 25), .ref (bd 30), .int la9])), ((bd 25), .inl (ka 4, 4, .inr (.inr (.inr (.inr (nB bd)))))), ((bd 26), .inl (ka 1, 40, .inr (.inl (rw9 0)))), ((bd 27), .inl (ka 1, 40, .inr (.inl (rw9 1)))), ((bd 28), .inl (ka 1, 40, .inr (.inl (rw9 2)))), ((bd 29), .inl (ka 1, 40, .inr (.inl (rw9 3))))]) (fun (_ : Unit) => True) (fun (_ : Unit) => [((bd 6), .inr (5, [.ref (bd 25), .ref (bd 30), .int la9])), ((bd 25), .inl (ka 4, 4, .inr (.inr (.inr (.inr (nB bd)))))), ((bd 26), .inl (ka 1, 40, .inr (.inl ((mvR rw9 0 i 2 j n) 0)))), ((bd 27), .inl (ka 1, 40, .inr (.inl ((mvR rw9 0 i 2 j n) 1)))), ((bd 28), .inl (ka 1, 40, .inr (.inl ((mvR rw9 0 i 2 j n) 2)))), ((bd 29), .inl (ka 1, 40, .inr (.inl ((mvR rw9 0 i 2 j n) 3))))]) := by
  refine zV.mk RX5 (by decide +kernel) rfl (Nat.le_of_ble_eq_true rfl) ?_
  intro p e s m below meth c A ls args Q hQ hx hb hF hB hl
  replace hl : lv_has ls 6 [(0, .ref (bd 6)), (1, .int (nI 0)), (2, .int (nI i)), (3, .int (nI 2)), (4, .int (nI j)), (5, .int (nI n))] := hl
  refine lv_aload_n hx hb dX5_move_0 rfl (lv_at hl 0 rfl) ?_
  refine zget zf_X5_11 hF hB 0 rfl rfl dX5_move_1 ?_
  refine lv_iload_n hx hb dX5_move_4 rfl (lv_at hl 1 rfl) ?_
  refine zaaldA hF hB 1 rfl 0 (rfl) (by omega) (by decide) (r := bd 26) rfl dX5_move_5 ?_
  refine lv_iload_n hx hb dX5_move_6 rfl (lv_at hl 2 rfl) ?_
  refine lv_aload_n hx hb dX5_move_7 rfl (lv_at hl 0 rfl) ?_
  refine zget zf_X5_11 hF hB 0 rfl rfl dX5_move_8 ?_
  refine lv_iload_n hx hb dX5_move_11 rfl (lv_at hl 3 rfl) ?_
  refine zaaldA hF hB 1 rfl 2 (rfl) (by omega) (by decide) (r := bd 28) rfl dX5_move_12 ?_
  refine lv_iload hx hb dX5_move_13 (lv_at hl 4 rfl) ?_
  refine lv_iload hx hb dX5_move_15 (lv_at hl 5 rfl) ?_
  refine zcopyl ww_42_11 ww_42_12 ww_42_13 ww_42_14 hF hl.1 hB 2 4 rfl rfl i j n (by omega) (by omega) (by decide) (by decide) (Nat.le_of_ble_eq_true rfl) (by decide) dX5_move_17 ?_
  clear hB
  try clear locs
  try clear H
  intro H locs hB
  replace hB : zB D A s ([((bd 6), .inr (5, [.ref (bd 25), .ref (bd 30), .int la9])), ((bd 25), .inl (ka 4, 4, .inr (.inr (.inr (.inr (nB bd)))))), ((bd 26), .inl (ka 1, 40, .inr (.inl (rw9 0)))), ((bd 27), .inl (ka 1, 40, .inr (.inl (rw9 1)))), ((bd 28), .inl (ka 1, 40, .inr (.inl (va_cpy (rw9 0) (rw9 2) i j n)))), ((bd 29), .inl (ka 1, 40, .inr (.inl (rw9 3))))]) H locs := hB
  exact zretv hF hB () (trivial) (rfl) dX5_move_20 hQ

set_option maxHeartbeats 4000000 in
set_option maxRecDepth 100000 in
theorem c_X5_move_0_3 (l : Launch) (D : va_G) (ka : Nat → ClassId) (kb : Nat → Nat) (bd : Nat → Nat) (la9 : Int32) (rw9 : Nat → Nat → Int64) (i : Nat) (j : Nat) (n : Nat) (hin : i + n ≤ 40) (hjn : j + n ≤ 40) : zV l D ka kb yX5_move cX5_move 6 1 60 [.ref (bd 6), .int (nI 0), .int (nI i), .int (nI 3), .int (nI j), .int (nI n)] ([((bd 6), .inr (5, [.ref (bd 25), .ref (bd 30), .int la9])), ((bd 25), .inl (ka 4, 4, .inr (.inr (.inr (.inr (nB bd)))))), ((bd 26), .inl (ka 1, 40, .inr (.inl (rw9 0)))), ((bd 27), .inl (ka 1, 40, .inr (.inl (rw9 1)))), ((bd 28), .inl (ka 1, 40, .inr (.inl (rw9 2)))), ((bd 29), .inl (ka 1, 40, .inr (.inl (rw9 3))))]) (fun (_ : Unit) => True) (fun (_ : Unit) => [((bd 6), .inr (5, [.ref (bd 25), .ref (bd 30), .int la9])), ((bd 25), .inl (ka 4, 4, .inr (.inr (.inr (.inr (nB bd)))))), ((bd 26), .inl (ka 1, 40, .inr (.inl ((mvR rw9 0 i 3 j n) 0)))), ((bd 27), .inl (ka 1, 40, .inr (.inl ((mvR rw9 0 i 3 j n) 1)))), ((bd 28), .inl (ka 1, 40, .inr (.inl ((mvR rw9 0 i 3 j n) 2)))), ((bd 29), .inl (ka 1, 40, .inr (.inl ((mvR rw9 0 i 3 j n) 3))))]) := by
  refine zV.mk RX5 (by decide +kernel) rfl (Nat.le_of_ble_eq_true rfl) ?_
  intro p e s m below meth c A ls args Q hQ hx hb hF hB hl
  replace hl : lv_has ls 6 [(0, .ref (bd 6)), (1, .int (nI 0)), (2, .int (nI i)), (3, .int (nI 3)), (4, .int (nI j)), (5, .int (nI n))] := hl
  refine lv_aload_n hx hb dX5_move_0 rfl (lv_at hl 0 rfl) ?_
  refine zget zf_X5_11 hF hB 0 rfl rfl dX5_move_1 ?_
  refine lv_iload_n hx hb dX5_move_4 rfl (lv_at hl 1 rfl) ?_
  refine zaaldA hF hB 1 rfl 0 (rfl) (by omega) (by decide) (r := bd 26) rfl dX5_move_5 ?_
  refine lv_iload_n hx hb dX5_move_6 rfl (lv_at hl 2 rfl) ?_
  refine lv_aload_n hx hb dX5_move_7 rfl (lv_at hl 0 rfl) ?_
  refine zget zf_X5_11 hF hB 0 rfl rfl dX5_move_8 ?_
  refine lv_iload_n hx hb dX5_move_11 rfl (lv_at hl 3 rfl) ?_
  refine zaaldA hF hB 1 rfl 3 (rfl) (by omega) (by decide) (r := bd 29) rfl dX5_move_12 ?_
  refine lv_iload hx hb dX5_move_13 (lv_at hl 4 rfl) ?_
  refine lv_iload hx hb dX5_move_15 (lv_at hl 5 rfl) ?_
  refine zcopyl ww_42_11 ww_42_12 ww_42_13 ww_42_14 hF hl.1 hB 2 5 rfl rfl i j n (by omega) (by omega) (by decide) (by decide) (Nat.le_of_ble_eq_true rfl) (by decide) dX5_move_17 ?_
  clear hB
  try clear locs
  try clear H
  intro H locs hB
  replace hB : zB D A s ([((bd 6), .inr (5, [.ref (bd 25), .ref (bd 30), .int la9])), ((bd 25), .inl (ka 4, 4, .inr (.inr (.inr (.inr (nB bd)))))), ((bd 26), .inl (ka 1, 40, .inr (.inl (rw9 0)))), ((bd 27), .inl (ka 1, 40, .inr (.inl (rw9 1)))), ((bd 28), .inl (ka 1, 40, .inr (.inl (rw9 2)))), ((bd 29), .inl (ka 1, 40, .inr (.inl (va_cpy (rw9 0) (rw9 3) i j n))))]) H locs := hB
  exact zretv hF hB () (trivial) (rfl) dX5_move_20 hQ

set_option maxHeartbeats 4000000 in
set_option maxRecDepth 100000 in
theorem c_X5_move_1_0 (l : Launch) (D : va_G) (ka : Nat → ClassId) (kb : Nat → Nat) (bd : Nat → Nat) (la9 : Int32) (rw9 : Nat → Nat → Int64) (i : Nat) (j : Nat) (n : Nat) (hin : i + n ≤ 40) (hjn : j + n ≤ 40) : zV l D ka kb yX5_move cX5_move 6 1 60 [.ref (bd 6), .int (nI 1), .int (nI i), .int (nI 0), .int (nI j), .int (nI n)] ([((bd 6), .inr (5, [.ref (bd 25), .ref (bd 30), .int la9])), ((bd 25), .inl (ka 4, 4, .inr (.inr (.inr (.inr (nB bd)))))), ((bd 26), .inl (ka 1, 40, .inr (.inl (rw9 0)))), ((bd 27), .inl (ka 1, 40, .inr (.inl (rw9 1)))), ((bd 28), .inl (ka 1, 40, .inr (.inl (rw9 2)))), ((bd 29), .inl (ka 1, 40, .inr (.inl (rw9 3))))]) (fun (_ : Unit) => True) (fun (_ : Unit) => [((bd 6), .inr (5, [.ref (bd 25), .ref (bd 30), .int la9])), ((bd 25), .inl (ka 4, 4, .inr (.inr (.inr (.inr (nB bd)))))), ((bd 26), .inl (ka 1, 40, .inr (.inl ((mvR rw9 1 i 0 j n) 0)))), ((bd 27), .inl (ka 1, 40, .inr (.inl ((mvR rw9 1 i 0 j n) 1)))), ((bd 28), .inl (ka 1, 40, .inr (.inl ((mvR rw9 1 i 0 j n) 2)))), ((bd 29), .inl (ka 1, 40, .inr (.inl ((mvR rw9 1 i 0 j n) 3))))]) := by
  refine zV.mk RX5 (by decide +kernel) rfl (Nat.le_of_ble_eq_true rfl) ?_
  intro p e s m below meth c A ls args Q hQ hx hb hF hB hl
  replace hl : lv_has ls 6 [(0, .ref (bd 6)), (1, .int (nI 1)), (2, .int (nI i)), (3, .int (nI 0)), (4, .int (nI j)), (5, .int (nI n))] := hl
  refine lv_aload_n hx hb dX5_move_0 rfl (lv_at hl 0 rfl) ?_
  refine zget zf_X5_11 hF hB 0 rfl rfl dX5_move_1 ?_
  refine lv_iload_n hx hb dX5_move_4 rfl (lv_at hl 1 rfl) ?_
  refine zaaldA hF hB 1 rfl 1 (rfl) (by omega) (by decide) (r := bd 27) rfl dX5_move_5 ?_
  refine lv_iload_n hx hb dX5_move_6 rfl (lv_at hl 2 rfl) ?_
  refine lv_aload_n hx hb dX5_move_7 rfl (lv_at hl 0 rfl) ?_
  refine zget zf_X5_11 hF hB 0 rfl rfl dX5_move_8 ?_
  refine lv_iload_n hx hb dX5_move_11 rfl (lv_at hl 3 rfl) ?_
  refine zaaldA hF hB 1 rfl 0 (rfl) (by omega) (by decide) (r := bd 26) rfl dX5_move_12 ?_
  refine lv_iload hx hb dX5_move_13 (lv_at hl 4 rfl) ?_
  refine lv_iload hx hb dX5_move_15 (lv_at hl 5 rfl) ?_
  refine zcopyl ww_42_11 ww_42_12 ww_42_13 ww_42_14 hF hl.1 hB 3 2 rfl rfl i j n (by omega) (by omega) (by decide) (by decide) (Nat.le_of_ble_eq_true rfl) (by decide) dX5_move_17 ?_
  clear hB
  try clear locs
  try clear H
  intro H locs hB
  replace hB : zB D A s ([((bd 6), .inr (5, [.ref (bd 25), .ref (bd 30), .int la9])), ((bd 25), .inl (ka 4, 4, .inr (.inr (.inr (.inr (nB bd)))))), ((bd 26), .inl (ka 1, 40, .inr (.inl (va_cpy (rw9 1) (rw9 0) i j n)))), ((bd 27), .inl (ka 1, 40, .inr (.inl (rw9 1)))), ((bd 28), .inl (ka 1, 40, .inr (.inl (rw9 2)))), ((bd 29), .inl (ka 1, 40, .inr (.inl (rw9 3))))]) H locs := hB
  exact zretv hF hB () (trivial) (rfl) dX5_move_20 hQ

set_option maxHeartbeats 4000000 in
set_option maxRecDepth 100000 in
theorem c_X5_move_1_1 (l : Launch) (D : va_G) (ka : Nat → ClassId) (kb : Nat → Nat) (bd : Nat → Nat) (la9 : Int32) (rw9 : Nat → Nat → Int64) (i : Nat) (j : Nat) (n : Nat) (hin : i + n ≤ 40) (hjn : j + n ≤ 40) : zV l D ka kb yX5_move cX5_move 6 1 60 [.ref (bd 6), .int (nI 1), .int (nI i), .int (nI 1), .int (nI j), .int (nI n)] ([((bd 6), .inr (5, [.ref (bd 25), .ref (bd 30), .int la9])), ((bd 25), .inl (ka 4, 4, .inr (.inr (.inr (.inr (nB bd)))))), ((bd 26), .inl (ka 1, 40, .inr (.inl (rw9 0)))), ((bd 27), .inl (ka 1, 40, .inr (.inl (rw9 1)))), ((bd 28), .inl (ka 1, 40, .inr (.inl (rw9 2)))), ((bd 29), .inl (ka 1, 40, .inr (.inl (rw9 3))))]) (fun (_ : Unit) => True) (fun (_ : Unit) => [((bd 6), .inr (5, [.ref (bd 25), .ref (bd 30), .int la9])), ((bd 25), .inl (ka 4, 4, .inr (.inr (.inr (.inr (nB bd)))))), ((bd 26), .inl (ka 1, 40, .inr (.inl ((mvR rw9 1 i 1 j n) 0)))), ((bd 27), .inl (ka 1, 40, .inr (.inl ((mvR rw9 1 i 1 j n) 1)))), ((bd 28), .inl (ka 1, 40, .inr (.inl ((mvR rw9 1 i 1 j n) 2)))), ((bd 29), .inl (ka 1, 40, .inr (.inl ((mvR rw9 1 i 1 j n) 3))))]) := by
  refine zV.mk RX5 (by decide +kernel) rfl (Nat.le_of_ble_eq_true rfl) ?_
  intro p e s m below meth c A ls args Q hQ hx hb hF hB hl
  replace hl : lv_has ls 6 [(0, .ref (bd 6)), (1, .int (nI 1)), (2, .int (nI i)), (3, .int (nI 1)), (4, .int (nI j)), (5, .int (nI n))] := hl
  refine lv_aload_n hx hb dX5_move_0 rfl (lv_at hl 0 rfl) ?_
  refine zget zf_X5_11 hF hB 0 rfl rfl dX5_move_1 ?_
  refine lv_iload_n hx hb dX5_move_4 rfl (lv_at hl 1 rfl) ?_
  refine zaaldA hF hB 1 rfl 1 (rfl) (by omega) (by decide) (r := bd 27) rfl dX5_move_5 ?_
  refine lv_iload_n hx hb dX5_move_6 rfl (lv_at hl 2 rfl) ?_
  refine lv_aload_n hx hb dX5_move_7 rfl (lv_at hl 0 rfl) ?_
  refine zget zf_X5_11 hF hB 0 rfl rfl dX5_move_8 ?_
  refine lv_iload_n hx hb dX5_move_11 rfl (lv_at hl 3 rfl) ?_
  refine zaaldA hF hB 1 rfl 1 (rfl) (by omega) (by decide) (r := bd 27) rfl dX5_move_12 ?_
  refine lv_iload hx hb dX5_move_13 (lv_at hl 4 rfl) ?_
  refine lv_iload hx hb dX5_move_15 (lv_at hl 5 rfl) ?_
  refine zcopyl ww_42_11 ww_42_12 ww_42_13 ww_42_14 hF hl.1 hB 3 3 rfl rfl i j n (by omega) (by omega) (by decide) (by decide) (Nat.le_of_ble_eq_true rfl) (by decide) dX5_move_17 ?_
  clear hB
  try clear locs
  try clear H
  intro H locs hB
  replace hB : zB D A s ([((bd 6), .inr (5, [.ref (bd 25), .ref (bd 30), .int la9])), ((bd 25), .inl (ka 4, 4, .inr (.inr (.inr (.inr (nB bd)))))), ((bd 26), .inl (ka 1, 40, .inr (.inl (rw9 0)))), ((bd 27), .inl (ka 1, 40, .inr (.inl (va_cpy (rw9 1) (rw9 1) i j n)))), ((bd 28), .inl (ka 1, 40, .inr (.inl (rw9 2)))), ((bd 29), .inl (ka 1, 40, .inr (.inl (rw9 3))))]) H locs := hB
  exact zretv hF hB () (trivial) (rfl) dX5_move_20 hQ

set_option maxHeartbeats 4000000 in
set_option maxRecDepth 100000 in
theorem c_X5_move_1_2 (l : Launch) (D : va_G) (ka : Nat → ClassId) (kb : Nat → Nat) (bd : Nat → Nat) (la9 : Int32) (rw9 : Nat → Nat → Int64) (i : Nat) (j : Nat) (n : Nat) (hin : i + n ≤ 40) (hjn : j + n ≤ 40) : zV l D ka kb yX5_move cX5_move 6 1 60 [.ref (bd 6), .int (nI 1), .int (nI i), .int (nI 2), .int (nI j), .int (nI n)] ([((bd 6), .inr (5, [.ref (bd 25), .ref (bd 30), .int la9])), ((bd 25), .inl (ka 4, 4, .inr (.inr (.inr (.inr (nB bd)))))), ((bd 26), .inl (ka 1, 40, .inr (.inl (rw9 0)))), ((bd 27), .inl (ka 1, 40, .inr (.inl (rw9 1)))), ((bd 28), .inl (ka 1, 40, .inr (.inl (rw9 2)))), ((bd 29), .inl (ka 1, 40, .inr (.inl (rw9 3))))]) (fun (_ : Unit) => True) (fun (_ : Unit) => [((bd 6), .inr (5, [.ref (bd 25), .ref (bd 30), .int la9])), ((bd 25), .inl (ka 4, 4, .inr (.inr (.inr (.inr (nB bd)))))), ((bd 26), .inl (ka 1, 40, .inr (.inl ((mvR rw9 1 i 2 j n) 0)))), ((bd 27), .inl (ka 1, 40, .inr (.inl ((mvR rw9 1 i 2 j n) 1)))), ((bd 28), .inl (ka 1, 40, .inr (.inl ((mvR rw9 1 i 2 j n) 2)))), ((bd 29), .inl (ka 1, 40, .inr (.inl ((mvR rw9 1 i 2 j n) 3))))]) := by
  refine zV.mk RX5 (by decide +kernel) rfl (Nat.le_of_ble_eq_true rfl) ?_
  intro p e s m below meth c A ls args Q hQ hx hb hF hB hl
  replace hl : lv_has ls 6 [(0, .ref (bd 6)), (1, .int (nI 1)), (2, .int (nI i)), (3, .int (nI 2)), (4, .int (nI j)), (5, .int (nI n))] := hl
  refine lv_aload_n hx hb dX5_move_0 rfl (lv_at hl 0 rfl) ?_
  refine zget zf_X5_11 hF hB 0 rfl rfl dX5_move_1 ?_
  refine lv_iload_n hx hb dX5_move_4 rfl (lv_at hl 1 rfl) ?_
  refine zaaldA hF hB 1 rfl 1 (rfl) (by omega) (by decide) (r := bd 27) rfl dX5_move_5 ?_
  refine lv_iload_n hx hb dX5_move_6 rfl (lv_at hl 2 rfl) ?_
  refine lv_aload_n hx hb dX5_move_7 rfl (lv_at hl 0 rfl) ?_
  refine zget zf_X5_11 hF hB 0 rfl rfl dX5_move_8 ?_
  refine lv_iload_n hx hb dX5_move_11 rfl (lv_at hl 3 rfl) ?_
  refine zaaldA hF hB 1 rfl 2 (rfl) (by omega) (by decide) (r := bd 28) rfl dX5_move_12 ?_
  refine lv_iload hx hb dX5_move_13 (lv_at hl 4 rfl) ?_
  refine lv_iload hx hb dX5_move_15 (lv_at hl 5 rfl) ?_
  refine zcopyl ww_42_11 ww_42_12 ww_42_13 ww_42_14 hF hl.1 hB 3 4 rfl rfl i j n (by omega) (by omega) (by decide) (by decide) (Nat.le_of_ble_eq_true rfl) (by decide) dX5_move_17 ?_
  clear hB
  try clear locs
  try clear H
  intro H locs hB
  replace hB : zB D A s ([((bd 6), .inr (5, [.ref (bd 25), .ref (bd 30), .int la9])), ((bd 25), .inl (ka 4, 4, .inr (.inr (.inr (.inr (nB bd)))))), ((bd 26), .inl (ka 1, 40, .inr (.inl (rw9 0)))), ((bd 27), .inl (ka 1, 40, .inr (.inl (rw9 1)))), ((bd 28), .inl (ka 1, 40, .inr (.inl (va_cpy (rw9 1) (rw9 2) i j n)))), ((bd 29), .inl (ka 1, 40, .inr (.inl (rw9 3))))]) H locs := hB
  exact zretv hF hB () (trivial) (rfl) dX5_move_20 hQ

set_option maxHeartbeats 4000000 in
set_option maxRecDepth 100000 in
theorem c_X5_move_1_3 (l : Launch) (D : va_G) (ka : Nat → ClassId) (kb : Nat → Nat) (bd : Nat → Nat) (la9 : Int32) (rw9 : Nat → Nat → Int64) (i : Nat) (j : Nat) (n : Nat) (hin : i + n ≤ 40) (hjn : j + n ≤ 40) : zV l D ka kb yX5_move cX5_move 6 1 60 [.ref (bd 6), .int (nI 1), .int (nI i), .int (nI 3), .int (nI j), .int (nI n)] ([((bd 6), .inr (5, [.ref (bd 25), .ref (bd 30), .int la9])), ((bd 25), .inl (ka 4, 4, .inr (.inr (.inr (.inr (nB bd)))))), ((bd 26), .inl (ka 1, 40, .inr (.inl (rw9 0)))), ((bd 27), .inl (ka 1, 40, .inr (.inl (rw9 1)))), ((bd 28), .inl (ka 1, 40, .inr (.inl (rw9 2)))), ((bd 29), .inl (ka 1, 40, .inr (.inl (rw9 3))))]) (fun (_ : Unit) => True) (fun (_ : Unit) => [((bd 6), .inr (5, [.ref (bd 25), .ref (bd 30), .int la9])), ((bd 25), .inl (ka 4, 4, .inr (.inr (.inr (.inr (nB bd)))))), ((bd 26), .inl (ka 1, 40, .inr (.inl ((mvR rw9 1 i 3 j n) 0)))), ((bd 27), .inl (ka 1, 40, .inr (.inl ((mvR rw9 1 i 3 j n) 1)))), ((bd 28), .inl (ka 1, 40, .inr (.inl ((mvR rw9 1 i 3 j n) 2)))), ((bd 29), .inl (ka 1, 40, .inr (.inl ((mvR rw9 1 i 3 j n) 3))))]) := by
  refine zV.mk RX5 (by decide +kernel) rfl (Nat.le_of_ble_eq_true rfl) ?_
  intro p e s m below meth c A ls args Q hQ hx hb hF hB hl
  replace hl : lv_has ls 6 [(0, .ref (bd 6)), (1, .int (nI 1)), (2, .int (nI i)), (3, .int (nI 3)), (4, .int (nI j)), (5, .int (nI n))] := hl
  refine lv_aload_n hx hb dX5_move_0 rfl (lv_at hl 0 rfl) ?_
  refine zget zf_X5_11 hF hB 0 rfl rfl dX5_move_1 ?_
  refine lv_iload_n hx hb dX5_move_4 rfl (lv_at hl 1 rfl) ?_
  refine zaaldA hF hB 1 rfl 1 (rfl) (by omega) (by decide) (r := bd 27) rfl dX5_move_5 ?_
  refine lv_iload_n hx hb dX5_move_6 rfl (lv_at hl 2 rfl) ?_
  refine lv_aload_n hx hb dX5_move_7 rfl (lv_at hl 0 rfl) ?_
  refine zget zf_X5_11 hF hB 0 rfl rfl dX5_move_8 ?_
  refine lv_iload_n hx hb dX5_move_11 rfl (lv_at hl 3 rfl) ?_
  refine zaaldA hF hB 1 rfl 3 (rfl) (by omega) (by decide) (r := bd 29) rfl dX5_move_12 ?_
  refine lv_iload hx hb dX5_move_13 (lv_at hl 4 rfl) ?_
  refine lv_iload hx hb dX5_move_15 (lv_at hl 5 rfl) ?_
  refine zcopyl ww_42_11 ww_42_12 ww_42_13 ww_42_14 hF hl.1 hB 3 5 rfl rfl i j n (by omega) (by omega) (by decide) (by decide) (Nat.le_of_ble_eq_true rfl) (by decide) dX5_move_17 ?_
  clear hB
  try clear locs
  try clear H
  intro H locs hB
  replace hB : zB D A s ([((bd 6), .inr (5, [.ref (bd 25), .ref (bd 30), .int la9])), ((bd 25), .inl (ka 4, 4, .inr (.inr (.inr (.inr (nB bd)))))), ((bd 26), .inl (ka 1, 40, .inr (.inl (rw9 0)))), ((bd 27), .inl (ka 1, 40, .inr (.inl (rw9 1)))), ((bd 28), .inl (ka 1, 40, .inr (.inl (rw9 2)))), ((bd 29), .inl (ka 1, 40, .inr (.inl (va_cpy (rw9 1) (rw9 3) i j n))))]) H locs := hB
  exact zretv hF hB () (trivial) (rfl) dX5_move_20 hQ

set_option maxHeartbeats 4000000 in
set_option maxRecDepth 100000 in
theorem c_X5_move_2_0 (l : Launch) (D : va_G) (ka : Nat → ClassId) (kb : Nat → Nat) (bd : Nat → Nat) (la9 : Int32) (rw9 : Nat → Nat → Int64) (i : Nat) (j : Nat) (n : Nat) (hin : i + n ≤ 40) (hjn : j + n ≤ 40) : zV l D ka kb yX5_move cX5_move 6 1 60 [.ref (bd 6), .int (nI 2), .int (nI i), .int (nI 0), .int (nI j), .int (nI n)] ([((bd 6), .inr (5, [.ref (bd 25), .ref (bd 30), .int la9])), ((bd 25), .inl (ka 4, 4, .inr (.inr (.inr (.inr (nB bd)))))), ((bd 26), .inl (ka 1, 40, .inr (.inl (rw9 0)))), ((bd 27), .inl (ka 1, 40, .inr (.inl (rw9 1)))), ((bd 28), .inl (ka 1, 40, .inr (.inl (rw9 2)))), ((bd 29), .inl (ka 1, 40, .inr (.inl (rw9 3))))]) (fun (_ : Unit) => True) (fun (_ : Unit) => [((bd 6), .inr (5, [.ref (bd 25), .ref (bd 30), .int la9])), ((bd 25), .inl (ka 4, 4, .inr (.inr (.inr (.inr (nB bd)))))), ((bd 26), .inl (ka 1, 40, .inr (.inl ((mvR rw9 2 i 0 j n) 0)))), ((bd 27), .inl (ka 1, 40, .inr (.inl ((mvR rw9 2 i 0 j n) 1)))), ((bd 28), .inl (ka 1, 40, .inr (.inl ((mvR rw9 2 i 0 j n) 2)))), ((bd 29), .inl (ka 1, 40, .inr (.inl ((mvR rw9 2 i 0 j n) 3))))]) := by
  refine zV.mk RX5 (by decide +kernel) rfl (Nat.le_of_ble_eq_true rfl) ?_
  intro p e s m below meth c A ls args Q hQ hx hb hF hB hl
  replace hl : lv_has ls 6 [(0, .ref (bd 6)), (1, .int (nI 2)), (2, .int (nI i)), (3, .int (nI 0)), (4, .int (nI j)), (5, .int (nI n))] := hl
  refine lv_aload_n hx hb dX5_move_0 rfl (lv_at hl 0 rfl) ?_
  refine zget zf_X5_11 hF hB 0 rfl rfl dX5_move_1 ?_
  refine lv_iload_n hx hb dX5_move_4 rfl (lv_at hl 1 rfl) ?_
  refine zaaldA hF hB 1 rfl 2 (rfl) (by omega) (by decide) (r := bd 28) rfl dX5_move_5 ?_
  refine lv_iload_n hx hb dX5_move_6 rfl (lv_at hl 2 rfl) ?_
  refine lv_aload_n hx hb dX5_move_7 rfl (lv_at hl 0 rfl) ?_
  refine zget zf_X5_11 hF hB 0 rfl rfl dX5_move_8 ?_
  refine lv_iload_n hx hb dX5_move_11 rfl (lv_at hl 3 rfl) ?_
  refine zaaldA hF hB 1 rfl 0 (rfl) (by omega) (by decide) (r := bd 26) rfl dX5_move_12 ?_
  refine lv_iload hx hb dX5_move_13 (lv_at hl 4 rfl) ?_
  refine lv_iload hx hb dX5_move_15 (lv_at hl 5 rfl) ?_
  refine zcopyl ww_42_11 ww_42_12 ww_42_13 ww_42_14 hF hl.1 hB 4 2 rfl rfl i j n (by omega) (by omega) (by decide) (by decide) (Nat.le_of_ble_eq_true rfl) (by decide) dX5_move_17 ?_
  clear hB
  try clear locs
  try clear H
  intro H locs hB
  replace hB : zB D A s ([((bd 6), .inr (5, [.ref (bd 25), .ref (bd 30), .int la9])), ((bd 25), .inl (ka 4, 4, .inr (.inr (.inr (.inr (nB bd)))))), ((bd 26), .inl (ka 1, 40, .inr (.inl (va_cpy (rw9 2) (rw9 0) i j n)))), ((bd 27), .inl (ka 1, 40, .inr (.inl (rw9 1)))), ((bd 28), .inl (ka 1, 40, .inr (.inl (rw9 2)))), ((bd 29), .inl (ka 1, 40, .inr (.inl (rw9 3))))]) H locs := hB
  exact zretv hF hB () (trivial) (rfl) dX5_move_20 hQ

set_option maxHeartbeats 4000000 in
set_option maxRecDepth 100000 in
theorem c_X5_move_2_1 (l : Launch) (D : va_G) (ka : Nat → ClassId) (kb : Nat → Nat) (bd : Nat → Nat) (la9 : Int32) (rw9 : Nat → Nat → Int64) (i : Nat) (j : Nat) (n : Nat) (hin : i + n ≤ 40) (hjn : j + n ≤ 40) : zV l D ka kb yX5_move cX5_move 6 1 60 [.ref (bd 6), .int (nI 2), .int (nI i), .int (nI 1), .int (nI j), .int (nI n)] ([((bd 6), .inr (5, [.ref (bd 25), .ref (bd 30), .int la9])), ((bd 25), .inl (ka 4, 4, .inr (.inr (.inr (.inr (nB bd)))))), ((bd 26), .inl (ka 1, 40, .inr (.inl (rw9 0)))), ((bd 27), .inl (ka 1, 40, .inr (.inl (rw9 1)))), ((bd 28), .inl (ka 1, 40, .inr (.inl (rw9 2)))), ((bd 29), .inl (ka 1, 40, .inr (.inl (rw9 3))))]) (fun (_ : Unit) => True) (fun (_ : Unit) => [((bd 6), .inr (5, [.ref (bd 25), .ref (bd 30), .int la9])), ((bd 25), .inl (ka 4, 4, .inr (.inr (.inr (.inr (nB bd)))))), ((bd 26), .inl (ka 1, 40, .inr (.inl ((mvR rw9 2 i 1 j n) 0)))), ((bd 27), .inl (ka 1, 40, .inr (.inl ((mvR rw9 2 i 1 j n) 1)))), ((bd 28), .inl (ka 1, 40, .inr (.inl ((mvR rw9 2 i 1 j n) 2)))), ((bd 29), .inl (ka 1, 40, .inr (.inl ((mvR rw9 2 i 1 j n) 3))))]) := by
  refine zV.mk RX5 (by decide +kernel) rfl (Nat.le_of_ble_eq_true rfl) ?_
  intro p e s m below meth c A ls args Q hQ hx hb hF hB hl
  replace hl : lv_has ls 6 [(0, .ref (bd 6)), (1, .int (nI 2)), (2, .int (nI i)), (3, .int (nI 1)), (4, .int (nI j)), (5, .int (nI n))] := hl
  refine lv_aload_n hx hb dX5_move_0 rfl (lv_at hl 0 rfl) ?_
  refine zget zf_X5_11 hF hB 0 rfl rfl dX5_move_1 ?_
  refine lv_iload_n hx hb dX5_move_4 rfl (lv_at hl 1 rfl) ?_
  refine zaaldA hF hB 1 rfl 2 (rfl) (by omega) (by decide) (r := bd 28) rfl dX5_move_5 ?_
  refine lv_iload_n hx hb dX5_move_6 rfl (lv_at hl 2 rfl) ?_
  refine lv_aload_n hx hb dX5_move_7 rfl (lv_at hl 0 rfl) ?_
  refine zget zf_X5_11 hF hB 0 rfl rfl dX5_move_8 ?_
  refine lv_iload_n hx hb dX5_move_11 rfl (lv_at hl 3 rfl) ?_
  refine zaaldA hF hB 1 rfl 1 (rfl) (by omega) (by decide) (r := bd 27) rfl dX5_move_12 ?_
  refine lv_iload hx hb dX5_move_13 (lv_at hl 4 rfl) ?_
  refine lv_iload hx hb dX5_move_15 (lv_at hl 5 rfl) ?_
  refine zcopyl ww_42_11 ww_42_12 ww_42_13 ww_42_14 hF hl.1 hB 4 3 rfl rfl i j n (by omega) (by omega) (by decide) (by decide) (Nat.le_of_ble_eq_true rfl) (by decide) dX5_move_17 ?_
  clear hB
  try clear locs
  try clear H
  intro H locs hB
  replace hB : zB D A s ([((bd 6), .inr (5, [.ref (bd 25), .ref (bd 30), .int la9])), ((bd 25), .inl (ka 4, 4, .inr (.inr (.inr (.inr (nB bd)))))), ((bd 26), .inl (ka 1, 40, .inr (.inl (rw9 0)))), ((bd 27), .inl (ka 1, 40, .inr (.inl (va_cpy (rw9 2) (rw9 1) i j n)))), ((bd 28), .inl (ka 1, 40, .inr (.inl (rw9 2)))), ((bd 29), .inl (ka 1, 40, .inr (.inl (rw9 3))))]) H locs := hB
  exact zretv hF hB () (trivial) (rfl) dX5_move_20 hQ

set_option maxHeartbeats 4000000 in
set_option maxRecDepth 100000 in
theorem c_X5_move_2_2 (l : Launch) (D : va_G) (ka : Nat → ClassId) (kb : Nat → Nat) (bd : Nat → Nat) (la9 : Int32) (rw9 : Nat → Nat → Int64) (i : Nat) (j : Nat) (n : Nat) (hin : i + n ≤ 40) (hjn : j + n ≤ 40) : zV l D ka kb yX5_move cX5_move 6 1 60 [.ref (bd 6), .int (nI 2), .int (nI i), .int (nI 2), .int (nI j), .int (nI n)] ([((bd 6), .inr (5, [.ref (bd 25), .ref (bd 30), .int la9])), ((bd 25), .inl (ka 4, 4, .inr (.inr (.inr (.inr (nB bd)))))), ((bd 26), .inl (ka 1, 40, .inr (.inl (rw9 0)))), ((bd 27), .inl (ka 1, 40, .inr (.inl (rw9 1)))), ((bd 28), .inl (ka 1, 40, .inr (.inl (rw9 2)))), ((bd 29), .inl (ka 1, 40, .inr (.inl (rw9 3))))]) (fun (_ : Unit) => True) (fun (_ : Unit) => [((bd 6), .inr (5, [.ref (bd 25), .ref (bd 30), .int la9])), ((bd 25), .inl (ka 4, 4, .inr (.inr (.inr (.inr (nB bd)))))), ((bd 26), .inl (ka 1, 40, .inr (.inl ((mvR rw9 2 i 2 j n) 0)))), ((bd 27), .inl (ka 1, 40, .inr (.inl ((mvR rw9 2 i 2 j n) 1)))), ((bd 28), .inl (ka 1, 40, .inr (.inl ((mvR rw9 2 i 2 j n) 2)))), ((bd 29), .inl (ka 1, 40, .inr (.inl ((mvR rw9 2 i 2 j n) 3))))]) := by
  refine zV.mk RX5 (by decide +kernel) rfl (Nat.le_of_ble_eq_true rfl) ?_
  intro p e s m below meth c A ls args Q hQ hx hb hF hB hl
  replace hl : lv_has ls 6 [(0, .ref (bd 6)), (1, .int (nI 2)), (2, .int (nI i)), (3, .int (nI 2)), (4, .int (nI j)), (5, .int (nI n))] := hl
  refine lv_aload_n hx hb dX5_move_0 rfl (lv_at hl 0 rfl) ?_
  refine zget zf_X5_11 hF hB 0 rfl rfl dX5_move_1 ?_
  refine lv_iload_n hx hb dX5_move_4 rfl (lv_at hl 1 rfl) ?_
  refine zaaldA hF hB 1 rfl 2 (rfl) (by omega) (by decide) (r := bd 28) rfl dX5_move_5 ?_
  refine lv_iload_n hx hb dX5_move_6 rfl (lv_at hl 2 rfl) ?_
  refine lv_aload_n hx hb dX5_move_7 rfl (lv_at hl 0 rfl) ?_
  refine zget zf_X5_11 hF hB 0 rfl rfl dX5_move_8 ?_
  refine lv_iload_n hx hb dX5_move_11 rfl (lv_at hl 3 rfl) ?_
  refine zaaldA hF hB 1 rfl 2 (rfl) (by omega) (by decide) (r := bd 28) rfl dX5_move_12 ?_
  refine lv_iload hx hb dX5_move_13 (lv_at hl 4 rfl) ?_
  refine lv_iload hx hb dX5_move_15 (lv_at hl 5 rfl) ?_
  refine zcopyl ww_42_11 ww_42_12 ww_42_13 ww_42_14 hF hl.1 hB 4 4 rfl rfl i j n (by omega) (by omega) (by decide) (by decide) (Nat.le_of_ble_eq_true rfl) (by decide) dX5_move_17 ?_
  clear hB
  try clear locs
  try clear H
  intro H locs hB
  replace hB : zB D A s ([((bd 6), .inr (5, [.ref (bd 25), .ref (bd 30), .int la9])), ((bd 25), .inl (ka 4, 4, .inr (.inr (.inr (.inr (nB bd)))))), ((bd 26), .inl (ka 1, 40, .inr (.inl (rw9 0)))), ((bd 27), .inl (ka 1, 40, .inr (.inl (rw9 1)))), ((bd 28), .inl (ka 1, 40, .inr (.inl (va_cpy (rw9 2) (rw9 2) i j n)))), ((bd 29), .inl (ka 1, 40, .inr (.inl (rw9 3))))]) H locs := hB
  exact zretv hF hB () (trivial) (rfl) dX5_move_20 hQ

set_option maxHeartbeats 4000000 in
set_option maxRecDepth 100000 in
theorem c_X5_move_2_3 (l : Launch) (D : va_G) (ka : Nat → ClassId) (kb : Nat → Nat) (bd : Nat → Nat) (la9 : Int32) (rw9 : Nat → Nat → Int64) (i : Nat) (j : Nat) (n : Nat) (hin : i + n ≤ 40) (hjn : j + n ≤ 40) : zV l D ka kb yX5_move cX5_move 6 1 60 [.ref (bd 6), .int (nI 2), .int (nI i), .int (nI 3), .int (nI j), .int (nI n)] ([((bd 6), .inr (5, [.ref (bd 25), .ref (bd 30), .int la9])), ((bd 25), .inl (ka 4, 4, .inr (.inr (.inr (.inr (nB bd)))))), ((bd 26), .inl (ka 1, 40, .inr (.inl (rw9 0)))), ((bd 27), .inl (ka 1, 40, .inr (.inl (rw9 1)))), ((bd 28), .inl (ka 1, 40, .inr (.inl (rw9 2)))), ((bd 29), .inl (ka 1, 40, .inr (.inl (rw9 3))))]) (fun (_ : Unit) => True) (fun (_ : Unit) => [((bd 6), .inr (5, [.ref (bd 25), .ref (bd 30), .int la9])), ((bd 25), .inl (ka 4, 4, .inr (.inr (.inr (.inr (nB bd)))))), ((bd 26), .inl (ka 1, 40, .inr (.inl ((mvR rw9 2 i 3 j n) 0)))), ((bd 27), .inl (ka 1, 40, .inr (.inl ((mvR rw9 2 i 3 j n) 1)))), ((bd 28), .inl (ka 1, 40, .inr (.inl ((mvR rw9 2 i 3 j n) 2)))), ((bd 29), .inl (ka 1, 40, .inr (.inl ((mvR rw9 2 i 3 j n) 3))))]) := by
  refine zV.mk RX5 (by decide +kernel) rfl (Nat.le_of_ble_eq_true rfl) ?_
  intro p e s m below meth c A ls args Q hQ hx hb hF hB hl
  replace hl : lv_has ls 6 [(0, .ref (bd 6)), (1, .int (nI 2)), (2, .int (nI i)), (3, .int (nI 3)), (4, .int (nI j)), (5, .int (nI n))] := hl
  refine lv_aload_n hx hb dX5_move_0 rfl (lv_at hl 0 rfl) ?_
  refine zget zf_X5_11 hF hB 0 rfl rfl dX5_move_1 ?_
  refine lv_iload_n hx hb dX5_move_4 rfl (lv_at hl 1 rfl) ?_
  refine zaaldA hF hB 1 rfl 2 (rfl) (by omega) (by decide) (r := bd 28) rfl dX5_move_5 ?_
  refine lv_iload_n hx hb dX5_move_6 rfl (lv_at hl 2 rfl) ?_
  refine lv_aload_n hx hb dX5_move_7 rfl (lv_at hl 0 rfl) ?_
  refine zget zf_X5_11 hF hB 0 rfl rfl dX5_move_8 ?_
  refine lv_iload_n hx hb dX5_move_11 rfl (lv_at hl 3 rfl) ?_
  refine zaaldA hF hB 1 rfl 3 (rfl) (by omega) (by decide) (r := bd 29) rfl dX5_move_12 ?_
  refine lv_iload hx hb dX5_move_13 (lv_at hl 4 rfl) ?_
  refine lv_iload hx hb dX5_move_15 (lv_at hl 5 rfl) ?_
  refine zcopyl ww_42_11 ww_42_12 ww_42_13 ww_42_14 hF hl.1 hB 4 5 rfl rfl i j n (by omega) (by omega) (by decide) (by decide) (Nat.le_of_ble_eq_true rfl) (by decide) dX5_move_17 ?_
  clear hB
  try clear locs
  try clear H
  intro H locs hB
  replace hB : zB D A s ([((bd 6), .inr (5, [.ref (bd 25), .ref (bd 30), .int la9])), ((bd 25), .inl (ka 4, 4, .inr (.inr (.inr (.inr (nB bd)))))), ((bd 26), .inl (ka 1, 40, .inr (.inl (rw9 0)))), ((bd 27), .inl (ka 1, 40, .inr (.inl (rw9 1)))), ((bd 28), .inl (ka 1, 40, .inr (.inl (rw9 2)))), ((bd 29), .inl (ka 1, 40, .inr (.inl (va_cpy (rw9 2) (rw9 3) i j n))))]) H locs := hB
  exact zretv hF hB () (trivial) (rfl) dX5_move_20 hQ

set_option maxHeartbeats 4000000 in
set_option maxRecDepth 100000 in
theorem c_X5_move_3_0 (l : Launch) (D : va_G) (ka : Nat → ClassId) (kb : Nat → Nat) (bd : Nat → Nat) (la9 : Int32) (rw9 : Nat → Nat → Int64) (i : Nat) (j : Nat) (n : Nat) (hin : i + n ≤ 40) (hjn : j + n ≤ 40) : zV l D ka kb yX5_move cX5_move 6 1 60 [.ref (bd 6), .int (nI 3), .int (nI i), .int (nI 0), .int (nI j), .int (nI n)] ([((bd 6), .inr (5, [.ref (bd 25), .ref (bd 30), .int la9])), ((bd 25), .inl (ka 4, 4, .inr (.inr (.inr (.inr (nB bd)))))), ((bd 26), .inl (ka 1, 40, .inr (.inl (rw9 0)))), ((bd 27), .inl (ka 1, 40, .inr (.inl (rw9 1)))), ((bd 28), .inl (ka 1, 40, .inr (.inl (rw9 2)))), ((bd 29), .inl (ka 1, 40, .inr (.inl (rw9 3))))]) (fun (_ : Unit) => True) (fun (_ : Unit) => [((bd 6), .inr (5, [.ref (bd 25), .ref (bd 30), .int la9])), ((bd 25), .inl (ka 4, 4, .inr (.inr (.inr (.inr (nB bd)))))), ((bd 26), .inl (ka 1, 40, .inr (.inl ((mvR rw9 3 i 0 j n) 0)))), ((bd 27), .inl (ka 1, 40, .inr (.inl ((mvR rw9 3 i 0 j n) 1)))), ((bd 28), .inl (ka 1, 40, .inr (.inl ((mvR rw9 3 i 0 j n) 2)))), ((bd 29), .inl (ka 1, 40, .inr (.inl ((mvR rw9 3 i 0 j n) 3))))]) := by
  refine zV.mk RX5 (by decide +kernel) rfl (Nat.le_of_ble_eq_true rfl) ?_
  intro p e s m below meth c A ls args Q hQ hx hb hF hB hl
  replace hl : lv_has ls 6 [(0, .ref (bd 6)), (1, .int (nI 3)), (2, .int (nI i)), (3, .int (nI 0)), (4, .int (nI j)), (5, .int (nI n))] := hl
  refine lv_aload_n hx hb dX5_move_0 rfl (lv_at hl 0 rfl) ?_
  refine zget zf_X5_11 hF hB 0 rfl rfl dX5_move_1 ?_
  refine lv_iload_n hx hb dX5_move_4 rfl (lv_at hl 1 rfl) ?_
  refine zaaldA hF hB 1 rfl 3 (rfl) (by omega) (by decide) (r := bd 29) rfl dX5_move_5 ?_
  refine lv_iload_n hx hb dX5_move_6 rfl (lv_at hl 2 rfl) ?_
  refine lv_aload_n hx hb dX5_move_7 rfl (lv_at hl 0 rfl) ?_
  refine zget zf_X5_11 hF hB 0 rfl rfl dX5_move_8 ?_
  refine lv_iload_n hx hb dX5_move_11 rfl (lv_at hl 3 rfl) ?_
  refine zaaldA hF hB 1 rfl 0 (rfl) (by omega) (by decide) (r := bd 26) rfl dX5_move_12 ?_
  refine lv_iload hx hb dX5_move_13 (lv_at hl 4 rfl) ?_
  refine lv_iload hx hb dX5_move_15 (lv_at hl 5 rfl) ?_
  refine zcopyl ww_42_11 ww_42_12 ww_42_13 ww_42_14 hF hl.1 hB 5 2 rfl rfl i j n (by omega) (by omega) (by decide) (by decide) (Nat.le_of_ble_eq_true rfl) (by decide) dX5_move_17 ?_
  clear hB
  try clear locs
  try clear H
  intro H locs hB
  replace hB : zB D A s ([((bd 6), .inr (5, [.ref (bd 25), .ref (bd 30), .int la9])), ((bd 25), .inl (ka 4, 4, .inr (.inr (.inr (.inr (nB bd)))))), ((bd 26), .inl (ka 1, 40, .inr (.inl (va_cpy (rw9 3) (rw9 0) i j n)))), ((bd 27), .inl (ka 1, 40, .inr (.inl (rw9 1)))), ((bd 28), .inl (ka 1, 40, .inr (.inl (rw9 2)))), ((bd 29), .inl (ka 1, 40, .inr (.inl (rw9 3))))]) H locs := hB
  exact zretv hF hB () (trivial) (rfl) dX5_move_20 hQ

set_option maxHeartbeats 4000000 in
set_option maxRecDepth 100000 in
theorem c_X5_move_3_1 (l : Launch) (D : va_G) (ka : Nat → ClassId) (kb : Nat → Nat) (bd : Nat → Nat) (la9 : Int32) (rw9 : Nat → Nat → Int64) (i : Nat) (j : Nat) (n : Nat) (hin : i + n ≤ 40) (hjn : j + n ≤ 40) : zV l D ka kb yX5_move cX5_move 6 1 60 [.ref (bd 6), .int (nI 3), .int (nI i), .int (nI 1), .int (nI j), .int (nI n)] ([((bd 6), .inr (5, [.ref (bd 25), .ref (bd 30), .int la9])), ((bd 25), .inl (ka 4, 4, .inr (.inr (.inr (.inr (nB bd)))))), ((bd 26), .inl (ka 1, 40, .inr (.inl (rw9 0)))), ((bd 27), .inl (ka 1, 40, .inr (.inl (rw9 1)))), ((bd 28), .inl (ka 1, 40, .inr (.inl (rw9 2)))), ((bd 29), .inl (ka 1, 40, .inr (.inl (rw9 3))))]) (fun (_ : Unit) => True) (fun (_ : Unit) => [((bd 6), .inr (5, [.ref (bd 25), .ref (bd 30), .int la9])), ((bd 25), .inl (ka 4, 4, .inr (.inr (.inr (.inr (nB bd)))))), ((bd 26), .inl (ka 1, 40, .inr (.inl ((mvR rw9 3 i 1 j n) 0)))), ((bd 27), .inl (ka 1, 40, .inr (.inl ((mvR rw9 3 i 1 j n) 1)))), ((bd 28), .inl (ka 1, 40, .inr (.inl ((mvR rw9 3 i 1 j n) 2)))), ((bd 29), .inl (ka 1, 40, .inr (.inl ((mvR rw9 3 i 1 j n) 3))))]) := by
  refine zV.mk RX5 (by decide +kernel) rfl (Nat.le_of_ble_eq_true rfl) ?_
  intro p e s m below meth c A ls args Q hQ hx hb hF hB hl
  replace hl : lv_has ls 6 [(0, .ref (bd 6)), (1, .int (nI 3)), (2, .int (nI i)), (3, .int (nI 1)), (4, .int (nI j)), (5, .int (nI n))] := hl
  refine lv_aload_n hx hb dX5_move_0 rfl (lv_at hl 0 rfl) ?_
  refine zget zf_X5_11 hF hB 0 rfl rfl dX5_move_1 ?_
  refine lv_iload_n hx hb dX5_move_4 rfl (lv_at hl 1 rfl) ?_
  refine zaaldA hF hB 1 rfl 3 (rfl) (by omega) (by decide) (r := bd 29) rfl dX5_move_5 ?_
  refine lv_iload_n hx hb dX5_move_6 rfl (lv_at hl 2 rfl) ?_
  refine lv_aload_n hx hb dX5_move_7 rfl (lv_at hl 0 rfl) ?_
  refine zget zf_X5_11 hF hB 0 rfl rfl dX5_move_8 ?_
  refine lv_iload_n hx hb dX5_move_11 rfl (lv_at hl 3 rfl) ?_
  refine zaaldA hF hB 1 rfl 1 (rfl) (by omega) (by decide) (r := bd 27) rfl dX5_move_12 ?_
  refine lv_iload hx hb dX5_move_13 (lv_at hl 4 rfl) ?_
  refine lv_iload hx hb dX5_move_15 (lv_at hl 5 rfl) ?_
  refine zcopyl ww_42_11 ww_42_12 ww_42_13 ww_42_14 hF hl.1 hB 5 3 rfl rfl i j n (by omega) (by omega) (by decide) (by decide) (Nat.le_of_ble_eq_true rfl) (by decide) dX5_move_17 ?_
  clear hB
  try clear locs
  try clear H
  intro H locs hB
  replace hB : zB D A s ([((bd 6), .inr (5, [.ref (bd 25), .ref (bd 30), .int la9])), ((bd 25), .inl (ka 4, 4, .inr (.inr (.inr (.inr (nB bd)))))), ((bd 26), .inl (ka 1, 40, .inr (.inl (rw9 0)))), ((bd 27), .inl (ka 1, 40, .inr (.inl (va_cpy (rw9 3) (rw9 1) i j n)))), ((bd 28), .inl (ka 1, 40, .inr (.inl (rw9 2)))), ((bd 29), .inl (ka 1, 40, .inr (.inl (rw9 3))))]) H locs := hB
  exact zretv hF hB () (trivial) (rfl) dX5_move_20 hQ

set_option maxHeartbeats 4000000 in
set_option maxRecDepth 100000 in
theorem c_X5_move_3_2 (l : Launch) (D : va_G) (ka : Nat → ClassId) (kb : Nat → Nat) (bd : Nat → Nat) (la9 : Int32) (rw9 : Nat → Nat → Int64) (i : Nat) (j : Nat) (n : Nat) (hin : i + n ≤ 40) (hjn : j + n ≤ 40) : zV l D ka kb yX5_move cX5_move 6 1 60 [.ref (bd 6), .int (nI 3), .int (nI i), .int (nI 2), .int (nI j), .int (nI n)] ([((bd 6), .inr (5, [.ref (bd 25), .ref (bd 30), .int la9])), ((bd 25), .inl (ka 4, 4, .inr (.inr (.inr (.inr (nB bd)))))), ((bd 26), .inl (ka 1, 40, .inr (.inl (rw9 0)))), ((bd 27), .inl (ka 1, 40, .inr (.inl (rw9 1)))), ((bd 28), .inl (ka 1, 40, .inr (.inl (rw9 2)))), ((bd 29), .inl (ka 1, 40, .inr (.inl (rw9 3))))]) (fun (_ : Unit) => True) (fun (_ : Unit) => [((bd 6), .inr (5, [.ref (bd 25), .ref (bd 30), .int la9])), ((bd 25), .inl (ka 4, 4, .inr (.inr (.inr (.inr (nB bd)))))), ((bd 26), .inl (ka 1, 40, .inr (.inl ((mvR rw9 3 i 2 j n) 0)))), ((bd 27), .inl (ka 1, 40, .inr (.inl ((mvR rw9 3 i 2 j n) 1)))), ((bd 28), .inl (ka 1, 40, .inr (.inl ((mvR rw9 3 i 2 j n) 2)))), ((bd 29), .inl (ka 1, 40, .inr (.inl ((mvR rw9 3 i 2 j n) 3))))]) := by
  refine zV.mk RX5 (by decide +kernel) rfl (Nat.le_of_ble_eq_true rfl) ?_
  intro p e s m below meth c A ls args Q hQ hx hb hF hB hl
  replace hl : lv_has ls 6 [(0, .ref (bd 6)), (1, .int (nI 3)), (2, .int (nI i)), (3, .int (nI 2)), (4, .int (nI j)), (5, .int (nI n))] := hl
  refine lv_aload_n hx hb dX5_move_0 rfl (lv_at hl 0 rfl) ?_
  refine zget zf_X5_11 hF hB 0 rfl rfl dX5_move_1 ?_
  refine lv_iload_n hx hb dX5_move_4 rfl (lv_at hl 1 rfl) ?_
  refine zaaldA hF hB 1 rfl 3 (rfl) (by omega) (by decide) (r := bd 29) rfl dX5_move_5 ?_
  refine lv_iload_n hx hb dX5_move_6 rfl (lv_at hl 2 rfl) ?_
  refine lv_aload_n hx hb dX5_move_7 rfl (lv_at hl 0 rfl) ?_
  refine zget zf_X5_11 hF hB 0 rfl rfl dX5_move_8 ?_
  refine lv_iload_n hx hb dX5_move_11 rfl (lv_at hl 3 rfl) ?_
  refine zaaldA hF hB 1 rfl 2 (rfl) (by omega) (by decide) (r := bd 28) rfl dX5_move_12 ?_
  refine lv_iload hx hb dX5_move_13 (lv_at hl 4 rfl) ?_
  refine lv_iload hx hb dX5_move_15 (lv_at hl 5 rfl) ?_
  refine zcopyl ww_42_11 ww_42_12 ww_42_13 ww_42_14 hF hl.1 hB 5 4 rfl rfl i j n (by omega) (by omega) (by decide) (by decide) (Nat.le_of_ble_eq_true rfl) (by decide) dX5_move_17 ?_
  clear hB
  try clear locs
  try clear H
  intro H locs hB
  replace hB : zB D A s ([((bd 6), .inr (5, [.ref (bd 25), .ref (bd 30), .int la9])), ((bd 25), .inl (ka 4, 4, .inr (.inr (.inr (.inr (nB bd)))))), ((bd 26), .inl (ka 1, 40, .inr (.inl (rw9 0)))), ((bd 27), .inl (ka 1, 40, .inr (.inl (rw9 1)))), ((bd 28), .inl (ka 1, 40, .inr (.inl (va_cpy (rw9 3) (rw9 2) i j n)))), ((bd 29), .inl (ka 1, 40, .inr (.inl (rw9 3))))]) H locs := hB
  exact zretv hF hB () (trivial) (rfl) dX5_move_20 hQ

set_option maxHeartbeats 4000000 in
set_option maxRecDepth 100000 in
theorem c_X5_move_3_3 (l : Launch) (D : va_G) (ka : Nat → ClassId) (kb : Nat → Nat) (bd : Nat → Nat) (la9 : Int32) (rw9 : Nat → Nat → Int64) (i : Nat) (j : Nat) (n : Nat) (hin : i + n ≤ 40) (hjn : j + n ≤ 40) : zV l D ka kb yX5_move cX5_move 6 1 60 [.ref (bd 6), .int (nI 3), .int (nI i), .int (nI 3), .int (nI j), .int (nI n)] ([((bd 6), .inr (5, [.ref (bd 25), .ref (bd 30), .int la9])), ((bd 25), .inl (ka 4, 4, .inr (.inr (.inr (.inr (nB bd)))))), ((bd 26), .inl (ka 1, 40, .inr (.inl (rw9 0)))), ((bd 27), .inl (ka 1, 40, .inr (.inl (rw9 1)))), ((bd 28), .inl (ka 1, 40, .inr (.inl (rw9 2)))), ((bd 29), .inl (ka 1, 40, .inr (.inl (rw9 3))))]) (fun (_ : Unit) => True) (fun (_ : Unit) => [((bd 6), .inr (5, [.ref (bd 25), .ref (bd 30), .int la9])), ((bd 25), .inl (ka 4, 4, .inr (.inr (.inr (.inr (nB bd)))))), ((bd 26), .inl (ka 1, 40, .inr (.inl ((mvR rw9 3 i 3 j n) 0)))), ((bd 27), .inl (ka 1, 40, .inr (.inl ((mvR rw9 3 i 3 j n) 1)))), ((bd 28), .inl (ka 1, 40, .inr (.inl ((mvR rw9 3 i 3 j n) 2)))), ((bd 29), .inl (ka 1, 40, .inr (.inl ((mvR rw9 3 i 3 j n) 3))))]) := by
  refine zV.mk RX5 (by decide +kernel) rfl (Nat.le_of_ble_eq_true rfl) ?_
  intro p e s m below meth c A ls args Q hQ hx hb hF hB hl
  replace hl : lv_has ls 6 [(0, .ref (bd 6)), (1, .int (nI 3)), (2, .int (nI i)), (3, .int (nI 3)), (4, .int (nI j)), (5, .int (nI n))] := hl
  refine lv_aload_n hx hb dX5_move_0 rfl (lv_at hl 0 rfl) ?_
  refine zget zf_X5_11 hF hB 0 rfl rfl dX5_move_1 ?_
  refine lv_iload_n hx hb dX5_move_4 rfl (lv_at hl 1 rfl) ?_
  refine zaaldA hF hB 1 rfl 3 (rfl) (by omega) (by decide) (r := bd 29) rfl dX5_move_5 ?_
  refine lv_iload_n hx hb dX5_move_6 rfl (lv_at hl 2 rfl) ?_
  refine lv_aload_n hx hb dX5_move_7 rfl (lv_at hl 0 rfl) ?_
  refine zget zf_X5_11 hF hB 0 rfl rfl dX5_move_8 ?_
  refine lv_iload_n hx hb dX5_move_11 rfl (lv_at hl 3 rfl) ?_
  refine zaaldA hF hB 1 rfl 3 (rfl) (by omega) (by decide) (r := bd 29) rfl dX5_move_12 ?_
  refine lv_iload hx hb dX5_move_13 (lv_at hl 4 rfl) ?_
  refine lv_iload hx hb dX5_move_15 (lv_at hl 5 rfl) ?_
  refine zcopyl ww_42_11 ww_42_12 ww_42_13 ww_42_14 hF hl.1 hB 5 5 rfl rfl i j n (by omega) (by omega) (by decide) (by decide) (Nat.le_of_ble_eq_true rfl) (by decide) dX5_move_17 ?_
  clear hB
  try clear locs
  try clear H
  intro H locs hB
  replace hB : zB D A s ([((bd 6), .inr (5, [.ref (bd 25), .ref (bd 30), .int la9])), ((bd 25), .inl (ka 4, 4, .inr (.inr (.inr (.inr (nB bd)))))), ((bd 26), .inl (ka 1, 40, .inr (.inl (rw9 0)))), ((bd 27), .inl (ka 1, 40, .inr (.inl (rw9 1)))), ((bd 28), .inl (ka 1, 40, .inr (.inl (rw9 2)))), ((bd 29), .inl (ka 1, 40, .inr (.inl (va_cpy (rw9 3) (rw9 3) i j n))))]) H locs := hB
  exact zretv hF hB () (trivial) (rfl) dX5_move_20 hQ

theorem c_X5_move (l : Launch) (D : va_G) (ka : Nat → ClassId) (kb : Nat → Nat) (bd : Nat → Nat) (la9 : Int32) (rw9 : Nat → Nat → Int64) (s9 : Nat) (i : Nat) (t9 : Nat) (j : Nat) (n : Nat) (hs9 : s9 < 4) (ht9 : t9 < 4) (hin : i + n ≤ 40) (hjn : j + n ≤ 40) : zV l D ka kb yX5_move cX5_move 6 1 60 [.ref (bd 6), .int (nI s9), .int (nI i), .int (nI t9), .int (nI j), .int (nI n)] ([((bd 6), .inr (5, [.ref (bd 25), .ref (bd 30), .int la9])), ((bd 25), .inl (ka 4, 4, .inr (.inr (.inr (.inr (nB bd)))))), ((bd 26), .inl (ka 1, 40, .inr (.inl (rw9 0)))), ((bd 27), .inl (ka 1, 40, .inr (.inl (rw9 1)))), ((bd 28), .inl (ka 1, 40, .inr (.inl (rw9 2)))), ((bd 29), .inl (ka 1, 40, .inr (.inl (rw9 3))))]) (fun (_ : Unit) => True) (fun (_ : Unit) => [((bd 6), .inr (5, [.ref (bd 25), .ref (bd 30), .int la9])), ((bd 25), .inl (ka 4, 4, .inr (.inr (.inr (.inr (nB bd)))))), ((bd 26), .inl (ka 1, 40, .inr (.inl ((mvR rw9 s9 i t9 j n) 0)))), ((bd 27), .inl (ka 1, 40, .inr (.inl ((mvR rw9 s9 i t9 j n) 1)))), ((bd 28), .inl (ka 1, 40, .inr (.inl ((mvR rw9 s9 i t9 j n) 2)))), ((bd 29), .inl (ka 1, 40, .inr (.inl ((mvR rw9 s9 i t9 j n) 3))))]) := by
  rcases (show (s9 = 0 ∨ s9 = 1 ∨ s9 = 2 ∨ s9 = 3) ∧ (t9 = 0 ∨ t9 = 1 ∨ t9 = 2 ∨ t9 = 3) by omega) with ⟨rfl | rfl | rfl | rfl, rfl | rfl | rfl | rfl⟩
  · exact c_X5_move_0_0 l D ka kb bd la9 rw9 i j n hin hjn
  · exact c_X5_move_0_1 l D ka kb bd la9 rw9 i j n hin hjn
  · exact c_X5_move_0_2 l D ka kb bd la9 rw9 i j n hin hjn
  · exact c_X5_move_0_3 l D ka kb bd la9 rw9 i j n hin hjn
  · exact c_X5_move_1_0 l D ka kb bd la9 rw9 i j n hin hjn
  · exact c_X5_move_1_1 l D ka kb bd la9 rw9 i j n hin hjn
  · exact c_X5_move_1_2 l D ka kb bd la9 rw9 i j n hin hjn
  · exact c_X5_move_1_3 l D ka kb bd la9 rw9 i j n hin hjn
  · exact c_X5_move_2_0 l D ka kb bd la9 rw9 i j n hin hjn
  · exact c_X5_move_2_1 l D ka kb bd la9 rw9 i j n hin hjn
  · exact c_X5_move_2_2 l D ka kb bd la9 rw9 i j n hin hjn
  · exact c_X5_move_2_3 l D ka kb bd la9 rw9 i j n hin hjn
  · exact c_X5_move_3_0 l D ka kb bd la9 rw9 i j n hin hjn
  · exact c_X5_move_3_1 l D ka kb bd la9 rw9 i j n hin hjn
  · exact c_X5_move_3_2 l D ka kb bd la9 rw9 i j n hin hjn
  · exact c_X5_move_3_3 l D ka kb bd la9 rw9 i j n hin hjn
