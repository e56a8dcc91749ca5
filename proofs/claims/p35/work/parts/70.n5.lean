theorem hc_z {x : Int32} (h : 0 ≤ x.toInt ∧ x.toInt ≤ 9) (h2 : x = 0) : ∀ {n : Nat}, n = n + (if 0 < x.toInt then 1 else 0) := by
  intro n
  rw [h2, if_neg (by decide)]; rfl
theorem hc_p {x : Int32} (h : 0 ≤ x.toInt ∧ x.toInt ≤ 9) (h2 : ¬ x = 0) : ∀ {n : Nat}, n + 1 = n + (if 0 < x.toInt then 1 else 0) := by
  intro n
  have h3 : x.toInt ≠ 0 := fun e => h2 (i32_eq.mpr (by rw [e]; rfl))
  rw [if_pos (by omega)]
theorem and1_cases (x : Int32) : x &&& 1 = 0 ∨ x &&& 1 = 1 := by
  have h : (x &&& 1).toBitVec = x.toBitVec &&& 1#32 := rfl
  have h2 : (x.toBitVec &&& 1#32).toNat = x.toBitVec.toNat % 2 := by rw [BitVec.toNat_and]; exact Nat.and_one_is_mod _
  rcases Nat.mod_two_eq_zero_or_one x.toBitVec.toNat with h3 | h3
  · exact Or.inl (Int32.toBitVec_inj.mp (BitVec.eq_of_toNat_eq (by rw [h, h2, h3]; rfl)))
  · exact Or.inr (Int32.toBitVec_inj.mp (BitVec.eq_of_toNat_eq (by rw [h, h2, h3]; rfl)))
theorem lgX_1 {m : Int32} {a : Nat} (h : ¬ lgX m a = 0) : lgX m a = 1 := (and1_cases _).elim (fun e => absurd e h) id
/-- the angles where a hole may be made, as bits -/
def opN (m : Int32) (p : Nat) (ho : Nat → Int32) : Nat → Int32
  | 0 => m
  | k + 1 => if ho (12 * p + k) = 0 then opN m p ho k else opN m p ho k &&& (((1 : Int32) <<< (nI k &&& 31)) ^^^ (-1))
/-- a pull by 20, not in lowest terms -/
def p20N (P : Nat → Int) : N5 := (Int64.ofInt (P 0), Int64.ofInt (P 1), Int64.ofInt (P 2), Int64.ofInt (P 3), 20)
theorem p20_0 : ((0 : Int64), (0 : Int64), (0 : Int64), (0 : Int64), (20 : Int64)) = p20N (fun _ => 0) := rfl
theorem aw_p20 {P : Nat → Int} {t : Int32} {a : Nat} : awN (p20N P) t a = p20N (fun k => P k + t.toInt * wI a k) := by
  unfold awN p20N
  rw [i64_w, i64_w, i64_w, i64_w, i64_w, ofI_mul, ofI_mul, ofI_mul, ofI_mul, ofI_add, ofI_add, ofI_add, ofI_add]
  rfl
theorem p20_l {p i a9 : Nat} {mo an pl : Nat → Int32} {tv : Int32} (h : (1 ≤ (mo i).toInt ∧ (mo i).toInt ≤ 99) ∧ (∃ a, a < 12 ∧ an i = nI a) ∧ (0 ≤ (pl i).toInt ∧ (pl i).toInt ≤ 10)) (ha : aN (an i) = a9) (ht : tv = mo i * (if p = 0 then 10 - pl i else pl i)) :
    p20N (fun k => lumpS p mo an pl k i + tv.toInt * wI a9 k) = p20N (fun k => lumpS p mo an pl k (i + 1)) := by
  have h1 : tv.toInt = lumpT p mo pl i := by
    rw [ht]
    unfold lumpT
    by_cases hp : p = 0
    · rw [if_pos hp, if_pos hp]
      have e : (10 - pl i).toInt = 10 - (pl i).toInt := i32_sub (by have e : (10 : Int32).toInt = 10 := rfl; omega)
      have hb := mul_bd (x := (mo i).toInt) (y := 10 - (pl i).toInt) (X := 99) (Y := 10) (by omega) (by omega)
      rw [i32_mul (by rw [e]; omega), e]
    · rw [if_neg hp, if_neg hp]
      have hb := mul_bd (x := (mo i).toInt) (y := (pl i).toInt) (X := 99) (Y := 10) (by omega) (by omega)
      rw [i32_mul (by omega)]
  rw [h1]
  congr 1
  funext k
  rw [← ha]
  rfl
theorem p20_h {p j : Nat} {ho : Nat → Int32} {g : Nat → Int} (h : 0 ≤ (ho (12 * p + j)).toInt ∧ (ho (12 * p + j)).toInt ≤ 9) :
    p20N (fun k => g k + holeS p ho k j + ((-10 : Int32) * ho (12 * p + j)).toInt * wI j k) = p20N (fun k => g k + holeS p ho k (j + 1)) := by
  have e10 : (-10 : Int32).toInt = -10 := rfl
  have h1 : ((-10 : Int32) * ho (12 * p + j)).toInt = -10 * (ho (12 * p + j)).toInt := i32_mul (by rw [e10]; omega)
  rw [h1]
  congr 1
  funext k
  rw [Int.add_assoc]
  rfl
set_option maxHeartbeats 4000000 in
set_option maxRecDepth 100000 in
theorem c_X3_lumps (l : Launch) (D : va_G) (ka : Nat → ClassId) (kb : Nat → Nat) (bd : Nat → Nat) (lu : Int32) (sz9 : Int32) (re9 : Int32)  : zI l D ka kb yX3_lumps cX3_lumps 1 .int 0 0 [.ref (bd 2)] ([((bd 2), .inr (3, [.int lu, .ref (bd 7), .ref (bd 8), .ref (bd 9), .ref (bd 10), .ref (bd 11), .int sz9, .int re9]))]) (fun (r : Int32) (_ : Unit) => r = lu) (fun (_ : Unit) => [((bd 2), .inr (3, [.int lu, .ref (bd 7), .ref (bd 8), .ref (bd 9), .ref (bd 10), .ref (bd 11), .int sz9, .int re9]))]) := by
  refine zI.mk RX3 (by decide +kernel) rfl (Nat.le_of_ble_eq_true rfl) ?_
  intro p e s m below meth c A ls args Q hQ hx hb hF hB hl
  replace hl : lv_has ls 1 [(0, .ref (bd 2))] := hl
  refine lv_aload_n hx hb dX3_lumps_0 rfl (lv_at hl 0 rfl) ?_
  refine zget zf_X3_9 hF hB 0 rfl rfl dX3_lumps_1 ?_
  exact zreti hF hB () (rfl) (rfl) (rfl) dX3_lumps_4 hQ

set_option maxHeartbeats 4000000 in
set_option maxRecDepth 100000 in
theorem c_X3_sizeBits (l : Launch) (D : va_G) (ka : Nat → ClassId) (kb : Nat → Nat) (bd : Nat → Nat) (lu : Int32) (sz9 : Int32) (re9 : Int32)  : zI l D ka kb yX3_sizeBits cX3_sizeBits 1 .int 0 0 [.ref (bd 2)] ([((bd 2), .inr (3, [.int lu, .ref (bd 7), .ref (bd 8), .ref (bd 9), .ref (bd 10), .ref (bd 11), .int sz9, .int re9]))]) (fun (r : Int32) (_ : Unit) => r = sz9) (fun (_ : Unit) => [((bd 2), .inr (3, [.int lu, .ref (bd 7), .ref (bd 8), .ref (bd 9), .ref (bd 10), .ref (bd 11), .int sz9, .int re9]))]) := by
  refine zI.mk RX3 (by decide +kernel) rfl (Nat.le_of_ble_eq_true rfl) ?_
  intro p e s m below meth c A ls args Q hQ hx hb hF hB hl
  replace hl : lv_has ls 1 [(0, .ref (bd 2))] := hl
  refine lv_aload_n hx hb dX3_sizeBits_0 rfl (lv_at hl 0 rfl) ?_
  refine zget zf_X3_31 hF hB 0 rfl rfl dX3_sizeBits_1 ?_
  exact zreti hF hB () (rfl) (rfl) (rfl) dX3_sizeBits_4 hQ

set_option maxHeartbeats 4000000 in
set_option maxRecDepth 100000 in
theorem c_X3_reach (l : Launch) (D : va_G) (ka : Nat → ClassId) (kb : Nat → Nat) (bd : Nat → Nat) (lu : Int32) (sz9 : Int32) (re9 : Int32)  : zI l D ka kb yX3_reach cX3_reach 1 .int 0 0 [.ref (bd 2)] ([((bd 2), .inr (3, [.int lu, .ref (bd 7), .ref (bd 8), .ref (bd 9), .ref (bd 10), .ref (bd 11), .int sz9, .int re9]))]) (fun (r : Int32) (_ : Unit) => r = re9) (fun (_ : Unit) => [((bd 2), .inr (3, [.int lu, .ref (bd 7), .ref (bd 8), .ref (bd 9), .ref (bd 10), .ref (bd 11), .int sz9, .int re9]))]) := by
  refine zI.mk RX3 (by decide +kernel) rfl (Nat.le_of_ble_eq_true rfl) ?_
  intro p e s m below meth c A ls args Q hQ hx hb hF hB hl
  replace hl : lv_has ls 1 [(0, .ref (bd 2))] := hl
  refine lv_aload_n hx hb dX3_reach_0 rfl (lv_at hl 0 rfl) ?_
  refine zget zf_X3_34 hF hB 0 rfl rfl dX3_reach_1 ?_
  exact zreti hF hB () (rfl) (rfl) (rfl) dX3_reach_4 hQ

set_option maxHeartbeats 4000000 in
set_option maxRecDepth 100000 in
theorem c_X3_tellSizes (l : Launch) (D : va_G) (ka : Nat → ClassId) (kb : Nat → Nat) (bd : Nat → Nat) (lu : Int32) (sz9 : Int32) (re9 : Int32) (v : Int32)  : zV l D ka kb yX3_tellSizes cX3_tellSizes 2 0 0 [.ref (bd 2), .int v] ([((bd 2), .inr (3, [.int lu, .ref (bd 7), .ref (bd 8), .ref (bd 9), .ref (bd 10), .ref (bd 11), .int sz9, .int re9]))]) (fun (_ : Unit) => True) (fun (_ : Unit) => [((bd 2), .inr (3, [.int lu, .ref (bd 7), .ref (bd 8), .ref (bd 9), .ref (bd 10), .ref (bd 11), .int v, .int re9]))]) := by
  refine zV.mk RX3 (by decide +kernel) rfl (Nat.le_of_ble_eq_true rfl) ?_
  intro p e s m below meth c A ls args Q hQ hx hb hF hB hl
  replace hl : lv_has ls 2 [(0, .ref (bd 2)), (1, .int v)] := hl
  refine lv_aload_n hx hb dX3_tellSizes_0 rfl (lv_at hl 0 rfl) ?_
  refine lv_iload_n hx hb dX3_tellSizes_1 rfl (lv_at hl 1 rfl) ?_
  refine zput_f zp_X3_31 hF hB 0 rfl (rfl) (rfl) (Nat.le_of_ble_eq_true rfl) dX3_tellSizes_2 ?_
  clear hB
  try clear locs
  try clear H
  intro H locs hB
  replace hB : zB D A s ([((bd 2), .inr (3, [.int lu, .ref (bd 7), .ref (bd 8), .ref (bd 9), .ref (bd 10), .ref (bd 11), .int v, .int re9]))]) H locs := hB
  exact zretv hF hB () (trivial) (rfl) dX3_tellSizes_5 hQ

set_option maxHeartbeats 4000000 in
set_option maxRecDepth 100000 in
theorem c_X3_tellReach (l : Launch) (D : va_G) (ka : Nat → ClassId) (kb : Nat → Nat) (bd : Nat → Nat) (lu : Int32) (sz9 : Int32) (re9 : Int32) (v : Int32)  : zV l D ka kb yX3_tellReach cX3_tellReach 2 0 0 [.ref (bd 2), .int v] ([((bd 2), .inr (3, [.int lu, .ref (bd 7), .ref (bd 8), .ref (bd 9), .ref (bd 10), .ref (bd 11), .int sz9, .int re9]))]) (fun (_ : Unit) => True) (fun (_ : Unit) => [((bd 2), .inr (3, [.int lu, .ref (bd 7), .ref (bd 8), .ref (bd 9), .ref (bd 10), .ref (bd 11), .int sz9, .int v]))]) := by
  refine zV.mk RX3 (by decide +kernel) rfl (Nat.le_of_ble_eq_true rfl) ?_
  intro p e s m below meth c A ls args Q hQ hx hb hF hB hl
  replace hl : lv_has ls 2 [(0, .ref (bd 2)), (1, .int v)] := hl
  refine lv_aload_n hx hb dX3_tellReach_0 rfl (lv_at hl 0 rfl) ?_
  refine lv_iload_n hx hb dX3_tellReach_1 rfl (lv_at hl 1 rfl) ?_
  refine zput_f zp_X3_34 hF hB 0 rfl (rfl) (rfl) (Nat.le_of_ble_eq_true rfl) dX3_tellReach_2 ?_
  clear hB
  try clear locs
  try clear H
  intro H locs hB
  replace hB : zB D A s ([((bd 2), .inr (3, [.int lu, .ref (bd 7), .ref (bd 8), .ref (bd 9), .ref (bd 10), .ref (bd 11), .int sz9, .int v]))]) H locs := hB
  exact zretv hF hB () (trivial) (rfl) dX3_tellReach_5 hQ

set_option maxHeartbeats 4000000 in
set_option maxRecDepth 100000 in
theorem c_X3_addLump (l : Launch) (D : va_G) (ka : Nat → ClassId) (kb : Nat → Nat) (bd : Nat → Nat) (sz9 : Int32) (re9 : Int32) (L : Nat) (mo : Nat → Int32) (an : Nat → Int32) (pl : Nat → Int32) (x : Int32) (y : Int32) (v : Int32) (hL8 : L < 8) : zV l D ka kb yX3_addLump cX3_addLump 4 0 0 [.ref (bd 2), .int x, .int y, .int v] ([((bd 2), .inr (3, [.int (nI L), .ref (bd 7), .ref (bd 8), .ref (bd 9), .ref (bd 10), .ref (bd 11), .int sz9, .int re9])), ((bd 7), .inl (ka 0, 8, .inl mo)), ((bd 8), .inl (ka 0, 8, .inl an)), ((bd 9), .inl (ka 0, 8, .inl pl))]) (fun (_ : Unit) => True) (fun (_ : Unit) => [((bd 2), .inr (3, [.int (nI (L + 1)), .ref (bd 7), .ref (bd 8), .ref (bd 9), .ref (bd 10), .ref (bd 11), .int sz9, .int re9])), ((bd 7), .inl (ka 0, 8, .inl (upd mo L x))), ((bd 8), .inl (ka 0, 8, .inl (upd an L y))), ((bd 9), .inl (ka 0, 8, .inl (upd pl L v)))]) := by
  refine zV.mk RX3 (by decide +kernel) rfl (Nat.le_of_ble_eq_true rfl) ?_
  intro p e s m below meth c A ls args Q hQ hx hb hF hB hl
  replace hl : lv_has ls 4 [(0, .ref (bd 2)), (1, .int x), (2, .int y), (3, .int v)] := hl
  refine lv_aload_n hx hb dX3_addLump_0 rfl (lv_at hl 0 rfl) ?_
  refine zget zf_X3_15 hF hB 0 rfl rfl dX3_addLump_1 ?_
  refine lv_aload_n hx hb dX3_addLump_4 rfl (lv_at hl 0 rfl) ?_
  refine zget zf_X3_9 hF hB 0 rfl rfl dX3_addLump_5 ?_
  refine lv_iload_n hx hb dX3_addLump_8 rfl (lv_at hl 1 rfl) ?_
  refine ziast hF hB 1 rfl L (rfl) (by omega) (by decide) dX3_addLump_9 ?_
  clear hB
  try clear locs
  try clear H
  intro H locs hB
  replace hB : zB D A s ([((bd 2), .inr (3, [.int (nI L), .ref (bd 7), .ref (bd 8), .ref (bd 9), .ref (bd 10), .ref (bd 11), .int sz9, .int re9])), ((bd 7), .inl (ka 0, 8, .inl (upd mo L x))), ((bd 8), .inl (ka 0, 8, .inl an)), ((bd 9), .inl (ka 0, 8, .inl pl))]) H locs := hB
  refine lv_aload_n hx hb dX3_addLump_10 rfl (lv_at hl 0 rfl) ?_
  refine zget zf_X3_19 hF hB 0 rfl rfl dX3_addLump_11 ?_
  refine lv_aload_n hx hb dX3_addLump_14 rfl (lv_at hl 0 rfl) ?_
  refine zget zf_X3_9 hF hB 0 rfl rfl dX3_addLump_15 ?_
  refine lv_iload_n hx hb dX3_addLump_18 rfl (lv_at hl 2 rfl) ?_
  refine ziast hF hB 2 rfl L (rfl) (by omega) (by decide) dX3_addLump_19 ?_
  clear hB
  try clear locs
  try clear H
  intro H locs hB
  replace hB : zB D A s ([((bd 2), .inr (3, [.int (nI L), .ref (bd 7), .ref (bd 8), .ref (bd 9), .ref (bd 10), .ref (bd 11), .int sz9, .int re9])), ((bd 7), .inl (ka 0, 8, .inl (upd mo L x))), ((bd 8), .inl (ka 0, 8, .inl (upd an L y))), ((bd 9), .inl (ka 0, 8, .inl pl))]) H locs := hB
  refine lv_aload_n hx hb dX3_addLump_20 rfl (lv_at hl 0 rfl) ?_
  refine zget zf_X3_22 hF hB 0 rfl rfl dX3_addLump_21 ?_
  refine lv_aload_n hx hb dX3_addLump_24 rfl (lv_at hl 0 rfl) ?_
  refine zget zf_X3_9 hF hB 0 rfl rfl dX3_addLump_25 ?_
  refine lv_iload_n hx hb dX3_addLump_28 rfl (lv_at hl 3 rfl) ?_
  refine ziast hF hB 3 rfl L (rfl) (by omega) (by decide) dX3_addLump_29 ?_
  clear hB
  try clear locs
  try clear H
  intro H locs hB
  replace hB : zB D A s ([((bd 2), .inr (3, [.int (nI L), .ref (bd 7), .ref (bd 8), .ref (bd 9), .ref (bd 10), .ref (bd 11), .int sz9, .int re9])), ((bd 7), .inl (ka 0, 8, .inl (upd mo L x))), ((bd 8), .inl (ka 0, 8, .inl (upd an L y))), ((bd 9), .inl (ka 0, 8, .inl (upd pl L v)))]) H locs := hB
  refine lv_aload_n hx hb dX3_addLump_30 rfl (lv_at hl 0 rfl) ?_
  refine lv_dup hx hb dX3_addLump_31 rfl ?_
  refine zget zf_X3_9 hF hB 0 rfl rfl dX3_addLump_32 ?_
  refine lv_iconst (v := 1) hx hb dX3_addLump_35 (by decide) ?_
  refine lv_iadd hx hb dX3_addLump_36 ?_
  refine ztopi (y := nI (L + 1)) (nI_add L 1) ?_
  refine zput_f zp_X3_9 hF hB 0 rfl (rfl) (rfl) (Nat.le_of_ble_eq_true rfl) dX3_addLump_37 ?_
  clear hB
  try clear locs
  try clear H
  intro H locs hB
  replace hB : zB D A s ([((bd 2), .inr (3, [.int (nI (L + 1)), .ref (bd 7), .ref (bd 8), .ref (bd 9), .ref (bd 10), .ref (bd 11), .int sz9, .int re9])), ((bd 7), .inl (ka 0, 8, .inl (upd mo L x))), ((bd 8), .inl (ka 0, 8, .inl (upd an L y))), ((bd 9), .inl (ka 0, 8, .inl (upd pl L v)))]) H locs := hB
  exact zretv hF hB () (trivial) (rfl) dX3_addLump_40 hQ

set_option maxHeartbeats 4000000 in
set_option maxRecDepth 100000 in
theorem c_X3_dropLump (l : Launch) (D : va_G) (ka : Nat → ClassId) (kb : Nat → Nat) (bd : Nat → Nat) (sz9 : Int32) (re9 : Int32) (L : Nat) (hL1 : 1 ≤ L) : zV l D ka kb yX3_dropLump cX3_dropLump 1 0 0 [.ref (bd 2)] ([((bd 2), .inr (3, [.int (nI L), .ref (bd 7), .ref (bd 8), .ref (bd 9), .ref (bd 10), .ref (bd 11), .int sz9, .int re9]))]) (fun (_ : Unit) => True) (fun (_ : Unit) => [((bd 2), .inr (3, [.int (nI (L - 1)), .ref (bd 7), .ref (bd 8), .ref (bd 9), .ref (bd 10), .ref (bd 11), .int sz9, .int re9]))]) := by
  refine zV.mk RX3 (by decide +kernel) rfl (Nat.le_of_ble_eq_true rfl) ?_
  intro p e s m below meth c A ls args Q hQ hx hb hF hB hl
  replace hl : lv_has ls 1 [(0, .ref (bd 2))] := hl
  refine lv_aload_n hx hb dX3_dropLump_0 rfl (lv_at hl 0 rfl) ?_
  refine lv_dup hx hb dX3_dropLump_1 rfl ?_
  refine zget zf_X3_9 hF hB 0 rfl rfl dX3_dropLump_2 ?_
  refine lv_iconst (v := 1) hx hb dX3_dropLump_5 (by decide) ?_
  refine lv_isub hx hb dX3_dropLump_6 ?_
  refine ztopi (y := nI (L - 1)) (pk_sub (a := L) (b := 1) hL1) ?_
  refine zput_f zp_X3_9 hF hB 0 rfl (rfl) (rfl) (Nat.le_of_ble_eq_true rfl) dX3_dropLump_7 ?_
  clear hB
  try clear locs
  try clear H
  intro H locs hB
  replace hB : zB D A s ([((bd 2), .inr (3, [.int (nI (L - 1)), .ref (bd 7), .ref (bd 8), .ref (bd 9), .ref (bd 10), .ref (bd 11), .int sz9, .int re9]))]) H locs := hB
  exact zretv hF hB () (trivial) (rfl) dX3_dropLump_10 hQ

set_option maxHeartbeats 4000000 in
set_option maxRecDepth 100000 in
theorem c_X3_sizeAt (l : Launch) (D : va_G) (ka : Nat → ClassId) (kb : Nat → Nat) (bd : Nat → Nat) (lu : Int32) (sz9 : Int32) (re9 : Int32) (ho : Nat → Int32) (p9 : Nat) (a : Nat) (hp9 : p9 < 2) (ha : a < 12) : zI l D ka kb yX3_sizeAt cX3_sizeAt 3 .int 0 0 [.ref (bd 2), .int (nI p9), .int (nI a)] ([((bd 2), .inr (3, [.int lu, .ref (bd 7), .ref (bd 8), .ref (bd 9), .ref (bd 10), .ref (bd 11), .int sz9, .int re9])), ((bd 10), .inl (ka 0, 24, .inl ho))]) (fun (r : Int32) (_ : Unit) => r = ho (12 * p9 + a)) (fun (_ : Unit) => [((bd 2), .inr (3, [.int lu, .ref (bd 7), .ref (bd 8), .ref (bd 9), .ref (bd 10), .ref (bd 11), .int sz9, .int re9])), ((bd 10), .inl (ka 0, 24, .inl ho))]) := by
  refine zI.mk RX3 (by decide +kernel) rfl (Nat.le_of_ble_eq_true rfl) ?_
  intro p e s m below meth c A ls args Q hQ hx hb hF hB hl
  replace hl : lv_has ls 3 [(0, .ref (bd 2)), (1, .int (nI p9)), (2, .int (nI a))] := hl
  refine lv_aload_n hx hb dX3_sizeAt_0 rfl (lv_at hl 0 rfl) ?_
  refine zget zf_X3_25 hF hB 0 rfl rfl dX3_sizeAt_1 ?_
  refine lv_iload_n hx hb dX3_sizeAt_4 rfl (lv_at hl 1 rfl) ?_
  refine lv_bipush (v := 12) hx hb dX3_sizeAt_5 (by decide) ?_
  refine lv_imul hx hb dX3_sizeAt_7 ?_
  refine ztopi (y := nI (p9 * 12)) (pk_mul p9 12) ?_
  refine lv_iload_n hx hb dX3_sizeAt_8 rfl (lv_at hl 2 rfl) ?_
  refine lv_iadd hx hb dX3_sizeAt_9 ?_
  refine ztopi (y := nI ((p9 * 12) + a)) (nI_add (p9 * 12) a) ?_
  refine ziald hF hB 1 rfl ((p9 * 12) + a) (rfl) (by omega) (by decide) (v := (ho (12 * p9 + a))) (by rw [Nat.mul_comm]) dX3_sizeAt_10 ?_
  exact zreti hF hB () (rfl) (rfl) (rfl) dX3_sizeAt_11 hQ

set_option maxHeartbeats 4000000 in
set_option maxRecDepth 100000 in
theorem c_X3_setHole (l : Launch) (D : va_G) (ka : Nat → ClassId) (kb : Nat → Nat) (bd : Nat → Nat) (lu : Int32) (sz9 : Int32) (re9 : Int32) (ho : Nat → Int32) (p9 : Nat) (a : Nat) (v : Int32) (hp9 : p9 < 2) (ha : a < 12) : zV l D ka kb yX3_setHole cX3_setHole 4 0 0 [.ref (bd 2), .int (nI p9), .int (nI a), .int v] ([((bd 2), .inr (3, [.int lu, .ref (bd 7), .ref (bd 8), .ref (bd 9), .ref (bd 10), .ref (bd 11), .int sz9, .int re9])), ((bd 10), .inl (ka 0, 24, .inl ho))]) (fun (_ : Unit) => True) (fun (_ : Unit) => [((bd 2), .inr (3, [.int lu, .ref (bd 7), .ref (bd 8), .ref (bd 9), .ref (bd 10), .ref (bd 11), .int sz9, .int re9])), ((bd 10), .inl (ka 0, 24, .inl (upd ho (12 * p9 + a) v)))]) := by
  refine zV.mk RX3 (by decide +kernel) rfl (Nat.le_of_ble_eq_true rfl) ?_
  intro p e s m below meth c A ls args Q hQ hx hb hF hB hl
  replace hl : lv_has ls 4 [(0, .ref (bd 2)), (1, .int (nI p9)), (2, .int (nI a)), (3, .int v)] := hl
  refine lv_aload_n hx hb dX3_setHole_0 rfl (lv_at hl 0 rfl) ?_
  refine zget zf_X3_25 hF hB 0 rfl rfl dX3_setHole_1 ?_
  refine lv_iload_n hx hb dX3_setHole_4 rfl (lv_at hl 1 rfl) ?_
  refine lv_bipush (v := 12) hx hb dX3_setHole_5 (by decide) ?_
  refine lv_imul hx hb dX3_setHole_7 ?_
  refine ztopi (y := nI (p9 * 12)) (pk_mul p9 12) ?_
  refine lv_iload_n hx hb dX3_setHole_8 rfl (lv_at hl 2 rfl) ?_
  refine lv_iadd hx hb dX3_setHole_9 ?_
  refine ztopi (y := nI ((p9 * 12) + a)) (nI_add (p9 * 12) a) ?_
  refine lv_iload_n hx hb dX3_setHole_10 rfl (lv_at hl 3 rfl) ?_
  refine ziast hF hB 1 rfl ((p9 * 12) + a) (rfl) (by omega) (by decide) dX3_setHole_11 ?_
  clear hB
  try clear locs
  try clear H
  intro H locs hB
  replace hB : zB D A s ([((bd 2), .inr (3, [.int lu, .ref (bd 7), .ref (bd 8), .ref (bd 9), .ref (bd 10), .ref (bd 11), .int sz9, .int re9])), ((bd 10), .inl (ka 0, 24, .inl (upd ho (12 * p9 + a) v)))]) H locs := (by have e9 := hB; rw [Nat.mul_comm p9 12] at e9; exact e9)
  exact zretv hF hB () (trivial) (rfl) dX3_setHole_12 hQ

set_option maxHeartbeats 4000000 in
set_option maxRecDepth 100000 in
theorem c_X3_holes (l : Launch) (D : va_G) (ka : Nat → ClassId) (kb : Nat → Nat) (bd : Nat → Nat) (lu : Int32) (sz9 : Int32) (re9 : Int32) (ho : Nat → Int32) (p9 : Nat) (hp9 : p9 < 2) (hoh : okH ho) : zI l D ka kb yX3_holes cX3_holes 4 .int 1 22 [.ref (bd 2), .int (nI p9)] ([((bd 2), .inr (3, [.int lu, .ref (bd 7), .ref (bd 8), .ref (bd 9), .ref (bd 10), .ref (bd 11), .int sz9, .int re9])), ((bd 10), .inl (ka 0, 24, .inl ho))]) (fun (r : Int32) (_ : Unit) => r = nI (hcnt p9 ho 12)) (fun (_ : Unit) => [((bd 2), .inr (3, [.int lu, .ref (bd 7), .ref (bd 8), .ref (bd 9), .ref (bd 10), .ref (bd 11), .int sz9, .int re9])), ((bd 10), .inl (ka 0, 24, .inl ho))]) := by
  refine zI.mk RX3 (by decide +kernel) rfl (Nat.le_of_ble_eq_true rfl) ?_
  intro p e s m below meth c A ls args Q hQ hx hb hF hB hl
  replace hl : lv_has ls 4 [(0, .ref (bd 2)), (1, .int (nI p9))] := hl
  refine lv_iconst (v := 0) hx hb dX3_holes_0 (by decide) ?_
  refine lv_istore_n (lv' := [(2, .int (0 : Int32)), (0, .ref (bd 2)), (1, .int (nI p9))]) hx hb dX3_holes_1 rfl hl (by decide) rfl ?_
  clear hl
  clear ls
  intro ls hl
  refine lv_iconst (v := 0) hx hb dX3_holes_2 (by decide) ?_
  refine lv_istore_n (lv' := [(3, .int (0 : Int32)), (2, .int (0 : Int32)), (0, .ref (bd 2)), (1, .int (nI p9))]) hx hb dX3_holes_3 rfl hl (by decide) rfl ?_
  clear hl
  clear ls
  intro ls hl
  have lp4 : ∀ (fl : Nat) (kc : Nat) (nc : Nat), (hk : kc ≤ 12) → (hn : nc = hcnt p9 ho kc) → 12 - kc < fl → ∀ (H : Heap) (locs : List Loc), zB D A s ([((bd 2), .inr (3, [.int lu, .ref (bd 7), .ref (bd 8), .ref (bd 9), .ref (bd 10), .ref (bd 11), .int sz9, .int re9])), ((bd 10), .inl (ka 0, 24, .inl ho))]) H locs → ∀ ls : Array Slot, lv_has ls 4 [(2, .int (nI nc)), (3, .int (nI kc)), (0, .ref (bd 2)), (1, .int (nI p9))] → W p l e (zRm 1 22 0 0) s m args below meth c H locs 0 0 Q (F0 m 4 ls []) := by
    intro fl
    induction fl with
    | zero => intro kc nc hk hn hfl; exact absurd hfl (Nat.not_lt_zero _)
    | succ fl ih4 =>
      intro kc nc hk hn hfl4 H locs hB ls hl
      refine lv_iload_n hx hb dX3_holes_4 rfl (lv_at hl 1 rfl) ?_
      refine lv_bipush (v := 12) hx hb dX3_holes_5 (by decide) ?_
      refine lv_icmp_ge (tgt := 28) hx hb dX3_holes_7 (by decide) (fun h7 => ?_) (fun h7 => ?_)
      · skip
        have hk2 : kc = 12 := by have := (nI_leI (a := 12) (b := kc) (by decide) (by omega)).mp h7; omega
        refine lv_iload_n hx hb dX3_holes_28 rfl (lv_at hl 0 rfl) ?_
        exact zreti hF hB () (by rw [hn, hk2]) (rfl) (rfl) dX3_holes_29 hQ
      · skip
        have hk2 : kc < 12 := Nat.not_le.mp (fun e9 => h7 ((nI_leI (a := 12) (b := kc) (by decide) (by omega)).mpr e9))
        refine lv_aload_n hx hb dX3_holes_10 rfl (lv_at hl 2 rfl) ?_
        refine lv_iload_n hx hb dX3_holes_11 rfl (lv_at hl 3 rfl) ?_
        refine lv_iload_n hx hb dX3_holes_12 rfl (lv_at hl 1 rfl) ?_
        refine zVi zm_X3_37 hF hB (c_X3_sizeAt l D ka kb bd lu sz9 re9 ho p9 kc (hp9) (hk2)) [0, 1] rfl (by decide) [(bd 2), (bd 10)] (fun _ => rfl) rfl 0 3 rfl rfl rfl ⟨Nat.le_of_ble_eq_true rfl, Nat.le_of_ble_eq_true rfl⟩ rfl hl.1 (Nat.le_of_ble_eq_true rfl) ⟨Nat.le_refl _, Nat.le_refl _⟩ dX3_holes_13 ?_
        clear hB
        try clear locs
        try clear H
        intro r1 u1 H locs hp hB
        obtain rfl : r1 = ho (12 * p9 + kc) := hp
        replace hB : zB D A s ([((bd 2), .inr (3, [.int lu, .ref (bd 7), .ref (bd 8), .ref (bd 9), .ref (bd 10), .ref (bd 11), .int sz9, .int re9])), ((bd 10), .inl (ka 0, 24, .inl ho))]) H locs := hB
        refine lv_if_eq (tgt := 22) hx hb dX3_holes_16 (by decide) (fun h16 => ?_) (fun h16 => ?_)
        · skip
          refine lv_iinc (v := nI (kc + 1)) (lv' := [(3, .int (nI (kc + 1))), (2, .int (nI nc)), (0, .ref (bd 2)), (1, .int (nI p9))]) hx hb dX3_holes_22 hl (k := 1) rfl (nI_1 _) (by decide) rfl ?_
          clear hl
          clear ls
          intro ls hl
          refine lv_goto (tgt := 4) hx hb dX3_holes_25 (by decide) ?_
          exact ih4 (kc + 1) nc (by omega) (by rw [hcnt, hn, ← hc_z (hoh _ (by omega)) h16]) (by omega) _ _ (hB) _ (lv_sub hl [1, 0, 2, 3] rfl)
        · skip
          refine lv_iinc (v := nI (nc + 1)) (lv' := [(2, .int (nI (nc + 1))), (3, .int (nI kc)), (0, .ref (bd 2)), (1, .int (nI p9))]) hx hb dX3_holes_19 hl (k := 0) rfl (nI_1 _) (by decide) rfl ?_
          clear hl
          clear ls
          intro ls hl
          refine lv_iinc (v := nI (kc + 1)) (lv' := [(3, .int (nI (kc + 1))), (2, .int (nI (nc + 1))), (0, .ref (bd 2)), (1, .int (nI p9))]) hx hb dX3_holes_22 hl (k := 1) rfl (nI_1 _) (by decide) rfl ?_
          clear hl
          clear ls
          intro ls hl
          refine lv_goto (tgt := 4) hx hb dX3_holes_25 (by decide) ?_
          exact ih4 (kc + 1) (nc + 1) (by omega) (by rw [hcnt, hn, hc_p (hoh _ (by omega)) h16]) (by omega) _ _ (hB) _ (lv_sub hl [1, 0, 2, 3] rfl)
  exact lp4 (12 - 0 + 1) 0 0 (Nat.zero_le _) (rfl) (by omega) _ _ (hB) _ (lv_sub hl [1, 0, 2, 3] rfl)

set_option maxHeartbeats 4000000 in
set_option maxRecDepth 100000 in
theorem c_X3_lawfulBits (l : Launch) (D : va_G) (ka : Nat → ClassId) (kb : Nat → Nat) (bd : Nat → Nat) (lu : Int32) (sz9 : Int32) (re9 : Int32) (le : Nat → Int32) (p9 : Nat) (hp9 : p9 < 2) : zI l D ka kb yX3_lawfulBits cX3_lawfulBits 2 .int 0 0 [.ref (bd 2), .int (nI p9)] ([((bd 2), .inr (3, [.int lu, .ref (bd 7), .ref (bd 8), .ref (bd 9), .ref (bd 10), .ref (bd 11), .int sz9, .int re9])), ((bd 11), .inl (ka 0, 2, .inl le))]) (fun (r : Int32) (_ : Unit) => r = le p9) (fun (_ : Unit) => [((bd 2), .inr (3, [.int lu, .ref (bd 7), .ref (bd 8), .ref (bd 9), .ref (bd 10), .ref (bd 11), .int sz9, .int re9])), ((bd 11), .inl (ka 0, 2, .inl le))]) := by
  refine zI.mk RX3 (by decide +kernel) rfl (Nat.le_of_ble_eq_true rfl) ?_
  intro p e s m below meth c A ls args Q hQ hx hb hF hB hl
  replace hl : lv_has ls 2 [(0, .ref (bd 2)), (1, .int (nI p9))] := hl
  refine lv_aload_n hx hb dX3_lawfulBits_0 rfl (lv_at hl 0 rfl) ?_
  refine zget zf_X3_28 hF hB 0 rfl rfl dX3_lawfulBits_1 ?_
  refine lv_iload_n hx hb dX3_lawfulBits_4 rfl (lv_at hl 1 rfl) ?_
  refine ziald hF hB 1 rfl p9 (rfl) (by omega) (by decide) (v := (le p9)) (rfl) dX3_lawfulBits_5 ?_
  exact zreti hF hB () (rfl) (rfl) (rfl) dX3_lawfulBits_6 hQ

set_option maxHeartbeats 4000000 in
set_option maxRecDepth 100000 in
theorem c_X3_tellLawful (l : Launch) (D : va_G) (ka : Nat → ClassId) (kb : Nat → Nat) (bd : Nat → Nat) (lu : Int32) (sz9 : Int32) (re9 : Int32) (le : Nat → Int32) (p9 : Nat) (v : Int32) (hp9 : p9 < 2) : zV l D ka kb yX3_tellLawful cX3_tellLawful 3 0 0 [.ref (bd 2), .int (nI p9), .int v] ([((bd 2), .inr (3, [.int lu, .ref (bd 7), .ref (bd 8), .ref (bd 9), .ref (bd 10), .ref (bd 11), .int sz9, .int re9])), ((bd 11), .inl (ka 0, 2, .inl le))]) (fun (_ : Unit) => True) (fun (_ : Unit) => [((bd 2), .inr (3, [.int lu, .ref (bd 7), .ref (bd 8), .ref (bd 9), .ref (bd 10), .ref (bd 11), .int sz9, .int re9])), ((bd 11), .inl (ka 0, 2, .inl (upd le p9 v)))]) := by
  refine zV.mk RX3 (by decide +kernel) rfl (Nat.le_of_ble_eq_true rfl) ?_
  intro p e s m below meth c A ls args Q hQ hx hb hF hB hl
  replace hl : lv_has ls 3 [(0, .ref (bd 2)), (1, .int (nI p9)), (2, .int v)] := hl
  refine lv_aload_n hx hb dX3_tellLawful_0 rfl (lv_at hl 0 rfl) ?_
  refine zget zf_X3_28 hF hB 0 rfl rfl dX3_tellLawful_1 ?_
  refine lv_iload_n hx hb dX3_tellLawful_4 rfl (lv_at hl 1 rfl) ?_
  refine lv_iload_n hx hb dX3_tellLawful_5 rfl (lv_at hl 2 rfl) ?_
  refine ziast hF hB 1 rfl p9 (rfl) (by omega) (by decide) dX3_tellLawful_6 ?_
  clear hB
  try clear locs
  try clear H
  intro H locs hB
  replace hB : zB D A s ([((bd 2), .inr (3, [.int lu, .ref (bd 7), .ref (bd 8), .ref (bd 9), .ref (bd 10), .ref (bd 11), .int sz9, .int re9])), ((bd 11), .inl (ka 0, 2, .inl (upd le p9 v)))]) H locs := hB
  exact zretv hF hB () (trivial) (rfl) dX3_tellLawful_7 hQ

set_option maxHeartbeats 4000000 in
set_option maxRecDepth 100000 in
theorem c_X3_openBits (l : Launch) (D : va_G) (ka : Nat → ClassId) (kb : Nat → Nat) (bd : Nat → Nat) (lu : Int32) (sz9 : Int32) (re9 : Int32) (le : Nat → Int32) (ho : Nat → Int32) (p9 : Nat) (hp9 : p9 < 2) : zI l D ka kb yX3_openBits cX3_openBits 4 .int 1 22 [.ref (bd 2), .int (nI p9)] ([((bd 2), .inr (3, [.int lu, .ref (bd 7), .ref (bd 8), .ref (bd 9), .ref (bd 10), .ref (bd 11), .int sz9, .int re9])), ((bd 11), .inl (ka 0, 2, .inl le)), ((bd 10), .inl (ka 0, 24, .inl ho))]) (fun (r : Int32) (_ : Unit) => r = opN (le p9) p9 ho 12) (fun (_ : Unit) => [((bd 2), .inr (3, [.int lu, .ref (bd 7), .ref (bd 8), .ref (bd 9), .ref (bd 10), .ref (bd 11), .int sz9, .int re9])), ((bd 11), .inl (ka 0, 2, .inl le)), ((bd 10), .inl (ka 0, 24, .inl ho))]) := by
  refine zI.mk RX3 (by decide +kernel) rfl (Nat.le_of_ble_eq_true rfl) ?_
  intro p e s m below meth c A ls args Q hQ hx hb hF hB hl
  replace hl : lv_has ls 4 [(0, .ref (bd 2)), (1, .int (nI p9))] := hl
  refine lv_aload_n hx hb dX3_openBits_0 rfl (lv_at hl 0 rfl) ?_
  refine zget zf_X3_28 hF hB 0 rfl rfl dX3_openBits_1 ?_
  refine lv_iload_n hx hb dX3_openBits_4 rfl (lv_at hl 1 rfl) ?_
  refine ziald hF hB 1 rfl p9 (rfl) (by omega) (by decide) (v := (le p9)) (rfl) dX3_openBits_5 ?_
  refine lv_istore_n (lv' := [(2, .int (le p9)), (0, .ref (bd 2)), (1, .int (nI p9))]) hx hb dX3_openBits_6 rfl hl (by decide) rfl ?_
  clear hl
  clear ls
  intro ls hl
  refine lv_iconst (v := 0) hx hb dX3_openBits_7 (by decide) ?_
  refine lv_istore_n (lv' := [(3, .int (0 : Int32)), (2, .int (le p9)), (0, .ref (bd 2)), (1, .int (nI p9))]) hx hb dX3_openBits_8 rfl hl (by decide) rfl ?_
  clear hl
  clear ls
  intro ls hl
  have lp9 : ∀ (fl : Nat) (kc : Nat) (nc : Int32), (hk : kc ≤ 12) → (hn : nc = opN (le p9) p9 ho kc) → 12 - kc < fl → ∀ (H : Heap) (locs : List Loc), zB D A s ([((bd 2), .inr (3, [.int lu, .ref (bd 7), .ref (bd 8), .ref (bd 9), .ref (bd 10), .ref (bd 11), .int sz9, .int re9])), ((bd 11), .inl (ka 0, 2, .inl le)), ((bd 10), .inl (ka 0, 24, .inl ho))]) H locs → ∀ ls : Array Slot, lv_has ls 4 [(2, .int nc), (3, .int (nI kc)), (0, .ref (bd 2)), (1, .int (nI p9))] → W p l e (zRm 1 22 0 0) s m args below meth c H locs 0 0 Q (F0 m 9 ls []) := by
    intro fl
    induction fl with
    | zero => intro kc nc hk hn hfl; exact absurd hfl (Nat.not_lt_zero _)
    | succ fl ih9 =>
      intro kc nc hk hn hfl9 H locs hB ls hl
      refine lv_iload_n hx hb dX3_openBits_9 rfl (lv_at hl 1 rfl) ?_
      refine lv_bipush (v := 12) hx hb dX3_openBits_10 (by decide) ?_
      refine lv_icmp_ge (tgt := 38) hx hb dX3_openBits_12 (by decide) (fun h12 => ?_) (fun h12 => ?_)
      · skip
        have hk2 : kc = 12 := by have := (nI_leI (a := 12) (b := kc) (by decide) (by omega)).mp h12; omega
        refine lv_iload_n hx hb dX3_openBits_38 rfl (lv_at hl 0 rfl) ?_
        exact zreti hF hB () (by rw [hn, hk2]) (rfl) (rfl) dX3_openBits_39 hQ
      · skip
        have hk2 : kc < 12 := Nat.not_le.mp (fun e9 => h12 ((nI_leI (a := 12) (b := kc) (by decide) (by omega)).mpr e9))
        refine lv_aload_n hx hb dX3_openBits_15 rfl (lv_at hl 2 rfl) ?_
        refine lv_iload_n hx hb dX3_openBits_16 rfl (lv_at hl 3 rfl) ?_
        refine lv_iload_n hx hb dX3_openBits_17 rfl (lv_at hl 1 rfl) ?_
        refine zVi zm_X3_37 hF hB (c_X3_sizeAt l D ka kb bd lu sz9 re9 ho p9 kc (hp9) (hk2)) [0, 2] rfl (by decide) [(bd 2), (bd 10)] (fun _ => rfl) rfl 0 3 rfl rfl rfl ⟨Nat.le_of_ble_eq_true rfl, Nat.le_of_ble_eq_true rfl⟩ rfl hl.1 (Nat.le_of_ble_eq_true rfl) ⟨Nat.le_refl _, Nat.le_refl _⟩ dX3_openBits_18 ?_
        clear hB
        try clear locs
        try clear H
        intro r1 u1 H locs hp hB
        obtain rfl : r1 = ho (12 * p9 + kc) := hp
        replace hB : zB D A s ([((bd 2), .inr (3, [.int lu, .ref (bd 7), .ref (bd 8), .ref (bd 9), .ref (bd 10), .ref (bd 11), .int sz9, .int re9])), ((bd 11), .inl (ka 0, 2, .inl le)), ((bd 10), .inl (ka 0, 24, .inl ho))]) H locs := hB
        refine lv_if_eq (tgt := 32) hx hb dX3_openBits_21 (by decide) (fun h21 => ?_) (fun h21 => ?_)
        · skip
          refine lv_iinc (v := nI (kc + 1)) (lv' := [(3, .int (nI (kc + 1))), (2, .int nc), (0, .ref (bd 2)), (1, .int (nI p9))]) hx hb dX3_openBits_32 hl (k := 1) rfl (nI_1 _) (by decide) rfl ?_
          clear hl
          clear ls
          intro ls hl
          refine lv_goto (tgt := 9) hx hb dX3_openBits_35 (by decide) ?_
          exact ih9 (kc + 1) nc (by omega) (by rw [opN, if_pos h21, hn]) (by omega) _ _ (hB) _ (lv_sub hl [1, 0, 2, 3] rfl)
        · skip
          refine lv_iload_n hx hb dX3_openBits_24 rfl (lv_at hl 0 rfl) ?_
          refine lv_iconst (v := 1) hx hb dX3_openBits_25 (by decide) ?_
          refine lv_iload_n hx hb dX3_openBits_26 rfl (lv_at hl 1 rfl) ?_
          refine lv_ishl hx hb dX3_openBits_27 ?_
          refine lv_iconst (v := -1) hx hb dX3_openBits_28 (by decide) ?_
          refine lv_ixor hx hb dX3_openBits_29 ?_
          refine lv_iand hx hb dX3_openBits_30 ?_
          refine lv_istore_n (lv' := [(2, .int (nc &&& (((1 : Int32) <<< (nI kc &&& 31)) ^^^ (-1 : Int32)))), (3, .int (nI kc)), (0, .ref (bd 2)), (1, .int (nI p9))]) hx hb dX3_openBits_31 rfl hl (by decide) rfl ?_
          clear hl
          clear ls
          intro ls hl
          refine lv_iinc (v := nI (kc + 1)) (lv' := [(3, .int (nI (kc + 1))), (2, .int (nc &&& (((1 : Int32) <<< (nI kc &&& 31)) ^^^ (-1 : Int32)))), (0, .ref (bd 2)), (1, .int (nI p9))]) hx hb dX3_openBits_32 hl (k := 1) rfl (nI_1 _) (by decide) rfl ?_
          clear hl
          clear ls
          intro ls hl
          refine lv_goto (tgt := 9) hx hb dX3_openBits_35 (by decide) ?_
          exact ih9 (kc + 1) (nc &&& (((1 : Int32) <<< (nI kc &&& 31)) ^^^ (-1 : Int32))) (by omega) (by rw [opN, if_neg h21, hn]) (by omega) _ _ (hB) _ (lv_sub hl [1, 0, 2, 3] rfl)
  exact lp9 (12 - 0 + 1) 0 (le p9) (Nat.zero_le _) (rfl) (by omega) _ _ (hB) _ (lv_sub hl [1, 0, 2, 3] rfl)

set_option maxHeartbeats 4000000 in
set_option maxRecDepth 100000 in
theorem c_X3_takePullBy20 (l : Launch) (D : va_G) (ka : Nat → ClassId) (kb : Nat → Nat) (bd : Nat → Nat) (sz9 : Int32) (re9 : Int32) (L : Nat) (mo : Nat → Int32) (an : Nat → Int32) (pl : Nat → Int32) (ho : Nat → Int32) (na : Nat → Nat) (N : Nat → N5) (t : Nat) (p9 : Nat) (ht : t < 41) (hp9 : p9 < 2) (hok : okL L mo an pl) (hoh : okH ho) : zV l D ka kb yX3_takePullBy20 cX3_takePullBy20 4 1 30 [.ref (bd 2), .int (nI p9), .ref (na t)] ([((bd 2), .inr (3, [.int (nI L), .ref (bd 7), .ref (bd 8), .ref (bd 9), .ref (bd 10), .ref (bd 11), .int sz9, .int re9])), ((bd 7), .inl (ka 0, 8, .inl mo)), ((bd 8), .inl (ka 0, 8, .inl an)), ((bd 9), .inl (ka 0, 8, .inl pl)), ((bd 10), .inl (ka 0, 24, .inl ho))] ++ nP na N) (fun (_ : Unit) => True) (fun (_ : Unit) => [((bd 2), .inr (3, [.int (nI L), .ref (bd 7), .ref (bd 8), .ref (bd 9), .ref (bd 10), .ref (bd 11), .int sz9, .int re9])), ((bd 7), .inl (ka 0, 8, .inl mo)), ((bd 8), .inl (ka 0, 8, .inl an)), ((bd 9), .inl (ka 0, 8, .inl pl)), ((bd 10), .inl (ka 0, 24, .inl ho))] ++ nP na (upN N t (p20N (pulI p9 L mo an pl ho)))) := by
  refine zV.mk RX3 (by decide +kernel) rfl (Nat.le_of_ble_eq_true rfl) ?_
  intro p e s m below meth c A ls args Q hQ hx hb hF hB hl
  replace hl : lv_has ls 4 [(0, .ref (bd 2)), (1, .int (nI p9)), (2, .ref (na t))] := hl
  have hL8 := hok.1
  refine lv_aload_n hx hb dX3_takePullBy20_0 rfl (lv_at hl 2 rfl) ?_
  refine lv_lconst (v := 0) hx hb dX3_takePullBy20_1 (by decide) ?_
  refine lv_lconst (v := 0) hx hb dX3_takePullBy20_2 (by decide) ?_
  refine lv_lconst (v := 0) hx hb dX3_takePullBy20_3 (by decide) ?_
  refine lv_lconst (v := 0) hx hb dX3_takePullBy20_4 (by decide) ?_
  refine zldc2 (v := (20 : Int64)) ww_13_9 hF dX3_takePullBy20_5 ?_
  refine zVv zm_X3_43 hF hB (c_X1_become l D ka kb (na t) (N t) (0 : Int64) (0 : Int64) (0 : Int64) (0 : Int64) (20 : Int64) ) [5 + t] (zsel_num rfl (ht)) (va_nd_1 _) [na t] (fun _ => rfl) rfl (5 + t) 1 rfl (nP_atn rfl (ht)) rfl ⟨Nat.le_of_ble_eq_true rfl, Nat.le_of_ble_eq_true rfl⟩ rfl hl.1 (Nat.le_of_ble_eq_true rfl) ⟨Nat.le_refl _, Nat.le_refl _⟩ dX3_takePullBy20_8 ?_
  clear hB
  try clear locs
  try clear H
  intro u1 H locs hp hB
  replace hB : zB D A s ([((bd 2), .inr (3, [.int (nI L), .ref (bd 7), .ref (bd 8), .ref (bd 9), .ref (bd 10), .ref (bd 11), .int sz9, .int re9])), ((bd 7), .inl (ka 0, 8, .inl mo)), ((bd 8), .inl (ka 0, 8, .inl an)), ((bd 9), .inl (ka 0, 8, .inl pl)), ((bd 10), .inl (ka 0, 24, .inl ho))] ++ nP na (upN N t ((0 : Int64), (0 : Int64), (0 : Int64), (0 : Int64), (20 : Int64)))) H locs := zB_num (X := ((0 : Int64), (0 : Int64), (0 : Int64), (0 : Int64), (20 : Int64))) hB rfl (ht)
  refine lv_iconst (v := 0) hx hb dX3_takePullBy20_11 (by decide) ?_
  refine lv_istore_n (lv' := [(3, .int (0 : Int32)), (0, .ref (bd 2)), (1, .int (nI p9)), (2, .ref (na t))]) hx hb dX3_takePullBy20_12 rfl hl (by decide) rfl ?_
  clear hl
  clear ls
  intro ls hl
  have lp13 : ∀ (fl : Nat) (ic : Nat), (hi : ic ≤ L) → L - ic < fl → ∀ (H : Heap) (locs : List Loc), zB D A s ([((bd 2), .inr (3, [.int (nI L), .ref (bd 7), .ref (bd 8), .ref (bd 9), .ref (bd 10), .ref (bd 11), .int sz9, .int re9])), ((bd 7), .inl (ka 0, 8, .inl mo)), ((bd 8), .inl (ka 0, 8, .inl an)), ((bd 9), .inl (ka 0, 8, .inl pl)), ((bd 10), .inl (ka 0, 24, .inl ho))] ++ nP na (upN N t (p20N (fun k => lumpS p9 mo an pl k ic)))) H locs → ∀ ls : Array Slot, lv_has ls 4 [(3, .int (nI ic)), (0, .ref (bd 2)), (1, .int (nI p9)), (2, .ref (na t))] → W p l e (zRm 1 30 0 0) s m args below meth c H locs 0 0 Q (F0 m 13 ls []) := by
    intro fl
    induction fl with
    | zero => intro ic hi hfl; exact absurd hfl (Nat.not_lt_zero _)
    | succ fl ih13 =>
      intro ic hi hfl13 H locs hB ls hl
      refine lv_iload_n hx hb dX3_takePullBy20_13 rfl (lv_at hl 0 rfl) ?_
      refine lv_aload_n hx hb dX3_takePullBy20_14 rfl (lv_at hl 1 rfl) ?_
      refine zget zf_X3_9 hF hB 0 rfl rfl dX3_takePullBy20_15 ?_
      refine lv_icmp_ge (tgt := 66) hx hb dX3_takePullBy20_18 (by decide) (fun h18 => ?_) (fun h18 => ?_)
      · skip
        have hiL : ic = L := by have := (nI_leI (by omega) (by omega)).mp h18; omega
        refine lv_iconst (v := 0) hx hb dX3_takePullBy20_66 (by decide) ?_
        refine lv_istore_n (lv' := [(3, .int (0 : Int32)), (0, .ref (bd 2)), (1, .int (nI p9)), (2, .ref (na t))]) hx hb dX3_takePullBy20_67 rfl hl (by decide) rfl ?_
        clear hl
        clear ls
        intro ls hl
        have lp68 : ∀ (fl : Nat) (jc : Nat), (hj : jc ≤ 12) → 12 - jc < fl → ∀ (H : Heap) (locs : List Loc), zB D A s ([((bd 2), .inr (3, [.int (nI L), .ref (bd 7), .ref (bd 8), .ref (bd 9), .ref (bd 10), .ref (bd 11), .int sz9, .int re9])), ((bd 7), .inl (ka 0, 8, .inl mo)), ((bd 8), .inl (ka 0, 8, .inl an)), ((bd 9), .inl (ka 0, 8, .inl pl)), ((bd 10), .inl (ka 0, 24, .inl ho))] ++ nP na (upN N t (p20N (fun k => lumpS p9 mo an pl k L + holeS p9 ho k jc)))) H locs → ∀ ls : Array Slot, lv_has ls 4 [(3, .int (nI jc)), (0, .ref (bd 2)), (1, .int (nI p9)), (2, .ref (na t))] → W p l e (zRm 1 30 0 0) s m args below meth c H locs 0 0 Q (F0 m 68 ls []) := by
          intro fl
          induction fl with
          | zero => intro jc hj hfl; exact absurd hfl (Nat.not_lt_zero _)
          | succ fl ih68 =>
            intro jc hj hfl68 H locs hB ls hl
            refine lv_iload_n hx hb dX3_takePullBy20_68 rfl (lv_at hl 0 rfl) ?_
            refine lv_bipush (v := 12) hx hb dX3_takePullBy20_69 (by decide) ?_
            refine lv_icmp_ge (tgt := 94) hx hb dX3_takePullBy20_71 (by decide) (fun h71 => ?_) (fun h71 => ?_)
            · skip
              have hj2 : jc = 12 := by have := (nI_leI (a := 12) (b := jc) (by decide) (by omega)).mp h71; omega
              exact zretv hF hB () (trivial) (by rw [hj2] <;> rfl) dX3_takePullBy20_94 hQ
            · skip
              have hj2 : jc < 12 := Nat.not_le.mp (fun e9 => h71 ((nI_leI (a := 12) (b := jc) (by decide) (by omega)).mpr e9))
              refine lv_aload_n hx hb dX3_takePullBy20_74 rfl (lv_at hl 3 rfl) ?_
              refine lv_bipush (v := -10) hx hb dX3_takePullBy20_75 (by decide) ?_
              refine lv_aload_n hx hb dX3_takePullBy20_77 rfl (lv_at hl 1 rfl) ?_
              refine lv_iload_n hx hb dX3_takePullBy20_78 rfl (lv_at hl 2 rfl) ?_
              refine lv_iload_n hx hb dX3_takePullBy20_79 rfl (lv_at hl 0 rfl) ?_
              refine zVi zm_X3_37 hF hB (c_X3_sizeAt l D ka kb bd (nI L) sz9 re9 ho p9 jc (hp9) (hj2)) [0, 4] rfl (by decide) [(bd 2), (bd 10)] (fun _ => rfl) rfl 0 3 rfl rfl rfl ⟨Nat.le_of_ble_eq_true rfl, Nat.le_of_ble_eq_true rfl⟩ rfl hl.1 (Nat.le_of_ble_eq_true rfl) ⟨Nat.le_refl _, Nat.le_refl _⟩ dX3_takePullBy20_80 ?_
              clear hB
              try clear locs
              try clear H
              intro r2 u2 H locs hp hB
              obtain rfl : r2 = ho (12 * p9 + jc) := hp
              replace hB : zB D A s ([((bd 2), .inr (3, [.int (nI L), .ref (bd 7), .ref (bd 8), .ref (bd 9), .ref (bd 10), .ref (bd 11), .int sz9, .int re9])), ((bd 7), .inl (ka 0, 8, .inl mo)), ((bd 8), .inl (ka 0, 8, .inl an)), ((bd 9), .inl (ka 0, 8, .inl pl)), ((bd 10), .inl (ka 0, 24, .inl ho))] ++ nP na (upN N t (p20N (fun k => lumpS p9 mo an pl k L + holeS p9 ho k jc)))) H locs := hB
              refine lv_imul hx hb dX3_takePullBy20_83 ?_
              refine lv_iload_n hx hb dX3_takePullBy20_84 rfl (lv_at hl 0 rfl) ?_
              refine zVv zm_X3_49 hF hB (c_X1_addWay l D ka kb (na t) ((upN N t (p20N (fun k => lumpS p9 mo an pl k L + holeS p9 ho k jc))) t) ((-10 : Int32) * (ho (12 * p9 + jc))) jc (hj2)) [5 + t] (zsel_num rfl (ht)) (va_nd_1 _) [na t] (fun _ => rfl) rfl (5 + t) 1 rfl (nP_atn rfl (ht)) rfl ⟨Nat.le_of_ble_eq_true rfl, Nat.le_of_ble_eq_true rfl⟩ rfl hl.1 (Nat.le_of_ble_eq_true rfl) ⟨Nat.le_refl _, Nat.le_refl _⟩ dX3_takePullBy20_85 ?_
              clear hB
              try clear locs
              try clear H
              intro u3 H locs hp hB
              replace hB : zB D A s ([((bd 2), .inr (3, [.int (nI L), .ref (bd 7), .ref (bd 8), .ref (bd 9), .ref (bd 10), .ref (bd 11), .int sz9, .int re9])), ((bd 7), .inl (ka 0, 8, .inl mo)), ((bd 8), .inl (ka 0, 8, .inl an)), ((bd 9), .inl (ka 0, 8, .inl pl)), ((bd 10), .inl (ka 0, 24, .inl ho))] ++ nP na (upN (upN N t (p20N (fun k => lumpS p9 mo an pl k L + holeS p9 ho k jc))) t (awN ((upN N t (p20N (fun k => lumpS p9 mo an pl k L + holeS p9 ho k jc))) t) ((-10 : Int32) * (ho (12 * p9 + jc))) jc))) H locs := zB_num (X := (awN ((upN N t (p20N (fun k => lumpS p9 mo an pl k L + holeS p9 ho k jc))) t) ((-10 : Int32) * (ho (12 * p9 + jc))) jc)) hB rfl (ht)
              refine lv_iinc (v := nI (jc + 1)) (lv' := [(3, .int (nI (jc + 1))), (0, .ref (bd 2)), (1, .int (nI p9)), (2, .ref (na t))]) hx hb dX3_takePullBy20_88 hl (k := 0) rfl (nI_1 _) (by decide) rfl ?_
              clear hl
              clear ls
              intro ls hl
              refine lv_goto (tgt := 68) hx hb dX3_takePullBy20_91 (by decide) ?_
              exact ih68 (jc + 1) (by omega) (by omega) _ _ (by rw [upN_up, upN_eq, aw_p20, p20_h (hoh _ (show 12 * p9 + jc < 24 by omega))] at hB; exact hB) _ (lv_sub hl [0, 1, 2, 3] rfl)
        exact lp68 (12 - 0 + 1) 0 (Nat.zero_le _) (by omega) _ _ (by rw [hiL] at hB; rw [show (fun k => lumpS p9 mo an pl k L + holeS p9 ho k 0) = (fun k => lumpS p9 mo an pl k L) from funext fun k => Int.add_zero _]; exact hB) _ (lv_sub hl [0, 1, 2, 3] rfl)
      · skip
        have hiL : ic < L := Nat.not_le.mp (fun e9 => h18 ((nI_leI (by omega) (by omega)).mpr e9))
        obtain ⟨a9, ha9, hae⟩ := (hok.2 ic hiL).2.1
        have han : aN (an ic) = a9 := by rw [hae]; exact aN_nI ha9
        refine lv_aload_n hx hb dX3_takePullBy20_21 rfl (lv_at hl 3 rfl) ?_
        refine lv_aload_n hx hb dX3_takePullBy20_22 rfl (lv_at hl 1 rfl) ?_
        refine zget zf_X3_15 hF hB 0 rfl rfl dX3_takePullBy20_23 ?_
        refine lv_iload_n hx hb dX3_takePullBy20_26 rfl (lv_at hl 0 rfl) ?_
        refine ziald hF hB 1 rfl ic (rfl) (by omega) (by decide) (v := (mo ic)) (rfl) dX3_takePullBy20_27 ?_
        refine lv_iload_n hx hb dX3_takePullBy20_28 rfl (lv_at hl 2 rfl) ?_
        refine lv_if_ne (tgt := 44) hx hb dX3_takePullBy20_29 (by decide) (fun h29 => ?_) (fun h29 => ?_)
        · skip
          have hpn : p9 ≠ 0 := fun e8 => h29 (by rw [e8]; rfl)
          refine lv_aload_n hx hb dX3_takePullBy20_44 rfl (lv_at hl 1 rfl) ?_
          refine zget zf_X3_22 hF hB 0 rfl rfl dX3_takePullBy20_45 ?_
          refine lv_iload_n hx hb dX3_takePullBy20_48 rfl (lv_at hl 0 rfl) ?_
          refine ziald hF hB 3 rfl ic (rfl) (by omega) (by decide) (v := (pl ic)) (rfl) dX3_takePullBy20_49 ?_
          refine lv_imul hx hb dX3_takePullBy20_50 ?_
          refine lv_aload_n hx hb dX3_takePullBy20_51 rfl (lv_at hl 1 rfl) ?_
          refine zget zf_X3_19 hF hB 0 rfl rfl dX3_takePullBy20_52 ?_
          refine lv_iload_n hx hb dX3_takePullBy20_55 rfl (lv_at hl 0 rfl) ?_
          refine ziald hF hB 2 rfl ic (rfl) (by omega) (by decide) (v := (nI a9)) (hae) dX3_takePullBy20_56 ?_
          refine zVv zm_X3_49 hF hB (c_X1_addWay l D ka kb (na t) ((upN N t (p20N (fun k => lumpS p9 mo an pl k ic))) t) ((mo ic) * (pl ic)) a9 (ha9)) [5 + t] (zsel_num rfl (ht)) (va_nd_1 _) [na t] (fun _ => rfl) rfl (5 + t) 1 rfl (nP_atn rfl (ht)) rfl ⟨Nat.le_of_ble_eq_true rfl, Nat.le_of_ble_eq_true rfl⟩ rfl hl.1 (Nat.le_of_ble_eq_true rfl) ⟨Nat.le_refl _, Nat.le_refl _⟩ dX3_takePullBy20_57 ?_
          clear hB
          try clear locs
          try clear H
          intro u4 H locs hp hB
          replace hB : zB D A s ([((bd 2), .inr (3, [.int (nI L), .ref (bd 7), .ref (bd 8), .ref (bd 9), .ref (bd 10), .ref (bd 11), .int sz9, .int re9])), ((bd 7), .inl (ka 0, 8, .inl mo)), ((bd 8), .inl (ka 0, 8, .inl an)), ((bd 9), .inl (ka 0, 8, .inl pl)), ((bd 10), .inl (ka 0, 24, .inl ho))] ++ nP na (upN (upN N t (p20N (fun k => lumpS p9 mo an pl k ic))) t (awN ((upN N t (p20N (fun k => lumpS p9 mo an pl k ic))) t) ((mo ic) * (pl ic)) a9))) H locs := zB_num (X := (awN ((upN N t (p20N (fun k => lumpS p9 mo an pl k ic))) t) ((mo ic) * (pl ic)) a9)) hB rfl (ht)
          refine lv_iinc (v := nI (ic + 1)) (lv' := [(3, .int (nI (ic + 1))), (0, .ref (bd 2)), (1, .int (nI p9)), (2, .ref (na t))]) hx hb dX3_takePullBy20_60 hl (k := 0) rfl (nI_1 _) (by decide) rfl ?_
          clear hl
          clear ls
          intro ls hl
          refine lv_goto (tgt := 13) hx hb dX3_takePullBy20_63 (by decide) ?_
          exact ih13 (ic + 1) (by omega) (by omega) _ _ (by rw [upN_up, upN_eq, aw_p20, p20_l (tv := mo ic * pl ic) (hok.2 ic hiL) han (by rw [if_neg hpn])] at hB; exact hB) _ (lv_sub hl [0, 1, 2, 3] rfl)
        · skip
          have hpn : p9 = 0 := (nI_eq (b := 0) (by omega) (by decide)).mp h29
          refine lv_bipush (v := 10) hx hb dX3_takePullBy20_32 (by decide) ?_
          refine lv_aload_n hx hb dX3_takePullBy20_34 rfl (lv_at hl 1 rfl) ?_
          refine zget zf_X3_22 hF hB 0 rfl rfl dX3_takePullBy20_35 ?_
          refine lv_iload_n hx hb dX3_takePullBy20_38 rfl (lv_at hl 0 rfl) ?_
          refine ziald hF hB 3 rfl ic (rfl) (by omega) (by decide) (v := (pl ic)) (rfl) dX3_takePullBy20_39 ?_
          refine lv_isub hx hb dX3_takePullBy20_40 ?_
          refine lv_goto (tgt := 50) hx hb dX3_takePullBy20_41 (by decide) ?_
          refine lv_imul hx hb dX3_takePullBy20_50 ?_
          refine lv_aload_n hx hb dX3_takePullBy20_51 rfl (lv_at hl 1 rfl) ?_
          refine zget zf_X3_19 hF hB 0 rfl rfl dX3_takePullBy20_52 ?_
          refine lv_iload_n hx hb dX3_takePullBy20_55 rfl (lv_at hl 0 rfl) ?_
          refine ziald hF hB 2 rfl ic (rfl) (by omega) (by decide) (v := (nI a9)) (hae) dX3_takePullBy20_56 ?_
          refine zVv zm_X3_49 hF hB (c_X1_addWay l D ka kb (na t) ((upN N t (p20N (fun k => lumpS p9 mo an pl k ic))) t) ((mo ic) * ((10 : Int32) - (pl ic))) a9 (ha9)) [5 + t] (zsel_num rfl (ht)) (va_nd_1 _) [na t] (fun _ => rfl) rfl (5 + t) 1 rfl (nP_atn rfl (ht)) rfl ⟨Nat.le_of_ble_eq_true rfl, Nat.le_of_ble_eq_true rfl⟩ rfl hl.1 (Nat.le_of_ble_eq_true rfl) ⟨Nat.le_refl _, Nat.le_refl _⟩ dX3_takePullBy20_57 ?_
          clear hB
          try clear locs
          try clear H
          intro u5 H locs hp hB
          replace hB : zB D A s ([((bd 2), .inr (3, [.int (nI L), .ref (bd 7), .ref (bd 8), .ref (bd 9), .ref (bd 10), .ref (bd 11), .int sz9, .int re9])), ((bd 7), .inl (ka 0, 8, .inl mo)), ((bd 8), .inl (ka 0, 8, .inl an)), ((bd 9), .inl (ka 0, 8, .inl pl)), ((bd 10), .inl (ka 0, 24, .inl ho))] ++ nP na (upN (upN N t (p20N (fun k => lumpS p9 mo an pl k ic))) t (awN ((upN N t (p20N (fun k => lumpS p9 mo an pl k ic))) t) ((mo ic) * ((10 : Int32) - (pl ic))) a9))) H locs := zB_num (X := (awN ((upN N t (p20N (fun k => lumpS p9 mo an pl k ic))) t) ((mo ic) * ((10 : Int32) - (pl ic))) a9)) hB rfl (ht)
          refine lv_iinc (v := nI (ic + 1)) (lv' := [(3, .int (nI (ic + 1))), (0, .ref (bd 2)), (1, .int (nI p9)), (2, .ref (na t))]) hx hb dX3_takePullBy20_60 hl (k := 0) rfl (nI_1 _) (by decide) rfl ?_
          clear hl
          clear ls
          intro ls hl
          refine lv_goto (tgt := 13) hx hb dX3_takePullBy20_63 (by decide) ?_
          exact ih13 (ic + 1) (by omega) (by omega) _ _ (by rw [upN_up, upN_eq, aw_p20, p20_l (tv := mo ic * (10 - pl ic)) (hok.2 ic hiL) han (by rw [if_pos hpn])] at hB; exact hB) _ (lv_sub hl [0, 1, 2, 3] rfl)
  exact lp13 (L - 0 + 1) 0 (Nat.zero_le _) (by omega) _ _ (by rw [p20_0] at hB; exact hB) _ (lv_sub hl [0, 1, 2, 3] rfl)

