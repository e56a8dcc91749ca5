theorem sqR_I {P : Nat → Int} : 2 * ((p20N P).1 * (p20N P).2.1 + (p20N P).2.2.1 * (p20N P).2.2.2.1) = Int64.ofInt (sqI P 1) := by
  show (2 : Int64) * (Int64.ofInt (P 0) * Int64.ofInt (P 1) + Int64.ofInt (P 2) * Int64.ofInt (P 3)) = _
  rw [show (2 : Int64) = Int64.ofInt 2 from rfl, ofI_mul, ofI_mul, ofI_add, ofI_mul]
  congr 1
  show _ = 2 * P 0 * P 1 + 2 * P 2 * P 3
  rw [Int.mul_add, Int.mul_assoc, Int.mul_assoc]
theorem sm_far {P : Nat → Int} {far : Nat} (h : bdP P) (hf : far ≤ 200) : smA (sqI P 0 - 400 * (far : Int) * (far : Int)) (sqI P 1) := by
  have h1 := sq_bd h
  have h2 := mul_bd (x := (far : Int)) (y := (far : Int)) (X := 200) (Y := 200) (by omega) (by omega)
  have h3 : 0 ≤ (far : Int) * (far : Int) := Int.mul_nonneg (by omega) (by omega)
  rw [Int.mul_assoc]
  unfold smA
  omega
theorem by20 {x : Int} {far : Nat} : x - 20 * (far : Int) * (20 * (far : Int)) = x - 400 * (far : Int) * (far : Int) := by
  congr 1
  rw [Int.mul_assoc, Int.mul_left_comm (far : Int) 20, ← Int.mul_assoc, ← Int.mul_assoc]
  rfl
def msZ (cn : Nat) (zs : Nat → Int32) : Int32 := if cn = 0 then 0 else zs (cn - 1)
theorem ch_t {s9 a : Nat} {Q : Nat → Int} (h : s9 ≤ 9) : p20N (fun k => Q k + ((-10 : Int32) * nI s9).toInt * wI a k) = p20N (fun k9 => Q k9 + -10 * (s9 : Int) * wI a k9) := by
  have e : ((-10 : Int32) * nI s9).toInt = -10 * (s9 : Int) := by
    have e10 : (-10 : Int32).toInt = -10 := rfl
    rw [i32_mul (by rw [e10, nI_toInt (by omega)]; omega), e10, nI_toInt (by omega)]
  rw [e]
/-- the record behind a look at a whole chain -/
def kbW (Q : Nat → Int) (n : Nat) (sa ss : Nat → Int32) (b : bT) : bT := if b.1 = -1 ∨ sgI (sqI Q 0 - b.2.1) (sqI Q 1 - b.2.2.1) < 0 then (nI n, sqI Q 0, sqI Q 1, cpN n sa b.2.2.2.1, cpN n ss b.2.2.2.2) else b
set_option maxHeartbeats 4000000 in
set_option maxRecDepth 100000 in
theorem c_X4_squareWhole (l : Launch) (D : va_G) (ka : Nat → ClassId) (kb : Nat → Nat) (na : Nat → Nat) (N : Nat → N5) (i : Nat) (Qp : Nat → Int) (hi : i < 41) (hQp : N i = p20N Qp) : zL l D ka kb yX4_squareWhole cX4_squareWhole 1 0 0 [.ref (na i)] ([] ++ nP na N) (fun (r : Int64) (_ : Unit) => r = Int64.ofInt (sqI Qp 0)) (fun (_ : Unit) => [] ++ nP na N) := by
  refine zL.mk RX4 (by decide +kernel) rfl (Nat.le_of_ble_eq_true rfl) ?_
  intro p e s m below meth c A ls args Q hQ hx hb hF hB hl
  replace hl : lv_has ls 1 [(0, .ref (na i))] := hl
  refine lv_aload_n hx hb dX4_squareWhole_0 rfl (lv_at hl 0 rfl) ?_
  refine zgetN zf_X4_120 hF hB i (by omega) rfl dX4_squareWhole_1 ?_
  refine lv_aload_n hx hb dX4_squareWhole_4 rfl (lv_at hl 0 rfl) ?_
  refine zgetN zf_X4_120 hF hB i (by omega) rfl dX4_squareWhole_5 ?_
  refine lv_lmul hx hb dX4_squareWhole_8 ?_
  refine zldc2 (v := (3 : Int64)) ww_14_3 hF dX4_squareWhole_9 ?_
  refine lv_aload_n hx hb dX4_squareWhole_12 rfl (lv_at hl 0 rfl) ?_
  refine zgetN zf_X4_125 hF hB i (by omega) rfl dX4_squareWhole_13 ?_
  refine lv_lmul hx hb dX4_squareWhole_16 ?_
  refine lv_aload_n hx hb dX4_squareWhole_17 rfl (lv_at hl 0 rfl) ?_
  refine zgetN zf_X4_125 hF hB i (by omega) rfl dX4_squareWhole_18 ?_
  refine lv_lmul hx hb dX4_squareWhole_21 ?_
  refine lv_ladd hx hb dX4_squareWhole_22 ?_
  refine lv_aload_n hx hb dX4_squareWhole_23 rfl (lv_at hl 0 rfl) ?_
  refine zgetN zf_X4_128 hF hB i (by omega) rfl dX4_squareWhole_24 ?_
  refine lv_aload_n hx hb dX4_squareWhole_27 rfl (lv_at hl 0 rfl) ?_
  refine zgetN zf_X4_128 hF hB i (by omega) rfl dX4_squareWhole_28 ?_
  refine lv_lmul hx hb dX4_squareWhole_31 ?_
  refine lv_ladd hx hb dX4_squareWhole_32 ?_
  refine zldc2 (v := (3 : Int64)) ww_14_3 hF dX4_squareWhole_33 ?_
  refine lv_aload_n hx hb dX4_squareWhole_36 rfl (lv_at hl 0 rfl) ?_
  refine zgetN zf_X4_131 hF hB i (by omega) rfl dX4_squareWhole_37 ?_
  refine lv_lmul hx hb dX4_squareWhole_40 ?_
  refine lv_aload_n hx hb dX4_squareWhole_41 rfl (lv_at hl 0 rfl) ?_
  refine zgetN zf_X4_131 hF hB i (by omega) rfl dX4_squareWhole_42 ?_
  refine lv_lmul hx hb dX4_squareWhole_45 ?_
  refine lv_ladd hx hb dX4_squareWhole_46 ?_
  exact zretl hF hB () (by rw [hQp]; exact sqV_I 0) (rfl) dX4_squareWhole_47 hQ

set_option maxHeartbeats 4000000 in
set_option maxRecDepth 100000 in
theorem c_X4_squareRoots (l : Launch) (D : va_G) (ka : Nat → ClassId) (kb : Nat → Nat) (na : Nat → Nat) (N : Nat → N5) (i : Nat) (Qp : Nat → Int) (hi : i < 41) (hQp : N i = p20N Qp) : zL l D ka kb yX4_squareRoots cX4_squareRoots 1 0 0 [.ref (na i)] ([] ++ nP na N) (fun (r : Int64) (_ : Unit) => r = Int64.ofInt (sqI Qp 1)) (fun (_ : Unit) => [] ++ nP na N) := by
  refine zL.mk RX4 (by decide +kernel) rfl (Nat.le_of_ble_eq_true rfl) ?_
  intro p e s m below meth c A ls args Q hQ hx hb hF hB hl
  replace hl : lv_has ls 1 [(0, .ref (na i))] := hl
  refine zldc2 (v := (2 : Int64)) ww_14_10 hF dX4_squareRoots_0 ?_
  refine lv_aload_n hx hb dX4_squareRoots_3 rfl (lv_at hl 0 rfl) ?_
  refine zgetN zf_X4_120 hF hB i (by omega) rfl dX4_squareRoots_4 ?_
  refine lv_aload_n hx hb dX4_squareRoots_7 rfl (lv_at hl 0 rfl) ?_
  refine zgetN zf_X4_125 hF hB i (by omega) rfl dX4_squareRoots_8 ?_
  refine lv_lmul hx hb dX4_squareRoots_11 ?_
  refine lv_aload_n hx hb dX4_squareRoots_12 rfl (lv_at hl 0 rfl) ?_
  refine zgetN zf_X4_128 hF hB i (by omega) rfl dX4_squareRoots_13 ?_
  refine lv_aload_n hx hb dX4_squareRoots_16 rfl (lv_at hl 0 rfl) ?_
  refine zgetN zf_X4_131 hF hB i (by omega) rfl dX4_squareRoots_17 ?_
  refine lv_lmul hx hb dX4_squareRoots_20 ?_
  refine lv_ladd hx hb dX4_squareRoots_21 ?_
  refine lv_lmul hx hb dX4_squareRoots_22 ?_
  exact zretl hF hB () (by rw [hQp]; exact sqR_I) (rfl) dX4_squareRoots_23 hQ

set_option maxHeartbeats 4000000 in
set_option maxRecDepth 100000 in
theorem c_X4_isWithin (l : Launch) (D : va_G) (ka : Nat → ClassId) (kb : Nat → Nat) (bd : Nat → Nat) (o : Bool) (cnt : Int32) (opb : Int32) (rch : Int32) (wnt : Int32) (bc : Int32) (bw : Int64) (br : Int64) (na : Nat → Nat) (N : Nat → N5) (i : Nat) (far : Nat) (Qp : Nat → Int) (hi : i < 41) (hQp : N i = p20N Qp) (hbd : bdP Qp) (hfar : far ≤ 200) : zI l D ka kb yX4_isWithin cX4_isWithin 5 .boolean 3 77 [.ref (bd 4), .ref (na i), .int (nI far)] ([((bd 4), .inr (4, [.ref (bd 18), .ref (bd 19), .int cnt, .int opb, .int rch, .int wnt, .ref (bd 20), .ref (bd 21), .ref (bd 22), .int bc, .ref (bd 23), .ref (bd 24), .long bw, .long br])), ((bd 18), .inr (2, [.int (bI o), .ref (na 31), .ref (na 32), .ref (na 33)]))] ++ nP na N) (fun (r : Int32) (o9 : Bool) => r = bI (quB Qp (far : Int))) (fun (o9 : Bool) => [((bd 4), .inr (4, [.ref (bd 18), .ref (bd 19), .int cnt, .int opb, .int rch, .int wnt, .ref (bd 20), .ref (bd 21), .ref (bd 22), .int bc, .ref (bd 23), .ref (bd 24), .long bw, .long br])), ((bd 18), .inr (2, [.int (bI o9), .ref (na 31), .ref (na 32), .ref (na 33)]))] ++ nP na N) := by
  refine zI.mk RX4 (by decide +kernel) rfl (Nat.le_of_ble_eq_true rfl) ?_
  intro p e s m below meth c A ls args Q hQ hx hb hF hB hl
  replace hl : lv_has ls 5 [(0, .ref (bd 4)), (1, .ref (na i)), (2, .int (nI far))] := hl
  have hsm := sm_far hbd hfar
  refine lv_bipush (v := 20) hx hb dX4_isWithin_0 (by decide) ?_
  refine lv_iload_n hx hb dX4_isWithin_2 rfl (lv_at hl 2 rfl) ?_
  refine lv_imul hx hb dX4_isWithin_3 ?_
  refine ztopi (y := nI (20 * far)) (pk_mul 20 far) ?_
  refine lv_i2l (v := (nI (20 * far)).toInt64) hx hb dX4_isWithin_4 rfl ?_
  refine ztopl (y := Int64.ofInt (20 * (far : Int))) (by rw [i64_w, nI_toInt (by omega), Int.natCast_mul] <;> rfl) ?_
  refine lv_lstore_n (lv' := [(3, .long (Int64.ofInt (20 * (far : Int)))), (0, .ref (bd 4)), (1, .ref (na i)), (2, .int (nI far))]) hx hb dX4_isWithin_5 rfl hl (by decide) rfl ?_
  clear hl
  clear ls
  intro ls hl
  refine lv_aload_n hx hb dX4_isWithin_6 rfl (lv_at hl 1 rfl) ?_
  refine zget zf_X4_12 hF hB 0 rfl rfl dX4_isWithin_7 ?_
  refine lv_aload_n hx hb dX4_isWithin_10 rfl (lv_at hl 2 rfl) ?_
  refine zSl zm_X4_102 hF hB (c_X4_squareWhole l D ka kb na N i Qp (hi) (hQp)) ([] ++ npr 2) (zsel_pool rfl rfl) (va_nd_pool rfl rfl) ([] ++ nA na) (fun _ => zad_pool rfl) (zad_pool rfl) rfl ⟨Nat.le_of_ble_eq_true rfl, Nat.le_of_ble_eq_true rfl⟩ rfl hl.1 (Nat.le_of_ble_eq_true rfl) ⟨Nat.le_refl _, Nat.le_refl _⟩ dX4_isWithin_11 ?_
  clear hB
  try clear locs
  try clear H
  intro r1 u1 H locs hp hB
  obtain rfl : r1 = Int64.ofInt (sqI Qp 0) := hp
  replace hB : zB D A s ([((bd 4), .inr (4, [.ref (bd 18), .ref (bd 19), .int cnt, .int opb, .int rch, .int wnt, .ref (bd 20), .ref (bd 21), .ref (bd 22), .int bc, .ref (bd 23), .ref (bd 24), .long bw, .long br])), ((bd 18), .inr (2, [.int (bI o), .ref (na 31), .ref (na 32), .ref (na 33)]))] ++ nP na N) H locs := zB_pool hB rfl rfl rfl rfl
  refine lv_lload_n hx hb dX4_isWithin_14 rfl (lv_at hl 0 rfl) ?_
  refine lv_lload_n hx hb dX4_isWithin_15 rfl (lv_at hl 0 rfl) ?_
  refine lv_lmul hx hb dX4_isWithin_16 ?_
  refine lv_lsub hx hb dX4_isWithin_17 ?_
  refine ztopl (y := (Int64.ofInt (sqI Qp 0 - 400 * (far : Int) * (far : Int)))) (by rw [ofI_mul, ← Int64.ofInt_sub, by20]) ?_
  refine lv_aload_n hx hb dX4_isWithin_18 rfl (lv_at hl 2 rfl) ?_
  refine zSl zm_X4_106 hF hB (c_X4_squareRoots l D ka kb na N i Qp (hi) (hQp)) ([] ++ npr 2) (zsel_pool rfl rfl) (va_nd_pool rfl rfl) ([] ++ nA na) (fun _ => zad_pool rfl) (zad_pool rfl) rfl ⟨Nat.le_of_ble_eq_true rfl, Nat.le_of_ble_eq_true rfl⟩ rfl hl.1 (Nat.le_of_ble_eq_true rfl) ⟨Nat.le_refl _, Nat.le_refl _⟩ dX4_isWithin_19 ?_
  clear hB
  try clear locs
  try clear H
  intro r2 u2 H locs hp hB
  obtain rfl : r2 = Int64.ofInt (sqI Qp 1) := hp
  replace hB : zB D A s ([((bd 4), .inr (4, [.ref (bd 18), .ref (bd 19), .int cnt, .int opb, .int rch, .int wnt, .ref (bd 20), .ref (bd 21), .ref (bd 22), .int bc, .ref (bd 23), .ref (bd 24), .long bw, .long br])), ((bd 18), .inr (2, [.int (bI o), .ref (na 31), .ref (na 32), .ref (na 33)]))] ++ nP na N) H locs := zB_pool hB rfl rfl rfl rfl
  refine zVi zm_X4_116 hF hB (c_X2_sign l D ka kb (bd 18) na o 31 32 33 (Int64.ofInt (sqI Qp 0 - 400 * (far : Int) * (far : Int))) (Int64.ofInt (sqI Qp 1)) ) [1] rfl (by decide) [(bd 18)] (fun _ => rfl) rfl 1 2 rfl rfl rfl ⟨Nat.le_of_ble_eq_true rfl, Nat.le_of_ble_eq_true rfl⟩ rfl hl.1 (Nat.le_of_ble_eq_true rfl) ⟨Nat.le_refl _, Nat.le_refl _⟩ dX4_isWithin_22 ?_
  clear hB
  try clear locs
  try clear H
  intro r3 u3 H locs hp hB
  obtain rfl : r3 = if (sgN (Int64.ofInt (sqI Qp 0 - 400 * (far : Int) * (far : Int))) (Int64.ofInt (sqI Qp 1)) && sgSq (Int64.ofInt (sqI Qp 0 - 400 * (far : Int) * (far : Int))) (Int64.ofInt (sqI Qp 1))) = true then (-5 : Int32) else signV (Int64.ofInt (sqI Qp 0 - 400 * (far : Int) * (far : Int))) (Int64.ofInt (sqI Qp 1)) := hp
  replace hB : zB D A s ([((bd 4), .inr (4, [.ref (bd 18), .ref (bd 19), .int cnt, .int opb, .int rch, .int wnt, .ref (bd 20), .ref (bd 21), .ref (bd 22), .int bc, .ref (bd 23), .ref (bd 24), .long bw, .long br])), ((bd 18), .inr (2, [.int (bI (if sgN (Int64.ofInt (sqI Qp 0 - 400 * (far : Int) * (far : Int))) (Int64.ofInt (sqI Qp 1)) = true then sgSq (Int64.ofInt (sqI Qp 0 - 400 * (far : Int) * (far : Int))) (Int64.ofInt (sqI Qp 1)) else o)), .ref (na 31), .ref (na 32), .ref (na 33)]))] ++ nP na N) H locs := hB
  refine ztopi (y := (sgI (sqI Qp 0 - 400 * (far : Int) * (far : Int)) (sqI Qp 1))) (by rw [(sgSq_I hsm).1, Bool.and_false, if_neg (by decide)]; exact signV_I hsm) ?_
  refine lv_if_gt (tgt := 32) hx hb dX4_isWithin_25 (by decide) (fun h25 => ?_) (fun h25 => ?_)
  · skip
    refine lv_iconst (v := 0) hx hb dX4_isWithin_32 (by decide) ?_
    refine ztopi (y := bI (quB Qp (far : Int))) (bI_0 (dB_f.mpr (Int32.not_le.mpr h25))) ?_
    exact zreti hF hB (if sgN (Int64.ofInt (sqI Qp 0 - 400 * (far : Int) * (far : Int))) (Int64.ofInt (sqI Qp 1)) = true then sgSq (Int64.ofInt (sqI Qp 0 - 400 * (far : Int) * (far : Int))) (Int64.ofInt (sqI Qp 1)) else o) (rfl) (rfl) (zbI_n _) dX4_isWithin_33 hQ
  · skip
    refine lv_iconst (v := 1) hx hb dX4_isWithin_28 (by decide) ?_
    refine ztopi (y := bI (quB Qp (far : Int))) (bI_1 (dB_t.mpr (Int32.not_lt.mp h25))) ?_
    refine lv_goto (tgt := 33) hx hb dX4_isWithin_29 (by decide) ?_
    exact zreti hF hB (if sgN (Int64.ofInt (sqI Qp 0 - 400 * (far : Int) * (far : Int))) (Int64.ofInt (sqI Qp 1)) = true then sgSq (Int64.ofInt (sqI Qp 0 - 400 * (far : Int) * (far : Int))) (Int64.ofInt (sqI Qp 1)) else o) (rfl) (rfl) (zbI_n _) dX4_isWithin_33 hQ

set_option maxHeartbeats 4000000 in
set_option maxRecDepth 100000 in
theorem c_X4_isQuiet (l : Launch) (D : va_G) (ka : Nat → ClassId) (kb : Nat → Nat) (bd : Nat → Nat) (o : Bool) (cnt : Int32) (opb : Int32) (rch : Int32) (wnt : Int32) (bc : Int32) (bw : Int64) (br : Int64) (sz9 : Int32) (re9 : Int32) (L : Nat) (mo : Nat → Int32) (an : Nat → Int32) (pl : Nat → Int32) (ho : Nat → Int32) (na : Nat → Nat) (N : Nat → N5) (p9 : Nat) (hp9 : p9 < 2) (hok : okL L mo an pl) (hoh : okH ho) (hre : 0 ≤ re9.toInt ∧ re9.toInt ≤ 99) : zI l D ka kb yX4_isQuiet cX4_isQuiet 3 .boolean 4 101 [.ref (bd 4), .ref (bd 2), .int (nI p9)] ([((bd 4), .inr (4, [.ref (bd 18), .ref (bd 19), .int cnt, .int opb, .int rch, .int wnt, .ref (bd 20), .ref (bd 21), .ref (bd 22), .int bc, .ref (bd 23), .ref (bd 24), .long bw, .long br])), ((bd 18), .inr (2, [.int (bI o), .ref (na 31), .ref (na 32), .ref (na 33)])), ((bd 20), .inl (ka 3, 5, .inr (.inr (.inr (.inr (nR na 34)))))), ((bd 2), .inr (3, [.int (nI L), .ref (bd 7), .ref (bd 8), .ref (bd 9), .ref (bd 10), .ref (bd 11), .int sz9, .int re9])), ((bd 7), .inl (ka 0, 8, .inl mo)), ((bd 8), .inl (ka 0, 8, .inl an)), ((bd 9), .inl (ka 0, 8, .inl pl)), ((bd 10), .inl (ka 0, 24, .inl ho))] ++ nP na N) (fun (r : Int32) (o9 : Bool) => r = bI (quB (pulI p9 L mo an pl ho) re9.toInt)) (fun (o9 : Bool) => [((bd 4), .inr (4, [.ref (bd 18), .ref (bd 19), .int cnt, .int opb, .int rch, .int wnt, .ref (bd 20), .ref (bd 21), .ref (bd 22), .int bc, .ref (bd 23), .ref (bd 24), .long bw, .long br])), ((bd 18), .inr (2, [.int (bI o9), .ref (na 31), .ref (na 32), .ref (na 33)])), ((bd 20), .inl (ka 3, 5, .inr (.inr (.inr (.inr (nR na 34)))))), ((bd 2), .inr (3, [.int (nI L), .ref (bd 7), .ref (bd 8), .ref (bd 9), .ref (bd 10), .ref (bd 11), .int sz9, .int re9])), ((bd 7), .inl (ka 0, 8, .inl mo)), ((bd 8), .inl (ka 0, 8, .inl an)), ((bd 9), .inl (ka 0, 8, .inl pl)), ((bd 10), .inl (ka 0, 24, .inl ho))] ++ nP na (upN N 34 (p20N (pulI p9 L mo an pl ho)))) := by
  refine zI.mk RX4 (by decide +kernel) rfl (Nat.le_of_ble_eq_true rfl) ?_
  intro p e s m below meth c A ls args Q hQ hx hb hF hB hl
  replace hl : lv_has ls 3 [(0, .ref (bd 4)), (1, .ref (bd 2)), (2, .int (nI p9))] := hl
  refine lv_aload_n hx hb dX4_isQuiet_0 rfl (lv_at hl 1 rfl) ?_
  refine lv_iload_n hx hb dX4_isQuiet_1 rfl (lv_at hl 2 rfl) ?_
  refine lv_aload_n hx hb dX4_isQuiet_2 rfl (lv_at hl 0 rfl) ?_
  refine zget zf_X4_24 hF hB 0 rfl rfl dX4_isQuiet_3 ?_
  refine lv_iconst (v := 0) hx hb dX4_isQuiet_6 (by decide) ?_
  refine zaald hF hB 2 rfl (t0 := 3) rfl 0 (by decide) (by decide) (by decide) (r := na 34) (rfl) dX4_isQuiet_7 ?_
  refine zVv zm_X4_41 hF hB (c_X3_takePullBy20 l D ka kb bd sz9 re9 L mo an pl ho na N 34 p9 (by decide) (hp9) (hok) (hoh)) ([3, 4, 5, 6, 7] ++ npr 8) (zsel_pool rfl rfl) (va_nd_pool rfl rfl) ([(bd 2), (bd 7), (bd 8), (bd 9), (bd 10)] ++ nA na) (fun _ => zad_pool rfl) (zad_pool rfl) 3 3 rfl rfl rfl ⟨Nat.le_of_ble_eq_true rfl, Nat.le_of_ble_eq_true rfl⟩ rfl hl.1 (Nat.le_of_ble_eq_true rfl) ⟨Nat.le_refl _, Nat.le_refl _⟩ dX4_isQuiet_8 ?_
  clear hB
  try clear locs
  try clear H
  intro u1 H locs hp hB
  replace hB : zB D A s ([((bd 4), .inr (4, [.ref (bd 18), .ref (bd 19), .int cnt, .int opb, .int rch, .int wnt, .ref (bd 20), .ref (bd 21), .ref (bd 22), .int bc, .ref (bd 23), .ref (bd 24), .long bw, .long br])), ((bd 18), .inr (2, [.int (bI o), .ref (na 31), .ref (na 32), .ref (na 33)])), ((bd 20), .inl (ka 3, 5, .inr (.inr (.inr (.inr (nR na 34)))))), ((bd 2), .inr (3, [.int (nI L), .ref (bd 7), .ref (bd 8), .ref (bd 9), .ref (bd 10), .ref (bd 11), .int sz9, .int re9])), ((bd 7), .inl (ka 0, 8, .inl mo)), ((bd 8), .inl (ka 0, 8, .inl an)), ((bd 9), .inl (ka 0, 8, .inl pl)), ((bd 10), .inl (ka 0, 24, .inl ho))] ++ nP na (upN N 34 (p20N (pulI p9 L mo an pl ho)))) H locs := zB_pool hB rfl rfl rfl rfl
  refine lv_aload_n hx hb dX4_isQuiet_11 rfl (lv_at hl 0 rfl) ?_
  refine lv_aload_n hx hb dX4_isQuiet_12 rfl (lv_at hl 0 rfl) ?_
  refine zget zf_X4_24 hF hB 0 rfl rfl dX4_isQuiet_13 ?_
  refine lv_iconst (v := 0) hx hb dX4_isQuiet_16 (by decide) ?_
  refine zaald hF hB 2 rfl (t0 := 3) rfl 0 (by decide) (by decide) (by decide) (r := na 34) (rfl) dX4_isQuiet_17 ?_
  refine lv_aload_n hx hb dX4_isQuiet_18 rfl (lv_at hl 1 rfl) ?_
  refine zVi zm_X4_47 hF hB (c_X3_reach l D ka kb bd (nI L) sz9 re9 ) [3] rfl (by decide) [(bd 2)] (fun _ => rfl) rfl 3 3 rfl rfl rfl ⟨Nat.le_of_ble_eq_true rfl, Nat.le_of_ble_eq_true rfl⟩ rfl hl.1 (Nat.le_of_ble_eq_true rfl) ⟨Nat.le_refl _, Nat.le_refl _⟩ dX4_isQuiet_19 ?_
  clear hB
  try clear locs
  try clear H
  intro r2 u2 H locs hp hB
  have e9 : re9 = r2 := hp.symm
  subst e9
  replace hB : zB D A s ([((bd 4), .inr (4, [.ref (bd 18), .ref (bd 19), .int cnt, .int opb, .int rch, .int wnt, .ref (bd 20), .ref (bd 21), .ref (bd 22), .int bc, .ref (bd 23), .ref (bd 24), .long bw, .long br])), ((bd 18), .inr (2, [.int (bI o), .ref (na 31), .ref (na 32), .ref (na 33)])), ((bd 20), .inl (ka 3, 5, .inr (.inr (.inr (.inr (nR na 34)))))), ((bd 2), .inr (3, [.int (nI L), .ref (bd 7), .ref (bd 8), .ref (bd 9), .ref (bd 10), .ref (bd 11), .int sz9, .int re9])), ((bd 7), .inl (ka 0, 8, .inl mo)), ((bd 8), .inl (ka 0, 8, .inl an)), ((bd 9), .inl (ka 0, 8, .inl pl)), ((bd 10), .inl (ka 0, 24, .inl ho))] ++ nP na (upN N 34 (p20N (pulI p9 L mo an pl ho)))) H locs := hB
  refine ztopi (y := nI (aN re9)) (ofNat_of hre.1) ?_
  refine zVi zm_X4_51 hF hB (c_X4_isWithin l D ka kb bd o cnt opb rch wnt bc bw br na (upN N 34 (p20N (pulI p9 L mo an pl ho))) 34 (aN re9) (pulI p9 L mo an pl ho) (by decide) (upN_eq) (pulI_bd hp9 hok hoh) (by unfold aN; omega)) ([0, 1] ++ npr 8) (zsel_pool rfl rfl) (va_nd_pool rfl rfl) ([(bd 4), (bd 18)] ++ nA na) (fun _ => zad_pool rfl) (zad_pool rfl) 0 4 rfl rfl rfl ⟨Nat.le_of_ble_eq_true rfl, Nat.le_of_ble_eq_true rfl⟩ rfl hl.1 (Nat.le_of_ble_eq_true rfl) ⟨Nat.le_refl _, Nat.le_refl _⟩ dX4_isQuiet_22 ?_
  clear hB
  try clear locs
  try clear H
  intro r3 u3 H locs hp hB
  obtain ⟨o93, rfl⟩ : ∃ z, z = u3 := ⟨_, rfl⟩
  have hp3 : r3 = bI (quB (pulI p9 L mo an pl ho) ((aN re9) : Int)) := hp
  have HPP := hp3
  replace hB : zB D A s ([((bd 4), .inr (4, [.ref (bd 18), .ref (bd 19), .int cnt, .int opb, .int rch, .int wnt, .ref (bd 20), .ref (bd 21), .ref (bd 22), .int bc, .ref (bd 23), .ref (bd 24), .long bw, .long br])), ((bd 18), .inr (2, [.int (bI o93), .ref (na 31), .ref (na 32), .ref (na 33)])), ((bd 20), .inl (ka 3, 5, .inr (.inr (.inr (.inr (nR na 34)))))), ((bd 2), .inr (3, [.int (nI L), .ref (bd 7), .ref (bd 8), .ref (bd 9), .ref (bd 10), .ref (bd 11), .int sz9, .int re9])), ((bd 7), .inl (ka 0, 8, .inl mo)), ((bd 8), .inl (ka 0, 8, .inl an)), ((bd 9), .inl (ka 0, 8, .inl pl)), ((bd 10), .inl (ka 0, 24, .inl ho))] ++ nP na (upN N 34 (p20N (pulI p9 L mo an pl ho)))) H locs := zB_pool hB rfl rfl rfl rfl
  have hAN : ((aN re9 : Nat) : Int) = re9.toInt := by unfold aN; omega
  rw [hAN] at HPP
  exact zreti hF hB (o93) (HPP) (rfl) (by rw [HPP]; exact zbI_n _) dX4_isQuiet_25 hQ

set_option maxHeartbeats 4000000 in
set_option maxRecDepth 100000 in
theorem c_X4_mostSize (l : Launch) (D : va_G) (ka : Nat → ClassId) (kb : Nat → Nat) (bd : Nat → Nat) (cn : Nat) (opb : Int32) (rch : Int32) (wnt : Int32) (bc : Int32) (bw : Int64) (br : Int64) (zs : Nat → Int32) (hcn : cn ≤ 3) : zI l D ka kb yX4_mostSize cX4_mostSize 1 .int 0 0 [.ref (bd 4)] ([((bd 4), .inr (4, [.ref (bd 18), .ref (bd 19), .int (nI cn), .int opb, .int rch, .int wnt, .ref (bd 20), .ref (bd 21), .ref (bd 22), .int bc, .ref (bd 23), .ref (bd 24), .long bw, .long br])), ((bd 19), .inl (ka 0, 3, .inl zs))]) (fun (r : Int32) (_ : Unit) => r = msZ cn zs) (fun (_ : Unit) => [((bd 4), .inr (4, [.ref (bd 18), .ref (bd 19), .int (nI cn), .int opb, .int rch, .int wnt, .ref (bd 20), .ref (bd 21), .ref (bd 22), .int bc, .ref (bd 23), .ref (bd 24), .long bw, .long br])), ((bd 19), .inl (ka 0, 3, .inl zs))]) := by
  refine zI.mk RX4 (by decide +kernel) rfl (Nat.le_of_ble_eq_true rfl) ?_
  intro p e s m below meth c A ls args Q hQ hx hb hF hB hl
  replace hl : lv_has ls 1 [(0, .ref (bd 4))] := hl
  refine lv_aload_n hx hb dX4_mostSize_0 rfl (lv_at hl 0 rfl) ?_
  refine zget zf_X4_81 hF hB 0 rfl rfl dX4_mostSize_1 ?_
  refine lv_if_le (tgt := 21) hx hb dX4_mostSize_4 (by decide) (fun h4 => ?_) (fun h4 => ?_)
  · skip
    have hc0 : cn = 0 := by have := (nI_leI (b := 0) (by omega) (by decide)).mp h4; omega
    refine lv_iconst (v := 0) hx hb dX4_mostSize_21 (by decide) ?_
    exact zreti hF hB () (by rw [msZ, if_pos hc0]) (rfl) (rfl) dX4_mostSize_22 hQ
  · skip
    have hc0 : cn ≠ 0 := fun e8 => h4 (by rw [e8]; exact (nI_leI (a := 0) (b := 0) (by decide) (by decide)).mpr (Nat.le_refl 0))
    refine lv_aload_n hx hb dX4_mostSize_7 rfl (lv_at hl 0 rfl) ?_
    refine zget zf_X4_18 hF hB 0 rfl rfl dX4_mostSize_8 ?_
    refine lv_aload_n hx hb dX4_mostSize_11 rfl (lv_at hl 0 rfl) ?_
    refine zget zf_X4_81 hF hB 0 rfl rfl dX4_mostSize_12 ?_
    refine lv_iconst (v := 1) hx hb dX4_mostSize_15 (by decide) ?_
    refine lv_isub hx hb dX4_mostSize_16 ?_
    refine ztopi (y := nI (cn - 1)) (pk_sub (a := cn) (b := 1) (by omega)) ?_
    refine ziald hF hB 1 rfl (cn - 1) (rfl) (by omega) (by decide) (v := (zs (cn - 1))) (rfl) dX4_mostSize_17 ?_
    refine lv_goto (tgt := 22) hx hb dX4_mostSize_18 (by decide) ?_
    exact zreti hF hB () (by rw [msZ, if_neg hc0]) (rfl) (rfl) dX4_mostSize_22 hQ

set_option maxHeartbeats 4000000 in
set_option maxRecDepth 100000 in
theorem c_X4_choose (l : Launch) (D : va_G) (ka : Nat → ClassId) (kb : Nat → Nat) (bd : Nat → Nat) (cnt : Int32) (opb : Int32) (rch : Int32) (wnt : Int32) (bc : Int32) (bw : Int64) (br : Int64) (sa : Nat → Int32) (ss : Nat → Int32) (na : Nat → Nat) (N : Nat → N5) (dd : Nat) (a : Nat) (s9 : Nat) (Qp : Nat → Int) (hdd : dd < 4) (ha : a < 12) (hs9 : s9 ≤ 9) (hQp : N (34 + dd) = p20N Qp) : zV l D ka kb yX4_choose cX4_choose 4 2 51 [.ref (bd 4), .int (nI dd), .int (nI a), .int (nI s9)] ([((bd 4), .inr (4, [.ref (bd 18), .ref (bd 19), .int cnt, .int opb, .int rch, .int wnt, .ref (bd 20), .ref (bd 21), .ref (bd 22), .int bc, .ref (bd 23), .ref (bd 24), .long bw, .long br])), ((bd 21), .inl (ka 0, 4, .inl sa)), ((bd 22), .inl (ka 0, 4, .inl ss)), ((bd 20), .inl (ka 3, 5, .inr (.inr (.inr (.inr (nR na 34))))))] ++ nP na N) (fun (_ : Unit) => True) (fun (_ : Unit) => [((bd 4), .inr (4, [.ref (bd 18), .ref (bd 19), .int cnt, .int opb, .int rch, .int wnt, .ref (bd 20), .ref (bd 21), .ref (bd 22), .int bc, .ref (bd 23), .ref (bd 24), .long bw, .long br])), ((bd 21), .inl (ka 0, 4, .inl (upd sa dd (nI a)))), ((bd 22), .inl (ka 0, 4, .inl (upd ss dd (nI s9)))), ((bd 20), .inl (ka 3, 5, .inr (.inr (.inr (.inr (nR na 34))))))] ++ nP na (upN N (34 + (dd + 1)) (p20N (fun k9 => Qp k9 + -10 * (s9 : Int) * wI a k9)))) := by
  refine zV.mk RX4 (by decide +kernel) rfl (Nat.le_of_ble_eq_true rfl) ?_
  intro p e s m below meth c A ls args Q hQ hx hb hF hB hl
  replace hl : lv_has ls 4 [(0, .ref (bd 4)), (1, .int (nI dd)), (2, .int (nI a)), (3, .int (nI s9))] := hl
  refine lv_aload_n hx hb dX4_choose_0 rfl (lv_at hl 0 rfl) ?_
  refine zget zf_X4_28 hF hB 0 rfl rfl dX4_choose_1 ?_
  refine lv_iload_n hx hb dX4_choose_4 rfl (lv_at hl 1 rfl) ?_
  refine lv_iload_n hx hb dX4_choose_5 rfl (lv_at hl 2 rfl) ?_
  refine ziast hF hB 1 rfl dd (rfl) (by omega) (by decide) dX4_choose_6 ?_
  clear hB
  try clear locs
  try clear H
  intro H locs hB
  replace hB : zB D A s ([((bd 4), .inr (4, [.ref (bd 18), .ref (bd 19), .int cnt, .int opb, .int rch, .int wnt, .ref (bd 20), .ref (bd 21), .ref (bd 22), .int bc, .ref (bd 23), .ref (bd 24), .long bw, .long br])), ((bd 21), .inl (ka 0, 4, .inl (upd sa dd (nI a)))), ((bd 22), .inl (ka 0, 4, .inl ss)), ((bd 20), .inl (ka 3, 5, .inr (.inr (.inr (.inr (nR na 34))))))] ++ nP na N) H locs := hB
  refine lv_aload_n hx hb dX4_choose_7 rfl (lv_at hl 0 rfl) ?_
  refine zget zf_X4_31 hF hB 0 rfl rfl dX4_choose_8 ?_
  refine lv_iload_n hx hb dX4_choose_11 rfl (lv_at hl 1 rfl) ?_
  refine lv_iload_n hx hb dX4_choose_12 rfl (lv_at hl 3 rfl) ?_
  refine ziast hF hB 2 rfl dd (rfl) (by omega) (by decide) dX4_choose_13 ?_
  clear hB
  try clear locs
  try clear H
  intro H locs hB
  replace hB : zB D A s ([((bd 4), .inr (4, [.ref (bd 18), .ref (bd 19), .int cnt, .int opb, .int rch, .int wnt, .ref (bd 20), .ref (bd 21), .ref (bd 22), .int bc, .ref (bd 23), .ref (bd 24), .long bw, .long br])), ((bd 21), .inl (ka 0, 4, .inl (upd sa dd (nI a)))), ((bd 22), .inl (ka 0, 4, .inl (upd ss dd (nI s9)))), ((bd 20), .inl (ka 3, 5, .inr (.inr (.inr (.inr (nR na 34))))))] ++ nP na N) H locs := hB
  refine lv_aload_n hx hb dX4_choose_14 rfl (lv_at hl 0 rfl) ?_
  refine zget zf_X4_24 hF hB 0 rfl rfl dX4_choose_15 ?_
  refine lv_iload_n hx hb dX4_choose_18 rfl (lv_at hl 1 rfl) ?_
  refine lv_iconst (v := 1) hx hb dX4_choose_19 (by decide) ?_
  refine lv_iadd hx hb dX4_choose_20 ?_
  refine ztopi (y := nI (dd + 1)) (nI_add dd 1) ?_
  refine zaald hF hB 3 rfl (t0 := 3) rfl (dd + 1) (rfl) (by omega) (by decide) (r := na (34 + (dd + 1))) (rfl) dX4_choose_21 ?_
  refine lv_aload_n hx hb dX4_choose_22 rfl (lv_at hl 0 rfl) ?_
  refine zget zf_X4_24 hF hB 0 rfl rfl dX4_choose_23 ?_
  refine lv_iload_n hx hb dX4_choose_26 rfl (lv_at hl 1 rfl) ?_
  refine zaald hF hB 3 rfl (t0 := 3) rfl dd (rfl) (by omega) (by decide) (r := na (34 + dd)) (rfl) dX4_choose_27 ?_
  refine zVv zm_X4_94 hF hB (c_X1_take l D ka kb na N (34 + (dd + 1)) (34 + dd) (by omega) (by omega)) ([] ++ npr 4) (zsel_pool rfl rfl) (va_nd_pool rfl rfl) ([] ++ nA na) (fun _ => zad_pool rfl) (zad_pool rfl) (4 + (34 + (dd + 1))) 1 rfl (nP_atn rfl (by omega)) rfl ⟨Nat.le_of_ble_eq_true rfl, Nat.le_of_ble_eq_true rfl⟩ rfl hl.1 (Nat.le_of_ble_eq_true rfl) ⟨Nat.le_refl _, Nat.le_refl _⟩ dX4_choose_28 ?_
  clear hB
  try clear locs
  try clear H
  intro u1 H locs hp hB
  replace hB : zB D A s ([((bd 4), .inr (4, [.ref (bd 18), .ref (bd 19), .int cnt, .int opb, .int rch, .int wnt, .ref (bd 20), .ref (bd 21), .ref (bd 22), .int bc, .ref (bd 23), .ref (bd 24), .long bw, .long br])), ((bd 21), .inl (ka 0, 4, .inl (upd sa dd (nI a)))), ((bd 22), .inl (ka 0, 4, .inl (upd ss dd (nI s9)))), ((bd 20), .inl (ka 3, 5, .inr (.inr (.inr (.inr (nR na 34))))))] ++ nP na (upN N (34 + (dd + 1)) (N (34 + dd)))) H locs := zB_pool hB rfl rfl rfl rfl
  refine lv_aload_n hx hb dX4_choose_31 rfl (lv_at hl 0 rfl) ?_
  refine zget zf_X4_24 hF hB 0 rfl rfl dX4_choose_32 ?_
  refine lv_iload_n hx hb dX4_choose_35 rfl (lv_at hl 1 rfl) ?_
  refine lv_iconst (v := 1) hx hb dX4_choose_36 (by decide) ?_
  refine lv_iadd hx hb dX4_choose_37 ?_
  refine ztopi (y := nI (dd + 1)) (nI_add dd 1) ?_
  refine zaald hF hB 3 rfl (t0 := 3) rfl (dd + 1) (rfl) (by omega) (by decide) (r := na (34 + (dd + 1))) (rfl) dX4_choose_38 ?_
  refine lv_bipush (v := -10) hx hb dX4_choose_39 (by decide) ?_
  refine lv_iload_n hx hb dX4_choose_41 rfl (lv_at hl 3 rfl) ?_
  refine lv_imul hx hb dX4_choose_42 ?_
  refine lv_iload_n hx hb dX4_choose_43 rfl (lv_at hl 2 rfl) ?_
  refine zVv zm_X4_98 hF hB (c_X1_addWay l D ka kb (na (34 + (dd + 1))) ((upN N (34 + (dd + 1)) (N (34 + dd))) (34 + (dd + 1))) ((-10 : Int32) * nI s9) a (ha)) [4 + (34 + (dd + 1))] (zsel_num rfl (by omega)) (va_nd_1 _) [na (34 + (dd + 1))] (fun _ => rfl) rfl (4 + (34 + (dd + 1))) 1 rfl (nP_atn rfl (by omega)) rfl ⟨Nat.le_of_ble_eq_true rfl, Nat.le_of_ble_eq_true rfl⟩ rfl hl.1 (Nat.le_of_ble_eq_true rfl) ⟨Nat.le_refl _, Nat.le_refl _⟩ dX4_choose_44 ?_
  clear hB
  try clear locs
  try clear H
  intro u2 H locs hp hB
  replace hB : zB D A s ([((bd 4), .inr (4, [.ref (bd 18), .ref (bd 19), .int cnt, .int opb, .int rch, .int wnt, .ref (bd 20), .ref (bd 21), .ref (bd 22), .int bc, .ref (bd 23), .ref (bd 24), .long bw, .long br])), ((bd 21), .inl (ka 0, 4, .inl (upd sa dd (nI a)))), ((bd 22), .inl (ka 0, 4, .inl (upd ss dd (nI s9)))), ((bd 20), .inl (ka 3, 5, .inr (.inr (.inr (.inr (nR na 34))))))] ++ nP na (upN (upN N (34 + (dd + 1)) (N (34 + dd))) (34 + (dd + 1)) (awN ((upN N (34 + (dd + 1)) (N (34 + dd))) (34 + (dd + 1))) ((-10 : Int32) * nI s9) a))) H locs := zB_num (X := (awN ((upN N (34 + (dd + 1)) (N (34 + dd))) (34 + (dd + 1))) ((-10 : Int32) * nI s9) a)) hB rfl (by omega)
  exact zretv hF hB () (trivial) (by rw [upN_up, upN_eq, hQp, aw_p20, ch_t hs9]) dX4_choose_47 hQ

set_option maxHeartbeats 4000000 in
set_option maxRecDepth 100000 in
theorem c_X4_keepIfBetter (l : Launch) (D : va_G) (ka : Nat → ClassId) (kb : Nat → Nat) (bd : Nat → Nat) (o : Bool) (cnt : Int32) (opb : Int32) (rch : Int32) (n : Nat) (bb : bT) (sa : Nat → Int32) (ss : Nat → Int32) (na : Nat → Nat) (N : Nat → N5) (Qp : Nat → Int) (hn : n ≤ 4) (hQp : N (34 + n) = p20N Qp) (hbd : bdP Qp) (hB9 : bB bb) : zV l D ka kb yX4_keepIfBetter cX4_keepIfBetter 6 3 77 [.ref (bd 4)] ([((bd 4), .inr (4, [.ref (bd 18), .ref (bd 19), .int cnt, .int opb, .int rch, .int (nI n), .ref (bd 20), .ref (bd 21), .ref (bd 22), .int bb.1, .ref (bd 23), .ref (bd 24), .long (Int64.ofInt bb.2.1), .long (Int64.ofInt bb.2.2.1)])), ((bd 18), .inr (2, [.int (bI o), .ref (na 31), .ref (na 32), .ref (na 33)])), ((bd 20), .inl (ka 3, 5, .inr (.inr (.inr (.inr (nR na 34)))))), ((bd 21), .inl (ka 0, 4, .inl sa)), ((bd 22), .inl (ka 0, 4, .inl ss)), ((bd 23), .inl (ka 0, 4, .inl bb.2.2.2.1)), ((bd 24), .inl (ka 0, 4, .inl bb.2.2.2.2))] ++ nP na N) (fun (o9 : Bool) => True) (fun (o9 : Bool) => [((bd 4), .inr (4, [.ref (bd 18), .ref (bd 19), .int cnt, .int opb, .int rch, .int (nI n), .ref (bd 20), .ref (bd 21), .ref (bd 22), .int ((kbW Qp n sa ss bb).1), .ref (bd 23), .ref (bd 24), .long (Int64.ofInt (kbW Qp n sa ss bb).2.1), .long (Int64.ofInt (kbW Qp n sa ss bb).2.2.1)])), ((bd 18), .inr (2, [.int (bI o9), .ref (na 31), .ref (na 32), .ref (na 33)])), ((bd 20), .inl (ka 3, 5, .inr (.inr (.inr (.inr (nR na 34)))))), ((bd 21), .inl (ka 0, 4, .inl sa)), ((bd 22), .inl (ka 0, 4, .inl ss)), ((bd 23), .inl (ka 0, 4, .inl ((kbW Qp n sa ss bb).2.2.2.1))), ((bd 24), .inl (ka 0, 4, .inl ((kbW Qp n sa ss bb).2.2.2.2)))] ++ nP na N) := by
  refine zV.mk RX4 (by decide +kernel) rfl (Nat.le_of_ble_eq_true rfl) ?_
  intro p e s m below meth c A ls args Q hQ hx hb hF hB hl
  replace hl : lv_has ls 6 [(0, .ref (bd 4))] := hl
  have hsm := sm_bb hbd hB9
  refine lv_aload_n hx hb dX4_keepIfBetter_0 rfl (lv_at hl 0 rfl) ?_
  refine zget zf_X4_24 hF hB 0 rfl rfl dX4_keepIfBetter_1 ?_
  refine lv_aload_n hx hb dX4_keepIfBetter_4 rfl (lv_at hl 0 rfl) ?_
  refine zget zf_X4_74 hF hB 0 rfl rfl dX4_keepIfBetter_5 ?_
  refine zaald hF hB 2 rfl (t0 := 3) rfl n (rfl) (by omega) (by decide) (r := na (34 + n)) (rfl) dX4_keepIfBetter_8 ?_
  refine zSl zm_X4_102 hF hB (c_X4_squareWhole l D ka kb na N (34 + n) Qp (by omega) (hQp)) ([] ++ npr 7) (zsel_pool rfl rfl) (va_nd_pool rfl rfl) ([] ++ nA na) (fun _ => zad_pool rfl) (zad_pool rfl) rfl ⟨Nat.le_of_ble_eq_true rfl, Nat.le_of_ble_eq_true rfl⟩ rfl hl.1 (Nat.le_of_ble_eq_true rfl) ⟨Nat.le_refl _, Nat.le_refl _⟩ dX4_keepIfBetter_9 ?_
  clear hB
  try clear locs
  try clear H
  intro r1 u1 H locs hp hB
  obtain rfl : r1 = Int64.ofInt (sqI Qp 0) := hp
  replace hB : zB D A s ([((bd 4), .inr (4, [.ref (bd 18), .ref (bd 19), .int cnt, .int opb, .int rch, .int (nI n), .ref (bd 20), .ref (bd 21), .ref (bd 22), .int bb.1, .ref (bd 23), .ref (bd 24), .long (Int64.ofInt bb.2.1), .long (Int64.ofInt bb.2.2.1)])), ((bd 18), .inr (2, [.int (bI o), .ref (na 31), .ref (na 32), .ref (na 33)])), ((bd 20), .inl (ka 3, 5, .inr (.inr (.inr (.inr (nR na 34)))))), ((bd 21), .inl (ka 0, 4, .inl sa)), ((bd 22), .inl (ka 0, 4, .inl ss)), ((bd 23), .inl (ka 0, 4, .inl bb.2.2.2.1)), ((bd 24), .inl (ka 0, 4, .inl bb.2.2.2.2))] ++ nP na N) H locs := zB_pool hB rfl rfl rfl rfl
  refine lv_lstore_n (lv' := [(1, .long (Int64.ofInt (sqI Qp 0))), (0, .ref (bd 4))]) hx hb dX4_keepIfBetter_12 rfl hl (by decide) rfl ?_
  clear hl
  clear ls
  intro ls hl
  refine lv_aload_n hx hb dX4_keepIfBetter_13 rfl (lv_at hl 1 rfl) ?_
  refine zget zf_X4_24 hF hB 0 rfl rfl dX4_keepIfBetter_14 ?_
  refine lv_aload_n hx hb dX4_keepIfBetter_17 rfl (lv_at hl 1 rfl) ?_
  refine zget zf_X4_74 hF hB 0 rfl rfl dX4_keepIfBetter_18 ?_
  refine zaald hF hB 2 rfl (t0 := 3) rfl n (rfl) (by omega) (by decide) (r := na (34 + n)) (rfl) dX4_keepIfBetter_21 ?_
  refine zSl zm_X4_106 hF hB (c_X4_squareRoots l D ka kb na N (34 + n) Qp (by omega) (hQp)) ([] ++ npr 7) (zsel_pool rfl rfl) (va_nd_pool rfl rfl) ([] ++ nA na) (fun _ => zad_pool rfl) (zad_pool rfl) rfl ⟨Nat.le_of_ble_eq_true rfl, Nat.le_of_ble_eq_true rfl⟩ rfl hl.1 (Nat.le_of_ble_eq_true rfl) ⟨Nat.le_refl _, Nat.le_refl _⟩ dX4_keepIfBetter_22 ?_
  clear hB
  try clear locs
  try clear H
  intro r2 u2 H locs hp hB
  obtain rfl : r2 = Int64.ofInt (sqI Qp 1) := hp
  replace hB : zB D A s ([((bd 4), .inr (4, [.ref (bd 18), .ref (bd 19), .int cnt, .int opb, .int rch, .int (nI n), .ref (bd 20), .ref (bd 21), .ref (bd 22), .int bb.1, .ref (bd 23), .ref (bd 24), .long (Int64.ofInt bb.2.1), .long (Int64.ofInt bb.2.2.1)])), ((bd 18), .inr (2, [.int (bI o), .ref (na 31), .ref (na 32), .ref (na 33)])), ((bd 20), .inl (ka 3, 5, .inr (.inr (.inr (.inr (nR na 34)))))), ((bd 21), .inl (ka 0, 4, .inl sa)), ((bd 22), .inl (ka 0, 4, .inl ss)), ((bd 23), .inl (ka 0, 4, .inl bb.2.2.2.1)), ((bd 24), .inl (ka 0, 4, .inl bb.2.2.2.2))] ++ nP na N) H locs := zB_pool hB rfl rfl rfl rfl
  refine lv_lstore_n (lv' := [(3, .long (Int64.ofInt (sqI Qp 1))), (1, .long (Int64.ofInt (sqI Qp 0))), (0, .ref (bd 4))]) hx hb dX4_keepIfBetter_25 rfl hl (by decide) rfl ?_
  clear hl
  clear ls
  intro ls hl
  refine lv_aload_n hx hb dX4_keepIfBetter_26 rfl (lv_at hl 2 rfl) ?_
  refine zget zf_X4_71 hF hB 0 rfl rfl dX4_keepIfBetter_27 ?_
  refine lv_iconst (v := -1) hx hb dX4_keepIfBetter_30 (by decide) ?_
  refine lv_icmp_eq (tgt := 57) hx hb dX4_keepIfBetter_31 (by decide) (fun h31 => ?_) (fun h31 => ?_)
  · skip
    refine lv_aload_n hx hb dX4_keepIfBetter_57 rfl (lv_at hl 2 rfl) ?_
    refine lv_aload_n hx hb dX4_keepIfBetter_58 rfl (lv_at hl 2 rfl) ?_
    refine zget zf_X4_74 hF hB 0 rfl rfl dX4_keepIfBetter_59 ?_
    refine zput_f zp_X4_71 hF hB 0 rfl (rfl) (rfl) (Nat.le_of_ble_eq_true rfl) dX4_keepIfBetter_62 ?_
    clear hB
    try clear locs
    try clear H
    intro H locs hB
    replace hB : zB D A s ([((bd 4), .inr (4, [.ref (bd 18), .ref (bd 19), .int cnt, .int opb, .int rch, .int (nI n), .ref (bd 20), .ref (bd 21), .ref (bd 22), .int (nI n), .ref (bd 23), .ref (bd 24), .long (Int64.ofInt bb.2.1), .long (Int64.ofInt bb.2.2.1)])), ((bd 18), .inr (2, [.int (bI o), .ref (na 31), .ref (na 32), .ref (na 33)])), ((bd 20), .inl (ka 3, 5, .inr (.inr (.inr (.inr (nR na 34)))))), ((bd 21), .inl (ka 0, 4, .inl sa)), ((bd 22), .inl (ka 0, 4, .inl ss)), ((bd 23), .inl (ka 0, 4, .inl bb.2.2.2.1)), ((bd 24), .inl (ka 0, 4, .inl bb.2.2.2.2))] ++ nP na N) H locs := hB
    refine lv_aload_n hx hb dX4_keepIfBetter_65 rfl (lv_at hl 2 rfl) ?_
    refine lv_lload_n hx hb dX4_keepIfBetter_66 rfl (lv_at hl 1 rfl) ?_
    refine zput_f zp_X4_109 hF hB 0 rfl (rfl) (rfl) (Nat.le_of_ble_eq_true rfl) dX4_keepIfBetter_67 ?_
    clear hB
    try clear locs
    try clear H
    intro H locs hB
    replace hB : zB D A s ([((bd 4), .inr (4, [.ref (bd 18), .ref (bd 19), .int cnt, .int opb, .int rch, .int (nI n), .ref (bd 20), .ref (bd 21), .ref (bd 22), .int (nI n), .ref (bd 23), .ref (bd 24), .long (Int64.ofInt (sqI Qp 0)), .long (Int64.ofInt bb.2.2.1)])), ((bd 18), .inr (2, [.int (bI o), .ref (na 31), .ref (na 32), .ref (na 33)])), ((bd 20), .inl (ka 3, 5, .inr (.inr (.inr (.inr (nR na 34)))))), ((bd 21), .inl (ka 0, 4, .inl sa)), ((bd 22), .inl (ka 0, 4, .inl ss)), ((bd 23), .inl (ka 0, 4, .inl bb.2.2.2.1)), ((bd 24), .inl (ka 0, 4, .inl bb.2.2.2.2))] ++ nP na N) H locs := hB
    refine lv_aload_n hx hb dX4_keepIfBetter_70 rfl (lv_at hl 2 rfl) ?_
    refine lv_lload_n hx hb dX4_keepIfBetter_71 rfl (lv_at hl 0 rfl) ?_
    refine zput_f zp_X4_113 hF hB 0 rfl (rfl) (rfl) (Nat.le_of_ble_eq_true rfl) dX4_keepIfBetter_72 ?_
    clear hB
    try clear locs
    try clear H
    intro H locs hB
    replace hB : zB D A s ([((bd 4), .inr (4, [.ref (bd 18), .ref (bd 19), .int cnt, .int opb, .int rch, .int (nI n), .ref (bd 20), .ref (bd 21), .ref (bd 22), .int (nI n), .ref (bd 23), .ref (bd 24), .long (Int64.ofInt (sqI Qp 0)), .long (Int64.ofInt (sqI Qp 1))])), ((bd 18), .inr (2, [.int (bI o), .ref (na 31), .ref (na 32), .ref (na 33)])), ((bd 20), .inl (ka 3, 5, .inr (.inr (.inr (.inr (nR na 34)))))), ((bd 21), .inl (ka 0, 4, .inl sa)), ((bd 22), .inl (ka 0, 4, .inl ss)), ((bd 23), .inl (ka 0, 4, .inl bb.2.2.2.1)), ((bd 24), .inl (ka 0, 4, .inl bb.2.2.2.2))] ++ nP na N) H locs := hB
    refine lv_iconst (v := 0) hx hb dX4_keepIfBetter_75 (by decide) ?_
    refine lv_istore (lv' := [(5, .int (0 : Int32)), (3, .long (Int64.ofInt (sqI Qp 1))), (1, .long (Int64.ofInt (sqI Qp 0))), (0, .ref (bd 4))]) hx hb dX4_keepIfBetter_76 hl (by decide) rfl ?_
    clear hl
    clear ls
    intro ls hl
    have lp78 : ∀ (fl : Nat) (ic : Nat), (hi : ic ≤ n) → n - ic < fl → ∀ (H : Heap) (locs : List Loc), zB D A s ([((bd 4), .inr (4, [.ref (bd 18), .ref (bd 19), .int cnt, .int opb, .int rch, .int (nI n), .ref (bd 20), .ref (bd 21), .ref (bd 22), .int (nI n), .ref (bd 23), .ref (bd 24), .long (Int64.ofInt (sqI Qp 0)), .long (Int64.ofInt (sqI Qp 1))])), ((bd 18), .inr (2, [.int (bI o), .ref (na 31), .ref (na 32), .ref (na 33)])), ((bd 20), .inl (ka 3, 5, .inr (.inr (.inr (.inr (nR na 34)))))), ((bd 21), .inl (ka 0, 4, .inl sa)), ((bd 22), .inl (ka 0, 4, .inl ss)), ((bd 23), .inl (ka 0, 4, .inl (cpN ic sa bb.2.2.2.1))), ((bd 24), .inl (ka 0, 4, .inl (cpN ic ss bb.2.2.2.2)))] ++ nP na N) H locs → ∀ ls : Array Slot, lv_has ls 6 [(5, .int (nI ic)), (0, .ref (bd 4))] → W p l e (zRm 3 77 0 0) s m args below meth c H locs 0 0 Q (F0 m 78 ls []) := by
      intro fl
      induction fl with
      | zero => intro ic hi hfl; exact absurd hfl (Nat.not_lt_zero _)
      | succ fl ih78 =>
        intro ic hi hfl78 H locs hB ls hl
        refine lv_iload hx hb dX4_keepIfBetter_78 (lv_at hl 0 rfl) ?_
        refine lv_aload_n hx hb dX4_keepIfBetter_80 rfl (lv_at hl 1 rfl) ?_
        refine zget zf_X4_74 hF hB 0 rfl rfl dX4_keepIfBetter_81 ?_
        refine lv_icmp_ge (tgt := 121) hx hb dX4_keepIfBetter_84 (by decide) (fun h84 => ?_) (fun h84 => ?_)
        · skip
          have hi2 : ic = n := by have := (nI_leI (by omega) (by omega)).mp h84; omega
          exact zretv hF hB (o) (trivial) (by rw [kbW, if_pos (Or.inl h31), hi2]) dX4_keepIfBetter_121 hQ
        · skip
          have hi2 : ic < n := Nat.not_le.mp (fun e9 => h84 ((nI_leI (by omega) (by omega)).mpr e9))
          refine lv_aload_n hx hb dX4_keepIfBetter_87 rfl (lv_at hl 1 rfl) ?_
          refine zget zf_X4_34 hF hB 0 rfl rfl dX4_keepIfBetter_88 ?_
          refine lv_iload hx hb dX4_keepIfBetter_91 (lv_at hl 0 rfl) ?_
          refine lv_aload_n hx hb dX4_keepIfBetter_93 rfl (lv_at hl 1 rfl) ?_
          refine zget zf_X4_28 hF hB 0 rfl rfl dX4_keepIfBetter_94 ?_
          refine lv_iload hx hb dX4_keepIfBetter_97 (lv_at hl 0 rfl) ?_
          refine ziald hF hB 3 rfl ic (rfl) (by omega) (by decide) (v := (sa ic)) (rfl) dX4_keepIfBetter_99 ?_
          refine ziast hF hB 5 rfl ic (rfl) (by omega) (by decide) dX4_keepIfBetter_100 ?_
          clear hB
          try clear locs
          try clear H
          intro H locs hB
          replace hB : zB D A s ([((bd 4), .inr (4, [.ref (bd 18), .ref (bd 19), .int cnt, .int opb, .int rch, .int (nI n), .ref (bd 20), .ref (bd 21), .ref (bd 22), .int (nI n), .ref (bd 23), .ref (bd 24), .long (Int64.ofInt (sqI Qp 0)), .long (Int64.ofInt (sqI Qp 1))])), ((bd 18), .inr (2, [.int (bI o), .ref (na 31), .ref (na 32), .ref (na 33)])), ((bd 20), .inl (ka 3, 5, .inr (.inr (.inr (.inr (nR na 34)))))), ((bd 21), .inl (ka 0, 4, .inl sa)), ((bd 22), .inl (ka 0, 4, .inl ss)), ((bd 23), .inl (ka 0, 4, .inl (cpN (ic + 1) sa bb.2.2.2.1))), ((bd 24), .inl (ka 0, 4, .inl (cpN ic ss bb.2.2.2.2)))] ++ nP na N) H locs := (by have e9 := hB; rw [cpN_s _ _ _] at e9; exact e9)
          refine lv_aload_n hx hb dX4_keepIfBetter_101 rfl (lv_at hl 1 rfl) ?_
          refine zget zf_X4_37 hF hB 0 rfl rfl dX4_keepIfBetter_102 ?_
          refine lv_iload hx hb dX4_keepIfBetter_105 (lv_at hl 0 rfl) ?_
          refine lv_aload_n hx hb dX4_keepIfBetter_107 rfl (lv_at hl 1 rfl) ?_
          refine zget zf_X4_31 hF hB 0 rfl rfl dX4_keepIfBetter_108 ?_
          refine lv_iload hx hb dX4_keepIfBetter_111 (lv_at hl 0 rfl) ?_
          refine ziald hF hB 4 rfl ic (rfl) (by omega) (by decide) (v := (ss ic)) (rfl) dX4_keepIfBetter_113 ?_
          refine ziast hF hB 6 rfl ic (rfl) (by omega) (by decide) dX4_keepIfBetter_114 ?_
          clear hB
          try clear locs
          try clear H
          intro H locs hB
          replace hB : zB D A s ([((bd 4), .inr (4, [.ref (bd 18), .ref (bd 19), .int cnt, .int opb, .int rch, .int (nI n), .ref (bd 20), .ref (bd 21), .ref (bd 22), .int (nI n), .ref (bd 23), .ref (bd 24), .long (Int64.ofInt (sqI Qp 0)), .long (Int64.ofInt (sqI Qp 1))])), ((bd 18), .inr (2, [.int (bI o), .ref (na 31), .ref (na 32), .ref (na 33)])), ((bd 20), .inl (ka 3, 5, .inr (.inr (.inr (.inr (nR na 34)))))), ((bd 21), .inl (ka 0, 4, .inl sa)), ((bd 22), .inl (ka 0, 4, .inl ss)), ((bd 23), .inl (ka 0, 4, .inl (cpN (ic + 1) sa bb.2.2.2.1))), ((bd 24), .inl (ka 0, 4, .inl (cpN (ic + 1) ss bb.2.2.2.2)))] ++ nP na N) H locs := (by have e9 := hB; rw [cpN_s _ _ _] at e9; exact e9)
          refine lv_iinc (v := nI (ic + 1)) (lv' := [(5, .int (nI (ic + 1))), (0, .ref (bd 4))]) hx hb dX4_keepIfBetter_115 hl (k := 0) rfl (nI_1 _) (by decide) rfl ?_
          clear hl
          clear ls
          intro ls hl
          refine lv_goto (tgt := 78) hx hb dX4_keepIfBetter_118 (by decide) ?_
          exact ih78 (ic + 1) (by omega) (by omega) _ _ (hB) _ (lv_sub hl [0, 1] rfl)
    exact lp78 (n - 0 + 1) 0 (Nat.zero_le _) (by omega) _ _ (hB) _ (lv_sub hl [0, 3] rfl)
  · skip
    refine lv_aload_n hx hb dX4_keepIfBetter_34 rfl (lv_at hl 2 rfl) ?_
    refine zget zf_X4_12 hF hB 0 rfl rfl dX4_keepIfBetter_35 ?_
    refine lv_lload_n hx hb dX4_keepIfBetter_38 rfl (lv_at hl 1 rfl) ?_
    refine lv_aload_n hx hb dX4_keepIfBetter_39 rfl (lv_at hl 2 rfl) ?_
    refine zget zf_X4_109 hF hB 0 rfl rfl dX4_keepIfBetter_40 ?_
    refine lv_lsub hx hb dX4_keepIfBetter_43 ?_
    refine ztopl (y := (Int64.ofInt (sqI Qp 0 - bb.2.1))) ((Int64.ofInt_sub _ _).symm) ?_
    refine lv_lload_n hx hb dX4_keepIfBetter_44 rfl (lv_at hl 0 rfl) ?_
    refine lv_aload_n hx hb dX4_keepIfBetter_45 rfl (lv_at hl 2 rfl) ?_
    refine zget zf_X4_113 hF hB 0 rfl rfl dX4_keepIfBetter_46 ?_
    refine lv_lsub hx hb dX4_keepIfBetter_49 ?_
    refine ztopl (y := (Int64.ofInt (sqI Qp 1 - bb.2.2.1))) ((Int64.ofInt_sub _ _).symm) ?_
    refine zVi zm_X4_116 hF hB (c_X2_sign l D ka kb (bd 18) na o 31 32 33 (Int64.ofInt (sqI Qp 0 - bb.2.1)) (Int64.ofInt (sqI Qp 1 - bb.2.2.1)) ) [1] rfl (by decide) [(bd 18)] (fun _ => rfl) rfl 1 2 rfl rfl rfl ⟨Nat.le_of_ble_eq_true rfl, Nat.le_of_ble_eq_true rfl⟩ rfl hl.1 (Nat.le_of_ble_eq_true rfl) ⟨Nat.le_refl _, Nat.le_refl _⟩ dX4_keepIfBetter_50 ?_
    clear hB
    try clear locs
    try clear H
    intro r3 u3 H locs hp hB
    obtain rfl : r3 = if (sgN (Int64.ofInt (sqI Qp 0 - bb.2.1)) (Int64.ofInt (sqI Qp 1 - bb.2.2.1)) && sgSq (Int64.ofInt (sqI Qp 0 - bb.2.1)) (Int64.ofInt (sqI Qp 1 - bb.2.2.1))) = true then (-5 : Int32) else signV (Int64.ofInt (sqI Qp 0 - bb.2.1)) (Int64.ofInt (sqI Qp 1 - bb.2.2.1)) := hp
    replace hB : zB D A s ([((bd 4), .inr (4, [.ref (bd 18), .ref (bd 19), .int cnt, .int opb, .int rch, .int (nI n), .ref (bd 20), .ref (bd 21), .ref (bd 22), .int bb.1, .ref (bd 23), .ref (bd 24), .long (Int64.ofInt bb.2.1), .long (Int64.ofInt bb.2.2.1)])), ((bd 18), .inr (2, [.int (bI (if sgN (Int64.ofInt (sqI Qp 0 - bb.2.1)) (Int64.ofInt (sqI Qp 1 - bb.2.2.1)) = true then sgSq (Int64.ofInt (sqI Qp 0 - bb.2.1)) (Int64.ofInt (sqI Qp 1 - bb.2.2.1)) else o)), .ref (na 31), .ref (na 32), .ref (na 33)])), ((bd 20), .inl (ka 3, 5, .inr (.inr (.inr (.inr (nR na 34)))))), ((bd 21), .inl (ka 0, 4, .inl sa)), ((bd 22), .inl (ka 0, 4, .inl ss)), ((bd 23), .inl (ka 0, 4, .inl bb.2.2.2.1)), ((bd 24), .inl (ka 0, 4, .inl bb.2.2.2.2))] ++ nP na N) H locs := hB
    refine ztopi (y := (sgI (sqI Qp 0 - bb.2.1) (sqI Qp 1 - bb.2.2.1))) (by rw [(sgSq_I hsm).1, Bool.and_false, if_neg (by decide)]; exact signV_I hsm) ?_
    refine lv_if_lt (tgt := 57) hx hb dX4_keepIfBetter_53 (by decide) (fun h53 => ?_) (fun h53 => ?_)
    · skip
      refine lv_aload_n hx hb dX4_keepIfBetter_57 rfl (lv_at hl 2 rfl) ?_
      refine lv_aload_n hx hb dX4_keepIfBetter_58 rfl (lv_at hl 2 rfl) ?_
      refine zget zf_X4_74 hF hB 0 rfl rfl dX4_keepIfBetter_59 ?_
      refine zput_f zp_X4_71 hF hB 0 rfl (rfl) (rfl) (Nat.le_of_ble_eq_true rfl) dX4_keepIfBetter_62 ?_
      clear hB
      try clear locs
      try clear H
      intro H locs hB
      replace hB : zB D A s ([((bd 4), .inr (4, [.ref (bd 18), .ref (bd 19), .int cnt, .int opb, .int rch, .int (nI n), .ref (bd 20), .ref (bd 21), .ref (bd 22), .int (nI n), .ref (bd 23), .ref (bd 24), .long (Int64.ofInt bb.2.1), .long (Int64.ofInt bb.2.2.1)])), ((bd 18), .inr (2, [.int (bI (if sgN (Int64.ofInt (sqI Qp 0 - bb.2.1)) (Int64.ofInt (sqI Qp 1 - bb.2.2.1)) = true then sgSq (Int64.ofInt (sqI Qp 0 - bb.2.1)) (Int64.ofInt (sqI Qp 1 - bb.2.2.1)) else o)), .ref (na 31), .ref (na 32), .ref (na 33)])), ((bd 20), .inl (ka 3, 5, .inr (.inr (.inr (.inr (nR na 34)))))), ((bd 21), .inl (ka 0, 4, .inl sa)), ((bd 22), .inl (ka 0, 4, .inl ss)), ((bd 23), .inl (ka 0, 4, .inl bb.2.2.2.1)), ((bd 24), .inl (ka 0, 4, .inl bb.2.2.2.2))] ++ nP na N) H locs := hB
      refine lv_aload_n hx hb dX4_keepIfBetter_65 rfl (lv_at hl 2 rfl) ?_
      refine lv_lload_n hx hb dX4_keepIfBetter_66 rfl (lv_at hl 1 rfl) ?_
      refine zput_f zp_X4_109 hF hB 0 rfl (rfl) (rfl) (Nat.le_of_ble_eq_true rfl) dX4_keepIfBetter_67 ?_
      clear hB
      try clear locs
      try clear H
      intro H locs hB
      replace hB : zB D A s ([((bd 4), .inr (4, [.ref (bd 18), .ref (bd 19), .int cnt, .int opb, .int rch, .int (nI n), .ref (bd 20), .ref (bd 21), .ref (bd 22), .int (nI n), .ref (bd 23), .ref (bd 24), .long (Int64.ofInt (sqI Qp 0)), .long (Int64.ofInt bb.2.2.1)])), ((bd 18), .inr (2, [.int (bI (if sgN (Int64.ofInt (sqI Qp 0 - bb.2.1)) (Int64.ofInt (sqI Qp 1 - bb.2.2.1)) = true then sgSq (Int64.ofInt (sqI Qp 0 - bb.2.1)) (Int64.ofInt (sqI Qp 1 - bb.2.2.1)) else o)), .ref (na 31), .ref (na 32), .ref (na 33)])), ((bd 20), .inl (ka 3, 5, .inr (.inr (.inr (.inr (nR na 34)))))), ((bd 21), .inl (ka 0, 4, .inl sa)), ((bd 22), .inl (ka 0, 4, .inl ss)), ((bd 23), .inl (ka 0, 4, .inl bb.2.2.2.1)), ((bd 24), .inl (ka 0, 4, .inl bb.2.2.2.2))] ++ nP na N) H locs := hB
      refine lv_aload_n hx hb dX4_keepIfBetter_70 rfl (lv_at hl 2 rfl) ?_
      refine lv_lload_n hx hb dX4_keepIfBetter_71 rfl (lv_at hl 0 rfl) ?_
      refine zput_f zp_X4_113 hF hB 0 rfl (rfl) (rfl) (Nat.le_of_ble_eq_true rfl) dX4_keepIfBetter_72 ?_
      clear hB
      try clear locs
      try clear H
      intro H locs hB
      replace hB : zB D A s ([((bd 4), .inr (4, [.ref (bd 18), .ref (bd 19), .int cnt, .int opb, .int rch, .int (nI n), .ref (bd 20), .ref (bd 21), .ref (bd 22), .int (nI n), .ref (bd 23), .ref (bd 24), .long (Int64.ofInt (sqI Qp 0)), .long (Int64.ofInt (sqI Qp 1))])), ((bd 18), .inr (2, [.int (bI (if sgN (Int64.ofInt (sqI Qp 0 - bb.2.1)) (Int64.ofInt (sqI Qp 1 - bb.2.2.1)) = true then sgSq (Int64.ofInt (sqI Qp 0 - bb.2.1)) (Int64.ofInt (sqI Qp 1 - bb.2.2.1)) else o)), .ref (na 31), .ref (na 32), .ref (na 33)])), ((bd 20), .inl (ka 3, 5, .inr (.inr (.inr (.inr (nR na 34)))))), ((bd 21), .inl (ka 0, 4, .inl sa)), ((bd 22), .inl (ka 0, 4, .inl ss)), ((bd 23), .inl (ka 0, 4, .inl bb.2.2.2.1)), ((bd 24), .inl (ka 0, 4, .inl bb.2.2.2.2))] ++ nP na N) H locs := hB
      refine lv_iconst (v := 0) hx hb dX4_keepIfBetter_75 (by decide) ?_
      refine lv_istore (lv' := [(5, .int (0 : Int32)), (3, .long (Int64.ofInt (sqI Qp 1))), (1, .long (Int64.ofInt (sqI Qp 0))), (0, .ref (bd 4))]) hx hb dX4_keepIfBetter_76 hl (by decide) rfl ?_
      clear hl
      clear ls
      intro ls hl
      have lp78 : ∀ (fl : Nat) (ic : Nat), (hi : ic ≤ n) → n - ic < fl → ∀ (H : Heap) (locs : List Loc), zB D A s ([((bd 4), .inr (4, [.ref (bd 18), .ref (bd 19), .int cnt, .int opb, .int rch, .int (nI n), .ref (bd 20), .ref (bd 21), .ref (bd 22), .int (nI n), .ref (bd 23), .ref (bd 24), .long (Int64.ofInt (sqI Qp 0)), .long (Int64.ofInt (sqI Qp 1))])), ((bd 18), .inr (2, [.int (bI (if sgN (Int64.ofInt (sqI Qp 0 - bb.2.1)) (Int64.ofInt (sqI Qp 1 - bb.2.2.1)) = true then sgSq (Int64.ofInt (sqI Qp 0 - bb.2.1)) (Int64.ofInt (sqI Qp 1 - bb.2.2.1)) else o)), .ref (na 31), .ref (na 32), .ref (na 33)])), ((bd 20), .inl (ka 3, 5, .inr (.inr (.inr (.inr (nR na 34)))))), ((bd 21), .inl (ka 0, 4, .inl sa)), ((bd 22), .inl (ka 0, 4, .inl ss)), ((bd 23), .inl (ka 0, 4, .inl (cpN ic sa bb.2.2.2.1))), ((bd 24), .inl (ka 0, 4, .inl (cpN ic ss bb.2.2.2.2)))] ++ nP na N) H locs → ∀ ls : Array Slot, lv_has ls 6 [(5, .int (nI ic)), (0, .ref (bd 4))] → W p l e (zRm 3 77 0 0) s m args below meth c H locs 0 0 Q (F0 m 78 ls []) := by
        intro fl
        induction fl with
        | zero => intro ic hi hfl; exact absurd hfl (Nat.not_lt_zero _)
        | succ fl ih78 =>
          intro ic hi hfl78 H locs hB ls hl
          refine lv_iload hx hb dX4_keepIfBetter_78 (lv_at hl 0 rfl) ?_
          refine lv_aload_n hx hb dX4_keepIfBetter_80 rfl (lv_at hl 1 rfl) ?_
          refine zget zf_X4_74 hF hB 0 rfl rfl dX4_keepIfBetter_81 ?_
          refine lv_icmp_ge (tgt := 121) hx hb dX4_keepIfBetter_84 (by decide) (fun h84 => ?_) (fun h84 => ?_)
          · skip
            have hi2 : ic = n := by have := (nI_leI (by omega) (by omega)).mp h84; omega
            exact zretv hF hB (if sgN (Int64.ofInt (sqI Qp 0 - bb.2.1)) (Int64.ofInt (sqI Qp 1 - bb.2.2.1)) = true then sgSq (Int64.ofInt (sqI Qp 0 - bb.2.1)) (Int64.ofInt (sqI Qp 1 - bb.2.2.1)) else o) (trivial) (by rw [kbW, if_pos (Or.inr h53), hi2]) dX4_keepIfBetter_121 hQ
          · skip
            have hi2 : ic < n := Nat.not_le.mp (fun e9 => h84 ((nI_leI (by omega) (by omega)).mpr e9))
            refine lv_aload_n hx hb dX4_keepIfBetter_87 rfl (lv_at hl 1 rfl) ?_
            refine zget zf_X4_34 hF hB 0 rfl rfl dX4_keepIfBetter_88 ?_
            refine lv_iload hx hb dX4_keepIfBetter_91 (lv_at hl 0 rfl) ?_
            refine lv_aload_n hx hb dX4_keepIfBetter_93 rfl (lv_at hl 1 rfl) ?_
            refine zget zf_X4_28 hF hB 0 rfl rfl dX4_keepIfBetter_94 ?_
            refine lv_iload hx hb dX4_keepIfBetter_97 (lv_at hl 0 rfl) ?_
            refine ziald hF hB 3 rfl ic (rfl) (by omega) (by decide) (v := (sa ic)) (rfl) dX4_keepIfBetter_99 ?_
            refine ziast hF hB 5 rfl ic (rfl) (by omega) (by decide) dX4_keepIfBetter_100 ?_
            clear hB
            try clear locs
            try clear H
            intro H locs hB
            replace hB : zB D A s ([((bd 4), .inr (4, [.ref (bd 18), .ref (bd 19), .int cnt, .int opb, .int rch, .int (nI n), .ref (bd 20), .ref (bd 21), .ref (bd 22), .int (nI n), .ref (bd 23), .ref (bd 24), .long (Int64.ofInt (sqI Qp 0)), .long (Int64.ofInt (sqI Qp 1))])), ((bd 18), .inr (2, [.int (bI (if sgN (Int64.ofInt (sqI Qp 0 - bb.2.1)) (Int64.ofInt (sqI Qp 1 - bb.2.2.1)) = true then sgSq (Int64.ofInt (sqI Qp 0 - bb.2.1)) (Int64.ofInt (sqI Qp 1 - bb.2.2.1)) else o)), .ref (na 31), .ref (na 32), .ref (na 33)])), ((bd 20), .inl (ka 3, 5, .inr (.inr (.inr (.inr (nR na 34)))))), ((bd 21), .inl (ka 0, 4, .inl sa)), ((bd 22), .inl (ka 0, 4, .inl ss)), ((bd 23), .inl (ka 0, 4, .inl (cpN (ic + 1) sa bb.2.2.2.1))), ((bd 24), .inl (ka 0, 4, .inl (cpN ic ss bb.2.2.2.2)))] ++ nP na N) H locs := (by have e9 := hB; rw [cpN_s _ _ _] at e9; exact e9)
            refine lv_aload_n hx hb dX4_keepIfBetter_101 rfl (lv_at hl 1 rfl) ?_
            refine zget zf_X4_37 hF hB 0 rfl rfl dX4_keepIfBetter_102 ?_
            refine lv_iload hx hb dX4_keepIfBetter_105 (lv_at hl 0 rfl) ?_
            refine lv_aload_n hx hb dX4_keepIfBetter_107 rfl (lv_at hl 1 rfl) ?_
            refine zget zf_X4_31 hF hB 0 rfl rfl dX4_keepIfBetter_108 ?_
            refine lv_iload hx hb dX4_keepIfBetter_111 (lv_at hl 0 rfl) ?_
            refine ziald hF hB 4 rfl ic (rfl) (by omega) (by decide) (v := (ss ic)) (rfl) dX4_keepIfBetter_113 ?_
            refine ziast hF hB 6 rfl ic (rfl) (by omega) (by decide) dX4_keepIfBetter_114 ?_
            clear hB
            try clear locs
            try clear H
            intro H locs hB
            replace hB : zB D A s ([((bd 4), .inr (4, [.ref (bd 18), .ref (bd 19), .int cnt, .int opb, .int rch, .int (nI n), .ref (bd 20), .ref (bd 21), .ref (bd 22), .int (nI n), .ref (bd 23), .ref (bd 24), .long (Int64.ofInt (sqI Qp 0)), .long (Int64.ofInt (sqI Qp 1))])), ((bd 18), .inr (2, [.int (bI (if sgN (Int64.ofInt (sqI Qp 0 - bb.2.1)) (Int64.ofInt (sqI Qp 1 - bb.2.2.1)) = true then sgSq (Int64.ofInt (sqI Qp 0 - bb.2.1)) (Int64.ofInt (sqI Qp 1 - bb.2.2.1)) else o)), .ref (na 31), .ref (na 32), .ref (na 33)])), ((bd 20), .inl (ka 3, 5, .inr (.inr (.inr (.inr (nR na 34)))))), ((bd 21), .inl (ka 0, 4, .inl sa)), ((bd 22), .inl (ka 0, 4, .inl ss)), ((bd 23), .inl (ka 0, 4, .inl (cpN (ic + 1) sa bb.2.2.2.1))), ((bd 24), .inl (ka 0, 4, .inl (cpN (ic + 1) ss bb.2.2.2.2)))] ++ nP na N) H locs := (by have e9 := hB; rw [cpN_s _ _ _] at e9; exact e9)
            refine lv_iinc (v := nI (ic + 1)) (lv' := [(5, .int (nI (ic + 1))), (0, .ref (bd 4))]) hx hb dX4_keepIfBetter_115 hl (k := 0) rfl (nI_1 _) (by decide) rfl ?_
            clear hl
            clear ls
            intro ls hl
            refine lv_goto (tgt := 78) hx hb dX4_keepIfBetter_118 (by decide) ?_
            exact ih78 (ic + 1) (by omega) (by omega) _ _ (hB) _ (lv_sub hl [0, 1] rfl)
      exact lp78 (n - 0 + 1) 0 (Nat.zero_le _) (by omega) _ _ (hB) _ (lv_sub hl [0, 3] rfl)
    · skip
      exact zretv hF hB (if sgN (Int64.ofInt (sqI Qp 0 - bb.2.1)) (Int64.ofInt (sqI Qp 1 - bb.2.2.1)) = true then sgSq (Int64.ofInt (sqI Qp 0 - bb.2.1)) (Int64.ofInt (sqI Qp 1 - bb.2.2.1)) else o) (trivial) (by rw [kbW, if_neg (fun e8 => e8.elim h31 (fun e7 => Int32.not_lt.mpr (Int32.not_lt.mp h53) e7))]) dX4_keepIfBetter_56 hQ

