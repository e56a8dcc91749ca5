/-- the sizes told as bits, listed: how many of the first k, and where -/
def lzC (v : Int32) : Nat → Nat
  | 0 => 0
  | k + 1 => if lgX v (k + 1) = 1 ∧ lzC v k < 3 then lzC v k + 1 else lzC v k
def lzS (v : Int32) (zs : Nat → Int32) : Nat → Nat → Int32
  | 0 => zs
  | k + 1 => if lgX v (k + 1) = 1 ∧ lzC v k < 3 then upd (lzS v zs k) (lzC v k) (nI (k + 1)) else lzS v zs k
theorem lzC_le (v : Int32) : ∀ k, lzC v k ≤ 3
  | 0 => Nat.zero_le _
  | k + 1 => by
    have := lzC_le v k
    unfold lzC
    split <;> omega
set_option maxHeartbeats 4000000 in
set_option maxRecDepth 100000 in
theorem c_X4_listSizes (l : Launch) (D : va_G) (ka : Nat → ClassId) (kb : Nat → Nat) (bd : Nat → Nat) (cnt : Int32) (opb : Int32) (rch : Int32) (wnt : Int32) (bc : Int32) (bw : Int64) (br : Int64) (zs : Nat → Int32) (v : Int32)  : zV l D ka kb yX4_listSizes cX4_listSizes 3 0 0 [.ref (bd 4), .int v] ([((bd 4), .inr (4, [.ref (bd 18), .ref (bd 19), .int cnt, .int opb, .int rch, .int wnt, .ref (bd 20), .ref (bd 21), .ref (bd 22), .int bc, .ref (bd 23), .ref (bd 24), .long bw, .long br])), ((bd 19), .inl (ka 0, 3, .inl zs))]) (fun (_ : Unit) => True) (fun (_ : Unit) => [((bd 4), .inr (4, [.ref (bd 18), .ref (bd 19), .int (nI (lzC v 9)), .int opb, .int rch, .int wnt, .ref (bd 20), .ref (bd 21), .ref (bd 22), .int bc, .ref (bd 23), .ref (bd 24), .long bw, .long br])), ((bd 19), .inl (ka 0, 3, .inl (lzS v zs 9)))]) := by
  refine zV.mk RX4 (by decide +kernel) rfl (Nat.le_of_ble_eq_true rfl) ?_
  intro p e s m below meth c A ls args Q hQ hx hb hF hB hl
  replace hl : lv_has ls 3 [(0, .ref (bd 4)), (1, .int v)] := hl
  refine lv_aload_n hx hb dX4_listSizes_0 rfl (lv_at hl 0 rfl) ?_
  refine lv_iconst (v := 0) hx hb dX4_listSizes_1 (by decide) ?_
  refine zput_f zp_X4_81 hF hB 0 rfl (rfl) (rfl) (Nat.le_of_ble_eq_true rfl) dX4_listSizes_2 ?_
  clear hB
  try clear locs
  try clear H
  intro H locs hB
  replace hB : zB D A s ([((bd 4), .inr (4, [.ref (bd 18), .ref (bd 19), .int (0 : Int32), .int opb, .int rch, .int wnt, .ref (bd 20), .ref (bd 21), .ref (bd 22), .int bc, .ref (bd 23), .ref (bd 24), .long bw, .long br])), ((bd 19), .inl (ka 0, 3, .inl zs))]) H locs := hB
  refine lv_iconst (v := 1) hx hb dX4_listSizes_5 (by decide) ?_
  refine lv_istore_n (lv' := [(2, .int (1 : Int32)), (0, .ref (bd 4)), (1, .int v)]) hx hb dX4_listSizes_6 rfl hl (by decide) rfl ?_
  clear hl
  clear ls
  intro ls hl
  have lp7 : ∀ (fl : Nat) (kc : Nat), (hk : kc ≤ 9) → 9 - kc < fl → ∀ (H : Heap) (locs : List Loc), zB D A s ([((bd 4), .inr (4, [.ref (bd 18), .ref (bd 19), .int (nI (lzC v kc)), .int opb, .int rch, .int wnt, .ref (bd 20), .ref (bd 21), .ref (bd 22), .int bc, .ref (bd 23), .ref (bd 24), .long bw, .long br])), ((bd 19), .inl (ka 0, 3, .inl (lzS v zs kc)))]) H locs → ∀ ls : Array Slot, lv_has ls 3 [(2, .int (nI (kc + 1))), (0, .ref (bd 4)), (1, .int v)] → W p l e (zRm 0 0 0 0) s m args below meth c H locs 0 0 Q (F0 m 7 ls []) := by
    intro fl
    induction fl with
    | zero => intro kc hk hfl; exact absurd hfl (Nat.not_lt_zero _)
    | succ fl ih7 =>
      intro kc hk hfl7 H locs hB ls hl
      refine lv_iload_n hx hb dX4_listSizes_7 rfl (lv_at hl 0 rfl) ?_
      refine lv_bipush (v := 9) hx hb dX4_listSizes_8 (by decide) ?_
      refine lv_icmp_gt (tgt := 55) hx hb dX4_listSizes_10 (by decide) (fun h10 => ?_) (fun h10 => ?_)
      · skip
        have hk2 : kc = 9 := by have := mt (nI_leI (a := kc + 1) (b := 9) (by omega) (by decide)).mpr (Int32.not_le.mpr h10); omega
        exact zretv hF hB () (trivial) (by rw [hk2]) dX4_listSizes_55 hQ
      · skip
        have hk2 : kc < 9 := by have := (nI_leI (a := kc + 1) (b := 9) (by omega) (by decide)).mp (Int32.not_lt.mp h10); omega
        refine lv_iload_n hx hb dX4_listSizes_13 rfl (lv_at hl 2 rfl) ?_
        refine lv_iload_n hx hb dX4_listSizes_14 rfl (lv_at hl 0 rfl) ?_
        refine lv_ishr hx hb dX4_listSizes_15 ?_
        refine lv_iconst (v := 1) hx hb dX4_listSizes_16 (by decide) ?_
        refine lv_iand hx hb dX4_listSizes_17 ?_
        refine ztopi (y := lgX v (kc + 1)) (rfl) ?_
        refine lv_if_eq (tgt := 49) hx hb dX4_listSizes_18 (by decide) (fun h18 => ?_) (fun h18 => ?_)
        · skip
          refine lv_iinc (v := nI ((kc + 1) + 1)) (lv' := [(2, .int (nI ((kc + 1) + 1))), (0, .ref (bd 4)), (1, .int v)]) hx hb dX4_listSizes_49 hl (k := 0) rfl (nI_1 _) (by decide) rfl ?_
          clear hl
          clear ls
          intro ls hl
          refine lv_goto (tgt := 7) hx hb dX4_listSizes_52 (by decide) ?_
          exact ih7 (kc + 1) (by omega) (by omega) _ _ (by rw [lzC, lzS, if_neg (fun e8 => by have e7 := e8.1; rw [h18] at e7; exact absurd e7 (by decide)), if_neg (fun e8 => by have e7 := e8.1; rw [h18] at e7; exact absurd e7 (by decide))]; exact hB) _ (lv_sub hl [0, 1, 2] rfl)
        · skip
          refine lv_aload_n hx hb dX4_listSizes_21 rfl (lv_at hl 1 rfl) ?_
          refine zget zf_X4_81 hF hB 0 rfl rfl dX4_listSizes_22 ?_
          refine lv_iconst (v := 3) hx hb dX4_listSizes_25 (by decide) ?_
          refine lv_icmp_ge (tgt := 49) hx hb dX4_listSizes_26 (by decide) (fun h26 => ?_) (fun h26 => ?_)
          · skip
            have hc3 : ¬ lzC v kc < 3 := by have := (nI_leI (a := 3) (b := lzC v kc) (by decide) (by have := lzC_le v kc; omega)).mp h26; omega
            refine lv_iinc (v := nI ((kc + 1) + 1)) (lv' := [(2, .int (nI ((kc + 1) + 1))), (0, .ref (bd 4)), (1, .int v)]) hx hb dX4_listSizes_49 hl (k := 0) rfl (nI_1 _) (by decide) rfl ?_
            clear hl
            clear ls
            intro ls hl
            refine lv_goto (tgt := 7) hx hb dX4_listSizes_52 (by decide) ?_
            exact ih7 (kc + 1) (by omega) (by omega) _ _ (by rw [lzC, lzS, if_neg (fun e8 => hc3 e8.2), if_neg (fun e8 => hc3 e8.2)]; exact hB) _ (lv_sub hl [0, 1, 2] rfl)
          · skip
            have hc3 : lzC v kc < 3 := Nat.not_le.mp (fun e9 => h26 ((nI_leI (a := 3) (b := lzC v kc) (by decide) (by have := lzC_le v kc; omega)).mpr e9))
            refine lv_aload_n hx hb dX4_listSizes_29 rfl (lv_at hl 1 rfl) ?_
            refine zget zf_X4_18 hF hB 0 rfl rfl dX4_listSizes_30 ?_
            refine lv_aload_n hx hb dX4_listSizes_33 rfl (lv_at hl 1 rfl) ?_
            refine zget zf_X4_81 hF hB 0 rfl rfl dX4_listSizes_34 ?_
            refine lv_iload_n hx hb dX4_listSizes_37 rfl (lv_at hl 0 rfl) ?_
            refine ziast hF hB 1 rfl (lzC v kc) (rfl) (by omega) (by decide) dX4_listSizes_38 ?_
            clear hB
            try clear locs
            try clear H
            intro H locs hB
            replace hB : zB D A s ([((bd 4), .inr (4, [.ref (bd 18), .ref (bd 19), .int (nI (lzC v kc)), .int opb, .int rch, .int wnt, .ref (bd 20), .ref (bd 21), .ref (bd 22), .int bc, .ref (bd 23), .ref (bd 24), .long bw, .long br])), ((bd 19), .inl (ka 0, 3, .inl (upd (lzS v zs kc) (lzC v kc) (nI (kc + 1)))))]) H locs := hB
            refine lv_aload_n hx hb dX4_listSizes_39 rfl (lv_at hl 1 rfl) ?_
            refine lv_dup hx hb dX4_listSizes_40 rfl ?_
            refine zget zf_X4_81 hF hB 0 rfl rfl dX4_listSizes_41 ?_
            refine lv_iconst (v := 1) hx hb dX4_listSizes_44 (by decide) ?_
            refine lv_iadd hx hb dX4_listSizes_45 ?_
            refine ztopi (y := nI ((lzC v kc) + 1)) (nI_add (lzC v kc) 1) ?_
            refine zput_f zp_X4_81 hF hB 0 rfl (rfl) (rfl) (Nat.le_of_ble_eq_true rfl) dX4_listSizes_46 ?_
            clear hB
            try clear locs
            try clear H
            intro H locs hB
            replace hB : zB D A s ([((bd 4), .inr (4, [.ref (bd 18), .ref (bd 19), .int (nI ((lzC v kc) + 1)), .int opb, .int rch, .int wnt, .ref (bd 20), .ref (bd 21), .ref (bd 22), .int bc, .ref (bd 23), .ref (bd 24), .long bw, .long br])), ((bd 19), .inl (ka 0, 3, .inl (upd (lzS v zs kc) (lzC v kc) (nI (kc + 1)))))]) H locs := hB
            refine lv_iinc (v := nI ((kc + 1) + 1)) (lv' := [(2, .int (nI ((kc + 1) + 1))), (0, .ref (bd 4)), (1, .int v)]) hx hb dX4_listSizes_49 hl (k := 0) rfl (nI_1 _) (by decide) rfl ?_
            clear hl
            clear ls
            intro ls hl
            refine lv_goto (tgt := 7) hx hb dX4_listSizes_52 (by decide) ?_
            exact ih7 (kc + 1) (by omega) (by omega) _ _ (by rw [lzC, lzS, if_pos ⟨lgX_1 h18, hc3⟩, if_pos ⟨lgX_1 h18, hc3⟩]; exact hB) _ (lv_sub hl [0, 1, 2] rfl)
  exact lp7 (9 - 0 + 1) 0 (Nat.zero_le _) (by omega) _ _ (hB) _ (lv_sub hl [0, 1, 2] rfl)

set_option maxHeartbeats 4000000 in
set_option maxRecDepth 100000 in
theorem c_X4_angleOf (l : Launch) (D : va_G) (ka : Nat → ClassId) (kb : Nat → Nat) (bd : Nat → Nat) (cnt : Int32) (opb : Int32) (rch : Int32) (wnt : Int32) (bc : Int32) (bw : Int64) (br : Int64) (ba : Nat → Int32) (i : Nat) (hi : i < 4) : zI l D ka kb yX4_angleOf cX4_angleOf 2 .int 0 0 [.ref (bd 4), .int (nI i)] ([((bd 4), .inr (4, [.ref (bd 18), .ref (bd 19), .int cnt, .int opb, .int rch, .int wnt, .ref (bd 20), .ref (bd 21), .ref (bd 22), .int bc, .ref (bd 23), .ref (bd 24), .long bw, .long br])), ((bd 23), .inl (ka 0, 4, .inl ba))]) (fun (r : Int32) (_ : Unit) => r = ba i) (fun (_ : Unit) => [((bd 4), .inr (4, [.ref (bd 18), .ref (bd 19), .int cnt, .int opb, .int rch, .int wnt, .ref (bd 20), .ref (bd 21), .ref (bd 22), .int bc, .ref (bd 23), .ref (bd 24), .long bw, .long br])), ((bd 23), .inl (ka 0, 4, .inl ba))]) := by
  refine zI.mk RX4 (by decide +kernel) rfl (Nat.le_of_ble_eq_true rfl) ?_
  intro p e s m below meth c A ls args Q hQ hx hb hF hB hl
  replace hl : lv_has ls 2 [(0, .ref (bd 4)), (1, .int (nI i))] := hl
  refine lv_aload_n hx hb dX4_angleOf_0 rfl (lv_at hl 0 rfl) ?_
  refine zget zf_X4_34 hF hB 0 rfl rfl dX4_angleOf_1 ?_
  refine lv_iload_n hx hb dX4_angleOf_4 rfl (lv_at hl 1 rfl) ?_
  refine ziald hF hB 1 rfl i (rfl) (by omega) (by decide) (v := (ba i)) (rfl) dX4_angleOf_5 ?_
  exact zreti hF hB () (rfl) (rfl) (rfl) dX4_angleOf_6 hQ

set_option maxHeartbeats 4000000 in
set_option maxRecDepth 100000 in
theorem c_X4_sizeOf (l : Launch) (D : va_G) (ka : Nat → ClassId) (kb : Nat → Nat) (bd : Nat → Nat) (cnt : Int32) (opb : Int32) (rch : Int32) (wnt : Int32) (bc : Int32) (bw : Int64) (br : Int64) (bz : Nat → Int32) (i : Nat) (hi : i < 4) : zI l D ka kb yX4_sizeOf cX4_sizeOf 2 .int 0 0 [.ref (bd 4), .int (nI i)] ([((bd 4), .inr (4, [.ref (bd 18), .ref (bd 19), .int cnt, .int opb, .int rch, .int wnt, .ref (bd 20), .ref (bd 21), .ref (bd 22), .int bc, .ref (bd 23), .ref (bd 24), .long bw, .long br])), ((bd 24), .inl (ka 0, 4, .inl bz))]) (fun (r : Int32) (_ : Unit) => r = bz i) (fun (_ : Unit) => [((bd 4), .inr (4, [.ref (bd 18), .ref (bd 19), .int cnt, .int opb, .int rch, .int wnt, .ref (bd 20), .ref (bd 21), .ref (bd 22), .int bc, .ref (bd 23), .ref (bd 24), .long bw, .long br])), ((bd 24), .inl (ka 0, 4, .inl bz))]) := by
  refine zI.mk RX4 (by decide +kernel) rfl (Nat.le_of_ble_eq_true rfl) ?_
  intro p e s m below meth c A ls args Q hQ hx hb hF hB hl
  replace hl : lv_has ls 2 [(0, .ref (bd 4)), (1, .int (nI i))] := hl
  refine lv_aload_n hx hb dX4_sizeOf_0 rfl (lv_at hl 0 rfl) ?_
  refine zget zf_X4_37 hF hB 0 rfl rfl dX4_sizeOf_1 ?_
  refine lv_iload_n hx hb dX4_sizeOf_4 rfl (lv_at hl 1 rfl) ?_
  refine ziald hF hB 1 rfl i (rfl) (by omega) (by decide) (v := (bz i)) (rfl) dX4_sizeOf_5 ?_
  exact zreti hF hB () (rfl) (rfl) (rfl) dX4_sizeOf_6 hQ

set_option maxHeartbeats 4000000 in
set_option maxRecDepth 100000 in
theorem c_X4_told (l : Launch) (D : va_G) (ka : Nat → ClassId) (kb : Nat → Nat) (bd : Nat → Nat) (cnt : Int32) (opb : Int32) (rch : Int32) (wnt : Int32) (bb : bT) (c9 : Nat) (hc3 : c9 < 3) (hK : bK bb) : zI l D ka kb yX4_told cX4_told 5 .int 0 0 [.ref (bd 4), .int (nI c9)] ([((bd 4), .inr (4, [.ref (bd 18), .ref (bd 19), .int cnt, .int opb, .int rch, .int wnt, .ref (bd 20), .ref (bd 21), .ref (bd 22), .int bb.1, .ref (bd 23), .ref (bd 24), .long (Int64.ofInt bb.2.1), .long (Int64.ofInt bb.2.2.1)])), ((bd 23), .inl (ka 0, 4, .inl bb.2.2.2.1)), ((bd 24), .inl (ka 0, 4, .inl bb.2.2.2.2))]) (fun (r : Int32) (_ : Unit) => r = fwA c9 bb) (fun (_ : Unit) => [((bd 4), .inr (4, [.ref (bd 18), .ref (bd 19), .int cnt, .int opb, .int rch, .int wnt, .ref (bd 20), .ref (bd 21), .ref (bd 22), .int bb.1, .ref (bd 23), .ref (bd 24), .long (Int64.ofInt bb.2.1), .long (Int64.ofInt bb.2.2.1)])), ((bd 23), .inl (ka 0, 4, .inl bb.2.2.2.1)), ((bd 24), .inl (ka 0, 4, .inl bb.2.2.2.2))]) := by
  refine zI.mk RX4 (by decide +kernel) rfl (Nat.le_of_ble_eq_true rfl) ?_
  intro p e s m below meth c A ls args Q hQ hx hb hF hB hl
  replace hl : lv_has ls 5 [(0, .ref (bd 4)), (1, .int (nI c9))] := hl
  refine lv_iload_n hx hb dX4_told_0 rfl (lv_at hl 1 rfl) ?_
  refine lv_if_ne (tgt := 9) hx hb dX4_told_1 (by decide) (fun h1 => ?_) (fun h1 => ?_)
  · skip
    have hc0 : c9 ≠ 0 := fun e8 => h1 (by rw [e8]; rfl)
    refine lv_iconst (v := 0) hx hb dX4_told_9 (by decide) ?_
    refine lv_istore_n (lv' := [(2, .int (0 : Int32)), (0, .ref (bd 4)), (1, .int (nI c9))]) hx hb dX4_told_10 rfl hl (by decide) rfl ?_
    clear hl
    clear ls
    intro ls hl
    refine lv_iconst (v := 0) hx hb dX4_told_11 (by decide) ?_
    refine lv_istore_n (lv' := [(3, .int (0 : Int32)), (2, .int (0 : Int32)), (0, .ref (bd 4)), (1, .int (nI c9))]) hx hb dX4_told_12 rfl hl (by decide) rfl ?_
    clear hl
    clear ls
    intro ls hl
    refine lv_iconst (v := 0) hx hb dX4_told_13 (by decide) ?_
    refine lv_istore (lv' := [(4, .int (0 : Int32)), (3, .int (0 : Int32)), (2, .int (0 : Int32)), (0, .ref (bd 4)), (1, .int (nI c9))]) hx hb dX4_told_14 hl (by decide) rfl ?_
    clear hl
    clear ls
    intro ls hl
    have lp16 : ∀ (fl : Nat) (i : Nat), (hi : i ≤ aN bb.1) → 4 - i < fl → ∀ (H : Heap) (locs : List Loc), zB D A s ([((bd 4), .inr (4, [.ref (bd 18), .ref (bd 19), .int cnt, .int opb, .int rch, .int wnt, .ref (bd 20), .ref (bd 21), .ref (bd 22), .int bb.1, .ref (bd 23), .ref (bd 24), .long (Int64.ofInt bb.2.1), .long (Int64.ofInt bb.2.2.1)])), ((bd 23), .inl (ka 0, 4, .inl bb.2.2.2.1)), ((bd 24), .inl (ka 0, 4, .inl bb.2.2.2.2))]) H locs → ∀ ls : Array Slot, lv_has ls 5 [(4, .int (nI i)), (3, .int (fwZ bb.2.2.2.2 i)), (2, .int (fwM bb.2.2.2.1 i)), (0, .ref (bd 4)), (1, .int (nI c9))] → W p l e (zRm 0 0 0 0) s m args below meth c H locs 0 0 Q (F0 m 16 ls []) := by
      intro fl
      induction fl with
      | zero => intro i hi hfl; exact absurd hfl (Nat.not_lt_zero _)
      | succ fl ih16 =>
        intro i hi hfl16 H locs hB ls hl
        refine lv_iload hx hb dX4_told_16 (lv_at hl 0 rfl) ?_
        refine lv_aload_n hx hb dX4_told_18 rfl (lv_at hl 3 rfl) ?_
        refine zget zf_X4_71 hF hB 0 rfl rfl dX4_told_19 ?_
        refine lv_icmp_ge (tgt := 56) hx hb dX4_told_22 (by decide) (fun h22 => ?_) (fun h22 => ?_)
        · skip
          have hie : aN bb.1 = i := bK_e hK hi (Int32.le_iff_toInt_le.mp h22)
          refine lv_iload_n hx hb dX4_told_56 rfl (lv_at hl 4 rfl) ?_
          refine lv_iconst (v := 1) hx hb dX4_told_57 (by decide) ?_
          refine lv_icmp_ne (tgt := 65) hx hb dX4_told_58 (by decide) (fun h58 => ?_) (fun h58 => ?_)
          · skip
            have hc1 : c9 ≠ 1 := fun e8 => h58 (by rw [e8]; rfl)
            refine lv_iload_n hx hb dX4_told_65 rfl (lv_at hl 1 rfl) ?_
            exact zreti hF hB () (by rw [fwA, if_neg hc0, if_neg hc1, hie]) (rfl) (rfl) dX4_told_66 hQ
          · skip
            have hc1 : c9 = 1 := (nI_eq (b := 1) (by omega) (by decide)).mp h58
            refine lv_iload_n hx hb dX4_told_61 rfl (lv_at hl 2 rfl) ?_
            refine lv_goto (tgt := 66) hx hb dX4_told_62 (by decide) ?_
            exact zreti hF hB () (by rw [fwA, if_neg hc0, if_pos hc1, hie]) (rfl) (rfl) dX4_told_66 hQ
        · skip
          have hi2 : i < aN bb.1 ∧ aN bb.1 ≤ 4 := bK_l hK hi (Int32.lt_iff_toInt_lt.mp (Int32.not_le.mp h22))
          refine lv_iload_n hx hb dX4_told_25 rfl (lv_at hl 2 rfl) ?_
          refine lv_iconst (v := 1) hx hb dX4_told_26 (by decide) ?_
          refine lv_aload_n hx hb dX4_told_27 rfl (lv_at hl 3 rfl) ?_
          refine zget zf_X4_34 hF hB 0 rfl rfl dX4_told_28 ?_
          refine lv_iload hx hb dX4_told_31 (lv_at hl 0 rfl) ?_
          refine ziald hF hB 1 rfl i (rfl) (by omega) (by decide) (v := (bb.2.2.2.1 i)) (rfl) dX4_told_33 ?_
          refine lv_ishl hx hb dX4_told_34 ?_
          refine lv_ior hx hb dX4_told_35 ?_
          refine ztopi (y := (fwM bb.2.2.2.1 (i + 1))) (rfl) ?_
          refine lv_istore_n (lv' := [(2, .int (fwM bb.2.2.2.1 (i + 1))), (4, .int (nI i)), (3, .int (fwZ bb.2.2.2.2 i)), (0, .ref (bd 4)), (1, .int (nI c9))]) hx hb dX4_told_36 rfl hl (by decide) rfl ?_
          clear hl
          clear ls
          intro ls hl
          refine lv_bipush (v := 10) hx hb dX4_told_37 (by decide) ?_
          refine lv_iload_n hx hb dX4_told_39 rfl (lv_at hl 2 rfl) ?_
          refine lv_imul hx hb dX4_told_40 ?_
          refine lv_aload_n hx hb dX4_told_41 rfl (lv_at hl 3 rfl) ?_
          refine zget zf_X4_37 hF hB 0 rfl rfl dX4_told_42 ?_
          refine lv_iload hx hb dX4_told_45 (lv_at hl 1 rfl) ?_
          refine ziald hF hB 2 rfl i (rfl) (by omega) (by decide) (v := (bb.2.2.2.2 i)) (rfl) dX4_told_47 ?_
          refine lv_iadd hx hb dX4_told_48 ?_
          refine ztopi (y := (fwZ bb.2.2.2.2 (i + 1))) (rfl) ?_
          refine lv_istore_n (lv' := [(3, .int (fwZ bb.2.2.2.2 (i + 1))), (2, .int (fwM bb.2.2.2.1 (i + 1))), (4, .int (nI i)), (0, .ref (bd 4)), (1, .int (nI c9))]) hx hb dX4_told_49 rfl hl (by decide) rfl ?_
          clear hl
          clear ls
          intro ls hl
          refine lv_iinc (v := nI (i + 1)) (lv' := [(4, .int (nI (i + 1))), (3, .int (fwZ bb.2.2.2.2 (i + 1))), (2, .int (fwM bb.2.2.2.1 (i + 1))), (0, .ref (bd 4)), (1, .int (nI c9))]) hx hb dX4_told_50 hl (k := 2) rfl (nI_1 _) (by decide) rfl ?_
          clear hl
          clear ls
          intro ls hl
          refine lv_goto (tgt := 16) hx hb dX4_told_53 (by decide) ?_
          exact ih16 (i + 1) (by omega) (by omega) _ _ (hB) _ (lv_sub hl [0, 1, 2, 3, 4] rfl)
    exact lp16 (4 - 0 + 1) 0 (Nat.zero_le _) (by omega) _ _ (hB) _ (lv_sub hl [0, 1, 2, 3, 4] rfl)
  · skip
    have hc0 : c9 = 0 := (nI_eq (b := 0) (by omega) (by decide)).mp h1
    refine lv_aload_n hx hb dX4_told_4 rfl (lv_at hl 0 rfl) ?_
    refine zget zf_X4_71 hF hB 0 rfl rfl dX4_told_5 ?_
    exact zreti hF hB () (by rw [fwA, if_pos hc0]) (rfl) (rfl) dX4_told_8 hQ

