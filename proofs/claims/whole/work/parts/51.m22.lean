def faI (a : Nat) (up : Bool) (i : Nat) : Nat := if up = true then a + i + 12 else a + 12 - i
/-- how far the next lawful angle is, with k steps left -/
def faN (m : Int32) (a : Nat) (up : Bool) : Nat → Nat
  | 0 => 12
  | k + 1 => if lgX m (faI a up (12 - k) % 12) = 1 then 12 - k else faN m a up k
theorem faM_s {m : Int32} {a : Nat} {up : Bool} {k : Nat} : faN m a up (k + 1) = if lgX m (faI a up (12 - k) % 12) = 1 then 12 - k else faN m a up k := rfl
theorem fa_i {a i : Nat} {up : Bool} (hi : i ≤ 12) : nI a + (if up = true then (1 : Int32) else -1) * nI i + 12 = nI (faI a up i) := by
  unfold faI
  split
  · rw [Int32.one_mul, nI_add]; exact nI_add _ 12
  · have h : nI (a + 12 - i) + nI i = nI a + 12 := by rw [nI_add, show a + 12 - i + i = a + 12 by omega]; exact (nI_add a 12).symm
    rw [Int32.neg_mul, Int32.one_mul, Int32.add_assoc, Int32.add_comm (-nI i) 12, ← Int32.add_assoc, ← h, ← Int32.sub_eq_add_neg, Int32.add_sub_cancel]
set_option maxHeartbeats 4000000 in
set_option maxRecDepth 100000 in
theorem c_X8_far (l : Launch) (D : va_G) (ka : Nat → ClassId) (kb : Nat → Nat) (q : Nat) (ad : Nat → Nat) (o : Bool) (z : mZ) (le : Nat → Int32) (p9 : Nat) (a : Nat) (up : Bool) (hp9 : p9 < 2) (ha : a < 12) : zI l D ka kb yX8_far cX8_far 5 .int 0 0 [.ref q, .int (nI p9), .int (nI a), .int (if up = true then (1 : Int32) else -1)] ([(q, .inr (8, mO ad o z)), ((ad 8), .inl (ka 0, 2, .inl le))]) (fun (r : Int32) (_ : Unit) => r = nI (faN (le p9) a up 12)) (fun (_ : Unit) => [(q, .inr (8, mO ad o z)), ((ad 8), .inl (ka 0, 2, .inl le))]) := by
  refine zI.mk RX8 (by decide +kernel) rfl (Nat.le_of_ble_eq_true rfl) ?_
  intro p e s m below meth c A ls args Q hQ hx hb hF hB hl
  replace hl : lv_has ls 5 [(0, .ref q), (1, .int (nI p9)), (2, .int (nI a)), (3, .int (if up = true then (1 : Int32) else -1))] := hl
  refine lv_iconst (v := 1) hx hb dX8_far_0 (by decide) ?_
  refine lv_istore (lv' := [(4, .int (1 : Int32)), (0, .ref q), (1, .int (nI p9)), (2, .int (nI a)), (3, .int (if up = true then (1 : Int32) else -1))]) hx hb dX8_far_1 hl (by decide) rfl ?_
  clear hl
  clear ls
  intro ls hl
  have lp3 : ∀ (fl : Nat) (i : Nat), (hi : 1 ≤ i ∧ i ≤ 13) → (hf : faN (le p9) a up 12 = faN (le p9) a up (13 - i)) → 13 - i < fl → ∀ (H : Heap) (locs : List Loc), zB D A s ([(q, .inr (8, mO ad o z)), ((ad 8), .inl (ka 0, 2, .inl le))]) H locs → ∀ ls : Array Slot, lv_has ls 5 [(4, .int (nI i)), (0, .ref q), (1, .int (nI p9)), (2, .int (nI a)), (3, .int (if up = true then (1 : Int32) else -1))] → W p l e (zRm 0 0 0 0) s m args below meth c H locs 0 0 Q (F0 m 3 ls []) := by
    intro fl
    induction fl with
    | zero => intro i hi hf hfl; exact absurd hfl (Nat.not_lt_zero _)
    | succ fl ih3 =>
      intro i hi hf hfl3 H locs hB ls hl
      refine lv_iload hx hb dX8_far_3 (lv_at hl 0 rfl) ?_
      refine lv_bipush (v := 12) hx hb dX8_far_5 (by decide) ?_
      refine lv_icmp_gt (tgt := 44) hx hb dX8_far_7 (by decide) (fun h7 => ?_) (fun h7 => ?_)
      · skip
        have hi9 : i = 13 := by have h9 : 12 < i := Nat.not_le.mp (fun e9 => absurd ((nI_leI (b := 12) (by omega) (by decide)).mpr e9) (Int32.not_le.mpr h7)); omega
        refine lv_bipush (v := 12) hx hb dX8_far_44 (by decide) ?_
        exact zreti hF hB () (by rw [hf, hi9]; rfl) (rfl) (rfl) dX8_far_46 hQ
      · skip
        have hi9 : i ≤ 12 := (nI_leI (b := 12) (by omega) (by decide)).mp (Int32.not_lt.mp h7)
        refine lv_aload_n hx hb dX8_far_10 rfl (lv_at hl 1 rfl) ?_
        refine zget zf_X8_35 hF hB 0 rfl rfl dX8_far_11 ?_
        refine lv_iload_n hx hb dX8_far_14 rfl (lv_at hl 2 rfl) ?_
        refine ziald hF hB 1 rfl p9 (rfl) (by omega) (by decide) (v := (le p9)) (rfl) dX8_far_15 ?_
        refine lv_iload_n hx hb dX8_far_16 rfl (lv_at hl 3 rfl) ?_
        refine lv_iload_n hx hb dX8_far_17 rfl (lv_at hl 4 rfl) ?_
        refine lv_iload hx hb dX8_far_18 (lv_at hl 0 rfl) ?_
        refine lv_imul hx hb dX8_far_20 ?_
        refine lv_iadd hx hb dX8_far_21 ?_
        refine lv_bipush (v := 12) hx hb dX8_far_22 (by decide) ?_
        refine lv_iadd hx hb dX8_far_24 ?_
        refine ztopi (y := nI (faI a up i)) (fa_i (by omega)) ?_
        refine lv_bipush (v := 12) hx hb dX8_far_25 (by decide) ?_
        refine lv_irem hx hb dX8_far_27 (by decide) ?_
        refine ztopi (y := nI (faI a up i % 12)) (pk_rem (a := faI a up i) (d := 12) (by unfold faI; split <;> omega) (by decide) (by decide)) ?_
        refine lv_ishr hx hb dX8_far_28 ?_
        refine lv_iconst (v := 1) hx hb dX8_far_29 (by decide) ?_
        refine lv_iand hx hb dX8_far_30 ?_
        refine ztopi (y := lgX (le p9) (faI a up i % 12)) (rfl) ?_
        refine lv_iconst (v := 1) hx hb dX8_far_31 (by decide) ?_
        refine lv_icmp_ne (tgt := 38) hx hb dX8_far_32 (by decide) (fun h32 => ?_) (fun h32 => ?_)
        · skip
          refine lv_iinc (v := nI (i + 1)) (lv' := [(4, .int (nI (i + 1))), (0, .ref q), (1, .int (nI p9)), (2, .int (nI a)), (3, .int (if up = true then (1 : Int32) else -1))]) hx hb dX8_far_38 hl (k := 0) rfl (nI_1 _) (by decide) rfl ?_
          clear hl
          clear ls
          intro ls hl
          refine lv_goto (tgt := 3) hx hb dX8_far_41 (by decide) ?_
          exact ih3 (i + 1) (by omega) (by rw [hf, show 13 - i = (12 - i) + 1 by omega, faM_s, show 12 - (12 - i) = i by omega, if_neg h32, show 13 - (i + 1) = 12 - i by omega]) (by omega) _ _ (hB) _ (lv_sub hl [0, 1, 2, 3, 4] rfl)
        · skip
          refine lv_iload hx hb dX8_far_35 (lv_at hl 0 rfl) ?_
          exact zreti hF hB () (by rw [hf, show 13 - i = (12 - i) + 1 by omega, faM_s, show 12 - (12 - i) = i by omega, if_pos h32]) (rfl) (rfl) dX8_far_37 hQ
  exact lp3 (13 - 1 + 1) 1 (by omega) (rfl) (by omega) _ _ (hB) _ (lv_sub hl [0, 1, 2, 3, 4] rfl)
