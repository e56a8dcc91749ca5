theorem far_ix {a i : Nat} {up : Bool} (h : i ≤ 12) : (a + (if up = true then 1 else 11) * i) % 12 = faI a up i % 12 := by
  unfold faI
  cases up
  · rw [if_neg (by decide), if_neg (by decide)]; omega
  · rw [if_pos rfl, if_pos rfl]; omega
theorem sp_k : ∀ k, k < 7 → zspans.getD (2 * k) 0 = nI (siW k false) ∧ zspans.getD (2 * k + 1) 0 = nI (siW k true) := by decide
theorem siW_b3 (k : Nat) (co : Bool) : siW k co ≤ 2 := by unfold siW; split <;> split <;> (try split) <;> omega
theorem i64_wmul {x : Int32} {k : Nat} (h : 0 ≤ x.toInt ∧ x.toInt ≤ 99) (hk : k ≤ 2) : (x * nI k).toInt64 = x.toInt64 * (nI k).toInt64 := by
  rw [i64_w, i64_w, i64_w, ofI_mul]
  have hb := mul_bd (x := x.toInt) (y := (nI k).toInt) (X := 99) (Y := 2) (by omega) (by rw [nI_toInt (by omega)]; omega)
  rw [i32_mul (by omega)]
theorem i64_wmul3 {x : Int32} {k : Nat} (h : 0 ≤ x.toInt ∧ x.toInt ≤ 99) (hk : k ≤ 2) : ((3 : Int32) * (x * nI k)).toInt64 = 3 * (x.toInt64 * (nI k).toInt64) := by
  have hb := mul_bd (x := x.toInt) (y := (nI k).toInt) (X := 99) (Y := 2) (by omega) (by rw [nI_toInt (by omega)]; omega)
  have e3 : (3 : Int32).toInt = 3 := rfl
  have e := i32_mul (x := x) (y := nI k) (by omega)
  rw [← i64_wmul h hk, i64_w, i64_w, show (3 : Int64) = Int64.ofInt 3 from rfl, ofI_mul, i32_mul (by rw [e3, e]; omega), e3]
/-! what a split of the class leaves -/
noncomputable def shO (m : Int32) (a : Nat) : Bool := dB (lgX m a = 1 ∨ faN m a false 12 + faN m a true 12 < 6)
def shD (m : Int32) (a : Nat) (dn : Int32) : Int32 := if lgX m a = 1 then nI a else if 6 ≤ faN m a false 12 + faN m a true 12 then dn else nI ((a + 12 - faN m a false 12) % 12)
def shU (m : Int32) (a : Nat) (up : Int32) : Int32 := if lgX m a = 1 then -1 else if 6 ≤ faN m a false 12 + faN m a true 12 then up else nI ((a + faN m a true 12) % 12)
def shP (m : Int32) (a : Nat) (mq : Int32) (N : Nat → N5) : Nat → N5 :=
  if lgX m a = 1 then upN (upN N 39 (mq.toInt64, 0, 0, 0, 1)) 40 (0, 0, 0, 0, 1)
  else if 6 ≤ faN m a false 12 + faN m a true 12 then N
  else upN (upN N 39 (shN mq (faN m a true 12) (faN m a false 12 + faN m a true 12))) 40 (shN mq (faN m a false 12) (faN m a false 12 + faN m a true 12))
def toW (dn up : Int32) (X Y : N5) (k : Nat) : Int32 := if k = 0 then dn else if k = 1 then X.1.toInt32 else if k = 2 then X.2.1.toInt32 else if k = 3 then X.2.2.2.2.toInt32 else if k = 4 then up else if k = 5 then Y.1.toInt32 else if k = 6 then Y.2.1.toInt32 else Y.2.2.2.2.toInt32
set_option maxHeartbeats 4000000 in
set_option maxRecDepth 100000 in
theorem c_X6_far (l : Launch) (D : va_G) (ka : Nat → ClassId) (kb : Nat → Nat) (m9 : Int32) (a : Nat) (up : Bool) (ha : a < 12) : zI l D ka kb yX6_far cX6_far 4 .int 0 0 [.int m9, .int (nI a), .int (nI (if up = true then 1 else 11))] ([]) (fun (r : Int32) (_ : Unit) => r = nI (faN m9 a up 12)) (fun (_ : Unit) => []) := by
  refine zI.mk RX6 (by decide +kernel) rfl (Nat.le_of_ble_eq_true rfl) ?_
  intro p e s m below meth c A ls args Q hQ hx hb hF hB hl
  replace hl : lv_has ls 4 [(0, .int m9), (1, .int (nI a)), (2, .int (nI (if up = true then 1 else 11)))] := hl
  refine lv_iconst (v := 1) hx hb dX6_far_0 (by decide) ?_
  refine lv_istore_n (lv' := [(3, .int (1 : Int32)), (0, .int m9), (1, .int (nI a)), (2, .int (nI (if up = true then 1 else 11)))]) hx hb dX6_far_1 rfl hl (by decide) rfl ?_
  clear hl
  clear ls
  intro ls hl
  have lp2 : ∀ (fl : Nat) (i : Nat), (hi : 1 ≤ i ∧ i ≤ 12) → (hf : faN m9 a up 12 = faN m9 a up (13 - i)) → 12 - i < fl → ∀ (H : Heap) (locs : List Loc), zB D A s ([]) H locs → ∀ ls : Array Slot, lv_has ls 4 [(3, .int (nI i)), (0, .int m9), (1, .int (nI a)), (2, .int (nI (if up = true then 1 else 11)))] → W p l e (zRm 0 0 0 0) s m args below meth c H locs 0 0 Q (F0 m 2 ls []) := by
    intro fl
    induction fl with
    | zero => intro i hi hf hfl; exact absurd hfl (Nat.not_lt_zero _)
    | succ fl ih2 =>
      intro i hi hf hfl2 H locs hB ls hl
      refine lv_iload_n hx hb dX6_far_2 rfl (lv_at hl 0 rfl) ?_
      refine lv_bipush (v := 12) hx hb dX6_far_3 (by decide) ?_
      refine lv_icmp_ge (tgt := 31) hx hb dX6_far_5 (by decide) (fun h5 => ?_) (fun h5 => ?_)
      · skip
        have hi9 : i = 12 := by have := (nI_leI (a := 12) (b := i) (by decide) (by omega)).mp h5; omega
        refine lv_bipush (v := 12) hx hb dX6_far_31 (by decide) ?_
        exact zreti hF hB () (by rw [hf, hi9, show 13 - 12 = 0 + 1 by omega, faM_s]; split <;> rfl) (rfl) (rfl) dX6_far_33 hQ
      · skip
        have hi9 : i < 12 := Nat.not_le.mp (fun e9 => h5 ((nI_leI (a := 12) (b := i) (by decide) (by omega)).mpr e9))
        refine lv_iload_n hx hb dX6_far_8 rfl (lv_at hl 1 rfl) ?_
        refine lv_iload_n hx hb dX6_far_9 rfl (lv_at hl 2 rfl) ?_
        refine lv_iload_n hx hb dX6_far_10 rfl (lv_at hl 3 rfl) ?_
        refine lv_iload_n hx hb dX6_far_11 rfl (lv_at hl 0 rfl) ?_
        refine lv_imul hx hb dX6_far_12 ?_
        refine ztopi (y := nI ((if up = true then 1 else 11) * i)) (pk_mul (if up = true then 1 else 11) i) ?_
        refine lv_iadd hx hb dX6_far_13 ?_
        refine ztopi (y := nI (a + ((if up = true then 1 else 11) * i))) (nI_add a ((if up = true then 1 else 11) * i)) ?_
        refine lv_bipush (v := 12) hx hb dX6_far_14 (by decide) ?_
        refine lv_irem hx hb dX6_far_16 (by decide) ?_
        refine ztopi (y := nI (faI a up i % 12)) ((pk_rem (a := a + (if up = true then 1 else 11) * i) (d := 12) (by split <;> omega) (by decide) (by decide)).trans (by rw [far_ix (by omega)])) ?_
        refine lv_ishr hx hb dX6_far_17 ?_
        refine lv_iconst (v := 1) hx hb dX6_far_18 (by decide) ?_
        refine lv_iand hx hb dX6_far_19 ?_
        refine ztopi (y := lgX m9 (faI a up i % 12)) (rfl) ?_
        refine lv_if_eq (tgt := 25) hx hb dX6_far_20 (by decide) (fun h20 => ?_) (fun h20 => ?_)
        · skip
          refine lv_iinc (v := nI (i + 1)) (lv' := [(3, .int (nI (i + 1))), (0, .int m9), (1, .int (nI a)), (2, .int (nI (if up = true then 1 else 11)))]) hx hb dX6_far_25 hl (k := 0) rfl (nI_1 _) (by decide) rfl ?_
          clear hl
          clear ls
          intro ls hl
          refine lv_goto (tgt := 2) hx hb dX6_far_28 (by decide) ?_
          exact ih2 (i + 1) (by omega) (by rw [hf, show 13 - i = (12 - i) + 1 by omega, faM_s, show 12 - (12 - i) = i by omega, if_neg (fun e8 => by rw [h20] at e8; exact absurd e8 (by decide)), show 13 - (i + 1) = 12 - i by omega]) (by omega) _ _ (hB) _ (lv_sub hl [0, 1, 2, 3] rfl)
        · skip
          refine lv_iload_n hx hb dX6_far_23 rfl (lv_at hl 0 rfl) ?_
          exact zreti hF hB () (by rw [hf, show 13 - i = (12 - i) + 1 by omega, faM_s, show 12 - (12 - i) = i by omega, if_pos (lgX_1 h20)]) (rfl) (rfl) dX6_far_24 hQ
  exact lp2 (12 - 1 + 1) 1 (by omega) (rfl) (by omega) _ _ (hB) _ (lv_sub hl [0, 1, 2, 3] rfl)

set_option maxHeartbeats 4000000 in
set_option maxRecDepth 100000 in
theorem c_X6_apportion (l : Launch) (D : va_G) (ka : Nat → ClassId) (kb : Nat → Nat) (na : Nat → Nat) (N : Nat → N5) (mq : Int32) (k : Nat) (j : Nat) (t : Nat) (ht : t < 41) (hk : k < 7) (hj : 2 ≤ j ∧ j ≤ 5) (hmq : 0 ≤ mq.toInt ∧ mq.toInt ≤ 99) : zV l D ka kb yX6_apportion cX6_apportion 6 3 112 [.int mq, .int (nI k), .int (nI j), .ref (na t)] ([] ++ nP na N) (fun (_ : Unit) => True) (fun (_ : Unit) => [] ++ nP na (upN N t (shN mq k j))) := by
  refine zV.mk RX6 (by decide +kernel) rfl (Nat.le_of_ble_eq_true rfl) ?_
  intro p e s m below meth c A ls args Q hQ hx hb hF hB hl
  replace hl : lv_has ls 6 [(0, .int mq), (1, .int (nI k)), (2, .int (nI j)), (3, .ref (na t))] := hl
  refine lv_iload_n hx hb dX6_apportion_0 rfl (lv_at hl 0 rfl) ?_
  refine zspans_get hF hB dX6_apportion_1 ?_
  refine lv_iconst (v := 2) hx hb dX6_apportion_4 (by decide) ?_
  refine lv_iload_n hx hb dX6_apportion_5 rfl (lv_at hl 1 rfl) ?_
  refine lv_imul hx hb dX6_apportion_6 ?_
  refine ztopi (y := nI (2 * k)) (pk_mul 2 k) ?_
  refine zspans_at hF hB (2 * k) (rfl) (by omega) dX6_apportion_7 ?_
  refine lv_imul hx hb dX6_apportion_8 ?_
  refine ztopi (y := (mq * nI (siW k false))) (by rw [(sp_k k hk).1]) ?_
  refine lv_istore (lv' := [(4, .int (mq * nI (siW k false))), (0, .int mq), (1, .int (nI k)), (2, .int (nI j)), (3, .ref (na t))]) hx hb dX6_apportion_9 hl (by decide) rfl ?_
  clear hl
  clear ls
  intro ls hl
  refine lv_iload_n hx hb dX6_apportion_11 rfl (lv_at hl 1 rfl) ?_
  refine zspans_get hF hB dX6_apportion_12 ?_
  refine lv_iconst (v := 2) hx hb dX6_apportion_15 (by decide) ?_
  refine lv_iload_n hx hb dX6_apportion_16 rfl (lv_at hl 2 rfl) ?_
  refine lv_imul hx hb dX6_apportion_17 ?_
  refine ztopi (y := nI (2 * k)) (pk_mul 2 k) ?_
  refine lv_iconst (v := 1) hx hb dX6_apportion_18 (by decide) ?_
  refine lv_iadd hx hb dX6_apportion_19 ?_
  refine ztopi (y := nI ((2 * k) + 1)) (nI_add (2 * k) 1) ?_
  refine zspans_at hF hB ((2 * k) + 1) (rfl) (by omega) dX6_apportion_20 ?_
  refine lv_imul hx hb dX6_apportion_21 ?_
  refine ztopi (y := (mq * nI (siW k true))) (by rw [(sp_k k hk).2]) ?_
  refine lv_istore (lv' := [(5, .int (mq * nI (siW k true))), (4, .int (mq * nI (siW k false))), (0, .int mq), (1, .int (nI k)), (2, .int (nI j)), (3, .ref (na t))]) hx hb dX6_apportion_22 hl (by decide) rfl ?_
  clear hl
  clear ls
  intro ls hl
  refine lv_iload_n hx hb dX6_apportion_24 rfl (lv_at hl 4 rfl) ?_
  refine lv_iconst (v := 5) hx hb dX6_apportion_25 (by decide) ?_
  refine lv_icmp_ne (tgt := 45) hx hb dX6_apportion_26 (by decide) (fun h26 => ?_) (fun h26 => ?_)
  · skip
    refine lv_iload_n hx hb dX6_apportion_45 rfl (lv_at hl 4 rfl) ?_
    refine lv_iconst (v := 3) hx hb dX6_apportion_46 (by decide) ?_
    refine lv_icmp_ne (tgt := 68) hx hb dX6_apportion_47 (by decide) (fun h47 => ?_) (fun h47 => ?_)
    · skip
      have hj9 : siW j true = 1 := by
        have g5 : j ≠ 5 := fun e8 => h26 (by rw [e8]; rfl)
        have g3 : j ≠ 3 := fun e8 => h47 (by rw [e8]; rfl)
        rcases (show j = 2 ∨ j = 4 by omega) with e8 | e8 <;> rw [e8] <;> rfl
      refine lv_aload_n hx hb dX6_apportion_68 rfl (lv_at hl 5 rfl) ?_
      refine lv_iconst (v := 3) hx hb dX6_apportion_69 (by decide) ?_
      refine lv_iload hx hb dX6_apportion_70 (lv_at hl 0 rfl) ?_
      refine lv_imul hx hb dX6_apportion_72 ?_
      refine lv_i2l (v := ((3 : Int32) * (mq * nI (siW k true))).toInt64) hx hb dX6_apportion_73 rfl ?_
      refine ztopl (y := (3 * (mq.toInt64 * (nI (siW k true)).toInt64))) (i64_wmul3 hmq (siW_b3 k true)) ?_
      refine lv_iload hx hb dX6_apportion_74 (lv_at hl 1 rfl) ?_
      refine lv_i2l (v := (mq * nI (siW k false)).toInt64) hx hb dX6_apportion_76 rfl ?_
      refine ztopl (y := (mq.toInt64 * (nI (siW k false)).toInt64)) (i64_wmul hmq (siW_b3 k false)) ?_
      refine lv_lconst (v := 0) hx hb dX6_apportion_77 (by decide) ?_
      refine lv_lconst (v := 0) hx hb dX6_apportion_78 (by decide) ?_
      refine zldc2 (v := (3 : Int64)) ww_37_13 hF dX6_apportion_79 ?_
      refine zVv zm_X6_28 hF hB (c_X1_become l D ka kb (na t) (N t) (3 * (mq.toInt64 * (nI (siW k true)).toInt64)) (mq.toInt64 * (nI (siW k false)).toInt64) (0 : Int64) (0 : Int64) (3 : Int64) ) [0 + t] (zsel_num rfl (ht)) (va_nd_1 _) [na t] (fun _ => rfl) rfl (0 + t) 1 rfl (nP_atn rfl (ht)) rfl ⟨Nat.le_of_ble_eq_true rfl, Nat.le_of_ble_eq_true rfl⟩ rfl hl.1 (Nat.le_of_ble_eq_true rfl) ⟨Nat.le_refl _, Nat.le_refl _⟩ dX6_apportion_82 ?_
      clear hB
      try clear locs
      try clear H
      intro u1 H locs hp hB
      replace hB : zB D A s ([] ++ nP na (upN N t ((3 * (mq.toInt64 * (nI (siW k true)).toInt64)), (mq.toInt64 * (nI (siW k false)).toInt64), (0 : Int64), (0 : Int64), (3 : Int64)))) H locs := zB_num (X := ((3 * (mq.toInt64 * (nI (siW k true)).toInt64)), (mq.toInt64 * (nI (siW k false)).toInt64), (0 : Int64), (0 : Int64), (3 : Int64))) hB rfl (ht)
      refine lv_aload_n hx hb dX6_apportion_85 rfl (lv_at hl 5 rfl) ?_
      refine zVv zm_X6_52 hF hB (c_X1_shorten l D ka kb (na t) ((upN N t ((3 * (mq.toInt64 * (nI (siW k true)).toInt64)), (mq.toInt64 * (nI (siW k false)).toInt64), (0 : Int64), (0 : Int64), (3 : Int64))) t) (by rw [upN_eq]; exact (show 0 < (3 : Int64).toInt by decide))) [0 + t] (zsel_num rfl (ht)) (va_nd_1 _) [na t] (fun _ => rfl) rfl (0 + t) 1 rfl (nP_atn rfl (ht)) rfl ⟨Nat.le_of_ble_eq_true rfl, Nat.le_of_ble_eq_true rfl⟩ rfl hl.1 (Nat.le_of_ble_eq_true rfl) ⟨Nat.le_refl _, Nat.le_refl _⟩ dX6_apportion_86 ?_
      clear hB
      try clear locs
      try clear H
      intro u2 H locs hp hB
      replace hB : zB D A s ([] ++ nP na (upN (upN N t ((3 * (mq.toInt64 * (nI (siW k true)).toInt64)), (mq.toInt64 * (nI (siW k false)).toInt64), (0 : Int64), (0 : Int64), (3 : Int64))) t (lowN ((upN N t ((3 * (mq.toInt64 * (nI (siW k true)).toInt64)), (mq.toInt64 * (nI (siW k false)).toInt64), (0 : Int64), (0 : Int64), (3 : Int64))) t).1 ((upN N t ((3 * (mq.toInt64 * (nI (siW k true)).toInt64)), (mq.toInt64 * (nI (siW k false)).toInt64), (0 : Int64), (0 : Int64), (3 : Int64))) t).2.1 ((upN N t ((3 * (mq.toInt64 * (nI (siW k true)).toInt64)), (mq.toInt64 * (nI (siW k false)).toInt64), (0 : Int64), (0 : Int64), (3 : Int64))) t).2.2.1 ((upN N t ((3 * (mq.toInt64 * (nI (siW k true)).toInt64)), (mq.toInt64 * (nI (siW k false)).toInt64), (0 : Int64), (0 : Int64), (3 : Int64))) t).2.2.2.1 ((upN N t ((3 * (mq.toInt64 * (nI (siW k true)).toInt64)), (mq.toInt64 * (nI (siW k false)).toInt64), (0 : Int64), (0 : Int64), (3 : Int64))) t).2.2.2.2))) H locs := zB_num (X := (lowN ((upN N t ((3 * (mq.toInt64 * (nI (siW k true)).toInt64)), (mq.toInt64 * (nI (siW k false)).toInt64), (0 : Int64), (0 : Int64), (3 : Int64))) t).1 ((upN N t ((3 * (mq.toInt64 * (nI (siW k true)).toInt64)), (mq.toInt64 * (nI (siW k false)).toInt64), (0 : Int64), (0 : Int64), (3 : Int64))) t).2.1 ((upN N t ((3 * (mq.toInt64 * (nI (siW k true)).toInt64)), (mq.toInt64 * (nI (siW k false)).toInt64), (0 : Int64), (0 : Int64), (3 : Int64))) t).2.2.1 ((upN N t ((3 * (mq.toInt64 * (nI (siW k true)).toInt64)), (mq.toInt64 * (nI (siW k false)).toInt64), (0 : Int64), (0 : Int64), (3 : Int64))) t).2.2.2.1 ((upN N t ((3 * (mq.toInt64 * (nI (siW k true)).toInt64)), (mq.toInt64 * (nI (siW k false)).toInt64), (0 : Int64), (0 : Int64), (3 : Int64))) t).2.2.2.2)) hB rfl (ht)
      exact zretv hF hB () (trivial) (by rw [upN_up, upN_eq, shN, if_pos hj9] <;> rfl) dX6_apportion_89 hQ
    · skip
      refine lv_aload_n hx hb dX6_apportion_50 rfl (lv_at hl 5 rfl) ?_
      refine lv_iload hx hb dX6_apportion_51 (lv_at hl 1 rfl) ?_
      refine lv_i2l (v := (mq * nI (siW k false)).toInt64) hx hb dX6_apportion_53 rfl ?_
      refine ztopl (y := (mq.toInt64 * (nI (siW k false)).toInt64)) (i64_wmul hmq (siW_b3 k false)) ?_
      refine lv_iload hx hb dX6_apportion_54 (lv_at hl 0 rfl) ?_
      refine lv_i2l (v := (mq * nI (siW k true)).toInt64) hx hb dX6_apportion_56 rfl ?_
      refine ztopl (y := (mq.toInt64 * (nI (siW k true)).toInt64)) (i64_wmul hmq (siW_b3 k true)) ?_
      refine lv_lconst (v := 0) hx hb dX6_apportion_57 (by decide) ?_
      refine lv_lconst (v := 0) hx hb dX6_apportion_58 (by decide) ?_
      refine zldc2 (v := (2 : Int64)) ww_37_12 hF dX6_apportion_59 ?_
      refine zVv zm_X6_28 hF hB (c_X1_become l D ka kb (na t) (N t) (mq.toInt64 * (nI (siW k false)).toInt64) (mq.toInt64 * (nI (siW k true)).toInt64) (0 : Int64) (0 : Int64) (2 : Int64) ) [0 + t] (zsel_num rfl (ht)) (va_nd_1 _) [na t] (fun _ => rfl) rfl (0 + t) 1 rfl (nP_atn rfl (ht)) rfl ⟨Nat.le_of_ble_eq_true rfl, Nat.le_of_ble_eq_true rfl⟩ rfl hl.1 (Nat.le_of_ble_eq_true rfl) ⟨Nat.le_refl _, Nat.le_refl _⟩ dX6_apportion_62 ?_
      clear hB
      try clear locs
      try clear H
      intro u3 H locs hp hB
      replace hB : zB D A s ([] ++ nP na (upN N t ((mq.toInt64 * (nI (siW k false)).toInt64), (mq.toInt64 * (nI (siW k true)).toInt64), (0 : Int64), (0 : Int64), (2 : Int64)))) H locs := zB_num (X := ((mq.toInt64 * (nI (siW k false)).toInt64), (mq.toInt64 * (nI (siW k true)).toInt64), (0 : Int64), (0 : Int64), (2 : Int64))) hB rfl (ht)
      refine lv_goto (tgt := 85) hx hb dX6_apportion_65 (by decide) ?_
      refine lv_aload_n hx hb dX6_apportion_85 rfl (lv_at hl 5 rfl) ?_
      refine zVv zm_X6_52 hF hB (c_X1_shorten l D ka kb (na t) ((upN N t ((mq.toInt64 * (nI (siW k false)).toInt64), (mq.toInt64 * (nI (siW k true)).toInt64), (0 : Int64), (0 : Int64), (2 : Int64))) t) (by rw [upN_eq]; exact (show 0 < (2 : Int64).toInt by decide))) [0 + t] (zsel_num rfl (ht)) (va_nd_1 _) [na t] (fun _ => rfl) rfl (0 + t) 1 rfl (nP_atn rfl (ht)) rfl ⟨Nat.le_of_ble_eq_true rfl, Nat.le_of_ble_eq_true rfl⟩ rfl hl.1 (Nat.le_of_ble_eq_true rfl) ⟨Nat.le_refl _, Nat.le_refl _⟩ dX6_apportion_86 ?_
      clear hB
      try clear locs
      try clear H
      intro u4 H locs hp hB
      replace hB : zB D A s ([] ++ nP na (upN (upN N t ((mq.toInt64 * (nI (siW k false)).toInt64), (mq.toInt64 * (nI (siW k true)).toInt64), (0 : Int64), (0 : Int64), (2 : Int64))) t (lowN ((upN N t ((mq.toInt64 * (nI (siW k false)).toInt64), (mq.toInt64 * (nI (siW k true)).toInt64), (0 : Int64), (0 : Int64), (2 : Int64))) t).1 ((upN N t ((mq.toInt64 * (nI (siW k false)).toInt64), (mq.toInt64 * (nI (siW k true)).toInt64), (0 : Int64), (0 : Int64), (2 : Int64))) t).2.1 ((upN N t ((mq.toInt64 * (nI (siW k false)).toInt64), (mq.toInt64 * (nI (siW k true)).toInt64), (0 : Int64), (0 : Int64), (2 : Int64))) t).2.2.1 ((upN N t ((mq.toInt64 * (nI (siW k false)).toInt64), (mq.toInt64 * (nI (siW k true)).toInt64), (0 : Int64), (0 : Int64), (2 : Int64))) t).2.2.2.1 ((upN N t ((mq.toInt64 * (nI (siW k false)).toInt64), (mq.toInt64 * (nI (siW k true)).toInt64), (0 : Int64), (0 : Int64), (2 : Int64))) t).2.2.2.2))) H locs := zB_num (X := (lowN ((upN N t ((mq.toInt64 * (nI (siW k false)).toInt64), (mq.toInt64 * (nI (siW k true)).toInt64), (0 : Int64), (0 : Int64), (2 : Int64))) t).1 ((upN N t ((mq.toInt64 * (nI (siW k false)).toInt64), (mq.toInt64 * (nI (siW k true)).toInt64), (0 : Int64), (0 : Int64), (2 : Int64))) t).2.1 ((upN N t ((mq.toInt64 * (nI (siW k false)).toInt64), (mq.toInt64 * (nI (siW k true)).toInt64), (0 : Int64), (0 : Int64), (2 : Int64))) t).2.2.1 ((upN N t ((mq.toInt64 * (nI (siW k false)).toInt64), (mq.toInt64 * (nI (siW k true)).toInt64), (0 : Int64), (0 : Int64), (2 : Int64))) t).2.2.2.1 ((upN N t ((mq.toInt64 * (nI (siW k false)).toInt64), (mq.toInt64 * (nI (siW k true)).toInt64), (0 : Int64), (0 : Int64), (2 : Int64))) t).2.2.2.2)) hB rfl (ht)
      have hj5 : j = 3 := (nI_eq (b := 3) (by omega) (by decide)).mp h47
      exact zretv hF hB () (trivial) (by rw [upN_up, upN_eq, shN, hj5, if_neg (show ¬ siW 3 true = 1 by decide)] <;> rfl) dX6_apportion_89 hQ
  · skip
    refine lv_aload_n hx hb dX6_apportion_29 rfl (lv_at hl 5 rfl) ?_
    refine lv_iload hx hb dX6_apportion_30 (lv_at hl 1 rfl) ?_
    refine lv_i2l (v := (mq * nI (siW k false)).toInt64) hx hb dX6_apportion_32 rfl ?_
    refine ztopl (y := (mq.toInt64 * (nI (siW k false)).toInt64)) (i64_wmul hmq (siW_b3 k false)) ?_
    refine lv_iload hx hb dX6_apportion_33 (lv_at hl 0 rfl) ?_
    refine lv_i2l (v := (mq * nI (siW k true)).toInt64) hx hb dX6_apportion_35 rfl ?_
    refine ztopl (y := (mq.toInt64 * (nI (siW k true)).toInt64)) (i64_wmul hmq (siW_b3 k true)) ?_
    refine lv_lconst (v := 0) hx hb dX6_apportion_36 (by decide) ?_
    refine lv_lconst (v := 0) hx hb dX6_apportion_37 (by decide) ?_
    refine lv_lconst (v := 1) hx hb dX6_apportion_38 (by decide) ?_
    refine zVv zm_X6_28 hF hB (c_X1_become l D ka kb (na t) (N t) (mq.toInt64 * (nI (siW k false)).toInt64) (mq.toInt64 * (nI (siW k true)).toInt64) (0 : Int64) (0 : Int64) (1 : Int64) ) [0 + t] (zsel_num rfl (ht)) (va_nd_1 _) [na t] (fun _ => rfl) rfl (0 + t) 1 rfl (nP_atn rfl (ht)) rfl ⟨Nat.le_of_ble_eq_true rfl, Nat.le_of_ble_eq_true rfl⟩ rfl hl.1 (Nat.le_of_ble_eq_true rfl) ⟨Nat.le_refl _, Nat.le_refl _⟩ dX6_apportion_39 ?_
    clear hB
    try clear locs
    try clear H
    intro u5 H locs hp hB
    replace hB : zB D A s ([] ++ nP na (upN N t ((mq.toInt64 * (nI (siW k false)).toInt64), (mq.toInt64 * (nI (siW k true)).toInt64), (0 : Int64), (0 : Int64), (1 : Int64)))) H locs := zB_num (X := ((mq.toInt64 * (nI (siW k false)).toInt64), (mq.toInt64 * (nI (siW k true)).toInt64), (0 : Int64), (0 : Int64), (1 : Int64))) hB rfl (ht)
    refine lv_goto (tgt := 85) hx hb dX6_apportion_42 (by decide) ?_
    refine lv_aload_n hx hb dX6_apportion_85 rfl (lv_at hl 5 rfl) ?_
    refine zVv zm_X6_52 hF hB (c_X1_shorten l D ka kb (na t) ((upN N t ((mq.toInt64 * (nI (siW k false)).toInt64), (mq.toInt64 * (nI (siW k true)).toInt64), (0 : Int64), (0 : Int64), (1 : Int64))) t) (by rw [upN_eq]; exact (show 0 < (1 : Int64).toInt by decide))) [0 + t] (zsel_num rfl (ht)) (va_nd_1 _) [na t] (fun _ => rfl) rfl (0 + t) 1 rfl (nP_atn rfl (ht)) rfl ⟨Nat.le_of_ble_eq_true rfl, Nat.le_of_ble_eq_true rfl⟩ rfl hl.1 (Nat.le_of_ble_eq_true rfl) ⟨Nat.le_refl _, Nat.le_refl _⟩ dX6_apportion_86 ?_
    clear hB
    try clear locs
    try clear H
    intro u6 H locs hp hB
    replace hB : zB D A s ([] ++ nP na (upN (upN N t ((mq.toInt64 * (nI (siW k false)).toInt64), (mq.toInt64 * (nI (siW k true)).toInt64), (0 : Int64), (0 : Int64), (1 : Int64))) t (lowN ((upN N t ((mq.toInt64 * (nI (siW k false)).toInt64), (mq.toInt64 * (nI (siW k true)).toInt64), (0 : Int64), (0 : Int64), (1 : Int64))) t).1 ((upN N t ((mq.toInt64 * (nI (siW k false)).toInt64), (mq.toInt64 * (nI (siW k true)).toInt64), (0 : Int64), (0 : Int64), (1 : Int64))) t).2.1 ((upN N t ((mq.toInt64 * (nI (siW k false)).toInt64), (mq.toInt64 * (nI (siW k true)).toInt64), (0 : Int64), (0 : Int64), (1 : Int64))) t).2.2.1 ((upN N t ((mq.toInt64 * (nI (siW k false)).toInt64), (mq.toInt64 * (nI (siW k true)).toInt64), (0 : Int64), (0 : Int64), (1 : Int64))) t).2.2.2.1 ((upN N t ((mq.toInt64 * (nI (siW k false)).toInt64), (mq.toInt64 * (nI (siW k true)).toInt64), (0 : Int64), (0 : Int64), (1 : Int64))) t).2.2.2.2))) H locs := zB_num (X := (lowN ((upN N t ((mq.toInt64 * (nI (siW k false)).toInt64), (mq.toInt64 * (nI (siW k true)).toInt64), (0 : Int64), (0 : Int64), (1 : Int64))) t).1 ((upN N t ((mq.toInt64 * (nI (siW k false)).toInt64), (mq.toInt64 * (nI (siW k true)).toInt64), (0 : Int64), (0 : Int64), (1 : Int64))) t).2.1 ((upN N t ((mq.toInt64 * (nI (siW k false)).toInt64), (mq.toInt64 * (nI (siW k true)).toInt64), (0 : Int64), (0 : Int64), (1 : Int64))) t).2.2.1 ((upN N t ((mq.toInt64 * (nI (siW k false)).toInt64), (mq.toInt64 * (nI (siW k true)).toInt64), (0 : Int64), (0 : Int64), (1 : Int64))) t).2.2.2.1 ((upN N t ((mq.toInt64 * (nI (siW k false)).toInt64), (mq.toInt64 * (nI (siW k true)).toInt64), (0 : Int64), (0 : Int64), (1 : Int64))) t).2.2.2.2)) hB rfl (ht)
    have hj5 : j = 5 := (nI_eq (b := 5) (by omega) (by decide)).mp h26
    exact zretv hF hB () (trivial) (by rw [upN_up, upN_eq, shN, hj5, if_neg (show ¬ siW 5 true = 1 by decide)] <;> rfl) dX6_apportion_89 hQ

set_option maxHeartbeats 4000000 in
set_option maxRecDepth 100000 in
theorem c_X6_share (l : Launch) (D : va_G) (ka : Nat → ClassId) (kb : Nat → Nat) (bd : Nat → Nat) (dn : Int32) (up9 : Int32) (na : Nat → Nat) (N : Nat → N5) (m9 : Int32) (a : Nat) (mq : Int32) (ha : a < 12) (hmq : 0 ≤ mq.toInt ∧ mq.toInt ≤ 99) : zI l D ka kb yX6_share cX6_share 6 .boolean 4 137 [.ref (bd 5), .int m9, .int (nI a), .int mq] ([((bd 5), .inr (6, [.int dn, .int up9, .ref (na 39), .ref (na 40)]))] ++ nP na N) (fun (r : Int32) (_ : Unit) => r = bI (shO m9 a)) (fun (_ : Unit) => [((bd 5), .inr (6, [.int (shD m9 a dn), .int (shU m9 a up9), .ref (na 39), .ref (na 40)]))] ++ nP na (shP m9 a mq N)) := by
  refine zI.mk RX6 (by decide +kernel) rfl (Nat.le_of_ble_eq_true rfl) ?_
  intro p e s m below meth c A ls args Q hQ hx hb hF hB hl
  replace hl : lv_has ls 6 [(0, .ref (bd 5)), (1, .int m9), (2, .int (nI a)), (3, .int mq)] := hl
  have f1 := faN_b (m := m9) (a := a) (up := true)
  have f2 := faN_b (m := m9) (a := a) (up := false)
  refine lv_iload_n hx hb dX6_share_0 rfl (lv_at hl 1 rfl) ?_
  refine lv_iload_n hx hb dX6_share_1 rfl (lv_at hl 2 rfl) ?_
  refine lv_ishr hx hb dX6_share_2 ?_
  refine lv_iconst (v := 1) hx hb dX6_share_3 (by decide) ?_
  refine lv_iand hx hb dX6_share_4 ?_
  refine ztopi (y := lgX m9 a) (rfl) ?_
  refine lv_if_eq (tgt := 45) hx hb dX6_share_5 (by decide) (fun h5 => ?_) (fun h5 => ?_)
  · skip
    refine lv_iload_n hx hb dX6_share_45 rfl (lv_at hl 1 rfl) ?_
    refine lv_iload_n hx hb dX6_share_46 rfl (lv_at hl 2 rfl) ?_
    refine lv_bipush (v := 11) hx hb dX6_share_47 (by decide) ?_
    refine zSi zm_X6_32 hF hB (c_X6_far l D ka kb m9 a false (ha)) [] rfl (by decide) [] (fun _ => rfl) rfl rfl ⟨Nat.le_of_ble_eq_true rfl, Nat.le_of_ble_eq_true rfl⟩ rfl hl.1 (Nat.le_of_ble_eq_true rfl) ⟨Nat.le_refl _, Nat.le_refl _⟩ dX6_share_49 ?_
    clear hB
    try clear locs
    try clear H
    intro r1 u1 H locs hp hB
    obtain rfl : r1 = nI (faN m9 a false 12) := hp
    replace hB : zB D A s ([((bd 5), .inr (6, [.int dn, .int up9, .ref (na 39), .ref (na 40)]))] ++ nP na N) H locs := hB
    refine lv_istore (lv' := [(4, .int (nI (faN m9 a false 12))), (0, .ref (bd 5)), (1, .int m9), (2, .int (nI a)), (3, .int mq)]) hx hb dX6_share_52 hl (by decide) rfl ?_
    clear hl
    clear ls
    intro ls hl
    refine lv_iload_n hx hb dX6_share_54 rfl (lv_at hl 2 rfl) ?_
    refine lv_iload_n hx hb dX6_share_55 rfl (lv_at hl 3 rfl) ?_
    refine lv_iconst (v := 1) hx hb dX6_share_56 (by decide) ?_
    refine zSi zm_X6_32 hF hB (c_X6_far l D ka kb m9 a true (ha)) [] rfl (by decide) [] (fun _ => rfl) rfl rfl ⟨Nat.le_of_ble_eq_true rfl, Nat.le_of_ble_eq_true rfl⟩ rfl hl.1 (Nat.le_of_ble_eq_true rfl) ⟨Nat.le_refl _, Nat.le_refl _⟩ dX6_share_57 ?_
    clear hB
    try clear locs
    try clear H
    intro r2 u2 H locs hp hB
    obtain rfl : r2 = nI (faN m9 a true 12) := hp
    replace hB : zB D A s ([((bd 5), .inr (6, [.int dn, .int up9, .ref (na 39), .ref (na 40)]))] ++ nP na N) H locs := hB
    refine lv_istore (lv' := [(5, .int (nI (faN m9 a true 12))), (4, .int (nI (faN m9 a false 12))), (0, .ref (bd 5)), (1, .int m9), (2, .int (nI a)), (3, .int mq)]) hx hb dX6_share_60 hl (by decide) rfl ?_
    clear hl
    clear ls
    intro ls hl
    refine lv_iload hx hb dX6_share_62 (lv_at hl 1 rfl) ?_
    refine lv_iload hx hb dX6_share_64 (lv_at hl 0 rfl) ?_
    refine lv_iadd hx hb dX6_share_66 ?_
    refine ztopi (y := nI ((faN m9 a false 12) + (faN m9 a true 12))) (nI_add (faN m9 a false 12) (faN m9 a true 12)) ?_
    refine lv_bipush (v := 6) hx hb dX6_share_67 (by decide) ?_
    refine lv_icmp_lt (tgt := 74) hx hb dX6_share_69 (by decide) (fun h69 => ?_) (fun h69 => ?_)
    · skip
      have hs : ¬ 6 ≤ faN m9 a false 12 + faN m9 a true 12 := fun e8 => absurd ((nI_leI (a := 6) (by decide) (by omega)).mpr e8) (Int32.not_le.mpr h69)
      refine lv_aload_n hx hb dX6_share_74 rfl (lv_at hl 2 rfl) ?_
      refine lv_iload_n hx hb dX6_share_75 rfl (lv_at hl 4 rfl) ?_
      refine lv_bipush (v := 12) hx hb dX6_share_76 (by decide) ?_
      refine lv_iadd hx hb dX6_share_78 ?_
      refine ztopi (y := nI (a + 12)) (nI_add a 12) ?_
      refine lv_iload hx hb dX6_share_79 (lv_at hl 1 rfl) ?_
      refine lv_isub hx hb dX6_share_81 ?_
      refine ztopi (y := nI (a + 12 - faN m9 a false 12)) (pk_sub (a := a + 12) (b := faN m9 a false 12) (by omega)) ?_
      refine lv_bipush (v := 12) hx hb dX6_share_82 (by decide) ?_
      refine lv_irem hx hb dX6_share_84 (by decide) ?_
      refine ztopi (y := nI ((a + 12 - faN m9 a false 12) % 12)) (pk_rem (d := 12) (by omega) (by decide) (by decide)) ?_
      refine zput_f zp_X6_21 hF hB 0 rfl (rfl) (rfl) (Nat.le_of_ble_eq_true rfl) dX6_share_85 ?_
      clear hB
      try clear locs
      try clear H
      intro H locs hB
      replace hB : zB D A s ([((bd 5), .inr (6, [.int (nI ((a + 12 - faN m9 a false 12) % 12)), .int up9, .ref (na 39), .ref (na 40)]))] ++ nP na N) H locs := hB
      refine lv_aload_n hx hb dX6_share_88 rfl (lv_at hl 2 rfl) ?_
      refine lv_iload_n hx hb dX6_share_89 rfl (lv_at hl 4 rfl) ?_
      refine lv_iload hx hb dX6_share_90 (lv_at hl 0 rfl) ?_
      refine lv_iadd hx hb dX6_share_92 ?_
      refine ztopi (y := nI (a + (faN m9 a true 12))) (nI_add a (faN m9 a true 12)) ?_
      refine lv_bipush (v := 12) hx hb dX6_share_93 (by decide) ?_
      refine lv_irem hx hb dX6_share_95 (by decide) ?_
      refine ztopi (y := nI ((a + faN m9 a true 12) % 12)) (pk_rem (d := 12) (by omega) (by decide) (by decide)) ?_
      refine zput_f zp_X6_25 hF hB 0 rfl (rfl) (rfl) (Nat.le_of_ble_eq_true rfl) dX6_share_96 ?_
      clear hB
      try clear locs
      try clear H
      intro H locs hB
      replace hB : zB D A s ([((bd 5), .inr (6, [.int (nI ((a + 12 - faN m9 a false 12) % 12)), .int (nI ((a + faN m9 a true 12) % 12)), .ref (na 39), .ref (na 40)]))] ++ nP na N) H locs := hB
      refine lv_iload_n hx hb dX6_share_99 rfl (lv_at hl 5 rfl) ?_
      refine lv_iload hx hb dX6_share_100 (lv_at hl 0 rfl) ?_
      refine lv_iload hx hb dX6_share_102 (lv_at hl 1 rfl) ?_
      refine lv_iload hx hb dX6_share_104 (lv_at hl 0 rfl) ?_
      refine lv_iadd hx hb dX6_share_106 ?_
      refine ztopi (y := nI ((faN m9 a false 12) + (faN m9 a true 12))) (nI_add (faN m9 a false 12) (faN m9 a true 12)) ?_
      refine lv_aload_n hx hb dX6_share_107 rfl (lv_at hl 2 rfl) ?_
      refine zget zf_X6_12 hF hB 0 rfl rfl dX6_share_108 ?_
      refine zSv zm_X6_36 hF hB (c_X6_apportion l D ka kb na N mq (faN m9 a true 12) ((faN m9 a false 12) + (faN m9 a true 12)) 39 (by decide) (by omega) (by omega) (hmq)) ([] ++ npr 1) (zsel_pool rfl rfl) (va_nd_pool rfl rfl) ([] ++ nA na) (fun _ => zad_pool rfl) (zad_pool rfl) rfl ⟨Nat.le_of_ble_eq_true rfl, Nat.le_of_ble_eq_true rfl⟩ rfl hl.1 (Nat.le_of_ble_eq_true rfl) ⟨Nat.le_refl _, Nat.le_refl _⟩ dX6_share_111 ?_
      clear hB
      try clear locs
      try clear H
      intro u3 H locs hp hB
      replace hB : zB D A s ([((bd 5), .inr (6, [.int (nI ((a + 12 - faN m9 a false 12) % 12)), .int (nI ((a + faN m9 a true 12) % 12)), .ref (na 39), .ref (na 40)]))] ++ nP na (upN N 39 (shN mq (faN m9 a true 12) ((faN m9 a false 12) + (faN m9 a true 12))))) H locs := zB_pool hB rfl rfl rfl rfl
      refine lv_iload_n hx hb dX6_share_114 rfl (lv_at hl 5 rfl) ?_
      refine lv_iload hx hb dX6_share_115 (lv_at hl 1 rfl) ?_
      refine lv_iload hx hb dX6_share_117 (lv_at hl 1 rfl) ?_
      refine lv_iload hx hb dX6_share_119 (lv_at hl 0 rfl) ?_
      refine lv_iadd hx hb dX6_share_121 ?_
      refine ztopi (y := nI ((faN m9 a false 12) + (faN m9 a true 12))) (nI_add (faN m9 a false 12) (faN m9 a true 12)) ?_
      refine lv_aload_n hx hb dX6_share_122 rfl (lv_at hl 2 rfl) ?_
      refine zget zf_X6_18 hF hB 0 rfl rfl dX6_share_123 ?_
      refine zSv zm_X6_36 hF hB (c_X6_apportion l D ka kb na (upN N 39 (shN mq (faN m9 a true 12) ((faN m9 a false 12) + (faN m9 a true 12)))) mq (faN m9 a false 12) ((faN m9 a false 12) + (faN m9 a true 12)) 40 (by decide) (by omega) (by omega) (hmq)) ([] ++ npr 1) (zsel_pool rfl rfl) (va_nd_pool rfl rfl) ([] ++ nA na) (fun _ => zad_pool rfl) (zad_pool rfl) rfl ⟨Nat.le_of_ble_eq_true rfl, Nat.le_of_ble_eq_true rfl⟩ rfl hl.1 (Nat.le_of_ble_eq_true rfl) ⟨Nat.le_refl _, Nat.le_refl _⟩ dX6_share_126 ?_
      clear hB
      try clear locs
      try clear H
      intro u4 H locs hp hB
      replace hB : zB D A s ([((bd 5), .inr (6, [.int (nI ((a + 12 - faN m9 a false 12) % 12)), .int (nI ((a + faN m9 a true 12) % 12)), .ref (na 39), .ref (na 40)]))] ++ nP na (upN (upN N 39 (shN mq (faN m9 a true 12) ((faN m9 a false 12) + (faN m9 a true 12)))) 40 (shN mq (faN m9 a false 12) ((faN m9 a false 12) + (faN m9 a true 12))))) H locs := zB_pool hB rfl rfl rfl rfl
      refine lv_iconst (v := 1) hx hb dX6_share_129 (by decide) ?_
      have hl9 : ¬ lgX m9 a = 1 := fun e8 => by rw [h5] at e8; exact absurd e8 (by decide)
      exact zreti hF hB () (by rw [shO, dB_t.mpr (Or.inr (Nat.not_le.mp hs))] <;> rfl) (by rw [shD, shU, shP, if_neg hl9, if_neg hl9, if_neg hl9, if_neg hs, if_neg hs, if_neg hs] <;> rfl) (rfl) dX6_share_130 hQ
    · skip
      have hs : 6 ≤ faN m9 a false 12 + faN m9 a true 12 := (nI_leI (a := 6) (by decide) (by omega)).mp (Int32.not_lt.mp h69)
      refine lv_iconst (v := 0) hx hb dX6_share_72 (by decide) ?_
      have hl9 : ¬ lgX m9 a = 1 := fun e8 => by rw [h5] at e8; exact absurd e8 (by decide)
      exact zreti hF hB () (by rw [shO, dB_f.mpr (fun e8 => e8.elim hl9 (fun e7 => by omega))] <;> rfl) (by rw [shD, shU, shP, if_neg hl9, if_neg hl9, if_neg hl9, if_pos hs, if_pos hs, if_pos hs] <;> rfl) (rfl) dX6_share_73 hQ
  · skip
    refine lv_aload_n hx hb dX6_share_8 rfl (lv_at hl 0 rfl) ?_
    refine lv_iload_n hx hb dX6_share_9 rfl (lv_at hl 2 rfl) ?_
    refine zput_f zp_X6_21 hF hB 0 rfl (rfl) (rfl) (Nat.le_of_ble_eq_true rfl) dX6_share_10 ?_
    clear hB
    try clear locs
    try clear H
    intro H locs hB
    replace hB : zB D A s ([((bd 5), .inr (6, [.int (nI a), .int up9, .ref (na 39), .ref (na 40)]))] ++ nP na N) H locs := hB
    refine lv_aload_n hx hb dX6_share_13 rfl (lv_at hl 0 rfl) ?_
    refine lv_iconst (v := -1) hx hb dX6_share_14 (by decide) ?_
    refine zput_f zp_X6_25 hF hB 0 rfl (rfl) (rfl) (Nat.le_of_ble_eq_true rfl) dX6_share_15 ?_
    clear hB
    try clear locs
    try clear H
    intro H locs hB
    replace hB : zB D A s ([((bd 5), .inr (6, [.int (nI a), .int (-1 : Int32), .ref (na 39), .ref (na 40)]))] ++ nP na N) H locs := hB
    refine lv_aload_n hx hb dX6_share_18 rfl (lv_at hl 0 rfl) ?_
    refine zget zf_X6_12 hF hB 0 rfl rfl dX6_share_19 ?_
    refine lv_iload_n hx hb dX6_share_22 rfl (lv_at hl 3 rfl) ?_
    refine lv_i2l (v := mq.toInt64) hx hb dX6_share_23 rfl ?_
    refine lv_lconst (v := 0) hx hb dX6_share_24 (by decide) ?_
    refine lv_lconst (v := 0) hx hb dX6_share_25 (by decide) ?_
    refine lv_lconst (v := 0) hx hb dX6_share_26 (by decide) ?_
    refine lv_lconst (v := 1) hx hb dX6_share_27 (by decide) ?_
    refine zVv zm_X6_28 hF hB (c_X1_become l D ka kb (na 39) (N 39) mq.toInt64 (0 : Int64) (0 : Int64) (0 : Int64) (1 : Int64) ) [1 + 39] (zsel_num rfl (by omega)) (va_nd_1 _) [na 39] (fun _ => rfl) rfl (1 + 39) 1 rfl (nP_atn rfl (by omega)) rfl ⟨Nat.le_of_ble_eq_true rfl, Nat.le_of_ble_eq_true rfl⟩ rfl hl.1 (Nat.le_of_ble_eq_true rfl) ⟨Nat.le_refl _, Nat.le_refl _⟩ dX6_share_28 ?_
    clear hB
    try clear locs
    try clear H
    intro u5 H locs hp hB
    replace hB : zB D A s ([((bd 5), .inr (6, [.int (nI a), .int (-1 : Int32), .ref (na 39), .ref (na 40)]))] ++ nP na (upN N 39 (mq.toInt64, (0 : Int64), (0 : Int64), (0 : Int64), (1 : Int64)))) H locs := zB_num (X := (mq.toInt64, (0 : Int64), (0 : Int64), (0 : Int64), (1 : Int64))) hB rfl (by omega)
    refine lv_aload_n hx hb dX6_share_31 rfl (lv_at hl 0 rfl) ?_
    refine zget zf_X6_18 hF hB 0 rfl rfl dX6_share_32 ?_
    refine lv_lconst (v := 0) hx hb dX6_share_35 (by decide) ?_
    refine lv_lconst (v := 0) hx hb dX6_share_36 (by decide) ?_
    refine lv_lconst (v := 0) hx hb dX6_share_37 (by decide) ?_
    refine lv_lconst (v := 0) hx hb dX6_share_38 (by decide) ?_
    refine lv_lconst (v := 1) hx hb dX6_share_39 (by decide) ?_
    refine zVv zm_X6_28 hF hB (c_X1_become l D ka kb (na 40) ((upN N 39 (mq.toInt64, (0 : Int64), (0 : Int64), (0 : Int64), (1 : Int64))) 40) (0 : Int64) (0 : Int64) (0 : Int64) (0 : Int64) (1 : Int64) ) [1 + 40] (zsel_num rfl (by omega)) (va_nd_1 _) [na 40] (fun _ => rfl) rfl (1 + 40) 1 rfl (nP_atn rfl (by omega)) rfl ⟨Nat.le_of_ble_eq_true rfl, Nat.le_of_ble_eq_true rfl⟩ rfl hl.1 (Nat.le_of_ble_eq_true rfl) ⟨Nat.le_refl _, Nat.le_refl _⟩ dX6_share_40 ?_
    clear hB
    try clear locs
    try clear H
    intro u6 H locs hp hB
    replace hB : zB D A s ([((bd 5), .inr (6, [.int (nI a), .int (-1 : Int32), .ref (na 39), .ref (na 40)]))] ++ nP na (upN (upN N 39 (mq.toInt64, (0 : Int64), (0 : Int64), (0 : Int64), (1 : Int64))) 40 ((0 : Int64), (0 : Int64), (0 : Int64), (0 : Int64), (1 : Int64)))) H locs := zB_num (X := ((0 : Int64), (0 : Int64), (0 : Int64), (0 : Int64), (1 : Int64))) hB rfl (by omega)
    refine lv_iconst (v := 1) hx hb dX6_share_43 (by decide) ?_
    have hl9 : lgX m9 a = 1 := lgX_1 h5
    exact zreti hF hB () (by rw [shO, dB_t.mpr (Or.inl hl9)] <;> rfl) (by rw [shD, shU, shP, if_pos hl9, if_pos hl9, if_pos hl9] <;> rfl) (rfl) dX6_share_44 hQ

set_option maxHeartbeats 4000000 in
set_option maxRecDepth 100000 in
theorem c_X6_told (l : Launch) (D : va_G) (ka : Nat → ClassId) (kb : Nat → Nat) (bd : Nat → Nat) (dn : Int32) (up9 : Int32) (na : Nat → Nat) (N : Nat → N5) (cc : Nat) (hcc : cc < 8) : zI l D ka kb yX6_told cX6_told 2 .int 1 21 [.ref (bd 5), .int (nI cc)] ([((bd 5), .inr (6, [.int dn, .int up9, .ref (na 39), .ref (na 40)]))] ++ nP na N) (fun (r : Int32) (_ : Unit) => r = toW dn up9 (N 39) (N 40) cc) (fun (_ : Unit) => [((bd 5), .inr (6, [.int dn, .int up9, .ref (na 39), .ref (na 40)]))] ++ nP na N) := by
  refine zI.mk RX6 (by decide +kernel) rfl (Nat.le_of_ble_eq_true rfl) ?_
  intro p e s m below meth c A ls args Q hQ hx hb hF hB hl
  replace hl : lv_has ls 2 [(0, .ref (bd 5)), (1, .int (nI cc))] := hl
  refine lv_iload_n hx hb dX6_told_0 rfl (lv_at hl 1 rfl) ?_
  rcases zsw (nI cc) 0 6 with hsw | hsw
  · skip
    refine lv_tableOut (tgt := 104) hx hb dX6_told_1 hsw (by decide) ?_
    have hk9 : cc = 7 := by rw [nI_toInt (by omega)] at hsw; omega
    refine lv_aload_n hx hb dX6_told_104 rfl (lv_at hl 0 rfl) ?_
    refine zget zf_X6_18 hF hB 0 rfl rfl dX6_told_105 ?_
    refine lv_iconst (v := 4) hx hb dX6_told_108 (by decide) ?_
    refine zVl zm_X6_40 hF hB (c_X1_item l D ka kb (na 40) (N 40) 4 (by first | assumption | omega | decide)) [1 + 40] (zsel_num rfl (by omega)) (va_nd_1 _) [na 40] (fun _ => rfl) rfl (1 + 40) 1 rfl (nP_atn rfl (by omega)) rfl ⟨Nat.le_of_ble_eq_true rfl, Nat.le_of_ble_eq_true rfl⟩ rfl hl.1 (Nat.le_of_ble_eq_true rfl) ⟨Nat.le_refl _, Nat.le_refl _⟩ dX6_told_109 ?_
    clear hB
    try clear locs
    try clear H
    intro r1 u1 H locs hp hB
    obtain rfl : r1 = cmp5 (N 40) 4 := hp
    replace hB : zB D A s ([((bd 5), .inr (6, [.int dn, .int up9, .ref (na 39), .ref (na 40)]))] ++ nP na N) H locs := (by have e9 := zB_num (X := (N 40)) hB rfl (by omega); rw [upN_id] at e9; exact e9)
    refine lv_l2i (v := (cmp5 (N 40) 4).toInt32) hx hb dX6_told_112 rfl ?_
    exact zreti hF hB () (by rw [hk9] <;> rfl) (rfl) (rfl) dX6_told_113 hQ
  · skip
    rcases (show Int32.toInt (nI cc) = 0 ∨ Int32.toInt (nI cc) = 1 ∨ Int32.toInt (nI cc) = 2 ∨ Int32.toInt (nI cc) = 3 ∨ Int32.toInt (nI cc) = 4 ∨ Int32.toInt (nI cc) = 5 ∨ Int32.toInt (nI cc) = 6 by omega) with hc9 | hc9 | hc9 | hc9 | hc9 | hc9 | hc9
    · skip
      refine lv_tableIn (tgt := 44) hx hb dX6_told_1 (by omega) (by omega) (by rw [hc9]; rfl) (by decide) ?_
      have hk9 : cc = 0 := by rw [nI_toInt (by omega)] at hc9; omega
      refine lv_aload_n hx hb dX6_told_44 rfl (lv_at hl 0 rfl) ?_
      refine zget zf_X6_21 hF hB 0 rfl rfl dX6_told_45 ?_
      exact zreti hF hB () (by rw [hk9] <;> rfl) (rfl) (rfl) dX6_told_48 hQ
    · skip
      refine lv_tableIn (tgt := 49) hx hb dX6_told_1 (by omega) (by omega) (by rw [hc9]; rfl) (by decide) ?_
      have hk9 : cc = 1 := by rw [nI_toInt (by omega)] at hc9; omega
      refine lv_aload_n hx hb dX6_told_49 rfl (lv_at hl 0 rfl) ?_
      refine zget zf_X6_12 hF hB 0 rfl rfl dX6_told_50 ?_
      refine lv_iconst (v := 0) hx hb dX6_told_53 (by decide) ?_
      refine zVl zm_X6_40 hF hB (c_X1_item l D ka kb (na 39) (N 39) 0 (by first | assumption | omega | decide)) [1 + 39] (zsel_num rfl (by omega)) (va_nd_1 _) [na 39] (fun _ => rfl) rfl (1 + 39) 1 rfl (nP_atn rfl (by omega)) rfl ⟨Nat.le_of_ble_eq_true rfl, Nat.le_of_ble_eq_true rfl⟩ rfl hl.1 (Nat.le_of_ble_eq_true rfl) ⟨Nat.le_refl _, Nat.le_refl _⟩ dX6_told_54 ?_
      clear hB
      try clear locs
      try clear H
      intro r2 u2 H locs hp hB
      obtain rfl : r2 = cmp5 (N 39) 0 := hp
      replace hB : zB D A s ([((bd 5), .inr (6, [.int dn, .int up9, .ref (na 39), .ref (na 40)]))] ++ nP na N) H locs := (by have e9 := zB_num (X := (N 39)) hB rfl (by omega); rw [upN_id] at e9; exact e9)
      refine lv_l2i (v := (cmp5 (N 39) 0).toInt32) hx hb dX6_told_57 rfl ?_
      exact zreti hF hB () (by rw [hk9] <;> rfl) (rfl) (rfl) dX6_told_58 hQ
    · skip
      refine lv_tableIn (tgt := 59) hx hb dX6_told_1 (by omega) (by omega) (by rw [hc9]; rfl) (by decide) ?_
      have hk9 : cc = 2 := by rw [nI_toInt (by omega)] at hc9; omega
      refine lv_aload_n hx hb dX6_told_59 rfl (lv_at hl 0 rfl) ?_
      refine zget zf_X6_12 hF hB 0 rfl rfl dX6_told_60 ?_
      refine lv_iconst (v := 1) hx hb dX6_told_63 (by decide) ?_
      refine zVl zm_X6_40 hF hB (c_X1_item l D ka kb (na 39) (N 39) 1 (by first | assumption | omega | decide)) [1 + 39] (zsel_num rfl (by omega)) (va_nd_1 _) [na 39] (fun _ => rfl) rfl (1 + 39) 1 rfl (nP_atn rfl (by omega)) rfl ⟨Nat.le_of_ble_eq_true rfl, Nat.le_of_ble_eq_true rfl⟩ rfl hl.1 (Nat.le_of_ble_eq_true rfl) ⟨Nat.le_refl _, Nat.le_refl _⟩ dX6_told_64 ?_
      clear hB
      try clear locs
      try clear H
      intro r3 u3 H locs hp hB
      obtain rfl : r3 = cmp5 (N 39) 1 := hp
      replace hB : zB D A s ([((bd 5), .inr (6, [.int dn, .int up9, .ref (na 39), .ref (na 40)]))] ++ nP na N) H locs := (by have e9 := zB_num (X := (N 39)) hB rfl (by omega); rw [upN_id] at e9; exact e9)
      refine lv_l2i (v := (cmp5 (N 39) 1).toInt32) hx hb dX6_told_67 rfl ?_
      exact zreti hF hB () (by rw [hk9] <;> rfl) (rfl) (rfl) dX6_told_68 hQ
    · skip
      refine lv_tableIn (tgt := 69) hx hb dX6_told_1 (by omega) (by omega) (by rw [hc9]; rfl) (by decide) ?_
      have hk9 : cc = 3 := by rw [nI_toInt (by omega)] at hc9; omega
      refine lv_aload_n hx hb dX6_told_69 rfl (lv_at hl 0 rfl) ?_
      refine zget zf_X6_12 hF hB 0 rfl rfl dX6_told_70 ?_
      refine lv_iconst (v := 4) hx hb dX6_told_73 (by decide) ?_
      refine zVl zm_X6_40 hF hB (c_X1_item l D ka kb (na 39) (N 39) 4 (by first | assumption | omega | decide)) [1 + 39] (zsel_num rfl (by omega)) (va_nd_1 _) [na 39] (fun _ => rfl) rfl (1 + 39) 1 rfl (nP_atn rfl (by omega)) rfl ⟨Nat.le_of_ble_eq_true rfl, Nat.le_of_ble_eq_true rfl⟩ rfl hl.1 (Nat.le_of_ble_eq_true rfl) ⟨Nat.le_refl _, Nat.le_refl _⟩ dX6_told_74 ?_
      clear hB
      try clear locs
      try clear H
      intro r4 u4 H locs hp hB
      obtain rfl : r4 = cmp5 (N 39) 4 := hp
      replace hB : zB D A s ([((bd 5), .inr (6, [.int dn, .int up9, .ref (na 39), .ref (na 40)]))] ++ nP na N) H locs := (by have e9 := zB_num (X := (N 39)) hB rfl (by omega); rw [upN_id] at e9; exact e9)
      refine lv_l2i (v := (cmp5 (N 39) 4).toInt32) hx hb dX6_told_77 rfl ?_
      exact zreti hF hB () (by rw [hk9] <;> rfl) (rfl) (rfl) dX6_told_78 hQ
    · skip
      refine lv_tableIn (tgt := 79) hx hb dX6_told_1 (by omega) (by omega) (by rw [hc9]; rfl) (by decide) ?_
      have hk9 : cc = 4 := by rw [nI_toInt (by omega)] at hc9; omega
      refine lv_aload_n hx hb dX6_told_79 rfl (lv_at hl 0 rfl) ?_
      refine zget zf_X6_25 hF hB 0 rfl rfl dX6_told_80 ?_
      exact zreti hF hB () (by rw [hk9] <;> rfl) (rfl) (rfl) dX6_told_83 hQ
    · skip
      refine lv_tableIn (tgt := 84) hx hb dX6_told_1 (by omega) (by omega) (by rw [hc9]; rfl) (by decide) ?_
      have hk9 : cc = 5 := by rw [nI_toInt (by omega)] at hc9; omega
      refine lv_aload_n hx hb dX6_told_84 rfl (lv_at hl 0 rfl) ?_
      refine zget zf_X6_18 hF hB 0 rfl rfl dX6_told_85 ?_
      refine lv_iconst (v := 0) hx hb dX6_told_88 (by decide) ?_
      refine zVl zm_X6_40 hF hB (c_X1_item l D ka kb (na 40) (N 40) 0 (by first | assumption | omega | decide)) [1 + 40] (zsel_num rfl (by omega)) (va_nd_1 _) [na 40] (fun _ => rfl) rfl (1 + 40) 1 rfl (nP_atn rfl (by omega)) rfl ⟨Nat.le_of_ble_eq_true rfl, Nat.le_of_ble_eq_true rfl⟩ rfl hl.1 (Nat.le_of_ble_eq_true rfl) ⟨Nat.le_refl _, Nat.le_refl _⟩ dX6_told_89 ?_
      clear hB
      try clear locs
      try clear H
      intro r5 u5 H locs hp hB
      obtain rfl : r5 = cmp5 (N 40) 0 := hp
      replace hB : zB D A s ([((bd 5), .inr (6, [.int dn, .int up9, .ref (na 39), .ref (na 40)]))] ++ nP na N) H locs := (by have e9 := zB_num (X := (N 40)) hB rfl (by omega); rw [upN_id] at e9; exact e9)
      refine lv_l2i (v := (cmp5 (N 40) 0).toInt32) hx hb dX6_told_92 rfl ?_
      exact zreti hF hB () (by rw [hk9] <;> rfl) (rfl) (rfl) dX6_told_93 hQ
    · skip
      refine lv_tableIn (tgt := 94) hx hb dX6_told_1 (by omega) (by omega) (by rw [hc9]; rfl) (by decide) ?_
      have hk9 : cc = 6 := by rw [nI_toInt (by omega)] at hc9; omega
      refine lv_aload_n hx hb dX6_told_94 rfl (lv_at hl 0 rfl) ?_
      refine zget zf_X6_18 hF hB 0 rfl rfl dX6_told_95 ?_
      refine lv_iconst (v := 1) hx hb dX6_told_98 (by decide) ?_
      refine zVl zm_X6_40 hF hB (c_X1_item l D ka kb (na 40) (N 40) 1 (by first | assumption | omega | decide)) [1 + 40] (zsel_num rfl (by omega)) (va_nd_1 _) [na 40] (fun _ => rfl) rfl (1 + 40) 1 rfl (nP_atn rfl (by omega)) rfl ⟨Nat.le_of_ble_eq_true rfl, Nat.le_of_ble_eq_true rfl⟩ rfl hl.1 (Nat.le_of_ble_eq_true rfl) ⟨Nat.le_refl _, Nat.le_refl _⟩ dX6_told_99 ?_
      clear hB
      try clear locs
      try clear H
      intro r6 u6 H locs hp hB
      obtain rfl : r6 = cmp5 (N 40) 1 := hp
      replace hB : zB D A s ([((bd 5), .inr (6, [.int dn, .int up9, .ref (na 39), .ref (na 40)]))] ++ nP na N) H locs := (by have e9 := zB_num (X := (N 40)) hB rfl (by omega); rw [upN_id] at e9; exact e9)
      refine lv_l2i (v := (cmp5 (N 40) 1).toInt32) hx hb dX6_told_102 rfl ?_
      exact zreti hF hB () (by rw [hk9] <;> rfl) (rfl) (rfl) dX6_told_103 hQ
