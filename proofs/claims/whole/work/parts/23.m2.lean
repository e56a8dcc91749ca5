theorem gcd_bd {x y n : Nat} (hx : x ≤ n) (hy : y ≤ n) : Nat.gcd x y ≤ n := by
  rcases Nat.eq_zero_or_pos x with h | h
  · rw [h, Nat.gcd_zero_left]; exact hy
  · exact Nat.le_trans (Nat.gcd_le_left y h) hx
noncomputable def zeroN (X : N5) : Bool := dB (X.1 = 0 ∧ X.2.1 = 0 ∧ X.2.2.1 = 0 ∧ X.2.2.2.1 = 0)
set_option maxHeartbeats 4000000 in
set_option maxRecDepth 100000 in
theorem c_X8_three (l : Launch) (D : va_G) (ka : Nat → ClassId) (kb : Nat → Nat) (q : Nat) (ad : Nat → Nat) (o : Bool) (z : mZ) (x : Int64) (y : Int64)  : zL l D ka kb yX8_three cX8_three 5 1 27 [.ref q, .long x, .long y] ([(q, .inr (8, mO ad o z))]) (fun (r : Int64) (_ : Unit) => r = thV x y) (fun (_ : Unit) => [(q, .inr (8, mO ad (o || thO x y) z))]) := by
  refine zL.mk RX8 (by decide +kernel) rfl (Nat.le_of_ble_eq_true rfl) ?_
  intro p e s m below meth c A ls args Q hQ hx hb hF hB hl
  replace hl : lv_has ls 5 [(0, .ref q), (1, .long x), (3, .long y)] := hl
  refine lv_aload_n hx hb dX8_three_0 rfl (lv_at hl 0 rfl) ?_
  refine lv_aload_n hx hb dX8_three_1 rfl (lv_at hl 0 rfl) ?_
  refine zldc2 (v := (3 : Int64)) ww_9_19 hF dX8_three_2 ?_
  refine lv_lload_n hx hb dX8_three_5 rfl (lv_at hl 1 rfl) ?_
  refine zVl zm_X8_124 hF hB (c_X8_times l D ka kb q ad o z (3 : Int64) x ) [0] rfl (by decide) [q] (fun _ => rfl) rfl 0 8 rfl rfl rfl ⟨Nat.le_of_ble_eq_true rfl, Nat.le_of_ble_eq_true rfl⟩ rfl hl.1 (Nat.le_of_ble_eq_true rfl) ⟨Nat.le_refl _, Nat.le_refl _⟩ dX8_three_6 ?_
  clear hB
  try clear locs
  try clear H
  intro r1 u1 H locs hp hB
  obtain rfl : r1 = (3 : Int64) * x := hp
  replace hB : zB D A s ([(q, .inr (8, mO ad (o || tOv (3 : Int64) x) z))]) H locs := hB
  refine lv_lload_n hx hb dX8_three_9 rfl (lv_at hl 2 rfl) ?_
  refine zVl zm_X8_124 hF hB (c_X8_times l D ka kb q ad (o || tOv (3 : Int64) x) z ((3 : Int64) * x) y ) [0] rfl (by decide) [q] (fun _ => rfl) rfl 0 8 rfl rfl rfl ⟨Nat.le_of_ble_eq_true rfl, Nat.le_of_ble_eq_true rfl⟩ rfl hl.1 (Nat.le_of_ble_eq_true rfl) ⟨Nat.le_refl _, Nat.le_refl _⟩ dX8_three_10 ?_
  clear hB
  try clear locs
  try clear H
  intro r2 u2 H locs hp hB
  obtain rfl : r2 = ((3 : Int64) * x) * y := hp
  replace hB : zB D A s ([(q, .inr (8, mO ad ((o || tOv (3 : Int64) x) || tOv ((3 : Int64) * x) y) z))]) H locs := hB
  exact zretl hF hB () (by rw [thV]) (by rw [show (o || thO x y) = ((o || tOv 3 x) || tOv (3 * x) y) from (Bool.or_assoc _ _ _).symm]) dX8_three_13 hQ

set_option maxHeartbeats 4000000 in
set_option maxRecDepth 100000 in
theorem c_X8_lays (l : Launch) (D : va_G) (ka : Nat → ClassId) (kb : Nat → Nat) (q : Nat) (ad : Nat → Nat) (o : Bool) (z : mZ) (nu : Nat → Int64) (i : Nat) (a : Int64) (b : Int64) (c9 : Int64) (e9 : Int64) (d : Int64) (hi : i < 40) (hd : 0 < d.toInt) : zV l D ka kb yX8_lays cX8_lays 14 1 30 [.ref q, .int (nI i), .long a, .long b, .long c9, .long e9, .long d] ([(q, .inr (8, mO ad o z)), ((ad 3), .inl (ka 1, 200, .inr (.inl nu)))]) (fun (_ : Unit) => True) (fun (_ : Unit) => [(q, .inr (8, mO ad o z)), ((ad 3), .inl (ka 1, 200, .inr (.inl (setN nu i (lowN a b c9 e9 d)))))]) := by
  refine zV.mk RX8 (by decide +kernel) rfl (Nat.le_of_ble_eq_true rfl) ?_
  intro p e s m below meth c A ls args Q hQ hx hb hF hB hl
  replace hl : lv_has ls 14 [(0, .ref q), (1, .int (nI i)), (2, .long a), (4, .long b), (6, .long c9), (8, .long e9), (10, .long d)] := hl
  have hg := gc_le (a := a) (b := b) (c := c9) (e := e9) hd
  have hg2 : gc a b c9 e9 d < 2 ^ 63 := by have := i64_rng d; omega
  refine lv_lload hx hb dX8_lays_0 (lv_at hl 6 rfl) ?_
  refine zSl zm_X8_113 hF hB (c_X8_below l D ka kb d ) [] rfl (by decide) [] (fun _ => rfl) rfl rfl ⟨Nat.le_of_ble_eq_true rfl, Nat.le_of_ble_eq_true rfl⟩ rfl hl.1 (Nat.le_of_ble_eq_true rfl) ⟨Nat.le_refl _, Nat.le_refl _⟩ dX8_lays_2 ?_
  clear hB
  try clear locs
  try clear H
  intro r1 u1 H locs hp hB
  obtain rfl : r1 = negI d.toInt.natAbs := hp
  replace hB : zB D A s ([(q, .inr (8, mO ad o z)), ((ad 3), .inl (ka 1, 200, .inr (.inl nu)))]) H locs := hB
  refine lv_lstore (lv' := [(12, .long (negI d.toInt.natAbs)), (0, .ref q), (1, .int (nI i)), (2, .long a), (4, .long b), (6, .long c9), (8, .long e9), (10, .long d)]) hx hb dX8_lays_5 hl (by decide) rfl ?_
  clear hl
  clear ls
  intro ls hl
  refine lv_lload hx hb dX8_lays_7 (lv_at hl 0 rfl) ?_
  refine lv_lload_n hx hb dX8_lays_9 rfl (lv_at hl 3 rfl) ?_
  refine zSl zm_X8_113 hF hB (c_X8_below l D ka kb a ) [] rfl (by decide) [] (fun _ => rfl) rfl rfl ⟨Nat.le_of_ble_eq_true rfl, Nat.le_of_ble_eq_true rfl⟩ rfl hl.1 (Nat.le_of_ble_eq_true rfl) ⟨Nat.le_refl _, Nat.le_refl _⟩ dX8_lays_10 ?_
  clear hB
  try clear locs
  try clear H
  intro r2 u2 H locs hp hB
  obtain rfl : r2 = negI a.toInt.natAbs := hp
  replace hB : zB D A s ([(q, .inr (8, mO ad o z)), ((ad 3), .inl (ka 1, 200, .inr (.inl nu)))]) H locs := hB
  refine zSl zm_X8_117 hF hB (c_X8_shared l D ka kb d.toInt.natAbs a.toInt.natAbs (natAbs_le _) (natAbs_le _)) [] rfl (by decide) [] (fun _ => rfl) rfl rfl ⟨Nat.le_of_ble_eq_true rfl, Nat.le_of_ble_eq_true rfl⟩ rfl hl.1 (Nat.le_of_ble_eq_true rfl) ⟨Nat.le_refl _, Nat.le_refl _⟩ dX8_lays_13 ?_
  clear hB
  try clear locs
  try clear H
  intro r3 u3 H locs hp hB
  obtain rfl : r3 = negI (Nat.gcd d.toInt.natAbs a.toInt.natAbs) := hp
  replace hB : zB D A s ([(q, .inr (8, mO ad o z)), ((ad 3), .inl (ka 1, 200, .inr (.inl nu)))]) H locs := hB
  refine lv_lstore (lv' := [(12, .long (negI (Nat.gcd d.toInt.natAbs a.toInt.natAbs))), (0, .ref q), (1, .int (nI i)), (2, .long a), (4, .long b), (6, .long c9), (8, .long e9), (10, .long d)]) hx hb dX8_lays_16 hl (by decide) rfl ?_
  clear hl
  clear ls
  intro ls hl
  refine lv_lload hx hb dX8_lays_18 (lv_at hl 0 rfl) ?_
  refine lv_lload hx hb dX8_lays_20 (lv_at hl 4 rfl) ?_
  refine zSl zm_X8_113 hF hB (c_X8_below l D ka kb b ) [] rfl (by decide) [] (fun _ => rfl) rfl rfl ⟨Nat.le_of_ble_eq_true rfl, Nat.le_of_ble_eq_true rfl⟩ rfl hl.1 (Nat.le_of_ble_eq_true rfl) ⟨Nat.le_refl _, Nat.le_refl _⟩ dX8_lays_22 ?_
  clear hB
  try clear locs
  try clear H
  intro r4 u4 H locs hp hB
  obtain rfl : r4 = negI b.toInt.natAbs := hp
  replace hB : zB D A s ([(q, .inr (8, mO ad o z)), ((ad 3), .inl (ka 1, 200, .inr (.inl nu)))]) H locs := hB
  refine zSl zm_X8_117 hF hB (c_X8_shared l D ka kb (Nat.gcd d.toInt.natAbs a.toInt.natAbs) b.toInt.natAbs (gcd_bd (natAbs_le _) (natAbs_le _)) (natAbs_le _)) [] rfl (by decide) [] (fun _ => rfl) rfl rfl ⟨Nat.le_of_ble_eq_true rfl, Nat.le_of_ble_eq_true rfl⟩ rfl hl.1 (Nat.le_of_ble_eq_true rfl) ⟨Nat.le_refl _, Nat.le_refl _⟩ dX8_lays_25 ?_
  clear hB
  try clear locs
  try clear H
  intro r5 u5 H locs hp hB
  obtain rfl : r5 = negI (Nat.gcd (Nat.gcd d.toInt.natAbs a.toInt.natAbs) b.toInt.natAbs) := hp
  replace hB : zB D A s ([(q, .inr (8, mO ad o z)), ((ad 3), .inl (ka 1, 200, .inr (.inl nu)))]) H locs := hB
  refine lv_lstore (lv' := [(12, .long (negI (Nat.gcd (Nat.gcd d.toInt.natAbs a.toInt.natAbs) b.toInt.natAbs))), (0, .ref q), (1, .int (nI i)), (2, .long a), (4, .long b), (6, .long c9), (8, .long e9), (10, .long d)]) hx hb dX8_lays_28 hl (by decide) rfl ?_
  clear hl
  clear ls
  intro ls hl
  refine lv_lload hx hb dX8_lays_30 (lv_at hl 0 rfl) ?_
  refine lv_lload hx hb dX8_lays_32 (lv_at hl 5 rfl) ?_
  refine zSl zm_X8_113 hF hB (c_X8_below l D ka kb c9 ) [] rfl (by decide) [] (fun _ => rfl) rfl rfl ⟨Nat.le_of_ble_eq_true rfl, Nat.le_of_ble_eq_true rfl⟩ rfl hl.1 (Nat.le_of_ble_eq_true rfl) ⟨Nat.le_refl _, Nat.le_refl _⟩ dX8_lays_34 ?_
  clear hB
  try clear locs
  try clear H
  intro r6 u6 H locs hp hB
  obtain rfl : r6 = negI c9.toInt.natAbs := hp
  replace hB : zB D A s ([(q, .inr (8, mO ad o z)), ((ad 3), .inl (ka 1, 200, .inr (.inl nu)))]) H locs := hB
  refine zSl zm_X8_117 hF hB (c_X8_shared l D ka kb (Nat.gcd (Nat.gcd d.toInt.natAbs a.toInt.natAbs) b.toInt.natAbs) c9.toInt.natAbs (gcd_bd (gcd_bd (natAbs_le _) (natAbs_le _)) (natAbs_le _)) (natAbs_le _)) [] rfl (by decide) [] (fun _ => rfl) rfl rfl ⟨Nat.le_of_ble_eq_true rfl, Nat.le_of_ble_eq_true rfl⟩ rfl hl.1 (Nat.le_of_ble_eq_true rfl) ⟨Nat.le_refl _, Nat.le_refl _⟩ dX8_lays_37 ?_
  clear hB
  try clear locs
  try clear H
  intro r7 u7 H locs hp hB
  obtain rfl : r7 = negI (Nat.gcd (Nat.gcd (Nat.gcd d.toInt.natAbs a.toInt.natAbs) b.toInt.natAbs) c9.toInt.natAbs) := hp
  replace hB : zB D A s ([(q, .inr (8, mO ad o z)), ((ad 3), .inl (ka 1, 200, .inr (.inl nu)))]) H locs := hB
  refine lv_lstore (lv' := [(12, .long (negI (Nat.gcd (Nat.gcd (Nat.gcd d.toInt.natAbs a.toInt.natAbs) b.toInt.natAbs) c9.toInt.natAbs))), (0, .ref q), (1, .int (nI i)), (2, .long a), (4, .long b), (6, .long c9), (8, .long e9), (10, .long d)]) hx hb dX8_lays_40 hl (by decide) rfl ?_
  clear hl
  clear ls
  intro ls hl
  refine lv_lload hx hb dX8_lays_42 (lv_at hl 0 rfl) ?_
  refine lv_lload hx hb dX8_lays_44 (lv_at hl 6 rfl) ?_
  refine zSl zm_X8_113 hF hB (c_X8_below l D ka kb e9 ) [] rfl (by decide) [] (fun _ => rfl) rfl rfl ⟨Nat.le_of_ble_eq_true rfl, Nat.le_of_ble_eq_true rfl⟩ rfl hl.1 (Nat.le_of_ble_eq_true rfl) ⟨Nat.le_refl _, Nat.le_refl _⟩ dX8_lays_46 ?_
  clear hB
  try clear locs
  try clear H
  intro r8 u8 H locs hp hB
  obtain rfl : r8 = negI e9.toInt.natAbs := hp
  replace hB : zB D A s ([(q, .inr (8, mO ad o z)), ((ad 3), .inl (ka 1, 200, .inr (.inl nu)))]) H locs := hB
  refine zSl zm_X8_117 hF hB (c_X8_shared l D ka kb (Nat.gcd (Nat.gcd (Nat.gcd d.toInt.natAbs a.toInt.natAbs) b.toInt.natAbs) c9.toInt.natAbs) e9.toInt.natAbs (gcd_bd (gcd_bd (gcd_bd (natAbs_le _) (natAbs_le _)) (natAbs_le _)) (natAbs_le _)) (natAbs_le _)) [] rfl (by decide) [] (fun _ => rfl) rfl rfl ⟨Nat.le_of_ble_eq_true rfl, Nat.le_of_ble_eq_true rfl⟩ rfl hl.1 (Nat.le_of_ble_eq_true rfl) ⟨Nat.le_refl _, Nat.le_refl _⟩ dX8_lays_49 ?_
  clear hB
  try clear locs
  try clear H
  intro r9 u9 H locs hp hB
  obtain rfl : r9 = negI (Nat.gcd (Nat.gcd (Nat.gcd (Nat.gcd d.toInt.natAbs a.toInt.natAbs) b.toInt.natAbs) c9.toInt.natAbs) e9.toInt.natAbs) := hp
  replace hB : zB D A s ([(q, .inr (8, mO ad o z)), ((ad 3), .inl (ka 1, 200, .inr (.inl nu)))]) H locs := hB
  refine lv_lstore (lv' := [(12, .long (negI (Nat.gcd (Nat.gcd (Nat.gcd (Nat.gcd d.toInt.natAbs a.toInt.natAbs) b.toInt.natAbs) c9.toInt.natAbs) e9.toInt.natAbs))), (0, .ref q), (1, .int (nI i)), (2, .long a), (4, .long b), (6, .long c9), (8, .long e9), (10, .long d)]) hx hb dX8_lays_52 hl (by decide) rfl ?_
  clear hl
  clear ls
  intro ls hl
  refine lv_lconst (v := 0) hx hb dX8_lays_54 (by decide) ?_
  refine lv_lload hx hb dX8_lays_55 (lv_at hl 0 rfl) ?_
  refine lv_lsub hx hb dX8_lays_57 ?_
  refine ztopl (y := lN (gc a b c9 e9 d)) (zero_negI hg2) ?_
  refine lv_lstore (lv' := [(12, .long (lN (gc a b c9 e9 d))), (0, .ref q), (1, .int (nI i)), (2, .long a), (4, .long b), (6, .long c9), (8, .long e9), (10, .long d)]) hx hb dX8_lays_58 hl (by decide) rfl ?_
  clear hl
  clear ls
  intro ls hl
  refine lv_aload_n hx hb dX8_lays_60 rfl (lv_at hl 1 rfl) ?_
  refine zget zf_X8_20 hF hB 0 rfl rfl dX8_lays_61 ?_
  refine lv_iconst (v := 5) hx hb dX8_lays_64 (by decide) ?_
  refine lv_iload_n hx hb dX8_lays_65 rfl (lv_at hl 2 rfl) ?_
  refine lv_imul hx hb dX8_lays_66 ?_
  refine ztopi (y := nI (5 * i)) (pk_mul 5 i) ?_
  refine lv_lload_n hx hb dX8_lays_67 rfl (lv_at hl 3 rfl) ?_
  refine lv_lload hx hb dX8_lays_68 (lv_at hl 0 rfl) ?_
  refine lv_ldiv hx hb dX8_lays_70 (lN_ne0 hg2 hg.1) ?_
  refine zlast hF hB 1 rfl (5 * i) (rfl) (by omega) (by decide) dX8_lays_71 ?_
  clear hB
  try clear locs
  try clear H
  intro H locs hB
  replace hB : zB D A s ([(q, .inr (8, mO ad o z)), ((ad 3), .inl (ka 1, 200, .inr (.inl (vp_updL nu (5 * i) (a / lN (gc a b c9 e9 d))))))]) H locs := hB
  refine lv_aload_n hx hb dX8_lays_72 rfl (lv_at hl 1 rfl) ?_
  refine zget zf_X8_20 hF hB 0 rfl rfl dX8_lays_73 ?_
  refine lv_iconst (v := 5) hx hb dX8_lays_76 (by decide) ?_
  refine lv_iload_n hx hb dX8_lays_77 rfl (lv_at hl 2 rfl) ?_
  refine lv_imul hx hb dX8_lays_78 ?_
  refine ztopi (y := nI (5 * i)) (pk_mul 5 i) ?_
  refine lv_iconst (v := 1) hx hb dX8_lays_79 (by decide) ?_
  refine lv_iadd hx hb dX8_lays_80 ?_
  refine ztopi (y := nI ((5 * i) + 1)) (nI_add (5 * i) 1) ?_
  refine lv_lload hx hb dX8_lays_81 (lv_at hl 4 rfl) ?_
  refine lv_lload hx hb dX8_lays_83 (lv_at hl 0 rfl) ?_
  refine lv_ldiv hx hb dX8_lays_85 (lN_ne0 hg2 hg.1) ?_
  refine zlast hF hB 1 rfl ((5 * i) + 1) (rfl) (by omega) (by decide) dX8_lays_86 ?_
  clear hB
  try clear locs
  try clear H
  intro H locs hB
  replace hB : zB D A s ([(q, .inr (8, mO ad o z)), ((ad 3), .inl (ka 1, 200, .inr (.inl (vp_updL (vp_updL nu (5 * i) (a / lN (gc a b c9 e9 d))) ((5 * i) + 1) (b / lN (gc a b c9 e9 d))))))]) H locs := hB
  refine lv_aload_n hx hb dX8_lays_87 rfl (lv_at hl 1 rfl) ?_
  refine zget zf_X8_20 hF hB 0 rfl rfl dX8_lays_88 ?_
  refine lv_iconst (v := 5) hx hb dX8_lays_91 (by decide) ?_
  refine lv_iload_n hx hb dX8_lays_92 rfl (lv_at hl 2 rfl) ?_
  refine lv_imul hx hb dX8_lays_93 ?_
  refine ztopi (y := nI (5 * i)) (pk_mul 5 i) ?_
  refine lv_iconst (v := 2) hx hb dX8_lays_94 (by decide) ?_
  refine lv_iadd hx hb dX8_lays_95 ?_
  refine ztopi (y := nI ((5 * i) + 2)) (nI_add (5 * i) 2) ?_
  refine lv_lload hx hb dX8_lays_96 (lv_at hl 5 rfl) ?_
  refine lv_lload hx hb dX8_lays_98 (lv_at hl 0 rfl) ?_
  refine lv_ldiv hx hb dX8_lays_100 (lN_ne0 hg2 hg.1) ?_
  refine zlast hF hB 1 rfl ((5 * i) + 2) (rfl) (by omega) (by decide) dX8_lays_101 ?_
  clear hB
  try clear locs
  try clear H
  intro H locs hB
  replace hB : zB D A s ([(q, .inr (8, mO ad o z)), ((ad 3), .inl (ka 1, 200, .inr (.inl (vp_updL (vp_updL (vp_updL nu (5 * i) (a / lN (gc a b c9 e9 d))) ((5 * i) + 1) (b / lN (gc a b c9 e9 d))) ((5 * i) + 2) (c9 / lN (gc a b c9 e9 d))))))]) H locs := hB
  refine lv_aload_n hx hb dX8_lays_102 rfl (lv_at hl 1 rfl) ?_
  refine zget zf_X8_20 hF hB 0 rfl rfl dX8_lays_103 ?_
  refine lv_iconst (v := 5) hx hb dX8_lays_106 (by decide) ?_
  refine lv_iload_n hx hb dX8_lays_107 rfl (lv_at hl 2 rfl) ?_
  refine lv_imul hx hb dX8_lays_108 ?_
  refine ztopi (y := nI (5 * i)) (pk_mul 5 i) ?_
  refine lv_iconst (v := 3) hx hb dX8_lays_109 (by decide) ?_
  refine lv_iadd hx hb dX8_lays_110 ?_
  refine ztopi (y := nI ((5 * i) + 3)) (nI_add (5 * i) 3) ?_
  refine lv_lload hx hb dX8_lays_111 (lv_at hl 6 rfl) ?_
  refine lv_lload hx hb dX8_lays_113 (lv_at hl 0 rfl) ?_
  refine lv_ldiv hx hb dX8_lays_115 (lN_ne0 hg2 hg.1) ?_
  refine zlast hF hB 1 rfl ((5 * i) + 3) (rfl) (by omega) (by decide) dX8_lays_116 ?_
  clear hB
  try clear locs
  try clear H
  intro H locs hB
  replace hB : zB D A s ([(q, .inr (8, mO ad o z)), ((ad 3), .inl (ka 1, 200, .inr (.inl (vp_updL (vp_updL (vp_updL (vp_updL nu (5 * i) (a / lN (gc a b c9 e9 d))) ((5 * i) + 1) (b / lN (gc a b c9 e9 d))) ((5 * i) + 2) (c9 / lN (gc a b c9 e9 d))) ((5 * i) + 3) (e9 / lN (gc a b c9 e9 d))))))]) H locs := hB
  refine lv_aload_n hx hb dX8_lays_117 rfl (lv_at hl 1 rfl) ?_
  refine zget zf_X8_20 hF hB 0 rfl rfl dX8_lays_118 ?_
  refine lv_iconst (v := 5) hx hb dX8_lays_121 (by decide) ?_
  refine lv_iload_n hx hb dX8_lays_122 rfl (lv_at hl 2 rfl) ?_
  refine lv_imul hx hb dX8_lays_123 ?_
  refine ztopi (y := nI (5 * i)) (pk_mul 5 i) ?_
  refine lv_iconst (v := 4) hx hb dX8_lays_124 (by decide) ?_
  refine lv_iadd hx hb dX8_lays_125 ?_
  refine ztopi (y := nI ((5 * i) + 4)) (nI_add (5 * i) 4) ?_
  refine lv_lload hx hb dX8_lays_126 (lv_at hl 7 rfl) ?_
  refine lv_lload hx hb dX8_lays_128 (lv_at hl 0 rfl) ?_
  refine lv_ldiv hx hb dX8_lays_130 (lN_ne0 hg2 hg.1) ?_
  refine zlast hF hB 1 rfl ((5 * i) + 4) (rfl) (by omega) (by decide) dX8_lays_131 ?_
  clear hB
  try clear locs
  try clear H
  intro H locs hB
  replace hB : zB D A s ([(q, .inr (8, mO ad o z)), ((ad 3), .inl (ka 1, 200, .inr (.inl (vp_updL (vp_updL (vp_updL (vp_updL (vp_updL nu (5 * i) (a / lN (gc a b c9 e9 d))) ((5 * i) + 1) (b / lN (gc a b c9 e9 d))) ((5 * i) + 2) (c9 / lN (gc a b c9 e9 d))) ((5 * i) + 3) (e9 / lN (gc a b c9 e9 d))) ((5 * i) + 4) (d / lN (gc a b c9 e9 d))))))]) H locs := hB
  exact zretv hF hB () (trivial) (rfl) dX8_lays_132 hQ

set_option maxHeartbeats 4000000 in
set_option maxRecDepth 100000 in
theorem c_X8_at (l : Launch) (D : va_G) (ka : Nat → ClassId) (kb : Nat → Nat) (q : Nat) (ad : Nat → Nat) (o : Bool) (z : mZ) (nu : Nat → Int64) (i : Nat) (j : Nat) (hi : i < 40) (hj : j < 5) : zL l D ka kb yX8_at cX8_at 3 0 0 [.ref q, .int (nI i), .int (nI j)] ([(q, .inr (8, mO ad o z)), ((ad 3), .inl (ka 1, 200, .inr (.inl nu)))]) (fun (r : Int64) (_ : Unit) => r = nu (5 * i + j)) (fun (_ : Unit) => [(q, .inr (8, mO ad o z)), ((ad 3), .inl (ka 1, 200, .inr (.inl nu)))]) := by
  refine zL.mk RX8 (by decide +kernel) rfl (Nat.le_of_ble_eq_true rfl) ?_
  intro p e s m below meth c A ls args Q hQ hx hb hF hB hl
  replace hl : lv_has ls 3 [(0, .ref q), (1, .int (nI i)), (2, .int (nI j))] := hl
  refine lv_aload_n hx hb dX8_at_0 rfl (lv_at hl 0 rfl) ?_
  refine zget zf_X8_20 hF hB 0 rfl rfl dX8_at_1 ?_
  refine lv_iconst (v := 5) hx hb dX8_at_4 (by decide) ?_
  refine lv_iload_n hx hb dX8_at_5 rfl (lv_at hl 1 rfl) ?_
  refine lv_imul hx hb dX8_at_6 ?_
  refine ztopi (y := nI (5 * i)) (pk_mul 5 i) ?_
  refine lv_iload_n hx hb dX8_at_7 rfl (lv_at hl 2 rfl) ?_
  refine lv_iadd hx hb dX8_at_8 ?_
  refine ztopi (y := nI ((5 * i) + j)) (nI_add (5 * i) j) ?_
  refine zlald hF hB 1 rfl ((5 * i) + j) (rfl) (by omega) (by decide) (v := (nu ((5 * i) + j))) (rfl) dX8_at_9 ?_
  exact zretl hF hB () (rfl) (rfl) dX8_at_10 hQ

set_option maxHeartbeats 4000000 in
set_option maxRecDepth 100000 in
theorem c_X8_scaledSum (l : Launch) (D : va_G) (ka : Nat → ClassId) (kb : Nat → Nat) (q : Nat) (ad : Nat → Nat) (o : Bool) (z : mZ) (nu : Nat → Int64) (i : Nat) (j : Nat) (k : Nat) (mi : Bool) (hi : i < 40) (hj : j < 40) (hk : k < 5) : zL l D ka kb yX8_scaledSum cX8_scaledSum 9 1 27 [.ref q, .int (nI i), .int (nI j), .int (nI k), .int (bI mi)] ([(q, .inr (8, mO ad o z)), ((ad 3), .inl (ka 1, 200, .inr (.inl nu)))]) (fun (r : Int64) (_ : Unit) => r = ssV mi (nu (5 * i + k)) (nu (5 * i + 4)) (nu (5 * j + k)) (nu (5 * j + 4))) (fun (_ : Unit) => [(q, .inr (8, mO ad (o || ssO mi (nu (5 * i + k)) (nu (5 * i + 4)) (nu (5 * j + k)) (nu (5 * j + 4))) z)), ((ad 3), .inl (ka 1, 200, .inr (.inl nu)))]) := by
  refine zL.mk RX8 (by decide +kernel) rfl (Nat.le_of_ble_eq_true rfl) ?_
  intro p e s m below meth c A ls args Q hQ hx hb hF hB hl
  replace hl : lv_has ls 9 [(0, .ref q), (1, .int (nI i)), (2, .int (nI j)), (3, .int (nI k)), (4, .int (bI mi))] := hl
  refine lv_aload_n hx hb dX8_scaledSum_0 rfl (lv_at hl 0 rfl) ?_
  refine lv_aload_n hx hb dX8_scaledSum_1 rfl (lv_at hl 0 rfl) ?_
  refine lv_iload_n hx hb dX8_scaledSum_2 rfl (lv_at hl 1 rfl) ?_
  refine lv_iload_n hx hb dX8_scaledSum_3 rfl (lv_at hl 3 rfl) ?_
  refine zVl zm_X8_120 hF hB (c_X8_at l D ka kb q ad o z nu i k (by omega) (by omega)) [0, 1] rfl (by decide) [q, (ad 3)] (fun _ => rfl) rfl 0 8 rfl rfl rfl ⟨Nat.le_of_ble_eq_true rfl, Nat.le_of_ble_eq_true rfl⟩ rfl hl.1 (Nat.le_of_ble_eq_true rfl) ⟨Nat.le_refl _, Nat.le_refl _⟩ dX8_scaledSum_4 ?_
  clear hB
  try clear locs
  try clear H
  intro r1 u1 H locs hp hB
  obtain rfl : r1 = nu (5 * i + k) := hp
  replace hB : zB D A s ([(q, .inr (8, mO ad o z)), ((ad 3), .inl (ka 1, 200, .inr (.inl nu)))]) H locs := hB
  refine lv_aload_n hx hb dX8_scaledSum_7 rfl (lv_at hl 0 rfl) ?_
  refine lv_iload_n hx hb dX8_scaledSum_8 rfl (lv_at hl 2 rfl) ?_
  refine lv_iconst (v := 4) hx hb dX8_scaledSum_9 (by decide) ?_
  refine zVl zm_X8_120 hF hB (c_X8_at l D ka kb q ad o z nu j 4 (by omega) (by omega)) [0, 1] rfl (by decide) [q, (ad 3)] (fun _ => rfl) rfl 0 8 rfl rfl rfl ⟨Nat.le_of_ble_eq_true rfl, Nat.le_of_ble_eq_true rfl⟩ rfl hl.1 (Nat.le_of_ble_eq_true rfl) ⟨Nat.le_refl _, Nat.le_refl _⟩ dX8_scaledSum_10 ?_
  clear hB
  try clear locs
  try clear H
  intro r2 u2 H locs hp hB
  obtain rfl : r2 = nu (5 * j + 4) := hp
  replace hB : zB D A s ([(q, .inr (8, mO ad o z)), ((ad 3), .inl (ka 1, 200, .inr (.inl nu)))]) H locs := hB
  refine zVl zm_X8_124 hF hB (c_X8_times l D ka kb q ad o z (nu (5 * i + k)) (nu (5 * j + 4)) ) [0] rfl (by decide) [q] (fun _ => rfl) rfl 0 8 rfl rfl rfl ⟨Nat.le_of_ble_eq_true rfl, Nat.le_of_ble_eq_true rfl⟩ rfl hl.1 (Nat.le_of_ble_eq_true rfl) ⟨Nat.le_refl _, Nat.le_refl _⟩ dX8_scaledSum_13 ?_
  clear hB
  try clear locs
  try clear H
  intro r3 u3 H locs hp hB
  obtain rfl : r3 = (nu (5 * i + k)) * (nu (5 * j + 4)) := hp
  replace hB : zB D A s ([(q, .inr (8, mO ad (o || tOv (nu (5 * i + k)) (nu (5 * j + 4))) z)), ((ad 3), .inl (ka 1, 200, .inr (.inl nu)))]) H locs := hB
  refine lv_lstore (lv' := [(5, .long ((nu (5 * i + k)) * (nu (5 * j + 4)))), (0, .ref q), (1, .int (nI i)), (2, .int (nI j)), (3, .int (nI k)), (4, .int (bI mi))]) hx hb dX8_scaledSum_16 hl (by decide) rfl ?_
  clear hl
  clear ls
  intro ls hl
  refine lv_aload_n hx hb dX8_scaledSum_18 rfl (lv_at hl 1 rfl) ?_
  refine lv_aload_n hx hb dX8_scaledSum_19 rfl (lv_at hl 1 rfl) ?_
  refine lv_iload_n hx hb dX8_scaledSum_20 rfl (lv_at hl 3 rfl) ?_
  refine lv_iload_n hx hb dX8_scaledSum_21 rfl (lv_at hl 4 rfl) ?_
  refine zVl zm_X8_120 hF hB (c_X8_at l D ka kb q ad (o || tOv (nu (5 * i + k)) (nu (5 * j + 4))) z nu j k (by omega) (by omega)) [0, 1] rfl (by decide) [q, (ad 3)] (fun _ => rfl) rfl 0 8 rfl rfl rfl ⟨Nat.le_of_ble_eq_true rfl, Nat.le_of_ble_eq_true rfl⟩ rfl hl.1 (Nat.le_of_ble_eq_true rfl) ⟨Nat.le_refl _, Nat.le_refl _⟩ dX8_scaledSum_22 ?_
  clear hB
  try clear locs
  try clear H
  intro r4 u4 H locs hp hB
  obtain rfl : r4 = nu (5 * j + k) := hp
  replace hB : zB D A s ([(q, .inr (8, mO ad (o || tOv (nu (5 * i + k)) (nu (5 * j + 4))) z)), ((ad 3), .inl (ka 1, 200, .inr (.inl nu)))]) H locs := hB
  refine lv_aload_n hx hb dX8_scaledSum_25 rfl (lv_at hl 1 rfl) ?_
  refine lv_iload_n hx hb dX8_scaledSum_26 rfl (lv_at hl 2 rfl) ?_
  refine lv_iconst (v := 4) hx hb dX8_scaledSum_27 (by decide) ?_
  refine zVl zm_X8_120 hF hB (c_X8_at l D ka kb q ad (o || tOv (nu (5 * i + k)) (nu (5 * j + 4))) z nu i 4 (by omega) (by omega)) [0, 1] rfl (by decide) [q, (ad 3)] (fun _ => rfl) rfl 0 8 rfl rfl rfl ⟨Nat.le_of_ble_eq_true rfl, Nat.le_of_ble_eq_true rfl⟩ rfl hl.1 (Nat.le_of_ble_eq_true rfl) ⟨Nat.le_refl _, Nat.le_refl _⟩ dX8_scaledSum_28 ?_
  clear hB
  try clear locs
  try clear H
  intro r5 u5 H locs hp hB
  obtain rfl : r5 = nu (5 * i + 4) := hp
  replace hB : zB D A s ([(q, .inr (8, mO ad (o || tOv (nu (5 * i + k)) (nu (5 * j + 4))) z)), ((ad 3), .inl (ka 1, 200, .inr (.inl nu)))]) H locs := hB
  refine zVl zm_X8_124 hF hB (c_X8_times l D ka kb q ad (o || tOv (nu (5 * i + k)) (nu (5 * j + 4))) z (nu (5 * j + k)) (nu (5 * i + 4)) ) [0] rfl (by decide) [q] (fun _ => rfl) rfl 0 8 rfl rfl rfl ⟨Nat.le_of_ble_eq_true rfl, Nat.le_of_ble_eq_true rfl⟩ rfl hl.1 (Nat.le_of_ble_eq_true rfl) ⟨Nat.le_refl _, Nat.le_refl _⟩ dX8_scaledSum_31 ?_
  clear hB
  try clear locs
  try clear H
  intro r6 u6 H locs hp hB
  obtain rfl : r6 = (nu (5 * j + k)) * (nu (5 * i + 4)) := hp
  replace hB : zB D A s ([(q, .inr (8, mO ad ((o || tOv (nu (5 * i + k)) (nu (5 * j + 4))) || tOv (nu (5 * j + k)) (nu (5 * i + 4))) z)), ((ad 3), .inl (ka 1, 200, .inr (.inl nu)))]) H locs := hB
  refine lv_lstore (lv' := [(7, .long ((nu (5 * j + k)) * (nu (5 * i + 4)))), (5, .long ((nu (5 * i + k)) * (nu (5 * j + 4)))), (0, .ref q), (1, .int (nI i)), (2, .int (nI j)), (3, .int (nI k)), (4, .int (bI mi))]) hx hb dX8_scaledSum_34 hl (by decide) rfl ?_
  clear hl
  clear ls
  intro ls hl
  refine lv_iload hx hb dX8_scaledSum_36 (lv_at hl 6 rfl) ?_
  refine lv_if_eq (tgt := 52) hx hb dX8_scaledSum_38 (by decide) (fun h38 => ?_) (fun h38 => ?_)
  · skip
    have e9 := bI_eq0 h38; subst e9
    refine lv_aload_n hx hb dX8_scaledSum_52 rfl (lv_at hl 2 rfl) ?_
    refine lv_lload hx hb dX8_scaledSum_53 (lv_at hl 1 rfl) ?_
    refine lv_lload hx hb dX8_scaledSum_55 (lv_at hl 0 rfl) ?_
    refine zVl zm_X8_127 hF hB (c_X8_and l D ka kb q ad ((o || tOv (nu (5 * i + k)) (nu (5 * j + 4))) || tOv (nu (5 * j + k)) (nu (5 * i + 4))) z ((nu (5 * i + k)) * (nu (5 * j + 4))) ((nu (5 * j + k)) * (nu (5 * i + 4))) ) [0] rfl (by decide) [q] (fun _ => rfl) rfl 0 8 rfl rfl rfl ⟨Nat.le_of_ble_eq_true rfl, Nat.le_of_ble_eq_true rfl⟩ rfl hl.1 (Nat.le_of_ble_eq_true rfl) ⟨Nat.le_refl _, Nat.le_refl _⟩ dX8_scaledSum_57 ?_
    clear hB
    try clear locs
    try clear H
    intro r7 u7 H locs hp hB
    obtain rfl : r7 = ((nu (5 * i + k)) * (nu (5 * j + 4))) + ((nu (5 * j + k)) * (nu (5 * i + 4))) := hp
    replace hB : zB D A s ([(q, .inr (8, mO ad (((o || tOv (nu (5 * i + k)) (nu (5 * j + 4))) || tOv (nu (5 * j + k)) (nu (5 * i + 4))) || pOv ((nu (5 * i + k)) * (nu (5 * j + 4))) ((nu (5 * j + k)) * (nu (5 * i + 4)))) z)), ((ad 3), .inl (ka 1, 200, .inr (.inl nu)))]) H locs := hB
    exact zretl hF hB () (rfl) (by rw [show (o || ssO false (nu (5 * i + k)) (nu (5 * i + 4)) (nu (5 * j + k)) (nu (5 * j + 4))) = (((o || tOv (nu (5 * i + k)) (nu (5 * j + 4))) || tOv (nu (5 * j + k)) (nu (5 * i + 4))) || pOv ((nu (5 * i + k)) * (nu (5 * j + 4))) ((nu (5 * j + k)) * (nu (5 * i + 4)))) from by simp [ssO, sgO, Bool.or_assoc]]) dX8_scaledSum_60 hQ
  · skip
    have e9 := bI_ne0 h38; subst e9
    refine lv_aload_n hx hb dX8_scaledSum_41 rfl (lv_at hl 2 rfl) ?_
    refine lv_lload hx hb dX8_scaledSum_42 (lv_at hl 1 rfl) ?_
    refine lv_lload hx hb dX8_scaledSum_44 (lv_at hl 0 rfl) ?_
    refine zVl zm_X8_109 hF hB (c_X8_less l D ka kb q ad ((o || tOv (nu (5 * i + k)) (nu (5 * j + 4))) || tOv (nu (5 * j + k)) (nu (5 * i + 4))) z ((nu (5 * i + k)) * (nu (5 * j + 4))) ((nu (5 * j + k)) * (nu (5 * i + 4))) ) [0] rfl (by decide) [q] (fun _ => rfl) rfl 0 8 rfl rfl rfl ⟨Nat.le_of_ble_eq_true rfl, Nat.le_of_ble_eq_true rfl⟩ rfl hl.1 (Nat.le_of_ble_eq_true rfl) ⟨Nat.le_refl _, Nat.le_refl _⟩ dX8_scaledSum_46 ?_
    clear hB
    try clear locs
    try clear H
    intro r8 u8 H locs hp hB
    obtain rfl : r8 = ((nu (5 * i + k)) * (nu (5 * j + 4))) - ((nu (5 * j + k)) * (nu (5 * i + 4))) := hp
    replace hB : zB D A s ([(q, .inr (8, mO ad (((o || tOv (nu (5 * i + k)) (nu (5 * j + 4))) || tOv (nu (5 * j + k)) (nu (5 * i + 4))) || mOv ((nu (5 * i + k)) * (nu (5 * j + 4))) ((nu (5 * j + k)) * (nu (5 * i + 4)))) z)), ((ad 3), .inl (ka 1, 200, .inr (.inl nu)))]) H locs := hB
    refine lv_goto (tgt := 60) hx hb dX8_scaledSum_49 (by decide) ?_
    exact zretl hF hB () (rfl) (by rw [show (o || ssO true (nu (5 * i + k)) (nu (5 * i + 4)) (nu (5 * j + k)) (nu (5 * j + 4))) = (((o || tOv (nu (5 * i + k)) (nu (5 * j + 4))) || tOv (nu (5 * j + k)) (nu (5 * i + 4))) || mOv ((nu (5 * i + k)) * (nu (5 * j + 4))) ((nu (5 * j + k)) * (nu (5 * i + 4)))) from by simp [ssO, sgO, Bool.or_assoc]]) dX8_scaledSum_60 hQ

set_option maxHeartbeats 4000000 in
set_option maxRecDepth 100000 in
theorem c_X8_sum (l : Launch) (D : va_G) (ka : Nat → ClassId) (kb : Nat → Nat) (q : Nat) (ad : Nat → Nat) (o : Bool) (z : mZ) (nu : Nat → Int64) (t : Nat) (i : Nat) (j : Nat) (mi : Bool) (ht : t < 40) (hi : i < 40) (hj : j < 40) (hdi : 0 < (nu (5 * i + 4)).toInt) (hdj : 0 < (nu (5 * j + 4)).toInt) : zV l D ka kb yX8_sum cX8_sum 15 2 63 [.ref q, .int (nI t), .int (nI i), .int (nI j), .int (bI mi)] ([(q, .inr (8, mO ad o z)), ((ad 3), .inl (ka 1, 200, .inr (.inl nu)))]) (fun (_ : Unit) => True) (fun (_ : Unit) => [(q, .inr (8, mO ad (o || sumO mi (getN nu i) (getN nu j)) z)), ((ad 3), .inl (ka 1, 200, .inr (.inl (if (o || sumO mi (getN nu i) (getN nu j)) = true then nu else setN nu t (sumV mi (getN nu i) (getN nu j))))))]) := by
  refine zV.mk RX8 (by decide +kernel) rfl (Nat.le_of_ble_eq_true rfl) ?_
  intro p e s m below meth c A ls args Q hQ hx hb hF hB hl
  replace hl : lv_has ls 15 [(0, .ref q), (1, .int (nI t)), (2, .int (nI i)), (3, .int (nI j)), (4, .int (bI mi))] := hl
  refine lv_aload_n hx hb dX8_sum_0 rfl (lv_at hl 0 rfl) ?_
  refine lv_iload_n hx hb dX8_sum_1 rfl (lv_at hl 2 rfl) ?_
  refine lv_iload_n hx hb dX8_sum_2 rfl (lv_at hl 3 rfl) ?_
  refine lv_iconst (v := 0) hx hb dX8_sum_3 (by decide) ?_
  refine lv_iload hx hb dX8_sum_4 (lv_at hl 4 rfl) ?_
  refine zVl zm_X8_130 hF hB (c_X8_scaledSum l D ka kb q ad o z nu i j 0 mi (by omega) (by omega) (by omega)) [0, 1] rfl (by decide) [q, (ad 3)] (fun _ => rfl) rfl 0 8 rfl rfl rfl ⟨Nat.le_of_ble_eq_true rfl, Nat.le_of_ble_eq_true rfl⟩ rfl hl.1 (Nat.le_of_ble_eq_true rfl) ⟨Nat.le_refl _, Nat.le_refl _⟩ dX8_sum_6 ?_
  clear hB
  try clear locs
  try clear H
  intro r1 u1 H locs hp hB
  obtain rfl : r1 = ssV mi (nu (5 * i + 0)) (nu (5 * i + 4)) (nu (5 * j + 0)) (nu (5 * j + 4)) := hp
  replace hB : zB D A s ([(q, .inr (8, mO ad (o || ssO mi (nu (5 * i + 0)) (nu (5 * i + 4)) (nu (5 * j + 0)) (nu (5 * j + 4))) z)), ((ad 3), .inl (ka 1, 200, .inr (.inl nu)))]) H locs := hB
  refine lv_lstore (lv' := [(5, .long (ssV mi (nu (5 * i + 0)) (nu (5 * i + 4)) (nu (5 * j + 0)) (nu (5 * j + 4)))), (0, .ref q), (1, .int (nI t)), (2, .int (nI i)), (3, .int (nI j)), (4, .int (bI mi))]) hx hb dX8_sum_9 hl (by decide) rfl ?_
  clear hl
  clear ls
  intro ls hl
  refine lv_aload_n hx hb dX8_sum_11 rfl (lv_at hl 1 rfl) ?_
  refine lv_iload_n hx hb dX8_sum_12 rfl (lv_at hl 3 rfl) ?_
  refine lv_iload_n hx hb dX8_sum_13 rfl (lv_at hl 4 rfl) ?_
  refine lv_iconst (v := 1) hx hb dX8_sum_14 (by decide) ?_
  refine lv_iload hx hb dX8_sum_15 (lv_at hl 5 rfl) ?_
  refine zVl zm_X8_130 hF hB (c_X8_scaledSum l D ka kb q ad (o || ssO mi (nu (5 * i + 0)) (nu (5 * i + 4)) (nu (5 * j + 0)) (nu (5 * j + 4))) z nu i j 1 mi (by omega) (by omega) (by omega)) [0, 1] rfl (by decide) [q, (ad 3)] (fun _ => rfl) rfl 0 8 rfl rfl rfl ⟨Nat.le_of_ble_eq_true rfl, Nat.le_of_ble_eq_true rfl⟩ rfl hl.1 (Nat.le_of_ble_eq_true rfl) ⟨Nat.le_refl _, Nat.le_refl _⟩ dX8_sum_17 ?_
  clear hB
  try clear locs
  try clear H
  intro r2 u2 H locs hp hB
  obtain rfl : r2 = ssV mi (nu (5 * i + 1)) (nu (5 * i + 4)) (nu (5 * j + 1)) (nu (5 * j + 4)) := hp
  replace hB : zB D A s ([(q, .inr (8, mO ad ((o || ssO mi (nu (5 * i + 0)) (nu (5 * i + 4)) (nu (5 * j + 0)) (nu (5 * j + 4))) || ssO mi (nu (5 * i + 1)) (nu (5 * i + 4)) (nu (5 * j + 1)) (nu (5 * j + 4))) z)), ((ad 3), .inl (ka 1, 200, .inr (.inl nu)))]) H locs := hB
  refine lv_lstore (lv' := [(7, .long (ssV mi (nu (5 * i + 1)) (nu (5 * i + 4)) (nu (5 * j + 1)) (nu (5 * j + 4)))), (5, .long (ssV mi (nu (5 * i + 0)) (nu (5 * i + 4)) (nu (5 * j + 0)) (nu (5 * j + 4)))), (0, .ref q), (1, .int (nI t)), (2, .int (nI i)), (3, .int (nI j)), (4, .int (bI mi))]) hx hb dX8_sum_20 hl (by decide) rfl ?_
  clear hl
  clear ls
  intro ls hl
  refine lv_aload_n hx hb dX8_sum_22 rfl (lv_at hl 2 rfl) ?_
  refine lv_iload_n hx hb dX8_sum_23 rfl (lv_at hl 4 rfl) ?_
  refine lv_iload_n hx hb dX8_sum_24 rfl (lv_at hl 5 rfl) ?_
  refine lv_iconst (v := 2) hx hb dX8_sum_25 (by decide) ?_
  refine lv_iload hx hb dX8_sum_26 (lv_at hl 6 rfl) ?_
  refine zVl zm_X8_130 hF hB (c_X8_scaledSum l D ka kb q ad ((o || ssO mi (nu (5 * i + 0)) (nu (5 * i + 4)) (nu (5 * j + 0)) (nu (5 * j + 4))) || ssO mi (nu (5 * i + 1)) (nu (5 * i + 4)) (nu (5 * j + 1)) (nu (5 * j + 4))) z nu i j 2 mi (by omega) (by omega) (by omega)) [0, 1] rfl (by decide) [q, (ad 3)] (fun _ => rfl) rfl 0 8 rfl rfl rfl ⟨Nat.le_of_ble_eq_true rfl, Nat.le_of_ble_eq_true rfl⟩ rfl hl.1 (Nat.le_of_ble_eq_true rfl) ⟨Nat.le_refl _, Nat.le_refl _⟩ dX8_sum_28 ?_
  clear hB
  try clear locs
  try clear H
  intro r3 u3 H locs hp hB
  obtain rfl : r3 = ssV mi (nu (5 * i + 2)) (nu (5 * i + 4)) (nu (5 * j + 2)) (nu (5 * j + 4)) := hp
  replace hB : zB D A s ([(q, .inr (8, mO ad (((o || ssO mi (nu (5 * i + 0)) (nu (5 * i + 4)) (nu (5 * j + 0)) (nu (5 * j + 4))) || ssO mi (nu (5 * i + 1)) (nu (5 * i + 4)) (nu (5 * j + 1)) (nu (5 * j + 4))) || ssO mi (nu (5 * i + 2)) (nu (5 * i + 4)) (nu (5 * j + 2)) (nu (5 * j + 4))) z)), ((ad 3), .inl (ka 1, 200, .inr (.inl nu)))]) H locs := hB
  refine lv_lstore (lv' := [(9, .long (ssV mi (nu (5 * i + 2)) (nu (5 * i + 4)) (nu (5 * j + 2)) (nu (5 * j + 4)))), (7, .long (ssV mi (nu (5 * i + 1)) (nu (5 * i + 4)) (nu (5 * j + 1)) (nu (5 * j + 4)))), (5, .long (ssV mi (nu (5 * i + 0)) (nu (5 * i + 4)) (nu (5 * j + 0)) (nu (5 * j + 4)))), (0, .ref q), (1, .int (nI t)), (2, .int (nI i)), (3, .int (nI j)), (4, .int (bI mi))]) hx hb dX8_sum_31 hl (by decide) rfl ?_
  clear hl
  clear ls
  intro ls hl
  refine lv_aload_n hx hb dX8_sum_33 rfl (lv_at hl 3 rfl) ?_
  refine lv_iload_n hx hb dX8_sum_34 rfl (lv_at hl 5 rfl) ?_
  refine lv_iload_n hx hb dX8_sum_35 rfl (lv_at hl 6 rfl) ?_
  refine lv_iconst (v := 3) hx hb dX8_sum_36 (by decide) ?_
  refine lv_iload hx hb dX8_sum_37 (lv_at hl 7 rfl) ?_
  refine zVl zm_X8_130 hF hB (c_X8_scaledSum l D ka kb q ad (((o || ssO mi (nu (5 * i + 0)) (nu (5 * i + 4)) (nu (5 * j + 0)) (nu (5 * j + 4))) || ssO mi (nu (5 * i + 1)) (nu (5 * i + 4)) (nu (5 * j + 1)) (nu (5 * j + 4))) || ssO mi (nu (5 * i + 2)) (nu (5 * i + 4)) (nu (5 * j + 2)) (nu (5 * j + 4))) z nu i j 3 mi (by omega) (by omega) (by omega)) [0, 1] rfl (by decide) [q, (ad 3)] (fun _ => rfl) rfl 0 8 rfl rfl rfl ⟨Nat.le_of_ble_eq_true rfl, Nat.le_of_ble_eq_true rfl⟩ rfl hl.1 (Nat.le_of_ble_eq_true rfl) ⟨Nat.le_refl _, Nat.le_refl _⟩ dX8_sum_39 ?_
  clear hB
  try clear locs
  try clear H
  intro r4 u4 H locs hp hB
  obtain rfl : r4 = ssV mi (nu (5 * i + 3)) (nu (5 * i + 4)) (nu (5 * j + 3)) (nu (5 * j + 4)) := hp
  replace hB : zB D A s ([(q, .inr (8, mO ad ((((o || ssO mi (nu (5 * i + 0)) (nu (5 * i + 4)) (nu (5 * j + 0)) (nu (5 * j + 4))) || ssO mi (nu (5 * i + 1)) (nu (5 * i + 4)) (nu (5 * j + 1)) (nu (5 * j + 4))) || ssO mi (nu (5 * i + 2)) (nu (5 * i + 4)) (nu (5 * j + 2)) (nu (5 * j + 4))) || ssO mi (nu (5 * i + 3)) (nu (5 * i + 4)) (nu (5 * j + 3)) (nu (5 * j + 4))) z)), ((ad 3), .inl (ka 1, 200, .inr (.inl nu)))]) H locs := hB
  refine lv_lstore (lv' := [(11, .long (ssV mi (nu (5 * i + 3)) (nu (5 * i + 4)) (nu (5 * j + 3)) (nu (5 * j + 4)))), (9, .long (ssV mi (nu (5 * i + 2)) (nu (5 * i + 4)) (nu (5 * j + 2)) (nu (5 * j + 4)))), (7, .long (ssV mi (nu (5 * i + 1)) (nu (5 * i + 4)) (nu (5 * j + 1)) (nu (5 * j + 4)))), (5, .long (ssV mi (nu (5 * i + 0)) (nu (5 * i + 4)) (nu (5 * j + 0)) (nu (5 * j + 4)))), (0, .ref q), (1, .int (nI t)), (2, .int (nI i)), (3, .int (nI j)), (4, .int (bI mi))]) hx hb dX8_sum_42 hl (by decide) rfl ?_
  clear hl
  clear ls
  intro ls hl
  refine lv_aload_n hx hb dX8_sum_44 rfl (lv_at hl 4 rfl) ?_
  refine lv_aload_n hx hb dX8_sum_45 rfl (lv_at hl 4 rfl) ?_
  refine lv_iload_n hx hb dX8_sum_46 rfl (lv_at hl 6 rfl) ?_
  refine lv_iconst (v := 4) hx hb dX8_sum_47 (by decide) ?_
  refine zVl zm_X8_120 hF hB (c_X8_at l D ka kb q ad ((((o || ssO mi (nu (5 * i + 0)) (nu (5 * i + 4)) (nu (5 * j + 0)) (nu (5 * j + 4))) || ssO mi (nu (5 * i + 1)) (nu (5 * i + 4)) (nu (5 * j + 1)) (nu (5 * j + 4))) || ssO mi (nu (5 * i + 2)) (nu (5 * i + 4)) (nu (5 * j + 2)) (nu (5 * j + 4))) || ssO mi (nu (5 * i + 3)) (nu (5 * i + 4)) (nu (5 * j + 3)) (nu (5 * j + 4))) z nu i 4 (by omega) (by omega)) [0, 1] rfl (by decide) [q, (ad 3)] (fun _ => rfl) rfl 0 8 rfl rfl rfl ⟨Nat.le_of_ble_eq_true rfl, Nat.le_of_ble_eq_true rfl⟩ rfl hl.1 (Nat.le_of_ble_eq_true rfl) ⟨Nat.le_refl _, Nat.le_refl _⟩ dX8_sum_48 ?_
  clear hB
  try clear locs
  try clear H
  intro r5 u5 H locs hp hB
  obtain rfl : r5 = nu (5 * i + 4) := hp
  replace hB : zB D A s ([(q, .inr (8, mO ad ((((o || ssO mi (nu (5 * i + 0)) (nu (5 * i + 4)) (nu (5 * j + 0)) (nu (5 * j + 4))) || ssO mi (nu (5 * i + 1)) (nu (5 * i + 4)) (nu (5 * j + 1)) (nu (5 * j + 4))) || ssO mi (nu (5 * i + 2)) (nu (5 * i + 4)) (nu (5 * j + 2)) (nu (5 * j + 4))) || ssO mi (nu (5 * i + 3)) (nu (5 * i + 4)) (nu (5 * j + 3)) (nu (5 * j + 4))) z)), ((ad 3), .inl (ka 1, 200, .inr (.inl nu)))]) H locs := hB
  refine lv_aload_n hx hb dX8_sum_51 rfl (lv_at hl 4 rfl) ?_
  refine lv_iload_n hx hb dX8_sum_52 rfl (lv_at hl 7 rfl) ?_
  refine lv_iconst (v := 4) hx hb dX8_sum_53 (by decide) ?_
  refine zVl zm_X8_120 hF hB (c_X8_at l D ka kb q ad ((((o || ssO mi (nu (5 * i + 0)) (nu (5 * i + 4)) (nu (5 * j + 0)) (nu (5 * j + 4))) || ssO mi (nu (5 * i + 1)) (nu (5 * i + 4)) (nu (5 * j + 1)) (nu (5 * j + 4))) || ssO mi (nu (5 * i + 2)) (nu (5 * i + 4)) (nu (5 * j + 2)) (nu (5 * j + 4))) || ssO mi (nu (5 * i + 3)) (nu (5 * i + 4)) (nu (5 * j + 3)) (nu (5 * j + 4))) z nu j 4 (by omega) (by omega)) [0, 1] rfl (by decide) [q, (ad 3)] (fun _ => rfl) rfl 0 8 rfl rfl rfl ⟨Nat.le_of_ble_eq_true rfl, Nat.le_of_ble_eq_true rfl⟩ rfl hl.1 (Nat.le_of_ble_eq_true rfl) ⟨Nat.le_refl _, Nat.le_refl _⟩ dX8_sum_54 ?_
  clear hB
  try clear locs
  try clear H
  intro r6 u6 H locs hp hB
  obtain rfl : r6 = nu (5 * j + 4) := hp
  replace hB : zB D A s ([(q, .inr (8, mO ad ((((o || ssO mi (nu (5 * i + 0)) (nu (5 * i + 4)) (nu (5 * j + 0)) (nu (5 * j + 4))) || ssO mi (nu (5 * i + 1)) (nu (5 * i + 4)) (nu (5 * j + 1)) (nu (5 * j + 4))) || ssO mi (nu (5 * i + 2)) (nu (5 * i + 4)) (nu (5 * j + 2)) (nu (5 * j + 4))) || ssO mi (nu (5 * i + 3)) (nu (5 * i + 4)) (nu (5 * j + 3)) (nu (5 * j + 4))) z)), ((ad 3), .inl (ka 1, 200, .inr (.inl nu)))]) H locs := hB
  refine zVl zm_X8_124 hF hB (c_X8_times l D ka kb q ad ((((o || ssO mi (nu (5 * i + 0)) (nu (5 * i + 4)) (nu (5 * j + 0)) (nu (5 * j + 4))) || ssO mi (nu (5 * i + 1)) (nu (5 * i + 4)) (nu (5 * j + 1)) (nu (5 * j + 4))) || ssO mi (nu (5 * i + 2)) (nu (5 * i + 4)) (nu (5 * j + 2)) (nu (5 * j + 4))) || ssO mi (nu (5 * i + 3)) (nu (5 * i + 4)) (nu (5 * j + 3)) (nu (5 * j + 4))) z (nu (5 * i + 4)) (nu (5 * j + 4)) ) [0] rfl (by decide) [q] (fun _ => rfl) rfl 0 8 rfl rfl rfl ⟨Nat.le_of_ble_eq_true rfl, Nat.le_of_ble_eq_true rfl⟩ rfl hl.1 (Nat.le_of_ble_eq_true rfl) ⟨Nat.le_refl _, Nat.le_refl _⟩ dX8_sum_57 ?_
  clear hB
  try clear locs
  try clear H
  intro r7 u7 H locs hp hB
  obtain rfl : r7 = (nu (5 * i + 4)) * (nu (5 * j + 4)) := hp
  replace hB : zB D A s ([(q, .inr (8, mO ad (((((o || ssO mi (nu (5 * i + 0)) (nu (5 * i + 4)) (nu (5 * j + 0)) (nu (5 * j + 4))) || ssO mi (nu (5 * i + 1)) (nu (5 * i + 4)) (nu (5 * j + 1)) (nu (5 * j + 4))) || ssO mi (nu (5 * i + 2)) (nu (5 * i + 4)) (nu (5 * j + 2)) (nu (5 * j + 4))) || ssO mi (nu (5 * i + 3)) (nu (5 * i + 4)) (nu (5 * j + 3)) (nu (5 * j + 4))) || tOv (nu (5 * i + 4)) (nu (5 * j + 4))) z)), ((ad 3), .inl (ka 1, 200, .inr (.inl nu)))]) H locs := hB
  refine lv_lstore (lv' := [(13, .long ((nu (5 * i + 4)) * (nu (5 * j + 4)))), (11, .long (ssV mi (nu (5 * i + 3)) (nu (5 * i + 4)) (nu (5 * j + 3)) (nu (5 * j + 4)))), (9, .long (ssV mi (nu (5 * i + 2)) (nu (5 * i + 4)) (nu (5 * j + 2)) (nu (5 * j + 4)))), (7, .long (ssV mi (nu (5 * i + 1)) (nu (5 * i + 4)) (nu (5 * j + 1)) (nu (5 * j + 4)))), (5, .long (ssV mi (nu (5 * i + 0)) (nu (5 * i + 4)) (nu (5 * j + 0)) (nu (5 * j + 4)))), (0, .ref q), (1, .int (nI t)), (2, .int (nI i)), (3, .int (nI j)), (4, .int (bI mi))]) hx hb dX8_sum_60 hl (by decide) rfl ?_
  clear hl
  clear ls
  intro ls hl
  refine lv_aload_n hx hb dX8_sum_62 rfl (lv_at hl 5 rfl) ?_
  refine zget zf_X8_105 hF hB 0 rfl rfl dX8_sum_63 ?_
  refine lv_if_ne (tgt := 84) hx hb dX8_sum_66 (by decide) (fun h66 => ?_) (fun h66 => ?_)
  · skip
    have hE : (o || sumO mi (getN nu i) (getN nu j)) = (((((o || ssO mi (nu (5 * i + 0)) (nu (5 * i + 4)) (nu (5 * j + 0)) (nu (5 * j + 4))) || ssO mi (nu (5 * i + 1)) (nu (5 * i + 4)) (nu (5 * j + 1)) (nu (5 * j + 4))) || ssO mi (nu (5 * i + 2)) (nu (5 * i + 4)) (nu (5 * j + 2)) (nu (5 * j + 4))) || ssO mi (nu (5 * i + 3)) (nu (5 * i + 4)) (nu (5 * j + 3)) (nu (5 * j + 4))) || tOv (nu (5 * i + 4)) (nu (5 * j + 4))) := by simp [sumO, getN, Bool.or_assoc]
    have hT : (((((o || ssO mi (nu (5 * i + 0)) (nu (5 * i + 4)) (nu (5 * j + 0)) (nu (5 * j + 4))) || ssO mi (nu (5 * i + 1)) (nu (5 * i + 4)) (nu (5 * j + 1)) (nu (5 * j + 4))) || ssO mi (nu (5 * i + 2)) (nu (5 * i + 4)) (nu (5 * j + 2)) (nu (5 * j + 4))) || ssO mi (nu (5 * i + 3)) (nu (5 * i + 4)) (nu (5 * j + 3)) (nu (5 * j + 4))) || tOv (nu (5 * i + 4)) (nu (5 * j + 4))) = true := bI_ne0 h66
    exact zretv hF hB () (trivial) (by rw [hE, hT] <;> rfl) dX8_sum_84 hQ
  · skip
    have hE : (o || sumO mi (getN nu i) (getN nu j)) = (((((o || ssO mi (nu (5 * i + 0)) (nu (5 * i + 4)) (nu (5 * j + 0)) (nu (5 * j + 4))) || ssO mi (nu (5 * i + 1)) (nu (5 * i + 4)) (nu (5 * j + 1)) (nu (5 * j + 4))) || ssO mi (nu (5 * i + 2)) (nu (5 * i + 4)) (nu (5 * j + 2)) (nu (5 * j + 4))) || ssO mi (nu (5 * i + 3)) (nu (5 * i + 4)) (nu (5 * j + 3)) (nu (5 * j + 4))) || tOv (nu (5 * i + 4)) (nu (5 * j + 4))) := by simp [sumO, getN, Bool.or_assoc]
    have hT : (((((o || ssO mi (nu (5 * i + 0)) (nu (5 * i + 4)) (nu (5 * j + 0)) (nu (5 * j + 4))) || ssO mi (nu (5 * i + 1)) (nu (5 * i + 4)) (nu (5 * j + 1)) (nu (5 * j + 4))) || ssO mi (nu (5 * i + 2)) (nu (5 * i + 4)) (nu (5 * j + 2)) (nu (5 * j + 4))) || ssO mi (nu (5 * i + 3)) (nu (5 * i + 4)) (nu (5 * j + 3)) (nu (5 * j + 4))) || tOv (nu (5 * i + 4)) (nu (5 * j + 4))) = false := bI_eq0 h66
    have hdd : 0 < (nu (5 * i + 4) * nu (5 * j + 4)).toInt := by
      rw [i64_mul (Bool.or_eq_false_iff.mp hT).2]; exact Int.mul_pos hdi hdj
    refine lv_aload_n hx hb dX8_sum_69 rfl (lv_at hl 5 rfl) ?_
    refine lv_iload_n hx hb dX8_sum_70 rfl (lv_at hl 6 rfl) ?_
    refine lv_lload hx hb dX8_sum_71 (lv_at hl 4 rfl) ?_
    refine lv_lload hx hb dX8_sum_73 (lv_at hl 3 rfl) ?_
    refine lv_lload hx hb dX8_sum_75 (lv_at hl 2 rfl) ?_
    refine lv_lload hx hb dX8_sum_77 (lv_at hl 1 rfl) ?_
    refine lv_lload hx hb dX8_sum_79 (lv_at hl 0 rfl) ?_
    refine zVv zm_X8_134 hF hB (c_X8_lays l D ka kb q ad (((((o || ssO mi (nu (5 * i + 0)) (nu (5 * i + 4)) (nu (5 * j + 0)) (nu (5 * j + 4))) || ssO mi (nu (5 * i + 1)) (nu (5 * i + 4)) (nu (5 * j + 1)) (nu (5 * j + 4))) || ssO mi (nu (5 * i + 2)) (nu (5 * i + 4)) (nu (5 * j + 2)) (nu (5 * j + 4))) || ssO mi (nu (5 * i + 3)) (nu (5 * i + 4)) (nu (5 * j + 3)) (nu (5 * j + 4))) || tOv (nu (5 * i + 4)) (nu (5 * j + 4))) z nu t (ssV mi (nu (5 * i + 0)) (nu (5 * i + 4)) (nu (5 * j + 0)) (nu (5 * j + 4))) (ssV mi (nu (5 * i + 1)) (nu (5 * i + 4)) (nu (5 * j + 1)) (nu (5 * j + 4))) (ssV mi (nu (5 * i + 2)) (nu (5 * i + 4)) (nu (5 * j + 2)) (nu (5 * j + 4))) (ssV mi (nu (5 * i + 3)) (nu (5 * i + 4)) (nu (5 * j + 3)) (nu (5 * j + 4))) ((nu (5 * i + 4)) * (nu (5 * j + 4))) (by omega) (hdd)) [0, 1] rfl (by decide) [q, (ad 3)] (fun _ => rfl) rfl 0 8 rfl rfl rfl ⟨Nat.le_of_ble_eq_true rfl, Nat.le_of_ble_eq_true rfl⟩ rfl hl.1 (Nat.le_of_ble_eq_true rfl) ⟨Nat.le_refl _, Nat.le_refl _⟩ dX8_sum_81 ?_
    clear hB
    try clear locs
    try clear H
    intro u8 H locs hp hB
    replace hB : zB D A s ([(q, .inr (8, mO ad (((((o || ssO mi (nu (5 * i + 0)) (nu (5 * i + 4)) (nu (5 * j + 0)) (nu (5 * j + 4))) || ssO mi (nu (5 * i + 1)) (nu (5 * i + 4)) (nu (5 * j + 1)) (nu (5 * j + 4))) || ssO mi (nu (5 * i + 2)) (nu (5 * i + 4)) (nu (5 * j + 2)) (nu (5 * j + 4))) || ssO mi (nu (5 * i + 3)) (nu (5 * i + 4)) (nu (5 * j + 3)) (nu (5 * j + 4))) || tOv (nu (5 * i + 4)) (nu (5 * j + 4))) z)), ((ad 3), .inl (ka 1, 200, .inr (.inl (setN nu t (lowN (ssV mi (nu (5 * i + 0)) (nu (5 * i + 4)) (nu (5 * j + 0)) (nu (5 * j + 4))) (ssV mi (nu (5 * i + 1)) (nu (5 * i + 4)) (nu (5 * j + 1)) (nu (5 * j + 4))) (ssV mi (nu (5 * i + 2)) (nu (5 * i + 4)) (nu (5 * j + 2)) (nu (5 * j + 4))) (ssV mi (nu (5 * i + 3)) (nu (5 * i + 4)) (nu (5 * j + 3)) (nu (5 * j + 4))) ((nu (5 * i + 4)) * (nu (5 * j + 4))))))))]) H locs := hB
    exact zretv hF hB () (trivial) (by rw [hE, hT] <;> rfl) dX8_sum_84 hQ

set_option maxHeartbeats 4000000 in
set_option maxRecDepth 100000 in
theorem c_X8_product (l : Launch) (D : va_G) (ka : Nat → ClassId) (kb : Nat → Nat) (q : Nat) (ad : Nat → Nat) (o : Bool) (z : mZ) (nu : Nat → Int64) (t : Nat) (i : Nat) (j : Nat) (ht : t < 40) (hi : i < 40) (hj : j < 40) (hdi : 0 < (nu (5 * i + 4)).toInt) (hdj : 0 < (nu (5 * j + 4)).toInt) : zV l D ka kb yX8_product cX8_product 30 2 63 [.ref q, .int (nI t), .int (nI i), .int (nI j)] ([(q, .inr (8, mO ad o z)), ((ad 3), .inl (ka 1, 200, .inr (.inl nu)))]) (fun (_ : Unit) => True) (fun (_ : Unit) => [(q, .inr (8, mO ad (o || prodO (getN nu i) (getN nu j)) z)), ((ad 3), .inl (ka 1, 200, .inr (.inl (if (o || prodO (getN nu i) (getN nu j)) = true then nu else setN nu t (prodV (getN nu i) (getN nu j))))))]) := by
  refine zV.mk RX8 (by decide +kernel) rfl (Nat.le_of_ble_eq_true rfl) ?_
  intro p e s m below meth c A ls args Q hQ hx hb hF hB hl
  replace hl : lv_has ls 30 [(0, .ref q), (1, .int (nI t)), (2, .int (nI i)), (3, .int (nI j))] := hl
  refine lv_aload_n hx hb dX8_product_0 rfl (lv_at hl 0 rfl) ?_
  refine lv_iload_n hx hb dX8_product_1 rfl (lv_at hl 2 rfl) ?_
  refine lv_iconst (v := 0) hx hb dX8_product_2 (by decide) ?_
  refine zVl zm_X8_120 hF hB (c_X8_at l D ka kb q ad o z nu i 0 (by omega) (by omega)) [0, 1] rfl (by decide) [q, (ad 3)] (fun _ => rfl) rfl 0 8 rfl rfl rfl ⟨Nat.le_of_ble_eq_true rfl, Nat.le_of_ble_eq_true rfl⟩ rfl hl.1 (Nat.le_of_ble_eq_true rfl) ⟨Nat.le_refl _, Nat.le_refl _⟩ dX8_product_3 ?_
  clear hB
  try clear locs
  try clear H
  intro r1 u1 H locs hp hB
  obtain rfl : r1 = nu (5 * i + 0) := hp
  replace hB : zB D A s ([(q, .inr (8, mO ad o z)), ((ad 3), .inl (ka 1, 200, .inr (.inl nu)))]) H locs := hB
  refine lv_lstore (lv' := [(4, .long (nu (5 * i + 0))), (0, .ref q), (1, .int (nI t)), (2, .int (nI i)), (3, .int (nI j))]) hx hb dX8_product_6 hl (by decide) rfl ?_
  clear hl
  clear ls
  intro ls hl
  refine lv_aload_n hx hb dX8_product_8 rfl (lv_at hl 1 rfl) ?_
  refine lv_iload_n hx hb dX8_product_9 rfl (lv_at hl 3 rfl) ?_
  refine lv_iconst (v := 1) hx hb dX8_product_10 (by decide) ?_
  refine zVl zm_X8_120 hF hB (c_X8_at l D ka kb q ad o z nu i 1 (by omega) (by omega)) [0, 1] rfl (by decide) [q, (ad 3)] (fun _ => rfl) rfl 0 8 rfl rfl rfl ⟨Nat.le_of_ble_eq_true rfl, Nat.le_of_ble_eq_true rfl⟩ rfl hl.1 (Nat.le_of_ble_eq_true rfl) ⟨Nat.le_refl _, Nat.le_refl _⟩ dX8_product_11 ?_
  clear hB
  try clear locs
  try clear H
  intro r2 u2 H locs hp hB
  obtain rfl : r2 = nu (5 * i + 1) := hp
  replace hB : zB D A s ([(q, .inr (8, mO ad o z)), ((ad 3), .inl (ka 1, 200, .inr (.inl nu)))]) H locs := hB
  refine lv_lstore (lv' := [(6, .long (nu (5 * i + 1))), (4, .long (nu (5 * i + 0))), (0, .ref q), (1, .int (nI t)), (2, .int (nI i)), (3, .int (nI j))]) hx hb dX8_product_14 hl (by decide) rfl ?_
  clear hl
  clear ls
  intro ls hl
  refine lv_aload_n hx hb dX8_product_16 rfl (lv_at hl 2 rfl) ?_
  refine lv_iload_n hx hb dX8_product_17 rfl (lv_at hl 4 rfl) ?_
  refine lv_iconst (v := 2) hx hb dX8_product_18 (by decide) ?_
  refine zVl zm_X8_120 hF hB (c_X8_at l D ka kb q ad o z nu i 2 (by omega) (by omega)) [0, 1] rfl (by decide) [q, (ad 3)] (fun _ => rfl) rfl 0 8 rfl rfl rfl ⟨Nat.le_of_ble_eq_true rfl, Nat.le_of_ble_eq_true rfl⟩ rfl hl.1 (Nat.le_of_ble_eq_true rfl) ⟨Nat.le_refl _, Nat.le_refl _⟩ dX8_product_19 ?_
  clear hB
  try clear locs
  try clear H
  intro r3 u3 H locs hp hB
  obtain rfl : r3 = nu (5 * i + 2) := hp
  replace hB : zB D A s ([(q, .inr (8, mO ad o z)), ((ad 3), .inl (ka 1, 200, .inr (.inl nu)))]) H locs := hB
  refine lv_lstore (lv' := [(8, .long (nu (5 * i + 2))), (6, .long (nu (5 * i + 1))), (4, .long (nu (5 * i + 0))), (0, .ref q), (1, .int (nI t)), (2, .int (nI i)), (3, .int (nI j))]) hx hb dX8_product_22 hl (by decide) rfl ?_
  clear hl
  clear ls
  intro ls hl
  refine lv_aload_n hx hb dX8_product_24 rfl (lv_at hl 3 rfl) ?_
  refine lv_iload_n hx hb dX8_product_25 rfl (lv_at hl 5 rfl) ?_
  refine lv_iconst (v := 3) hx hb dX8_product_26 (by decide) ?_
  refine zVl zm_X8_120 hF hB (c_X8_at l D ka kb q ad o z nu i 3 (by omega) (by omega)) [0, 1] rfl (by decide) [q, (ad 3)] (fun _ => rfl) rfl 0 8 rfl rfl rfl ⟨Nat.le_of_ble_eq_true rfl, Nat.le_of_ble_eq_true rfl⟩ rfl hl.1 (Nat.le_of_ble_eq_true rfl) ⟨Nat.le_refl _, Nat.le_refl _⟩ dX8_product_27 ?_
  clear hB
  try clear locs
  try clear H
  intro r4 u4 H locs hp hB
  obtain rfl : r4 = nu (5 * i + 3) := hp
  replace hB : zB D A s ([(q, .inr (8, mO ad o z)), ((ad 3), .inl (ka 1, 200, .inr (.inl nu)))]) H locs := hB
  refine lv_lstore (lv' := [(10, .long (nu (5 * i + 3))), (8, .long (nu (5 * i + 2))), (6, .long (nu (5 * i + 1))), (4, .long (nu (5 * i + 0))), (0, .ref q), (1, .int (nI t)), (2, .int (nI i)), (3, .int (nI j))]) hx hb dX8_product_30 hl (by decide) rfl ?_
  clear hl
  clear ls
  intro ls hl
  refine lv_aload_n hx hb dX8_product_32 rfl (lv_at hl 4 rfl) ?_
  refine lv_iload_n hx hb dX8_product_33 rfl (lv_at hl 7 rfl) ?_
  refine lv_iconst (v := 0) hx hb dX8_product_34 (by decide) ?_
  refine zVl zm_X8_120 hF hB (c_X8_at l D ka kb q ad o z nu j 0 (by omega) (by omega)) [0, 1] rfl (by decide) [q, (ad 3)] (fun _ => rfl) rfl 0 8 rfl rfl rfl ⟨Nat.le_of_ble_eq_true rfl, Nat.le_of_ble_eq_true rfl⟩ rfl hl.1 (Nat.le_of_ble_eq_true rfl) ⟨Nat.le_refl _, Nat.le_refl _⟩ dX8_product_35 ?_
  clear hB
  try clear locs
  try clear H
  intro r5 u5 H locs hp hB
  obtain rfl : r5 = nu (5 * j + 0) := hp
  replace hB : zB D A s ([(q, .inr (8, mO ad o z)), ((ad 3), .inl (ka 1, 200, .inr (.inl nu)))]) H locs := hB
  refine lv_lstore (lv' := [(12, .long (nu (5 * j + 0))), (10, .long (nu (5 * i + 3))), (8, .long (nu (5 * i + 2))), (6, .long (nu (5 * i + 1))), (4, .long (nu (5 * i + 0))), (0, .ref q), (1, .int (nI t)), (2, .int (nI i)), (3, .int (nI j))]) hx hb dX8_product_38 hl (by decide) rfl ?_
  clear hl
  clear ls
  intro ls hl
  refine lv_aload_n hx hb dX8_product_40 rfl (lv_at hl 5 rfl) ?_
  refine lv_iload_n hx hb dX8_product_41 rfl (lv_at hl 8 rfl) ?_
  refine lv_iconst (v := 1) hx hb dX8_product_42 (by decide) ?_
  refine zVl zm_X8_120 hF hB (c_X8_at l D ka kb q ad o z nu j 1 (by omega) (by omega)) [0, 1] rfl (by decide) [q, (ad 3)] (fun _ => rfl) rfl 0 8 rfl rfl rfl ⟨Nat.le_of_ble_eq_true rfl, Nat.le_of_ble_eq_true rfl⟩ rfl hl.1 (Nat.le_of_ble_eq_true rfl) ⟨Nat.le_refl _, Nat.le_refl _⟩ dX8_product_43 ?_
  clear hB
  try clear locs
  try clear H
  intro r6 u6 H locs hp hB
  obtain rfl : r6 = nu (5 * j + 1) := hp
  replace hB : zB D A s ([(q, .inr (8, mO ad o z)), ((ad 3), .inl (ka 1, 200, .inr (.inl nu)))]) H locs := hB
  refine lv_lstore (lv' := [(14, .long (nu (5 * j + 1))), (12, .long (nu (5 * j + 0))), (10, .long (nu (5 * i + 3))), (8, .long (nu (5 * i + 2))), (6, .long (nu (5 * i + 1))), (4, .long (nu (5 * i + 0))), (0, .ref q), (1, .int (nI t)), (2, .int (nI i)), (3, .int (nI j))]) hx hb dX8_product_46 hl (by decide) rfl ?_
  clear hl
  clear ls
  intro ls hl
  refine lv_aload_n hx hb dX8_product_48 rfl (lv_at hl 6 rfl) ?_
  refine lv_iload_n hx hb dX8_product_49 rfl (lv_at hl 9 rfl) ?_
  refine lv_iconst (v := 2) hx hb dX8_product_50 (by decide) ?_
  refine zVl zm_X8_120 hF hB (c_X8_at l D ka kb q ad o z nu j 2 (by omega) (by omega)) [0, 1] rfl (by decide) [q, (ad 3)] (fun _ => rfl) rfl 0 8 rfl rfl rfl ⟨Nat.le_of_ble_eq_true rfl, Nat.le_of_ble_eq_true rfl⟩ rfl hl.1 (Nat.le_of_ble_eq_true rfl) ⟨Nat.le_refl _, Nat.le_refl _⟩ dX8_product_51 ?_
  clear hB
  try clear locs
  try clear H
  intro r7 u7 H locs hp hB
  obtain rfl : r7 = nu (5 * j + 2) := hp
  replace hB : zB D A s ([(q, .inr (8, mO ad o z)), ((ad 3), .inl (ka 1, 200, .inr (.inl nu)))]) H locs := hB
  refine lv_lstore (lv' := [(16, .long (nu (5 * j + 2))), (14, .long (nu (5 * j + 1))), (12, .long (nu (5 * j + 0))), (10, .long (nu (5 * i + 3))), (8, .long (nu (5 * i + 2))), (6, .long (nu (5 * i + 1))), (4, .long (nu (5 * i + 0))), (0, .ref q), (1, .int (nI t)), (2, .int (nI i)), (3, .int (nI j))]) hx hb dX8_product_54 hl (by decide) rfl ?_
  clear hl
  clear ls
  intro ls hl
  refine lv_aload_n hx hb dX8_product_56 rfl (lv_at hl 7 rfl) ?_
  refine lv_iload_n hx hb dX8_product_57 rfl (lv_at hl 10 rfl) ?_
  refine lv_iconst (v := 3) hx hb dX8_product_58 (by decide) ?_
  refine zVl zm_X8_120 hF hB (c_X8_at l D ka kb q ad o z nu j 3 (by omega) (by omega)) [0, 1] rfl (by decide) [q, (ad 3)] (fun _ => rfl) rfl 0 8 rfl rfl rfl ⟨Nat.le_of_ble_eq_true rfl, Nat.le_of_ble_eq_true rfl⟩ rfl hl.1 (Nat.le_of_ble_eq_true rfl) ⟨Nat.le_refl _, Nat.le_refl _⟩ dX8_product_59 ?_
  clear hB
  try clear locs
  try clear H
  intro r8 u8 H locs hp hB
  obtain rfl : r8 = nu (5 * j + 3) := hp
  replace hB : zB D A s ([(q, .inr (8, mO ad o z)), ((ad 3), .inl (ka 1, 200, .inr (.inl nu)))]) H locs := hB
  refine lv_lstore (lv' := [(18, .long (nu (5 * j + 3))), (16, .long (nu (5 * j + 2))), (14, .long (nu (5 * j + 1))), (12, .long (nu (5 * j + 0))), (10, .long (nu (5 * i + 3))), (8, .long (nu (5 * i + 2))), (6, .long (nu (5 * i + 1))), (4, .long (nu (5 * i + 0))), (0, .ref q), (1, .int (nI t)), (2, .int (nI i)), (3, .int (nI j))]) hx hb dX8_product_62 hl (by decide) rfl ?_
  clear hl
  clear ls
  intro ls hl
  refine lv_aload_n hx hb dX8_product_64 rfl (lv_at hl 8 rfl) ?_
  refine lv_aload_n hx hb dX8_product_65 rfl (lv_at hl 8 rfl) ?_
  refine lv_aload_n hx hb dX8_product_66 rfl (lv_at hl 8 rfl) ?_
  refine lv_lload hx hb dX8_product_67 (lv_at hl 7 rfl) ?_
  refine lv_lload hx hb dX8_product_69 (lv_at hl 3 rfl) ?_
  refine zVl zm_X8_124 hF hB (c_X8_times l D ka kb q ad o z (nu (5 * i + 0)) (nu (5 * j + 0)) ) [0] rfl (by decide) [q] (fun _ => rfl) rfl 0 8 rfl rfl rfl ⟨Nat.le_of_ble_eq_true rfl, Nat.le_of_ble_eq_true rfl⟩ rfl hl.1 (Nat.le_of_ble_eq_true rfl) ⟨Nat.le_refl _, Nat.le_refl _⟩ dX8_product_71 ?_
  clear hB
  try clear locs
  try clear H
  intro r9 u9 H locs hp hB
  obtain rfl : r9 = (nu (5 * i + 0)) * (nu (5 * j + 0)) := hp
  replace hB : zB D A s ([(q, .inr (8, mO ad (o || tOv (nu (5 * i + 0)) (nu (5 * j + 0))) z)), ((ad 3), .inl (ka 1, 200, .inr (.inl nu)))]) H locs := hB
  refine lv_aload_n hx hb dX8_product_74 rfl (lv_at hl 8 rfl) ?_
  refine lv_lload hx hb dX8_product_75 (lv_at hl 6 rfl) ?_
  refine lv_lload hx hb dX8_product_77 (lv_at hl 2 rfl) ?_
  refine zVl zm_X8_138 hF hB (c_X8_three l D ka kb q ad (o || tOv (nu (5 * i + 0)) (nu (5 * j + 0))) z (nu (5 * i + 1)) (nu (5 * j + 1)) ) [0] rfl (by decide) [q] (fun _ => rfl) rfl 0 8 rfl rfl rfl ⟨Nat.le_of_ble_eq_true rfl, Nat.le_of_ble_eq_true rfl⟩ rfl hl.1 (Nat.le_of_ble_eq_true rfl) ⟨Nat.le_refl _, Nat.le_refl _⟩ dX8_product_79 ?_
  clear hB
  try clear locs
  try clear H
  intro r10 u10 H locs hp hB
  obtain rfl : r10 = thV (nu (5 * i + 1)) (nu (5 * j + 1)) := hp
  replace hB : zB D A s ([(q, .inr (8, mO ad ((o || tOv (nu (5 * i + 0)) (nu (5 * j + 0))) || thO (nu (5 * i + 1)) (nu (5 * j + 1))) z)), ((ad 3), .inl (ka 1, 200, .inr (.inl nu)))]) H locs := hB
  refine zVl zm_X8_127 hF hB (c_X8_and l D ka kb q ad ((o || tOv (nu (5 * i + 0)) (nu (5 * j + 0))) || thO (nu (5 * i + 1)) (nu (5 * j + 1))) z ((nu (5 * i + 0)) * (nu (5 * j + 0))) (thV (nu (5 * i + 1)) (nu (5 * j + 1))) ) [0] rfl (by decide) [q] (fun _ => rfl) rfl 0 8 rfl rfl rfl ⟨Nat.le_of_ble_eq_true rfl, Nat.le_of_ble_eq_true rfl⟩ rfl hl.1 (Nat.le_of_ble_eq_true rfl) ⟨Nat.le_refl _, Nat.le_refl _⟩ dX8_product_82 ?_
  clear hB
  try clear locs
  try clear H
  intro r11 u11 H locs hp hB
  obtain rfl : r11 = ((nu (5 * i + 0)) * (nu (5 * j + 0))) + (thV (nu (5 * i + 1)) (nu (5 * j + 1))) := hp
  replace hB : zB D A s ([(q, .inr (8, mO ad (((o || tOv (nu (5 * i + 0)) (nu (5 * j + 0))) || thO (nu (5 * i + 1)) (nu (5 * j + 1))) || pOv ((nu (5 * i + 0)) * (nu (5 * j + 0))) (thV (nu (5 * i + 1)) (nu (5 * j + 1)))) z)), ((ad 3), .inl (ka 1, 200, .inr (.inl nu)))]) H locs := hB
  refine lv_aload_n hx hb dX8_product_85 rfl (lv_at hl 8 rfl) ?_
  refine lv_aload_n hx hb dX8_product_86 rfl (lv_at hl 8 rfl) ?_
  refine lv_lload hx hb dX8_product_87 (lv_at hl 5 rfl) ?_
  refine lv_lload hx hb dX8_product_89 (lv_at hl 1 rfl) ?_
  refine zVl zm_X8_124 hF hB (c_X8_times l D ka kb q ad (((o || tOv (nu (5 * i + 0)) (nu (5 * j + 0))) || thO (nu (5 * i + 1)) (nu (5 * j + 1))) || pOv ((nu (5 * i + 0)) * (nu (5 * j + 0))) (thV (nu (5 * i + 1)) (nu (5 * j + 1)))) z (nu (5 * i + 2)) (nu (5 * j + 2)) ) [0] rfl (by decide) [q] (fun _ => rfl) rfl 0 8 rfl rfl rfl ⟨Nat.le_of_ble_eq_true rfl, Nat.le_of_ble_eq_true rfl⟩ rfl hl.1 (Nat.le_of_ble_eq_true rfl) ⟨Nat.le_refl _, Nat.le_refl _⟩ dX8_product_91 ?_
  clear hB
  try clear locs
  try clear H
  intro r12 u12 H locs hp hB
  obtain rfl : r12 = (nu (5 * i + 2)) * (nu (5 * j + 2)) := hp
  replace hB : zB D A s ([(q, .inr (8, mO ad ((((o || tOv (nu (5 * i + 0)) (nu (5 * j + 0))) || thO (nu (5 * i + 1)) (nu (5 * j + 1))) || pOv ((nu (5 * i + 0)) * (nu (5 * j + 0))) (thV (nu (5 * i + 1)) (nu (5 * j + 1)))) || tOv (nu (5 * i + 2)) (nu (5 * j + 2))) z)), ((ad 3), .inl (ka 1, 200, .inr (.inl nu)))]) H locs := hB
  refine lv_aload_n hx hb dX8_product_94 rfl (lv_at hl 8 rfl) ?_
  refine lv_lload hx hb dX8_product_95 (lv_at hl 4 rfl) ?_
  refine lv_lload hx hb dX8_product_97 (lv_at hl 0 rfl) ?_
  refine zVl zm_X8_138 hF hB (c_X8_three l D ka kb q ad ((((o || tOv (nu (5 * i + 0)) (nu (5 * j + 0))) || thO (nu (5 * i + 1)) (nu (5 * j + 1))) || pOv ((nu (5 * i + 0)) * (nu (5 * j + 0))) (thV (nu (5 * i + 1)) (nu (5 * j + 1)))) || tOv (nu (5 * i + 2)) (nu (5 * j + 2))) z (nu (5 * i + 3)) (nu (5 * j + 3)) ) [0] rfl (by decide) [q] (fun _ => rfl) rfl 0 8 rfl rfl rfl ⟨Nat.le_of_ble_eq_true rfl, Nat.le_of_ble_eq_true rfl⟩ rfl hl.1 (Nat.le_of_ble_eq_true rfl) ⟨Nat.le_refl _, Nat.le_refl _⟩ dX8_product_99 ?_
  clear hB
  try clear locs
  try clear H
  intro r13 u13 H locs hp hB
  obtain rfl : r13 = thV (nu (5 * i + 3)) (nu (5 * j + 3)) := hp
  replace hB : zB D A s ([(q, .inr (8, mO ad (((((o || tOv (nu (5 * i + 0)) (nu (5 * j + 0))) || thO (nu (5 * i + 1)) (nu (5 * j + 1))) || pOv ((nu (5 * i + 0)) * (nu (5 * j + 0))) (thV (nu (5 * i + 1)) (nu (5 * j + 1)))) || tOv (nu (5 * i + 2)) (nu (5 * j + 2))) || thO (nu (5 * i + 3)) (nu (5 * j + 3))) z)), ((ad 3), .inl (ka 1, 200, .inr (.inl nu)))]) H locs := hB
  refine zVl zm_X8_127 hF hB (c_X8_and l D ka kb q ad (((((o || tOv (nu (5 * i + 0)) (nu (5 * j + 0))) || thO (nu (5 * i + 1)) (nu (5 * j + 1))) || pOv ((nu (5 * i + 0)) * (nu (5 * j + 0))) (thV (nu (5 * i + 1)) (nu (5 * j + 1)))) || tOv (nu (5 * i + 2)) (nu (5 * j + 2))) || thO (nu (5 * i + 3)) (nu (5 * j + 3))) z ((nu (5 * i + 2)) * (nu (5 * j + 2))) (thV (nu (5 * i + 3)) (nu (5 * j + 3))) ) [0] rfl (by decide) [q] (fun _ => rfl) rfl 0 8 rfl rfl rfl ⟨Nat.le_of_ble_eq_true rfl, Nat.le_of_ble_eq_true rfl⟩ rfl hl.1 (Nat.le_of_ble_eq_true rfl) ⟨Nat.le_refl _, Nat.le_refl _⟩ dX8_product_102 ?_
  clear hB
  try clear locs
  try clear H
  intro r14 u14 H locs hp hB
  obtain rfl : r14 = ((nu (5 * i + 2)) * (nu (5 * j + 2))) + (thV (nu (5 * i + 3)) (nu (5 * j + 3))) := hp
  replace hB : zB D A s ([(q, .inr (8, mO ad ((((((o || tOv (nu (5 * i + 0)) (nu (5 * j + 0))) || thO (nu (5 * i + 1)) (nu (5 * j + 1))) || pOv ((nu (5 * i + 0)) * (nu (5 * j + 0))) (thV (nu (5 * i + 1)) (nu (5 * j + 1)))) || tOv (nu (5 * i + 2)) (nu (5 * j + 2))) || thO (nu (5 * i + 3)) (nu (5 * j + 3))) || pOv ((nu (5 * i + 2)) * (nu (5 * j + 2))) (thV (nu (5 * i + 3)) (nu (5 * j + 3)))) z)), ((ad 3), .inl (ka 1, 200, .inr (.inl nu)))]) H locs := hB
  refine zVl zm_X8_109 hF hB (c_X8_less l D ka kb q ad ((((((o || tOv (nu (5 * i + 0)) (nu (5 * j + 0))) || thO (nu (5 * i + 1)) (nu (5 * j + 1))) || pOv ((nu (5 * i + 0)) * (nu (5 * j + 0))) (thV (nu (5 * i + 1)) (nu (5 * j + 1)))) || tOv (nu (5 * i + 2)) (nu (5 * j + 2))) || thO (nu (5 * i + 3)) (nu (5 * j + 3))) || pOv ((nu (5 * i + 2)) * (nu (5 * j + 2))) (thV (nu (5 * i + 3)) (nu (5 * j + 3)))) z (((nu (5 * i + 0)) * (nu (5 * j + 0))) + (thV (nu (5 * i + 1)) (nu (5 * j + 1)))) (((nu (5 * i + 2)) * (nu (5 * j + 2))) + (thV (nu (5 * i + 3)) (nu (5 * j + 3)))) ) [0] rfl (by decide) [q] (fun _ => rfl) rfl 0 8 rfl rfl rfl ⟨Nat.le_of_ble_eq_true rfl, Nat.le_of_ble_eq_true rfl⟩ rfl hl.1 (Nat.le_of_ble_eq_true rfl) ⟨Nat.le_refl _, Nat.le_refl _⟩ dX8_product_105 ?_
  clear hB
  try clear locs
  try clear H
  intro r15 u15 H locs hp hB
  obtain rfl : r15 = (((nu (5 * i + 0)) * (nu (5 * j + 0))) + (thV (nu (5 * i + 1)) (nu (5 * j + 1)))) - (((nu (5 * i + 2)) * (nu (5 * j + 2))) + (thV (nu (5 * i + 3)) (nu (5 * j + 3)))) := hp
  replace hB : zB D A s ([(q, .inr (8, mO ad (((((((o || tOv (nu (5 * i + 0)) (nu (5 * j + 0))) || thO (nu (5 * i + 1)) (nu (5 * j + 1))) || pOv ((nu (5 * i + 0)) * (nu (5 * j + 0))) (thV (nu (5 * i + 1)) (nu (5 * j + 1)))) || tOv (nu (5 * i + 2)) (nu (5 * j + 2))) || thO (nu (5 * i + 3)) (nu (5 * j + 3))) || pOv ((nu (5 * i + 2)) * (nu (5 * j + 2))) (thV (nu (5 * i + 3)) (nu (5 * j + 3)))) || mOv (((nu (5 * i + 0)) * (nu (5 * j + 0))) + (thV (nu (5 * i + 1)) (nu (5 * j + 1)))) (((nu (5 * i + 2)) * (nu (5 * j + 2))) + (thV (nu (5 * i + 3)) (nu (5 * j + 3))))) z)), ((ad 3), .inl (ka 1, 200, .inr (.inl nu)))]) H locs := hB
  refine lv_lstore (lv' := [(20, .long ((((nu (5 * i + 0)) * (nu (5 * j + 0))) + (thV (nu (5 * i + 1)) (nu (5 * j + 1)))) - (((nu (5 * i + 2)) * (nu (5 * j + 2))) + (thV (nu (5 * i + 3)) (nu (5 * j + 3)))))), (18, .long (nu (5 * j + 3))), (16, .long (nu (5 * j + 2))), (14, .long (nu (5 * j + 1))), (12, .long (nu (5 * j + 0))), (10, .long (nu (5 * i + 3))), (8, .long (nu (5 * i + 2))), (6, .long (nu (5 * i + 1))), (4, .long (nu (5 * i + 0))), (0, .ref q), (1, .int (nI t)), (2, .int (nI i)), (3, .int (nI j))]) hx hb dX8_product_108 hl (by decide) rfl ?_
  clear hl
  clear ls
  intro ls hl
  refine lv_aload_n hx hb dX8_product_110 rfl (lv_at hl 9 rfl) ?_
  refine lv_aload_n hx hb dX8_product_111 rfl (lv_at hl 9 rfl) ?_
  refine lv_aload_n hx hb dX8_product_112 rfl (lv_at hl 9 rfl) ?_
  refine lv_lload hx hb dX8_product_113 (lv_at hl 8 rfl) ?_
  refine lv_lload hx hb dX8_product_115 (lv_at hl 3 rfl) ?_
  refine zVl zm_X8_124 hF hB (c_X8_times l D ka kb q ad (((((((o || tOv (nu (5 * i + 0)) (nu (5 * j + 0))) || thO (nu (5 * i + 1)) (nu (5 * j + 1))) || pOv ((nu (5 * i + 0)) * (nu (5 * j + 0))) (thV (nu (5 * i + 1)) (nu (5 * j + 1)))) || tOv (nu (5 * i + 2)) (nu (5 * j + 2))) || thO (nu (5 * i + 3)) (nu (5 * j + 3))) || pOv ((nu (5 * i + 2)) * (nu (5 * j + 2))) (thV (nu (5 * i + 3)) (nu (5 * j + 3)))) || mOv (((nu (5 * i + 0)) * (nu (5 * j + 0))) + (thV (nu (5 * i + 1)) (nu (5 * j + 1)))) (((nu (5 * i + 2)) * (nu (5 * j + 2))) + (thV (nu (5 * i + 3)) (nu (5 * j + 3))))) z (nu (5 * i + 0)) (nu (5 * j + 1)) ) [0] rfl (by decide) [q] (fun _ => rfl) rfl 0 8 rfl rfl rfl ⟨Nat.le_of_ble_eq_true rfl, Nat.le_of_ble_eq_true rfl⟩ rfl hl.1 (Nat.le_of_ble_eq_true rfl) ⟨Nat.le_refl _, Nat.le_refl _⟩ dX8_product_117 ?_
  clear hB
  try clear locs
  try clear H
  intro r16 u16 H locs hp hB
  obtain rfl : r16 = (nu (5 * i + 0)) * (nu (5 * j + 1)) := hp
  replace hB : zB D A s ([(q, .inr (8, mO ad ((((((((o || tOv (nu (5 * i + 0)) (nu (5 * j + 0))) || thO (nu (5 * i + 1)) (nu (5 * j + 1))) || pOv ((nu (5 * i + 0)) * (nu (5 * j + 0))) (thV (nu (5 * i + 1)) (nu (5 * j + 1)))) || tOv (nu (5 * i + 2)) (nu (5 * j + 2))) || thO (nu (5 * i + 3)) (nu (5 * j + 3))) || pOv ((nu (5 * i + 2)) * (nu (5 * j + 2))) (thV (nu (5 * i + 3)) (nu (5 * j + 3)))) || mOv (((nu (5 * i + 0)) * (nu (5 * j + 0))) + (thV (nu (5 * i + 1)) (nu (5 * j + 1)))) (((nu (5 * i + 2)) * (nu (5 * j + 2))) + (thV (nu (5 * i + 3)) (nu (5 * j + 3))))) || tOv (nu (5 * i + 0)) (nu (5 * j + 1))) z)), ((ad 3), .inl (ka 1, 200, .inr (.inl nu)))]) H locs := hB
  refine lv_aload_n hx hb dX8_product_120 rfl (lv_at hl 9 rfl) ?_
  refine lv_lload hx hb dX8_product_121 (lv_at hl 7 rfl) ?_
  refine lv_lload hx hb dX8_product_123 (lv_at hl 4 rfl) ?_
  refine zVl zm_X8_124 hF hB (c_X8_times l D ka kb q ad ((((((((o || tOv (nu (5 * i + 0)) (nu (5 * j + 0))) || thO (nu (5 * i + 1)) (nu (5 * j + 1))) || pOv ((nu (5 * i + 0)) * (nu (5 * j + 0))) (thV (nu (5 * i + 1)) (nu (5 * j + 1)))) || tOv (nu (5 * i + 2)) (nu (5 * j + 2))) || thO (nu (5 * i + 3)) (nu (5 * j + 3))) || pOv ((nu (5 * i + 2)) * (nu (5 * j + 2))) (thV (nu (5 * i + 3)) (nu (5 * j + 3)))) || mOv (((nu (5 * i + 0)) * (nu (5 * j + 0))) + (thV (nu (5 * i + 1)) (nu (5 * j + 1)))) (((nu (5 * i + 2)) * (nu (5 * j + 2))) + (thV (nu (5 * i + 3)) (nu (5 * j + 3))))) || tOv (nu (5 * i + 0)) (nu (5 * j + 1))) z (nu (5 * i + 1)) (nu (5 * j + 0)) ) [0] rfl (by decide) [q] (fun _ => rfl) rfl 0 8 rfl rfl rfl ⟨Nat.le_of_ble_eq_true rfl, Nat.le_of_ble_eq_true rfl⟩ rfl hl.1 (Nat.le_of_ble_eq_true rfl) ⟨Nat.le_refl _, Nat.le_refl _⟩ dX8_product_125 ?_
  clear hB
  try clear locs
  try clear H
  intro r17 u17 H locs hp hB
  obtain rfl : r17 = (nu (5 * i + 1)) * (nu (5 * j + 0)) := hp
  replace hB : zB D A s ([(q, .inr (8, mO ad (((((((((o || tOv (nu (5 * i + 0)) (nu (5 * j + 0))) || thO (nu (5 * i + 1)) (nu (5 * j + 1))) || pOv ((nu (5 * i + 0)) * (nu (5 * j + 0))) (thV (nu (5 * i + 1)) (nu (5 * j + 1)))) || tOv (nu (5 * i + 2)) (nu (5 * j + 2))) || thO (nu (5 * i + 3)) (nu (5 * j + 3))) || pOv ((nu (5 * i + 2)) * (nu (5 * j + 2))) (thV (nu (5 * i + 3)) (nu (5 * j + 3)))) || mOv (((nu (5 * i + 0)) * (nu (5 * j + 0))) + (thV (nu (5 * i + 1)) (nu (5 * j + 1)))) (((nu (5 * i + 2)) * (nu (5 * j + 2))) + (thV (nu (5 * i + 3)) (nu (5 * j + 3))))) || tOv (nu (5 * i + 0)) (nu (5 * j + 1))) || tOv (nu (5 * i + 1)) (nu (5 * j + 0))) z)), ((ad 3), .inl (ka 1, 200, .inr (.inl nu)))]) H locs := hB
  refine zVl zm_X8_127 hF hB (c_X8_and l D ka kb q ad (((((((((o || tOv (nu (5 * i + 0)) (nu (5 * j + 0))) || thO (nu (5 * i + 1)) (nu (5 * j + 1))) || pOv ((nu (5 * i + 0)) * (nu (5 * j + 0))) (thV (nu (5 * i + 1)) (nu (5 * j + 1)))) || tOv (nu (5 * i + 2)) (nu (5 * j + 2))) || thO (nu (5 * i + 3)) (nu (5 * j + 3))) || pOv ((nu (5 * i + 2)) * (nu (5 * j + 2))) (thV (nu (5 * i + 3)) (nu (5 * j + 3)))) || mOv (((nu (5 * i + 0)) * (nu (5 * j + 0))) + (thV (nu (5 * i + 1)) (nu (5 * j + 1)))) (((nu (5 * i + 2)) * (nu (5 * j + 2))) + (thV (nu (5 * i + 3)) (nu (5 * j + 3))))) || tOv (nu (5 * i + 0)) (nu (5 * j + 1))) || tOv (nu (5 * i + 1)) (nu (5 * j + 0))) z ((nu (5 * i + 0)) * (nu (5 * j + 1))) ((nu (5 * i + 1)) * (nu (5 * j + 0))) ) [0] rfl (by decide) [q] (fun _ => rfl) rfl 0 8 rfl rfl rfl ⟨Nat.le_of_ble_eq_true rfl, Nat.le_of_ble_eq_true rfl⟩ rfl hl.1 (Nat.le_of_ble_eq_true rfl) ⟨Nat.le_refl _, Nat.le_refl _⟩ dX8_product_128 ?_
  clear hB
  try clear locs
  try clear H
  intro r18 u18 H locs hp hB
  obtain rfl : r18 = ((nu (5 * i + 0)) * (nu (5 * j + 1))) + ((nu (5 * i + 1)) * (nu (5 * j + 0))) := hp
  replace hB : zB D A s ([(q, .inr (8, mO ad ((((((((((o || tOv (nu (5 * i + 0)) (nu (5 * j + 0))) || thO (nu (5 * i + 1)) (nu (5 * j + 1))) || pOv ((nu (5 * i + 0)) * (nu (5 * j + 0))) (thV (nu (5 * i + 1)) (nu (5 * j + 1)))) || tOv (nu (5 * i + 2)) (nu (5 * j + 2))) || thO (nu (5 * i + 3)) (nu (5 * j + 3))) || pOv ((nu (5 * i + 2)) * (nu (5 * j + 2))) (thV (nu (5 * i + 3)) (nu (5 * j + 3)))) || mOv (((nu (5 * i + 0)) * (nu (5 * j + 0))) + (thV (nu (5 * i + 1)) (nu (5 * j + 1)))) (((nu (5 * i + 2)) * (nu (5 * j + 2))) + (thV (nu (5 * i + 3)) (nu (5 * j + 3))))) || tOv (nu (5 * i + 0)) (nu (5 * j + 1))) || tOv (nu (5 * i + 1)) (nu (5 * j + 0))) || pOv ((nu (5 * i + 0)) * (nu (5 * j + 1))) ((nu (5 * i + 1)) * (nu (5 * j + 0)))) z)), ((ad 3), .inl (ka 1, 200, .inr (.inl nu)))]) H locs := hB
  refine lv_aload_n hx hb dX8_product_131 rfl (lv_at hl 9 rfl) ?_
  refine lv_aload_n hx hb dX8_product_132 rfl (lv_at hl 9 rfl) ?_
  refine lv_lload hx hb dX8_product_133 (lv_at hl 6 rfl) ?_
  refine lv_lload hx hb dX8_product_135 (lv_at hl 1 rfl) ?_
  refine zVl zm_X8_124 hF hB (c_X8_times l D ka kb q ad ((((((((((o || tOv (nu (5 * i + 0)) (nu (5 * j + 0))) || thO (nu (5 * i + 1)) (nu (5 * j + 1))) || pOv ((nu (5 * i + 0)) * (nu (5 * j + 0))) (thV (nu (5 * i + 1)) (nu (5 * j + 1)))) || tOv (nu (5 * i + 2)) (nu (5 * j + 2))) || thO (nu (5 * i + 3)) (nu (5 * j + 3))) || pOv ((nu (5 * i + 2)) * (nu (5 * j + 2))) (thV (nu (5 * i + 3)) (nu (5 * j + 3)))) || mOv (((nu (5 * i + 0)) * (nu (5 * j + 0))) + (thV (nu (5 * i + 1)) (nu (5 * j + 1)))) (((nu (5 * i + 2)) * (nu (5 * j + 2))) + (thV (nu (5 * i + 3)) (nu (5 * j + 3))))) || tOv (nu (5 * i + 0)) (nu (5 * j + 1))) || tOv (nu (5 * i + 1)) (nu (5 * j + 0))) || pOv ((nu (5 * i + 0)) * (nu (5 * j + 1))) ((nu (5 * i + 1)) * (nu (5 * j + 0)))) z (nu (5 * i + 2)) (nu (5 * j + 3)) ) [0] rfl (by decide) [q] (fun _ => rfl) rfl 0 8 rfl rfl rfl ⟨Nat.le_of_ble_eq_true rfl, Nat.le_of_ble_eq_true rfl⟩ rfl hl.1 (Nat.le_of_ble_eq_true rfl) ⟨Nat.le_refl _, Nat.le_refl _⟩ dX8_product_137 ?_
  clear hB
  try clear locs
  try clear H
  intro r19 u19 H locs hp hB
  obtain rfl : r19 = (nu (5 * i + 2)) * (nu (5 * j + 3)) := hp
  replace hB : zB D A s ([(q, .inr (8, mO ad (((((((((((o || tOv (nu (5 * i + 0)) (nu (5 * j + 0))) || thO (nu (5 * i + 1)) (nu (5 * j + 1))) || pOv ((nu (5 * i + 0)) * (nu (5 * j + 0))) (thV (nu (5 * i + 1)) (nu (5 * j + 1)))) || tOv (nu (5 * i + 2)) (nu (5 * j + 2))) || thO (nu (5 * i + 3)) (nu (5 * j + 3))) || pOv ((nu (5 * i + 2)) * (nu (5 * j + 2))) (thV (nu (5 * i + 3)) (nu (5 * j + 3)))) || mOv (((nu (5 * i + 0)) * (nu (5 * j + 0))) + (thV (nu (5 * i + 1)) (nu (5 * j + 1)))) (((nu (5 * i + 2)) * (nu (5 * j + 2))) + (thV (nu (5 * i + 3)) (nu (5 * j + 3))))) || tOv (nu (5 * i + 0)) (nu (5 * j + 1))) || tOv (nu (5 * i + 1)) (nu (5 * j + 0))) || pOv ((nu (5 * i + 0)) * (nu (5 * j + 1))) ((nu (5 * i + 1)) * (nu (5 * j + 0)))) || tOv (nu (5 * i + 2)) (nu (5 * j + 3))) z)), ((ad 3), .inl (ka 1, 200, .inr (.inl nu)))]) H locs := hB
  refine lv_aload_n hx hb dX8_product_140 rfl (lv_at hl 9 rfl) ?_
  refine lv_lload hx hb dX8_product_141 (lv_at hl 5 rfl) ?_
  refine lv_lload hx hb dX8_product_143 (lv_at hl 2 rfl) ?_
  refine zVl zm_X8_124 hF hB (c_X8_times l D ka kb q ad (((((((((((o || tOv (nu (5 * i + 0)) (nu (5 * j + 0))) || thO (nu (5 * i + 1)) (nu (5 * j + 1))) || pOv ((nu (5 * i + 0)) * (nu (5 * j + 0))) (thV (nu (5 * i + 1)) (nu (5 * j + 1)))) || tOv (nu (5 * i + 2)) (nu (5 * j + 2))) || thO (nu (5 * i + 3)) (nu (5 * j + 3))) || pOv ((nu (5 * i + 2)) * (nu (5 * j + 2))) (thV (nu (5 * i + 3)) (nu (5 * j + 3)))) || mOv (((nu (5 * i + 0)) * (nu (5 * j + 0))) + (thV (nu (5 * i + 1)) (nu (5 * j + 1)))) (((nu (5 * i + 2)) * (nu (5 * j + 2))) + (thV (nu (5 * i + 3)) (nu (5 * j + 3))))) || tOv (nu (5 * i + 0)) (nu (5 * j + 1))) || tOv (nu (5 * i + 1)) (nu (5 * j + 0))) || pOv ((nu (5 * i + 0)) * (nu (5 * j + 1))) ((nu (5 * i + 1)) * (nu (5 * j + 0)))) || tOv (nu (5 * i + 2)) (nu (5 * j + 3))) z (nu (5 * i + 3)) (nu (5 * j + 2)) ) [0] rfl (by decide) [q] (fun _ => rfl) rfl 0 8 rfl rfl rfl ⟨Nat.le_of_ble_eq_true rfl, Nat.le_of_ble_eq_true rfl⟩ rfl hl.1 (Nat.le_of_ble_eq_true rfl) ⟨Nat.le_refl _, Nat.le_refl _⟩ dX8_product_145 ?_
  clear hB
  try clear locs
  try clear H
  intro r20 u20 H locs hp hB
  obtain rfl : r20 = (nu (5 * i + 3)) * (nu (5 * j + 2)) := hp
  replace hB : zB D A s ([(q, .inr (8, mO ad ((((((((((((o || tOv (nu (5 * i + 0)) (nu (5 * j + 0))) || thO (nu (5 * i + 1)) (nu (5 * j + 1))) || pOv ((nu (5 * i + 0)) * (nu (5 * j + 0))) (thV (nu (5 * i + 1)) (nu (5 * j + 1)))) || tOv (nu (5 * i + 2)) (nu (5 * j + 2))) || thO (nu (5 * i + 3)) (nu (5 * j + 3))) || pOv ((nu (5 * i + 2)) * (nu (5 * j + 2))) (thV (nu (5 * i + 3)) (nu (5 * j + 3)))) || mOv (((nu (5 * i + 0)) * (nu (5 * j + 0))) + (thV (nu (5 * i + 1)) (nu (5 * j + 1)))) (((nu (5 * i + 2)) * (nu (5 * j + 2))) + (thV (nu (5 * i + 3)) (nu (5 * j + 3))))) || tOv (nu (5 * i + 0)) (nu (5 * j + 1))) || tOv (nu (5 * i + 1)) (nu (5 * j + 0))) || pOv ((nu (5 * i + 0)) * (nu (5 * j + 1))) ((nu (5 * i + 1)) * (nu (5 * j + 0)))) || tOv (nu (5 * i + 2)) (nu (5 * j + 3))) || tOv (nu (5 * i + 3)) (nu (5 * j + 2))) z)), ((ad 3), .inl (ka 1, 200, .inr (.inl nu)))]) H locs := hB
  refine zVl zm_X8_127 hF hB (c_X8_and l D ka kb q ad ((((((((((((o || tOv (nu (5 * i + 0)) (nu (5 * j + 0))) || thO (nu (5 * i + 1)) (nu (5 * j + 1))) || pOv ((nu (5 * i + 0)) * (nu (5 * j + 0))) (thV (nu (5 * i + 1)) (nu (5 * j + 1)))) || tOv (nu (5 * i + 2)) (nu (5 * j + 2))) || thO (nu (5 * i + 3)) (nu (5 * j + 3))) || pOv ((nu (5 * i + 2)) * (nu (5 * j + 2))) (thV (nu (5 * i + 3)) (nu (5 * j + 3)))) || mOv (((nu (5 * i + 0)) * (nu (5 * j + 0))) + (thV (nu (5 * i + 1)) (nu (5 * j + 1)))) (((nu (5 * i + 2)) * (nu (5 * j + 2))) + (thV (nu (5 * i + 3)) (nu (5 * j + 3))))) || tOv (nu (5 * i + 0)) (nu (5 * j + 1))) || tOv (nu (5 * i + 1)) (nu (5 * j + 0))) || pOv ((nu (5 * i + 0)) * (nu (5 * j + 1))) ((nu (5 * i + 1)) * (nu (5 * j + 0)))) || tOv (nu (5 * i + 2)) (nu (5 * j + 3))) || tOv (nu (5 * i + 3)) (nu (5 * j + 2))) z ((nu (5 * i + 2)) * (nu (5 * j + 3))) ((nu (5 * i + 3)) * (nu (5 * j + 2))) ) [0] rfl (by decide) [q] (fun _ => rfl) rfl 0 8 rfl rfl rfl ⟨Nat.le_of_ble_eq_true rfl, Nat.le_of_ble_eq_true rfl⟩ rfl hl.1 (Nat.le_of_ble_eq_true rfl) ⟨Nat.le_refl _, Nat.le_refl _⟩ dX8_product_148 ?_
  clear hB
  try clear locs
  try clear H
  intro r21 u21 H locs hp hB
  obtain rfl : r21 = ((nu (5 * i + 2)) * (nu (5 * j + 3))) + ((nu (5 * i + 3)) * (nu (5 * j + 2))) := hp
  replace hB : zB D A s ([(q, .inr (8, mO ad (((((((((((((o || tOv (nu (5 * i + 0)) (nu (5 * j + 0))) || thO (nu (5 * i + 1)) (nu (5 * j + 1))) || pOv ((nu (5 * i + 0)) * (nu (5 * j + 0))) (thV (nu (5 * i + 1)) (nu (5 * j + 1)))) || tOv (nu (5 * i + 2)) (nu (5 * j + 2))) || thO (nu (5 * i + 3)) (nu (5 * j + 3))) || pOv ((nu (5 * i + 2)) * (nu (5 * j + 2))) (thV (nu (5 * i + 3)) (nu (5 * j + 3)))) || mOv (((nu (5 * i + 0)) * (nu (5 * j + 0))) + (thV (nu (5 * i + 1)) (nu (5 * j + 1)))) (((nu (5 * i + 2)) * (nu (5 * j + 2))) + (thV (nu (5 * i + 3)) (nu (5 * j + 3))))) || tOv (nu (5 * i + 0)) (nu (5 * j + 1))) || tOv (nu (5 * i + 1)) (nu (5 * j + 0))) || pOv ((nu (5 * i + 0)) * (nu (5 * j + 1))) ((nu (5 * i + 1)) * (nu (5 * j + 0)))) || tOv (nu (5 * i + 2)) (nu (5 * j + 3))) || tOv (nu (5 * i + 3)) (nu (5 * j + 2))) || pOv ((nu (5 * i + 2)) * (nu (5 * j + 3))) ((nu (5 * i + 3)) * (nu (5 * j + 2)))) z)), ((ad 3), .inl (ka 1, 200, .inr (.inl nu)))]) H locs := hB
  refine zVl zm_X8_109 hF hB (c_X8_less l D ka kb q ad (((((((((((((o || tOv (nu (5 * i + 0)) (nu (5 * j + 0))) || thO (nu (5 * i + 1)) (nu (5 * j + 1))) || pOv ((nu (5 * i + 0)) * (nu (5 * j + 0))) (thV (nu (5 * i + 1)) (nu (5 * j + 1)))) || tOv (nu (5 * i + 2)) (nu (5 * j + 2))) || thO (nu (5 * i + 3)) (nu (5 * j + 3))) || pOv ((nu (5 * i + 2)) * (nu (5 * j + 2))) (thV (nu (5 * i + 3)) (nu (5 * j + 3)))) || mOv (((nu (5 * i + 0)) * (nu (5 * j + 0))) + (thV (nu (5 * i + 1)) (nu (5 * j + 1)))) (((nu (5 * i + 2)) * (nu (5 * j + 2))) + (thV (nu (5 * i + 3)) (nu (5 * j + 3))))) || tOv (nu (5 * i + 0)) (nu (5 * j + 1))) || tOv (nu (5 * i + 1)) (nu (5 * j + 0))) || pOv ((nu (5 * i + 0)) * (nu (5 * j + 1))) ((nu (5 * i + 1)) * (nu (5 * j + 0)))) || tOv (nu (5 * i + 2)) (nu (5 * j + 3))) || tOv (nu (5 * i + 3)) (nu (5 * j + 2))) || pOv ((nu (5 * i + 2)) * (nu (5 * j + 3))) ((nu (5 * i + 3)) * (nu (5 * j + 2)))) z (((nu (5 * i + 0)) * (nu (5 * j + 1))) + ((nu (5 * i + 1)) * (nu (5 * j + 0)))) (((nu (5 * i + 2)) * (nu (5 * j + 3))) + ((nu (5 * i + 3)) * (nu (5 * j + 2)))) ) [0] rfl (by decide) [q] (fun _ => rfl) rfl 0 8 rfl rfl rfl ⟨Nat.le_of_ble_eq_true rfl, Nat.le_of_ble_eq_true rfl⟩ rfl hl.1 (Nat.le_of_ble_eq_true rfl) ⟨Nat.le_refl _, Nat.le_refl _⟩ dX8_product_151 ?_
  clear hB
  try clear locs
  try clear H
  intro r22 u22 H locs hp hB
  obtain rfl : r22 = (((nu (5 * i + 0)) * (nu (5 * j + 1))) + ((nu (5 * i + 1)) * (nu (5 * j + 0)))) - (((nu (5 * i + 2)) * (nu (5 * j + 3))) + ((nu (5 * i + 3)) * (nu (5 * j + 2)))) := hp
  replace hB : zB D A s ([(q, .inr (8, mO ad ((((((((((((((o || tOv (nu (5 * i + 0)) (nu (5 * j + 0))) || thO (nu (5 * i + 1)) (nu (5 * j + 1))) || pOv ((nu (5 * i + 0)) * (nu (5 * j + 0))) (thV (nu (5 * i + 1)) (nu (5 * j + 1)))) || tOv (nu (5 * i + 2)) (nu (5 * j + 2))) || thO (nu (5 * i + 3)) (nu (5 * j + 3))) || pOv ((nu (5 * i + 2)) * (nu (5 * j + 2))) (thV (nu (5 * i + 3)) (nu (5 * j + 3)))) || mOv (((nu (5 * i + 0)) * (nu (5 * j + 0))) + (thV (nu (5 * i + 1)) (nu (5 * j + 1)))) (((nu (5 * i + 2)) * (nu (5 * j + 2))) + (thV (nu (5 * i + 3)) (nu (5 * j + 3))))) || tOv (nu (5 * i + 0)) (nu (5 * j + 1))) || tOv (nu (5 * i + 1)) (nu (5 * j + 0))) || pOv ((nu (5 * i + 0)) * (nu (5 * j + 1))) ((nu (5 * i + 1)) * (nu (5 * j + 0)))) || tOv (nu (5 * i + 2)) (nu (5 * j + 3))) || tOv (nu (5 * i + 3)) (nu (5 * j + 2))) || pOv ((nu (5 * i + 2)) * (nu (5 * j + 3))) ((nu (5 * i + 3)) * (nu (5 * j + 2)))) || mOv (((nu (5 * i + 0)) * (nu (5 * j + 1))) + ((nu (5 * i + 1)) * (nu (5 * j + 0)))) (((nu (5 * i + 2)) * (nu (5 * j + 3))) + ((nu (5 * i + 3)) * (nu (5 * j + 2))))) z)), ((ad 3), .inl (ka 1, 200, .inr (.inl nu)))]) H locs := hB
  refine lv_lstore (lv' := [(22, .long ((((nu (5 * i + 0)) * (nu (5 * j + 1))) + ((nu (5 * i + 1)) * (nu (5 * j + 0)))) - (((nu (5 * i + 2)) * (nu (5 * j + 3))) + ((nu (5 * i + 3)) * (nu (5 * j + 2)))))), (20, .long ((((nu (5 * i + 0)) * (nu (5 * j + 0))) + (thV (nu (5 * i + 1)) (nu (5 * j + 1)))) - (((nu (5 * i + 2)) * (nu (5 * j + 2))) + (thV (nu (5 * i + 3)) (nu (5 * j + 3)))))), (18, .long (nu (5 * j + 3))), (16, .long (nu (5 * j + 2))), (14, .long (nu (5 * j + 1))), (12, .long (nu (5 * j + 0))), (10, .long (nu (5 * i + 3))), (8, .long (nu (5 * i + 2))), (6, .long (nu (5 * i + 1))), (4, .long (nu (5 * i + 0))), (0, .ref q), (1, .int (nI t)), (2, .int (nI i)), (3, .int (nI j))]) hx hb dX8_product_154 hl (by decide) rfl ?_
  clear hl
  clear ls
  intro ls hl
  refine lv_aload_n hx hb dX8_product_156 rfl (lv_at hl 10 rfl) ?_
  refine lv_aload_n hx hb dX8_product_157 rfl (lv_at hl 10 rfl) ?_
  refine lv_aload_n hx hb dX8_product_158 rfl (lv_at hl 10 rfl) ?_
  refine lv_aload_n hx hb dX8_product_159 rfl (lv_at hl 10 rfl) ?_
  refine lv_lload hx hb dX8_product_160 (lv_at hl 9 rfl) ?_
  refine lv_lload hx hb dX8_product_162 (lv_at hl 3 rfl) ?_
  refine zVl zm_X8_124 hF hB (c_X8_times l D ka kb q ad ((((((((((((((o || tOv (nu (5 * i + 0)) (nu (5 * j + 0))) || thO (nu (5 * i + 1)) (nu (5 * j + 1))) || pOv ((nu (5 * i + 0)) * (nu (5 * j + 0))) (thV (nu (5 * i + 1)) (nu (5 * j + 1)))) || tOv (nu (5 * i + 2)) (nu (5 * j + 2))) || thO (nu (5 * i + 3)) (nu (5 * j + 3))) || pOv ((nu (5 * i + 2)) * (nu (5 * j + 2))) (thV (nu (5 * i + 3)) (nu (5 * j + 3)))) || mOv (((nu (5 * i + 0)) * (nu (5 * j + 0))) + (thV (nu (5 * i + 1)) (nu (5 * j + 1)))) (((nu (5 * i + 2)) * (nu (5 * j + 2))) + (thV (nu (5 * i + 3)) (nu (5 * j + 3))))) || tOv (nu (5 * i + 0)) (nu (5 * j + 1))) || tOv (nu (5 * i + 1)) (nu (5 * j + 0))) || pOv ((nu (5 * i + 0)) * (nu (5 * j + 1))) ((nu (5 * i + 1)) * (nu (5 * j + 0)))) || tOv (nu (5 * i + 2)) (nu (5 * j + 3))) || tOv (nu (5 * i + 3)) (nu (5 * j + 2))) || pOv ((nu (5 * i + 2)) * (nu (5 * j + 3))) ((nu (5 * i + 3)) * (nu (5 * j + 2)))) || mOv (((nu (5 * i + 0)) * (nu (5 * j + 1))) + ((nu (5 * i + 1)) * (nu (5 * j + 0)))) (((nu (5 * i + 2)) * (nu (5 * j + 3))) + ((nu (5 * i + 3)) * (nu (5 * j + 2))))) z (nu (5 * i + 0)) (nu (5 * j + 2)) ) [0] rfl (by decide) [q] (fun _ => rfl) rfl 0 8 rfl rfl rfl ⟨Nat.le_of_ble_eq_true rfl, Nat.le_of_ble_eq_true rfl⟩ rfl hl.1 (Nat.le_of_ble_eq_true rfl) ⟨Nat.le_refl _, Nat.le_refl _⟩ dX8_product_164 ?_
  clear hB
  try clear locs
  try clear H
  intro r23 u23 H locs hp hB
  obtain rfl : r23 = (nu (5 * i + 0)) * (nu (5 * j + 2)) := hp
  replace hB : zB D A s ([(q, .inr (8, mO ad (((((((((((((((o || tOv (nu (5 * i + 0)) (nu (5 * j + 0))) || thO (nu (5 * i + 1)) (nu (5 * j + 1))) || pOv ((nu (5 * i + 0)) * (nu (5 * j + 0))) (thV (nu (5 * i + 1)) (nu (5 * j + 1)))) || tOv (nu (5 * i + 2)) (nu (5 * j + 2))) || thO (nu (5 * i + 3)) (nu (5 * j + 3))) || pOv ((nu (5 * i + 2)) * (nu (5 * j + 2))) (thV (nu (5 * i + 3)) (nu (5 * j + 3)))) || mOv (((nu (5 * i + 0)) * (nu (5 * j + 0))) + (thV (nu (5 * i + 1)) (nu (5 * j + 1)))) (((nu (5 * i + 2)) * (nu (5 * j + 2))) + (thV (nu (5 * i + 3)) (nu (5 * j + 3))))) || tOv (nu (5 * i + 0)) (nu (5 * j + 1))) || tOv (nu (5 * i + 1)) (nu (5 * j + 0))) || pOv ((nu (5 * i + 0)) * (nu (5 * j + 1))) ((nu (5 * i + 1)) * (nu (5 * j + 0)))) || tOv (nu (5 * i + 2)) (nu (5 * j + 3))) || tOv (nu (5 * i + 3)) (nu (5 * j + 2))) || pOv ((nu (5 * i + 2)) * (nu (5 * j + 3))) ((nu (5 * i + 3)) * (nu (5 * j + 2)))) || mOv (((nu (5 * i + 0)) * (nu (5 * j + 1))) + ((nu (5 * i + 1)) * (nu (5 * j + 0)))) (((nu (5 * i + 2)) * (nu (5 * j + 3))) + ((nu (5 * i + 3)) * (nu (5 * j + 2))))) || tOv (nu (5 * i + 0)) (nu (5 * j + 2))) z)), ((ad 3), .inl (ka 1, 200, .inr (.inl nu)))]) H locs := hB
  refine lv_aload_n hx hb dX8_product_167 rfl (lv_at hl 10 rfl) ?_
  refine lv_lload hx hb dX8_product_168 (lv_at hl 8 rfl) ?_
  refine lv_lload hx hb dX8_product_170 (lv_at hl 2 rfl) ?_
  refine zVl zm_X8_138 hF hB (c_X8_three l D ka kb q ad (((((((((((((((o || tOv (nu (5 * i + 0)) (nu (5 * j + 0))) || thO (nu (5 * i + 1)) (nu (5 * j + 1))) || pOv ((nu (5 * i + 0)) * (nu (5 * j + 0))) (thV (nu (5 * i + 1)) (nu (5 * j + 1)))) || tOv (nu (5 * i + 2)) (nu (5 * j + 2))) || thO (nu (5 * i + 3)) (nu (5 * j + 3))) || pOv ((nu (5 * i + 2)) * (nu (5 * j + 2))) (thV (nu (5 * i + 3)) (nu (5 * j + 3)))) || mOv (((nu (5 * i + 0)) * (nu (5 * j + 0))) + (thV (nu (5 * i + 1)) (nu (5 * j + 1)))) (((nu (5 * i + 2)) * (nu (5 * j + 2))) + (thV (nu (5 * i + 3)) (nu (5 * j + 3))))) || tOv (nu (5 * i + 0)) (nu (5 * j + 1))) || tOv (nu (5 * i + 1)) (nu (5 * j + 0))) || pOv ((nu (5 * i + 0)) * (nu (5 * j + 1))) ((nu (5 * i + 1)) * (nu (5 * j + 0)))) || tOv (nu (5 * i + 2)) (nu (5 * j + 3))) || tOv (nu (5 * i + 3)) (nu (5 * j + 2))) || pOv ((nu (5 * i + 2)) * (nu (5 * j + 3))) ((nu (5 * i + 3)) * (nu (5 * j + 2)))) || mOv (((nu (5 * i + 0)) * (nu (5 * j + 1))) + ((nu (5 * i + 1)) * (nu (5 * j + 0)))) (((nu (5 * i + 2)) * (nu (5 * j + 3))) + ((nu (5 * i + 3)) * (nu (5 * j + 2))))) || tOv (nu (5 * i + 0)) (nu (5 * j + 2))) z (nu (5 * i + 1)) (nu (5 * j + 3)) ) [0] rfl (by decide) [q] (fun _ => rfl) rfl 0 8 rfl rfl rfl ⟨Nat.le_of_ble_eq_true rfl, Nat.le_of_ble_eq_true rfl⟩ rfl hl.1 (Nat.le_of_ble_eq_true rfl) ⟨Nat.le_refl _, Nat.le_refl _⟩ dX8_product_172 ?_
  clear hB
  try clear locs
  try clear H
  intro r24 u24 H locs hp hB
  obtain rfl : r24 = thV (nu (5 * i + 1)) (nu (5 * j + 3)) := hp
  replace hB : zB D A s ([(q, .inr (8, mO ad ((((((((((((((((o || tOv (nu (5 * i + 0)) (nu (5 * j + 0))) || thO (nu (5 * i + 1)) (nu (5 * j + 1))) || pOv ((nu (5 * i + 0)) * (nu (5 * j + 0))) (thV (nu (5 * i + 1)) (nu (5 * j + 1)))) || tOv (nu (5 * i + 2)) (nu (5 * j + 2))) || thO (nu (5 * i + 3)) (nu (5 * j + 3))) || pOv ((nu (5 * i + 2)) * (nu (5 * j + 2))) (thV (nu (5 * i + 3)) (nu (5 * j + 3)))) || mOv (((nu (5 * i + 0)) * (nu (5 * j + 0))) + (thV (nu (5 * i + 1)) (nu (5 * j + 1)))) (((nu (5 * i + 2)) * (nu (5 * j + 2))) + (thV (nu (5 * i + 3)) (nu (5 * j + 3))))) || tOv (nu (5 * i + 0)) (nu (5 * j + 1))) || tOv (nu (5 * i + 1)) (nu (5 * j + 0))) || pOv ((nu (5 * i + 0)) * (nu (5 * j + 1))) ((nu (5 * i + 1)) * (nu (5 * j + 0)))) || tOv (nu (5 * i + 2)) (nu (5 * j + 3))) || tOv (nu (5 * i + 3)) (nu (5 * j + 2))) || pOv ((nu (5 * i + 2)) * (nu (5 * j + 3))) ((nu (5 * i + 3)) * (nu (5 * j + 2)))) || mOv (((nu (5 * i + 0)) * (nu (5 * j + 1))) + ((nu (5 * i + 1)) * (nu (5 * j + 0)))) (((nu (5 * i + 2)) * (nu (5 * j + 3))) + ((nu (5 * i + 3)) * (nu (5 * j + 2))))) || tOv (nu (5 * i + 0)) (nu (5 * j + 2))) || thO (nu (5 * i + 1)) (nu (5 * j + 3))) z)), ((ad 3), .inl (ka 1, 200, .inr (.inl nu)))]) H locs := hB
  refine zVl zm_X8_127 hF hB (c_X8_and l D ka kb q ad ((((((((((((((((o || tOv (nu (5 * i + 0)) (nu (5 * j + 0))) || thO (nu (5 * i + 1)) (nu (5 * j + 1))) || pOv ((nu (5 * i + 0)) * (nu (5 * j + 0))) (thV (nu (5 * i + 1)) (nu (5 * j + 1)))) || tOv (nu (5 * i + 2)) (nu (5 * j + 2))) || thO (nu (5 * i + 3)) (nu (5 * j + 3))) || pOv ((nu (5 * i + 2)) * (nu (5 * j + 2))) (thV (nu (5 * i + 3)) (nu (5 * j + 3)))) || mOv (((nu (5 * i + 0)) * (nu (5 * j + 0))) + (thV (nu (5 * i + 1)) (nu (5 * j + 1)))) (((nu (5 * i + 2)) * (nu (5 * j + 2))) + (thV (nu (5 * i + 3)) (nu (5 * j + 3))))) || tOv (nu (5 * i + 0)) (nu (5 * j + 1))) || tOv (nu (5 * i + 1)) (nu (5 * j + 0))) || pOv ((nu (5 * i + 0)) * (nu (5 * j + 1))) ((nu (5 * i + 1)) * (nu (5 * j + 0)))) || tOv (nu (5 * i + 2)) (nu (5 * j + 3))) || tOv (nu (5 * i + 3)) (nu (5 * j + 2))) || pOv ((nu (5 * i + 2)) * (nu (5 * j + 3))) ((nu (5 * i + 3)) * (nu (5 * j + 2)))) || mOv (((nu (5 * i + 0)) * (nu (5 * j + 1))) + ((nu (5 * i + 1)) * (nu (5 * j + 0)))) (((nu (5 * i + 2)) * (nu (5 * j + 3))) + ((nu (5 * i + 3)) * (nu (5 * j + 2))))) || tOv (nu (5 * i + 0)) (nu (5 * j + 2))) || thO (nu (5 * i + 1)) (nu (5 * j + 3))) z ((nu (5 * i + 0)) * (nu (5 * j + 2))) (thV (nu (5 * i + 1)) (nu (5 * j + 3))) ) [0] rfl (by decide) [q] (fun _ => rfl) rfl 0 8 rfl rfl rfl ⟨Nat.le_of_ble_eq_true rfl, Nat.le_of_ble_eq_true rfl⟩ rfl hl.1 (Nat.le_of_ble_eq_true rfl) ⟨Nat.le_refl _, Nat.le_refl _⟩ dX8_product_175 ?_
  clear hB
  try clear locs
  try clear H
  intro r25 u25 H locs hp hB
  obtain rfl : r25 = ((nu (5 * i + 0)) * (nu (5 * j + 2))) + (thV (nu (5 * i + 1)) (nu (5 * j + 3))) := hp
  replace hB : zB D A s ([(q, .inr (8, mO ad (((((((((((((((((o || tOv (nu (5 * i + 0)) (nu (5 * j + 0))) || thO (nu (5 * i + 1)) (nu (5 * j + 1))) || pOv ((nu (5 * i + 0)) * (nu (5 * j + 0))) (thV (nu (5 * i + 1)) (nu (5 * j + 1)))) || tOv (nu (5 * i + 2)) (nu (5 * j + 2))) || thO (nu (5 * i + 3)) (nu (5 * j + 3))) || pOv ((nu (5 * i + 2)) * (nu (5 * j + 2))) (thV (nu (5 * i + 3)) (nu (5 * j + 3)))) || mOv (((nu (5 * i + 0)) * (nu (5 * j + 0))) + (thV (nu (5 * i + 1)) (nu (5 * j + 1)))) (((nu (5 * i + 2)) * (nu (5 * j + 2))) + (thV (nu (5 * i + 3)) (nu (5 * j + 3))))) || tOv (nu (5 * i + 0)) (nu (5 * j + 1))) || tOv (nu (5 * i + 1)) (nu (5 * j + 0))) || pOv ((nu (5 * i + 0)) * (nu (5 * j + 1))) ((nu (5 * i + 1)) * (nu (5 * j + 0)))) || tOv (nu (5 * i + 2)) (nu (5 * j + 3))) || tOv (nu (5 * i + 3)) (nu (5 * j + 2))) || pOv ((nu (5 * i + 2)) * (nu (5 * j + 3))) ((nu (5 * i + 3)) * (nu (5 * j + 2)))) || mOv (((nu (5 * i + 0)) * (nu (5 * j + 1))) + ((nu (5 * i + 1)) * (nu (5 * j + 0)))) (((nu (5 * i + 2)) * (nu (5 * j + 3))) + ((nu (5 * i + 3)) * (nu (5 * j + 2))))) || tOv (nu (5 * i + 0)) (nu (5 * j + 2))) || thO (nu (5 * i + 1)) (nu (5 * j + 3))) || pOv ((nu (5 * i + 0)) * (nu (5 * j + 2))) (thV (nu (5 * i + 1)) (nu (5 * j + 3)))) z)), ((ad 3), .inl (ka 1, 200, .inr (.inl nu)))]) H locs := hB
  refine lv_aload_n hx hb dX8_product_178 rfl (lv_at hl 10 rfl) ?_
  refine lv_lload hx hb dX8_product_179 (lv_at hl 7 rfl) ?_
  refine lv_lload hx hb dX8_product_181 (lv_at hl 5 rfl) ?_
  refine zVl zm_X8_124 hF hB (c_X8_times l D ka kb q ad (((((((((((((((((o || tOv (nu (5 * i + 0)) (nu (5 * j + 0))) || thO (nu (5 * i + 1)) (nu (5 * j + 1))) || pOv ((nu (5 * i + 0)) * (nu (5 * j + 0))) (thV (nu (5 * i + 1)) (nu (5 * j + 1)))) || tOv (nu (5 * i + 2)) (nu (5 * j + 2))) || thO (nu (5 * i + 3)) (nu (5 * j + 3))) || pOv ((nu (5 * i + 2)) * (nu (5 * j + 2))) (thV (nu (5 * i + 3)) (nu (5 * j + 3)))) || mOv (((nu (5 * i + 0)) * (nu (5 * j + 0))) + (thV (nu (5 * i + 1)) (nu (5 * j + 1)))) (((nu (5 * i + 2)) * (nu (5 * j + 2))) + (thV (nu (5 * i + 3)) (nu (5 * j + 3))))) || tOv (nu (5 * i + 0)) (nu (5 * j + 1))) || tOv (nu (5 * i + 1)) (nu (5 * j + 0))) || pOv ((nu (5 * i + 0)) * (nu (5 * j + 1))) ((nu (5 * i + 1)) * (nu (5 * j + 0)))) || tOv (nu (5 * i + 2)) (nu (5 * j + 3))) || tOv (nu (5 * i + 3)) (nu (5 * j + 2))) || pOv ((nu (5 * i + 2)) * (nu (5 * j + 3))) ((nu (5 * i + 3)) * (nu (5 * j + 2)))) || mOv (((nu (5 * i + 0)) * (nu (5 * j + 1))) + ((nu (5 * i + 1)) * (nu (5 * j + 0)))) (((nu (5 * i + 2)) * (nu (5 * j + 3))) + ((nu (5 * i + 3)) * (nu (5 * j + 2))))) || tOv (nu (5 * i + 0)) (nu (5 * j + 2))) || thO (nu (5 * i + 1)) (nu (5 * j + 3))) || pOv ((nu (5 * i + 0)) * (nu (5 * j + 2))) (thV (nu (5 * i + 1)) (nu (5 * j + 3)))) z (nu (5 * i + 2)) (nu (5 * j + 0)) ) [0] rfl (by decide) [q] (fun _ => rfl) rfl 0 8 rfl rfl rfl ⟨Nat.le_of_ble_eq_true rfl, Nat.le_of_ble_eq_true rfl⟩ rfl hl.1 (Nat.le_of_ble_eq_true rfl) ⟨Nat.le_refl _, Nat.le_refl _⟩ dX8_product_183 ?_
  clear hB
  try clear locs
  try clear H
  intro r26 u26 H locs hp hB
  obtain rfl : r26 = (nu (5 * i + 2)) * (nu (5 * j + 0)) := hp
  replace hB : zB D A s ([(q, .inr (8, mO ad ((((((((((((((((((o || tOv (nu (5 * i + 0)) (nu (5 * j + 0))) || thO (nu (5 * i + 1)) (nu (5 * j + 1))) || pOv ((nu (5 * i + 0)) * (nu (5 * j + 0))) (thV (nu (5 * i + 1)) (nu (5 * j + 1)))) || tOv (nu (5 * i + 2)) (nu (5 * j + 2))) || thO (nu (5 * i + 3)) (nu (5 * j + 3))) || pOv ((nu (5 * i + 2)) * (nu (5 * j + 2))) (thV (nu (5 * i + 3)) (nu (5 * j + 3)))) || mOv (((nu (5 * i + 0)) * (nu (5 * j + 0))) + (thV (nu (5 * i + 1)) (nu (5 * j + 1)))) (((nu (5 * i + 2)) * (nu (5 * j + 2))) + (thV (nu (5 * i + 3)) (nu (5 * j + 3))))) || tOv (nu (5 * i + 0)) (nu (5 * j + 1))) || tOv (nu (5 * i + 1)) (nu (5 * j + 0))) || pOv ((nu (5 * i + 0)) * (nu (5 * j + 1))) ((nu (5 * i + 1)) * (nu (5 * j + 0)))) || tOv (nu (5 * i + 2)) (nu (5 * j + 3))) || tOv (nu (5 * i + 3)) (nu (5 * j + 2))) || pOv ((nu (5 * i + 2)) * (nu (5 * j + 3))) ((nu (5 * i + 3)) * (nu (5 * j + 2)))) || mOv (((nu (5 * i + 0)) * (nu (5 * j + 1))) + ((nu (5 * i + 1)) * (nu (5 * j + 0)))) (((nu (5 * i + 2)) * (nu (5 * j + 3))) + ((nu (5 * i + 3)) * (nu (5 * j + 2))))) || tOv (nu (5 * i + 0)) (nu (5 * j + 2))) || thO (nu (5 * i + 1)) (nu (5 * j + 3))) || pOv ((nu (5 * i + 0)) * (nu (5 * j + 2))) (thV (nu (5 * i + 1)) (nu (5 * j + 3)))) || tOv (nu (5 * i + 2)) (nu (5 * j + 0))) z)), ((ad 3), .inl (ka 1, 200, .inr (.inl nu)))]) H locs := hB
  refine zVl zm_X8_127 hF hB (c_X8_and l D ka kb q ad ((((((((((((((((((o || tOv (nu (5 * i + 0)) (nu (5 * j + 0))) || thO (nu (5 * i + 1)) (nu (5 * j + 1))) || pOv ((nu (5 * i + 0)) * (nu (5 * j + 0))) (thV (nu (5 * i + 1)) (nu (5 * j + 1)))) || tOv (nu (5 * i + 2)) (nu (5 * j + 2))) || thO (nu (5 * i + 3)) (nu (5 * j + 3))) || pOv ((nu (5 * i + 2)) * (nu (5 * j + 2))) (thV (nu (5 * i + 3)) (nu (5 * j + 3)))) || mOv (((nu (5 * i + 0)) * (nu (5 * j + 0))) + (thV (nu (5 * i + 1)) (nu (5 * j + 1)))) (((nu (5 * i + 2)) * (nu (5 * j + 2))) + (thV (nu (5 * i + 3)) (nu (5 * j + 3))))) || tOv (nu (5 * i + 0)) (nu (5 * j + 1))) || tOv (nu (5 * i + 1)) (nu (5 * j + 0))) || pOv ((nu (5 * i + 0)) * (nu (5 * j + 1))) ((nu (5 * i + 1)) * (nu (5 * j + 0)))) || tOv (nu (5 * i + 2)) (nu (5 * j + 3))) || tOv (nu (5 * i + 3)) (nu (5 * j + 2))) || pOv ((nu (5 * i + 2)) * (nu (5 * j + 3))) ((nu (5 * i + 3)) * (nu (5 * j + 2)))) || mOv (((nu (5 * i + 0)) * (nu (5 * j + 1))) + ((nu (5 * i + 1)) * (nu (5 * j + 0)))) (((nu (5 * i + 2)) * (nu (5 * j + 3))) + ((nu (5 * i + 3)) * (nu (5 * j + 2))))) || tOv (nu (5 * i + 0)) (nu (5 * j + 2))) || thO (nu (5 * i + 1)) (nu (5 * j + 3))) || pOv ((nu (5 * i + 0)) * (nu (5 * j + 2))) (thV (nu (5 * i + 1)) (nu (5 * j + 3)))) || tOv (nu (5 * i + 2)) (nu (5 * j + 0))) z (((nu (5 * i + 0)) * (nu (5 * j + 2))) + (thV (nu (5 * i + 1)) (nu (5 * j + 3)))) ((nu (5 * i + 2)) * (nu (5 * j + 0))) ) [0] rfl (by decide) [q] (fun _ => rfl) rfl 0 8 rfl rfl rfl ⟨Nat.le_of_ble_eq_true rfl, Nat.le_of_ble_eq_true rfl⟩ rfl hl.1 (Nat.le_of_ble_eq_true rfl) ⟨Nat.le_refl _, Nat.le_refl _⟩ dX8_product_186 ?_
  clear hB
  try clear locs
  try clear H
  intro r27 u27 H locs hp hB
  obtain rfl : r27 = (((nu (5 * i + 0)) * (nu (5 * j + 2))) + (thV (nu (5 * i + 1)) (nu (5 * j + 3)))) + ((nu (5 * i + 2)) * (nu (5 * j + 0))) := hp
  replace hB : zB D A s ([(q, .inr (8, mO ad (((((((((((((((((((o || tOv (nu (5 * i + 0)) (nu (5 * j + 0))) || thO (nu (5 * i + 1)) (nu (5 * j + 1))) || pOv ((nu (5 * i + 0)) * (nu (5 * j + 0))) (thV (nu (5 * i + 1)) (nu (5 * j + 1)))) || tOv (nu (5 * i + 2)) (nu (5 * j + 2))) || thO (nu (5 * i + 3)) (nu (5 * j + 3))) || pOv ((nu (5 * i + 2)) * (nu (5 * j + 2))) (thV (nu (5 * i + 3)) (nu (5 * j + 3)))) || mOv (((nu (5 * i + 0)) * (nu (5 * j + 0))) + (thV (nu (5 * i + 1)) (nu (5 * j + 1)))) (((nu (5 * i + 2)) * (nu (5 * j + 2))) + (thV (nu (5 * i + 3)) (nu (5 * j + 3))))) || tOv (nu (5 * i + 0)) (nu (5 * j + 1))) || tOv (nu (5 * i + 1)) (nu (5 * j + 0))) || pOv ((nu (5 * i + 0)) * (nu (5 * j + 1))) ((nu (5 * i + 1)) * (nu (5 * j + 0)))) || tOv (nu (5 * i + 2)) (nu (5 * j + 3))) || tOv (nu (5 * i + 3)) (nu (5 * j + 2))) || pOv ((nu (5 * i + 2)) * (nu (5 * j + 3))) ((nu (5 * i + 3)) * (nu (5 * j + 2)))) || mOv (((nu (5 * i + 0)) * (nu (5 * j + 1))) + ((nu (5 * i + 1)) * (nu (5 * j + 0)))) (((nu (5 * i + 2)) * (nu (5 * j + 3))) + ((nu (5 * i + 3)) * (nu (5 * j + 2))))) || tOv (nu (5 * i + 0)) (nu (5 * j + 2))) || thO (nu (5 * i + 1)) (nu (5 * j + 3))) || pOv ((nu (5 * i + 0)) * (nu (5 * j + 2))) (thV (nu (5 * i + 1)) (nu (5 * j + 3)))) || tOv (nu (5 * i + 2)) (nu (5 * j + 0))) || pOv (((nu (5 * i + 0)) * (nu (5 * j + 2))) + (thV (nu (5 * i + 1)) (nu (5 * j + 3)))) ((nu (5 * i + 2)) * (nu (5 * j + 0)))) z)), ((ad 3), .inl (ka 1, 200, .inr (.inl nu)))]) H locs := hB
  refine lv_aload_n hx hb dX8_product_189 rfl (lv_at hl 10 rfl) ?_
  refine lv_lload hx hb dX8_product_190 (lv_at hl 6 rfl) ?_
  refine lv_lload hx hb dX8_product_192 (lv_at hl 4 rfl) ?_
  refine zVl zm_X8_138 hF hB (c_X8_three l D ka kb q ad (((((((((((((((((((o || tOv (nu (5 * i + 0)) (nu (5 * j + 0))) || thO (nu (5 * i + 1)) (nu (5 * j + 1))) || pOv ((nu (5 * i + 0)) * (nu (5 * j + 0))) (thV (nu (5 * i + 1)) (nu (5 * j + 1)))) || tOv (nu (5 * i + 2)) (nu (5 * j + 2))) || thO (nu (5 * i + 3)) (nu (5 * j + 3))) || pOv ((nu (5 * i + 2)) * (nu (5 * j + 2))) (thV (nu (5 * i + 3)) (nu (5 * j + 3)))) || mOv (((nu (5 * i + 0)) * (nu (5 * j + 0))) + (thV (nu (5 * i + 1)) (nu (5 * j + 1)))) (((nu (5 * i + 2)) * (nu (5 * j + 2))) + (thV (nu (5 * i + 3)) (nu (5 * j + 3))))) || tOv (nu (5 * i + 0)) (nu (5 * j + 1))) || tOv (nu (5 * i + 1)) (nu (5 * j + 0))) || pOv ((nu (5 * i + 0)) * (nu (5 * j + 1))) ((nu (5 * i + 1)) * (nu (5 * j + 0)))) || tOv (nu (5 * i + 2)) (nu (5 * j + 3))) || tOv (nu (5 * i + 3)) (nu (5 * j + 2))) || pOv ((nu (5 * i + 2)) * (nu (5 * j + 3))) ((nu (5 * i + 3)) * (nu (5 * j + 2)))) || mOv (((nu (5 * i + 0)) * (nu (5 * j + 1))) + ((nu (5 * i + 1)) * (nu (5 * j + 0)))) (((nu (5 * i + 2)) * (nu (5 * j + 3))) + ((nu (5 * i + 3)) * (nu (5 * j + 2))))) || tOv (nu (5 * i + 0)) (nu (5 * j + 2))) || thO (nu (5 * i + 1)) (nu (5 * j + 3))) || pOv ((nu (5 * i + 0)) * (nu (5 * j + 2))) (thV (nu (5 * i + 1)) (nu (5 * j + 3)))) || tOv (nu (5 * i + 2)) (nu (5 * j + 0))) || pOv (((nu (5 * i + 0)) * (nu (5 * j + 2))) + (thV (nu (5 * i + 1)) (nu (5 * j + 3)))) ((nu (5 * i + 2)) * (nu (5 * j + 0)))) z (nu (5 * i + 3)) (nu (5 * j + 1)) ) [0] rfl (by decide) [q] (fun _ => rfl) rfl 0 8 rfl rfl rfl ⟨Nat.le_of_ble_eq_true rfl, Nat.le_of_ble_eq_true rfl⟩ rfl hl.1 (Nat.le_of_ble_eq_true rfl) ⟨Nat.le_refl _, Nat.le_refl _⟩ dX8_product_194 ?_
  clear hB
  try clear locs
  try clear H
  intro r28 u28 H locs hp hB
  obtain rfl : r28 = thV (nu (5 * i + 3)) (nu (5 * j + 1)) := hp
  replace hB : zB D A s ([(q, .inr (8, mO ad ((((((((((((((((((((o || tOv (nu (5 * i + 0)) (nu (5 * j + 0))) || thO (nu (5 * i + 1)) (nu (5 * j + 1))) || pOv ((nu (5 * i + 0)) * (nu (5 * j + 0))) (thV (nu (5 * i + 1)) (nu (5 * j + 1)))) || tOv (nu (5 * i + 2)) (nu (5 * j + 2))) || thO (nu (5 * i + 3)) (nu (5 * j + 3))) || pOv ((nu (5 * i + 2)) * (nu (5 * j + 2))) (thV (nu (5 * i + 3)) (nu (5 * j + 3)))) || mOv (((nu (5 * i + 0)) * (nu (5 * j + 0))) + (thV (nu (5 * i + 1)) (nu (5 * j + 1)))) (((nu (5 * i + 2)) * (nu (5 * j + 2))) + (thV (nu (5 * i + 3)) (nu (5 * j + 3))))) || tOv (nu (5 * i + 0)) (nu (5 * j + 1))) || tOv (nu (5 * i + 1)) (nu (5 * j + 0))) || pOv ((nu (5 * i + 0)) * (nu (5 * j + 1))) ((nu (5 * i + 1)) * (nu (5 * j + 0)))) || tOv (nu (5 * i + 2)) (nu (5 * j + 3))) || tOv (nu (5 * i + 3)) (nu (5 * j + 2))) || pOv ((nu (5 * i + 2)) * (nu (5 * j + 3))) ((nu (5 * i + 3)) * (nu (5 * j + 2)))) || mOv (((nu (5 * i + 0)) * (nu (5 * j + 1))) + ((nu (5 * i + 1)) * (nu (5 * j + 0)))) (((nu (5 * i + 2)) * (nu (5 * j + 3))) + ((nu (5 * i + 3)) * (nu (5 * j + 2))))) || tOv (nu (5 * i + 0)) (nu (5 * j + 2))) || thO (nu (5 * i + 1)) (nu (5 * j + 3))) || pOv ((nu (5 * i + 0)) * (nu (5 * j + 2))) (thV (nu (5 * i + 1)) (nu (5 * j + 3)))) || tOv (nu (5 * i + 2)) (nu (5 * j + 0))) || pOv (((nu (5 * i + 0)) * (nu (5 * j + 2))) + (thV (nu (5 * i + 1)) (nu (5 * j + 3)))) ((nu (5 * i + 2)) * (nu (5 * j + 0)))) || thO (nu (5 * i + 3)) (nu (5 * j + 1))) z)), ((ad 3), .inl (ka 1, 200, .inr (.inl nu)))]) H locs := hB
  refine zVl zm_X8_127 hF hB (c_X8_and l D ka kb q ad ((((((((((((((((((((o || tOv (nu (5 * i + 0)) (nu (5 * j + 0))) || thO (nu (5 * i + 1)) (nu (5 * j + 1))) || pOv ((nu (5 * i + 0)) * (nu (5 * j + 0))) (thV (nu (5 * i + 1)) (nu (5 * j + 1)))) || tOv (nu (5 * i + 2)) (nu (5 * j + 2))) || thO (nu (5 * i + 3)) (nu (5 * j + 3))) || pOv ((nu (5 * i + 2)) * (nu (5 * j + 2))) (thV (nu (5 * i + 3)) (nu (5 * j + 3)))) || mOv (((nu (5 * i + 0)) * (nu (5 * j + 0))) + (thV (nu (5 * i + 1)) (nu (5 * j + 1)))) (((nu (5 * i + 2)) * (nu (5 * j + 2))) + (thV (nu (5 * i + 3)) (nu (5 * j + 3))))) || tOv (nu (5 * i + 0)) (nu (5 * j + 1))) || tOv (nu (5 * i + 1)) (nu (5 * j + 0))) || pOv ((nu (5 * i + 0)) * (nu (5 * j + 1))) ((nu (5 * i + 1)) * (nu (5 * j + 0)))) || tOv (nu (5 * i + 2)) (nu (5 * j + 3))) || tOv (nu (5 * i + 3)) (nu (5 * j + 2))) || pOv ((nu (5 * i + 2)) * (nu (5 * j + 3))) ((nu (5 * i + 3)) * (nu (5 * j + 2)))) || mOv (((nu (5 * i + 0)) * (nu (5 * j + 1))) + ((nu (5 * i + 1)) * (nu (5 * j + 0)))) (((nu (5 * i + 2)) * (nu (5 * j + 3))) + ((nu (5 * i + 3)) * (nu (5 * j + 2))))) || tOv (nu (5 * i + 0)) (nu (5 * j + 2))) || thO (nu (5 * i + 1)) (nu (5 * j + 3))) || pOv ((nu (5 * i + 0)) * (nu (5 * j + 2))) (thV (nu (5 * i + 1)) (nu (5 * j + 3)))) || tOv (nu (5 * i + 2)) (nu (5 * j + 0))) || pOv (((nu (5 * i + 0)) * (nu (5 * j + 2))) + (thV (nu (5 * i + 1)) (nu (5 * j + 3)))) ((nu (5 * i + 2)) * (nu (5 * j + 0)))) || thO (nu (5 * i + 3)) (nu (5 * j + 1))) z ((((nu (5 * i + 0)) * (nu (5 * j + 2))) + (thV (nu (5 * i + 1)) (nu (5 * j + 3)))) + ((nu (5 * i + 2)) * (nu (5 * j + 0)))) (thV (nu (5 * i + 3)) (nu (5 * j + 1))) ) [0] rfl (by decide) [q] (fun _ => rfl) rfl 0 8 rfl rfl rfl ⟨Nat.le_of_ble_eq_true rfl, Nat.le_of_ble_eq_true rfl⟩ rfl hl.1 (Nat.le_of_ble_eq_true rfl) ⟨Nat.le_refl _, Nat.le_refl _⟩ dX8_product_197 ?_
  clear hB
  try clear locs
  try clear H
  intro r29 u29 H locs hp hB
  obtain rfl : r29 = ((((nu (5 * i + 0)) * (nu (5 * j + 2))) + (thV (nu (5 * i + 1)) (nu (5 * j + 3)))) + ((nu (5 * i + 2)) * (nu (5 * j + 0)))) + (thV (nu (5 * i + 3)) (nu (5 * j + 1))) := hp
  replace hB : zB D A s ([(q, .inr (8, mO ad (((((((((((((((((((((o || tOv (nu (5 * i + 0)) (nu (5 * j + 0))) || thO (nu (5 * i + 1)) (nu (5 * j + 1))) || pOv ((nu (5 * i + 0)) * (nu (5 * j + 0))) (thV (nu (5 * i + 1)) (nu (5 * j + 1)))) || tOv (nu (5 * i + 2)) (nu (5 * j + 2))) || thO (nu (5 * i + 3)) (nu (5 * j + 3))) || pOv ((nu (5 * i + 2)) * (nu (5 * j + 2))) (thV (nu (5 * i + 3)) (nu (5 * j + 3)))) || mOv (((nu (5 * i + 0)) * (nu (5 * j + 0))) + (thV (nu (5 * i + 1)) (nu (5 * j + 1)))) (((nu (5 * i + 2)) * (nu (5 * j + 2))) + (thV (nu (5 * i + 3)) (nu (5 * j + 3))))) || tOv (nu (5 * i + 0)) (nu (5 * j + 1))) || tOv (nu (5 * i + 1)) (nu (5 * j + 0))) || pOv ((nu (5 * i + 0)) * (nu (5 * j + 1))) ((nu (5 * i + 1)) * (nu (5 * j + 0)))) || tOv (nu (5 * i + 2)) (nu (5 * j + 3))) || tOv (nu (5 * i + 3)) (nu (5 * j + 2))) || pOv ((nu (5 * i + 2)) * (nu (5 * j + 3))) ((nu (5 * i + 3)) * (nu (5 * j + 2)))) || mOv (((nu (5 * i + 0)) * (nu (5 * j + 1))) + ((nu (5 * i + 1)) * (nu (5 * j + 0)))) (((nu (5 * i + 2)) * (nu (5 * j + 3))) + ((nu (5 * i + 3)) * (nu (5 * j + 2))))) || tOv (nu (5 * i + 0)) (nu (5 * j + 2))) || thO (nu (5 * i + 1)) (nu (5 * j + 3))) || pOv ((nu (5 * i + 0)) * (nu (5 * j + 2))) (thV (nu (5 * i + 1)) (nu (5 * j + 3)))) || tOv (nu (5 * i + 2)) (nu (5 * j + 0))) || pOv (((nu (5 * i + 0)) * (nu (5 * j + 2))) + (thV (nu (5 * i + 1)) (nu (5 * j + 3)))) ((nu (5 * i + 2)) * (nu (5 * j + 0)))) || thO (nu (5 * i + 3)) (nu (5 * j + 1))) || pOv ((((nu (5 * i + 0)) * (nu (5 * j + 2))) + (thV (nu (5 * i + 1)) (nu (5 * j + 3)))) + ((nu (5 * i + 2)) * (nu (5 * j + 0)))) (thV (nu (5 * i + 3)) (nu (5 * j + 1)))) z)), ((ad 3), .inl (ka 1, 200, .inr (.inl nu)))]) H locs := hB
  refine lv_lstore (lv' := [(24, .long (((((nu (5 * i + 0)) * (nu (5 * j + 2))) + (thV (nu (5 * i + 1)) (nu (5 * j + 3)))) + ((nu (5 * i + 2)) * (nu (5 * j + 0)))) + (thV (nu (5 * i + 3)) (nu (5 * j + 1))))), (22, .long ((((nu (5 * i + 0)) * (nu (5 * j + 1))) + ((nu (5 * i + 1)) * (nu (5 * j + 0)))) - (((nu (5 * i + 2)) * (nu (5 * j + 3))) + ((nu (5 * i + 3)) * (nu (5 * j + 2)))))), (20, .long ((((nu (5 * i + 0)) * (nu (5 * j + 0))) + (thV (nu (5 * i + 1)) (nu (5 * j + 1)))) - (((nu (5 * i + 2)) * (nu (5 * j + 2))) + (thV (nu (5 * i + 3)) (nu (5 * j + 3)))))), (18, .long (nu (5 * j + 3))), (16, .long (nu (5 * j + 2))), (14, .long (nu (5 * j + 1))), (12, .long (nu (5 * j + 0))), (10, .long (nu (5 * i + 3))), (8, .long (nu (5 * i + 2))), (6, .long (nu (5 * i + 1))), (4, .long (nu (5 * i + 0))), (0, .ref q), (1, .int (nI t)), (2, .int (nI i)), (3, .int (nI j))]) hx hb dX8_product_200 hl (by decide) rfl ?_
  clear hl
  clear ls
  intro ls hl
  refine lv_aload_n hx hb dX8_product_202 rfl (lv_at hl 11 rfl) ?_
  refine lv_aload_n hx hb dX8_product_203 rfl (lv_at hl 11 rfl) ?_
  refine lv_aload_n hx hb dX8_product_204 rfl (lv_at hl 11 rfl) ?_
  refine lv_aload_n hx hb dX8_product_205 rfl (lv_at hl 11 rfl) ?_
  refine lv_lload hx hb dX8_product_206 (lv_at hl 10 rfl) ?_
  refine lv_lload hx hb dX8_product_208 (lv_at hl 3 rfl) ?_
  refine zVl zm_X8_124 hF hB (c_X8_times l D ka kb q ad (((((((((((((((((((((o || tOv (nu (5 * i + 0)) (nu (5 * j + 0))) || thO (nu (5 * i + 1)) (nu (5 * j + 1))) || pOv ((nu (5 * i + 0)) * (nu (5 * j + 0))) (thV (nu (5 * i + 1)) (nu (5 * j + 1)))) || tOv (nu (5 * i + 2)) (nu (5 * j + 2))) || thO (nu (5 * i + 3)) (nu (5 * j + 3))) || pOv ((nu (5 * i + 2)) * (nu (5 * j + 2))) (thV (nu (5 * i + 3)) (nu (5 * j + 3)))) || mOv (((nu (5 * i + 0)) * (nu (5 * j + 0))) + (thV (nu (5 * i + 1)) (nu (5 * j + 1)))) (((nu (5 * i + 2)) * (nu (5 * j + 2))) + (thV (nu (5 * i + 3)) (nu (5 * j + 3))))) || tOv (nu (5 * i + 0)) (nu (5 * j + 1))) || tOv (nu (5 * i + 1)) (nu (5 * j + 0))) || pOv ((nu (5 * i + 0)) * (nu (5 * j + 1))) ((nu (5 * i + 1)) * (nu (5 * j + 0)))) || tOv (nu (5 * i + 2)) (nu (5 * j + 3))) || tOv (nu (5 * i + 3)) (nu (5 * j + 2))) || pOv ((nu (5 * i + 2)) * (nu (5 * j + 3))) ((nu (5 * i + 3)) * (nu (5 * j + 2)))) || mOv (((nu (5 * i + 0)) * (nu (5 * j + 1))) + ((nu (5 * i + 1)) * (nu (5 * j + 0)))) (((nu (5 * i + 2)) * (nu (5 * j + 3))) + ((nu (5 * i + 3)) * (nu (5 * j + 2))))) || tOv (nu (5 * i + 0)) (nu (5 * j + 2))) || thO (nu (5 * i + 1)) (nu (5 * j + 3))) || pOv ((nu (5 * i + 0)) * (nu (5 * j + 2))) (thV (nu (5 * i + 1)) (nu (5 * j + 3)))) || tOv (nu (5 * i + 2)) (nu (5 * j + 0))) || pOv (((nu (5 * i + 0)) * (nu (5 * j + 2))) + (thV (nu (5 * i + 1)) (nu (5 * j + 3)))) ((nu (5 * i + 2)) * (nu (5 * j + 0)))) || thO (nu (5 * i + 3)) (nu (5 * j + 1))) || pOv ((((nu (5 * i + 0)) * (nu (5 * j + 2))) + (thV (nu (5 * i + 1)) (nu (5 * j + 3)))) + ((nu (5 * i + 2)) * (nu (5 * j + 0)))) (thV (nu (5 * i + 3)) (nu (5 * j + 1)))) z (nu (5 * i + 0)) (nu (5 * j + 3)) ) [0] rfl (by decide) [q] (fun _ => rfl) rfl 0 8 rfl rfl rfl ⟨Nat.le_of_ble_eq_true rfl, Nat.le_of_ble_eq_true rfl⟩ rfl hl.1 (Nat.le_of_ble_eq_true rfl) ⟨Nat.le_refl _, Nat.le_refl _⟩ dX8_product_210 ?_
  clear hB
  try clear locs
  try clear H
  intro r30 u30 H locs hp hB
  obtain rfl : r30 = (nu (5 * i + 0)) * (nu (5 * j + 3)) := hp
  replace hB : zB D A s ([(q, .inr (8, mO ad ((((((((((((((((((((((o || tOv (nu (5 * i + 0)) (nu (5 * j + 0))) || thO (nu (5 * i + 1)) (nu (5 * j + 1))) || pOv ((nu (5 * i + 0)) * (nu (5 * j + 0))) (thV (nu (5 * i + 1)) (nu (5 * j + 1)))) || tOv (nu (5 * i + 2)) (nu (5 * j + 2))) || thO (nu (5 * i + 3)) (nu (5 * j + 3))) || pOv ((nu (5 * i + 2)) * (nu (5 * j + 2))) (thV (nu (5 * i + 3)) (nu (5 * j + 3)))) || mOv (((nu (5 * i + 0)) * (nu (5 * j + 0))) + (thV (nu (5 * i + 1)) (nu (5 * j + 1)))) (((nu (5 * i + 2)) * (nu (5 * j + 2))) + (thV (nu (5 * i + 3)) (nu (5 * j + 3))))) || tOv (nu (5 * i + 0)) (nu (5 * j + 1))) || tOv (nu (5 * i + 1)) (nu (5 * j + 0))) || pOv ((nu (5 * i + 0)) * (nu (5 * j + 1))) ((nu (5 * i + 1)) * (nu (5 * j + 0)))) || tOv (nu (5 * i + 2)) (nu (5 * j + 3))) || tOv (nu (5 * i + 3)) (nu (5 * j + 2))) || pOv ((nu (5 * i + 2)) * (nu (5 * j + 3))) ((nu (5 * i + 3)) * (nu (5 * j + 2)))) || mOv (((nu (5 * i + 0)) * (nu (5 * j + 1))) + ((nu (5 * i + 1)) * (nu (5 * j + 0)))) (((nu (5 * i + 2)) * (nu (5 * j + 3))) + ((nu (5 * i + 3)) * (nu (5 * j + 2))))) || tOv (nu (5 * i + 0)) (nu (5 * j + 2))) || thO (nu (5 * i + 1)) (nu (5 * j + 3))) || pOv ((nu (5 * i + 0)) * (nu (5 * j + 2))) (thV (nu (5 * i + 1)) (nu (5 * j + 3)))) || tOv (nu (5 * i + 2)) (nu (5 * j + 0))) || pOv (((nu (5 * i + 0)) * (nu (5 * j + 2))) + (thV (nu (5 * i + 1)) (nu (5 * j + 3)))) ((nu (5 * i + 2)) * (nu (5 * j + 0)))) || thO (nu (5 * i + 3)) (nu (5 * j + 1))) || pOv ((((nu (5 * i + 0)) * (nu (5 * j + 2))) + (thV (nu (5 * i + 1)) (nu (5 * j + 3)))) + ((nu (5 * i + 2)) * (nu (5 * j + 0)))) (thV (nu (5 * i + 3)) (nu (5 * j + 1)))) || tOv (nu (5 * i + 0)) (nu (5 * j + 3))) z)), ((ad 3), .inl (ka 1, 200, .inr (.inl nu)))]) H locs := hB
  refine lv_aload_n hx hb dX8_product_213 rfl (lv_at hl 11 rfl) ?_
  refine lv_lload hx hb dX8_product_214 (lv_at hl 9 rfl) ?_
  refine lv_lload hx hb dX8_product_216 (lv_at hl 4 rfl) ?_
  refine zVl zm_X8_124 hF hB (c_X8_times l D ka kb q ad ((((((((((((((((((((((o || tOv (nu (5 * i + 0)) (nu (5 * j + 0))) || thO (nu (5 * i + 1)) (nu (5 * j + 1))) || pOv ((nu (5 * i + 0)) * (nu (5 * j + 0))) (thV (nu (5 * i + 1)) (nu (5 * j + 1)))) || tOv (nu (5 * i + 2)) (nu (5 * j + 2))) || thO (nu (5 * i + 3)) (nu (5 * j + 3))) || pOv ((nu (5 * i + 2)) * (nu (5 * j + 2))) (thV (nu (5 * i + 3)) (nu (5 * j + 3)))) || mOv (((nu (5 * i + 0)) * (nu (5 * j + 0))) + (thV (nu (5 * i + 1)) (nu (5 * j + 1)))) (((nu (5 * i + 2)) * (nu (5 * j + 2))) + (thV (nu (5 * i + 3)) (nu (5 * j + 3))))) || tOv (nu (5 * i + 0)) (nu (5 * j + 1))) || tOv (nu (5 * i + 1)) (nu (5 * j + 0))) || pOv ((nu (5 * i + 0)) * (nu (5 * j + 1))) ((nu (5 * i + 1)) * (nu (5 * j + 0)))) || tOv (nu (5 * i + 2)) (nu (5 * j + 3))) || tOv (nu (5 * i + 3)) (nu (5 * j + 2))) || pOv ((nu (5 * i + 2)) * (nu (5 * j + 3))) ((nu (5 * i + 3)) * (nu (5 * j + 2)))) || mOv (((nu (5 * i + 0)) * (nu (5 * j + 1))) + ((nu (5 * i + 1)) * (nu (5 * j + 0)))) (((nu (5 * i + 2)) * (nu (5 * j + 3))) + ((nu (5 * i + 3)) * (nu (5 * j + 2))))) || tOv (nu (5 * i + 0)) (nu (5 * j + 2))) || thO (nu (5 * i + 1)) (nu (5 * j + 3))) || pOv ((nu (5 * i + 0)) * (nu (5 * j + 2))) (thV (nu (5 * i + 1)) (nu (5 * j + 3)))) || tOv (nu (5 * i + 2)) (nu (5 * j + 0))) || pOv (((nu (5 * i + 0)) * (nu (5 * j + 2))) + (thV (nu (5 * i + 1)) (nu (5 * j + 3)))) ((nu (5 * i + 2)) * (nu (5 * j + 0)))) || thO (nu (5 * i + 3)) (nu (5 * j + 1))) || pOv ((((nu (5 * i + 0)) * (nu (5 * j + 2))) + (thV (nu (5 * i + 1)) (nu (5 * j + 3)))) + ((nu (5 * i + 2)) * (nu (5 * j + 0)))) (thV (nu (5 * i + 3)) (nu (5 * j + 1)))) || tOv (nu (5 * i + 0)) (nu (5 * j + 3))) z (nu (5 * i + 1)) (nu (5 * j + 2)) ) [0] rfl (by decide) [q] (fun _ => rfl) rfl 0 8 rfl rfl rfl ⟨Nat.le_of_ble_eq_true rfl, Nat.le_of_ble_eq_true rfl⟩ rfl hl.1 (Nat.le_of_ble_eq_true rfl) ⟨Nat.le_refl _, Nat.le_refl _⟩ dX8_product_218 ?_
  clear hB
  try clear locs
  try clear H
  intro r31 u31 H locs hp hB
  obtain rfl : r31 = (nu (5 * i + 1)) * (nu (5 * j + 2)) := hp
  replace hB : zB D A s ([(q, .inr (8, mO ad (((((((((((((((((((((((o || tOv (nu (5 * i + 0)) (nu (5 * j + 0))) || thO (nu (5 * i + 1)) (nu (5 * j + 1))) || pOv ((nu (5 * i + 0)) * (nu (5 * j + 0))) (thV (nu (5 * i + 1)) (nu (5 * j + 1)))) || tOv (nu (5 * i + 2)) (nu (5 * j + 2))) || thO (nu (5 * i + 3)) (nu (5 * j + 3))) || pOv ((nu (5 * i + 2)) * (nu (5 * j + 2))) (thV (nu (5 * i + 3)) (nu (5 * j + 3)))) || mOv (((nu (5 * i + 0)) * (nu (5 * j + 0))) + (thV (nu (5 * i + 1)) (nu (5 * j + 1)))) (((nu (5 * i + 2)) * (nu (5 * j + 2))) + (thV (nu (5 * i + 3)) (nu (5 * j + 3))))) || tOv (nu (5 * i + 0)) (nu (5 * j + 1))) || tOv (nu (5 * i + 1)) (nu (5 * j + 0))) || pOv ((nu (5 * i + 0)) * (nu (5 * j + 1))) ((nu (5 * i + 1)) * (nu (5 * j + 0)))) || tOv (nu (5 * i + 2)) (nu (5 * j + 3))) || tOv (nu (5 * i + 3)) (nu (5 * j + 2))) || pOv ((nu (5 * i + 2)) * (nu (5 * j + 3))) ((nu (5 * i + 3)) * (nu (5 * j + 2)))) || mOv (((nu (5 * i + 0)) * (nu (5 * j + 1))) + ((nu (5 * i + 1)) * (nu (5 * j + 0)))) (((nu (5 * i + 2)) * (nu (5 * j + 3))) + ((nu (5 * i + 3)) * (nu (5 * j + 2))))) || tOv (nu (5 * i + 0)) (nu (5 * j + 2))) || thO (nu (5 * i + 1)) (nu (5 * j + 3))) || pOv ((nu (5 * i + 0)) * (nu (5 * j + 2))) (thV (nu (5 * i + 1)) (nu (5 * j + 3)))) || tOv (nu (5 * i + 2)) (nu (5 * j + 0))) || pOv (((nu (5 * i + 0)) * (nu (5 * j + 2))) + (thV (nu (5 * i + 1)) (nu (5 * j + 3)))) ((nu (5 * i + 2)) * (nu (5 * j + 0)))) || thO (nu (5 * i + 3)) (nu (5 * j + 1))) || pOv ((((nu (5 * i + 0)) * (nu (5 * j + 2))) + (thV (nu (5 * i + 1)) (nu (5 * j + 3)))) + ((nu (5 * i + 2)) * (nu (5 * j + 0)))) (thV (nu (5 * i + 3)) (nu (5 * j + 1)))) || tOv (nu (5 * i + 0)) (nu (5 * j + 3))) || tOv (nu (5 * i + 1)) (nu (5 * j + 2))) z)), ((ad 3), .inl (ka 1, 200, .inr (.inl nu)))]) H locs := hB
  refine zVl zm_X8_127 hF hB (c_X8_and l D ka kb q ad (((((((((((((((((((((((o || tOv (nu (5 * i + 0)) (nu (5 * j + 0))) || thO (nu (5 * i + 1)) (nu (5 * j + 1))) || pOv ((nu (5 * i + 0)) * (nu (5 * j + 0))) (thV (nu (5 * i + 1)) (nu (5 * j + 1)))) || tOv (nu (5 * i + 2)) (nu (5 * j + 2))) || thO (nu (5 * i + 3)) (nu (5 * j + 3))) || pOv ((nu (5 * i + 2)) * (nu (5 * j + 2))) (thV (nu (5 * i + 3)) (nu (5 * j + 3)))) || mOv (((nu (5 * i + 0)) * (nu (5 * j + 0))) + (thV (nu (5 * i + 1)) (nu (5 * j + 1)))) (((nu (5 * i + 2)) * (nu (5 * j + 2))) + (thV (nu (5 * i + 3)) (nu (5 * j + 3))))) || tOv (nu (5 * i + 0)) (nu (5 * j + 1))) || tOv (nu (5 * i + 1)) (nu (5 * j + 0))) || pOv ((nu (5 * i + 0)) * (nu (5 * j + 1))) ((nu (5 * i + 1)) * (nu (5 * j + 0)))) || tOv (nu (5 * i + 2)) (nu (5 * j + 3))) || tOv (nu (5 * i + 3)) (nu (5 * j + 2))) || pOv ((nu (5 * i + 2)) * (nu (5 * j + 3))) ((nu (5 * i + 3)) * (nu (5 * j + 2)))) || mOv (((nu (5 * i + 0)) * (nu (5 * j + 1))) + ((nu (5 * i + 1)) * (nu (5 * j + 0)))) (((nu (5 * i + 2)) * (nu (5 * j + 3))) + ((nu (5 * i + 3)) * (nu (5 * j + 2))))) || tOv (nu (5 * i + 0)) (nu (5 * j + 2))) || thO (nu (5 * i + 1)) (nu (5 * j + 3))) || pOv ((nu (5 * i + 0)) * (nu (5 * j + 2))) (thV (nu (5 * i + 1)) (nu (5 * j + 3)))) || tOv (nu (5 * i + 2)) (nu (5 * j + 0))) || pOv (((nu (5 * i + 0)) * (nu (5 * j + 2))) + (thV (nu (5 * i + 1)) (nu (5 * j + 3)))) ((nu (5 * i + 2)) * (nu (5 * j + 0)))) || thO (nu (5 * i + 3)) (nu (5 * j + 1))) || pOv ((((nu (5 * i + 0)) * (nu (5 * j + 2))) + (thV (nu (5 * i + 1)) (nu (5 * j + 3)))) + ((nu (5 * i + 2)) * (nu (5 * j + 0)))) (thV (nu (5 * i + 3)) (nu (5 * j + 1)))) || tOv (nu (5 * i + 0)) (nu (5 * j + 3))) || tOv (nu (5 * i + 1)) (nu (5 * j + 2))) z ((nu (5 * i + 0)) * (nu (5 * j + 3))) ((nu (5 * i + 1)) * (nu (5 * j + 2))) ) [0] rfl (by decide) [q] (fun _ => rfl) rfl 0 8 rfl rfl rfl ⟨Nat.le_of_ble_eq_true rfl, Nat.le_of_ble_eq_true rfl⟩ rfl hl.1 (Nat.le_of_ble_eq_true rfl) ⟨Nat.le_refl _, Nat.le_refl _⟩ dX8_product_221 ?_
  clear hB
  try clear locs
  try clear H
  intro r32 u32 H locs hp hB
  obtain rfl : r32 = ((nu (5 * i + 0)) * (nu (5 * j + 3))) + ((nu (5 * i + 1)) * (nu (5 * j + 2))) := hp
  replace hB : zB D A s ([(q, .inr (8, mO ad ((((((((((((((((((((((((o || tOv (nu (5 * i + 0)) (nu (5 * j + 0))) || thO (nu (5 * i + 1)) (nu (5 * j + 1))) || pOv ((nu (5 * i + 0)) * (nu (5 * j + 0))) (thV (nu (5 * i + 1)) (nu (5 * j + 1)))) || tOv (nu (5 * i + 2)) (nu (5 * j + 2))) || thO (nu (5 * i + 3)) (nu (5 * j + 3))) || pOv ((nu (5 * i + 2)) * (nu (5 * j + 2))) (thV (nu (5 * i + 3)) (nu (5 * j + 3)))) || mOv (((nu (5 * i + 0)) * (nu (5 * j + 0))) + (thV (nu (5 * i + 1)) (nu (5 * j + 1)))) (((nu (5 * i + 2)) * (nu (5 * j + 2))) + (thV (nu (5 * i + 3)) (nu (5 * j + 3))))) || tOv (nu (5 * i + 0)) (nu (5 * j + 1))) || tOv (nu (5 * i + 1)) (nu (5 * j + 0))) || pOv ((nu (5 * i + 0)) * (nu (5 * j + 1))) ((nu (5 * i + 1)) * (nu (5 * j + 0)))) || tOv (nu (5 * i + 2)) (nu (5 * j + 3))) || tOv (nu (5 * i + 3)) (nu (5 * j + 2))) || pOv ((nu (5 * i + 2)) * (nu (5 * j + 3))) ((nu (5 * i + 3)) * (nu (5 * j + 2)))) || mOv (((nu (5 * i + 0)) * (nu (5 * j + 1))) + ((nu (5 * i + 1)) * (nu (5 * j + 0)))) (((nu (5 * i + 2)) * (nu (5 * j + 3))) + ((nu (5 * i + 3)) * (nu (5 * j + 2))))) || tOv (nu (5 * i + 0)) (nu (5 * j + 2))) || thO (nu (5 * i + 1)) (nu (5 * j + 3))) || pOv ((nu (5 * i + 0)) * (nu (5 * j + 2))) (thV (nu (5 * i + 1)) (nu (5 * j + 3)))) || tOv (nu (5 * i + 2)) (nu (5 * j + 0))) || pOv (((nu (5 * i + 0)) * (nu (5 * j + 2))) + (thV (nu (5 * i + 1)) (nu (5 * j + 3)))) ((nu (5 * i + 2)) * (nu (5 * j + 0)))) || thO (nu (5 * i + 3)) (nu (5 * j + 1))) || pOv ((((nu (5 * i + 0)) * (nu (5 * j + 2))) + (thV (nu (5 * i + 1)) (nu (5 * j + 3)))) + ((nu (5 * i + 2)) * (nu (5 * j + 0)))) (thV (nu (5 * i + 3)) (nu (5 * j + 1)))) || tOv (nu (5 * i + 0)) (nu (5 * j + 3))) || tOv (nu (5 * i + 1)) (nu (5 * j + 2))) || pOv ((nu (5 * i + 0)) * (nu (5 * j + 3))) ((nu (5 * i + 1)) * (nu (5 * j + 2)))) z)), ((ad 3), .inl (ka 1, 200, .inr (.inl nu)))]) H locs := hB
  refine lv_aload_n hx hb dX8_product_224 rfl (lv_at hl 11 rfl) ?_
  refine lv_lload hx hb dX8_product_225 (lv_at hl 8 rfl) ?_
  refine lv_lload hx hb dX8_product_227 (lv_at hl 5 rfl) ?_
  refine zVl zm_X8_124 hF hB (c_X8_times l D ka kb q ad ((((((((((((((((((((((((o || tOv (nu (5 * i + 0)) (nu (5 * j + 0))) || thO (nu (5 * i + 1)) (nu (5 * j + 1))) || pOv ((nu (5 * i + 0)) * (nu (5 * j + 0))) (thV (nu (5 * i + 1)) (nu (5 * j + 1)))) || tOv (nu (5 * i + 2)) (nu (5 * j + 2))) || thO (nu (5 * i + 3)) (nu (5 * j + 3))) || pOv ((nu (5 * i + 2)) * (nu (5 * j + 2))) (thV (nu (5 * i + 3)) (nu (5 * j + 3)))) || mOv (((nu (5 * i + 0)) * (nu (5 * j + 0))) + (thV (nu (5 * i + 1)) (nu (5 * j + 1)))) (((nu (5 * i + 2)) * (nu (5 * j + 2))) + (thV (nu (5 * i + 3)) (nu (5 * j + 3))))) || tOv (nu (5 * i + 0)) (nu (5 * j + 1))) || tOv (nu (5 * i + 1)) (nu (5 * j + 0))) || pOv ((nu (5 * i + 0)) * (nu (5 * j + 1))) ((nu (5 * i + 1)) * (nu (5 * j + 0)))) || tOv (nu (5 * i + 2)) (nu (5 * j + 3))) || tOv (nu (5 * i + 3)) (nu (5 * j + 2))) || pOv ((nu (5 * i + 2)) * (nu (5 * j + 3))) ((nu (5 * i + 3)) * (nu (5 * j + 2)))) || mOv (((nu (5 * i + 0)) * (nu (5 * j + 1))) + ((nu (5 * i + 1)) * (nu (5 * j + 0)))) (((nu (5 * i + 2)) * (nu (5 * j + 3))) + ((nu (5 * i + 3)) * (nu (5 * j + 2))))) || tOv (nu (5 * i + 0)) (nu (5 * j + 2))) || thO (nu (5 * i + 1)) (nu (5 * j + 3))) || pOv ((nu (5 * i + 0)) * (nu (5 * j + 2))) (thV (nu (5 * i + 1)) (nu (5 * j + 3)))) || tOv (nu (5 * i + 2)) (nu (5 * j + 0))) || pOv (((nu (5 * i + 0)) * (nu (5 * j + 2))) + (thV (nu (5 * i + 1)) (nu (5 * j + 3)))) ((nu (5 * i + 2)) * (nu (5 * j + 0)))) || thO (nu (5 * i + 3)) (nu (5 * j + 1))) || pOv ((((nu (5 * i + 0)) * (nu (5 * j + 2))) + (thV (nu (5 * i + 1)) (nu (5 * j + 3)))) + ((nu (5 * i + 2)) * (nu (5 * j + 0)))) (thV (nu (5 * i + 3)) (nu (5 * j + 1)))) || tOv (nu (5 * i + 0)) (nu (5 * j + 3))) || tOv (nu (5 * i + 1)) (nu (5 * j + 2))) || pOv ((nu (5 * i + 0)) * (nu (5 * j + 3))) ((nu (5 * i + 1)) * (nu (5 * j + 2)))) z (nu (5 * i + 2)) (nu (5 * j + 1)) ) [0] rfl (by decide) [q] (fun _ => rfl) rfl 0 8 rfl rfl rfl ⟨Nat.le_of_ble_eq_true rfl, Nat.le_of_ble_eq_true rfl⟩ rfl hl.1 (Nat.le_of_ble_eq_true rfl) ⟨Nat.le_refl _, Nat.le_refl _⟩ dX8_product_229 ?_
  clear hB
  try clear locs
  try clear H
  intro r33 u33 H locs hp hB
  obtain rfl : r33 = (nu (5 * i + 2)) * (nu (5 * j + 1)) := hp
  replace hB : zB D A s ([(q, .inr (8, mO ad (((((((((((((((((((((((((o || tOv (nu (5 * i + 0)) (nu (5 * j + 0))) || thO (nu (5 * i + 1)) (nu (5 * j + 1))) || pOv ((nu (5 * i + 0)) * (nu (5 * j + 0))) (thV (nu (5 * i + 1)) (nu (5 * j + 1)))) || tOv (nu (5 * i + 2)) (nu (5 * j + 2))) || thO (nu (5 * i + 3)) (nu (5 * j + 3))) || pOv ((nu (5 * i + 2)) * (nu (5 * j + 2))) (thV (nu (5 * i + 3)) (nu (5 * j + 3)))) || mOv (((nu (5 * i + 0)) * (nu (5 * j + 0))) + (thV (nu (5 * i + 1)) (nu (5 * j + 1)))) (((nu (5 * i + 2)) * (nu (5 * j + 2))) + (thV (nu (5 * i + 3)) (nu (5 * j + 3))))) || tOv (nu (5 * i + 0)) (nu (5 * j + 1))) || tOv (nu (5 * i + 1)) (nu (5 * j + 0))) || pOv ((nu (5 * i + 0)) * (nu (5 * j + 1))) ((nu (5 * i + 1)) * (nu (5 * j + 0)))) || tOv (nu (5 * i + 2)) (nu (5 * j + 3))) || tOv (nu (5 * i + 3)) (nu (5 * j + 2))) || pOv ((nu (5 * i + 2)) * (nu (5 * j + 3))) ((nu (5 * i + 3)) * (nu (5 * j + 2)))) || mOv (((nu (5 * i + 0)) * (nu (5 * j + 1))) + ((nu (5 * i + 1)) * (nu (5 * j + 0)))) (((nu (5 * i + 2)) * (nu (5 * j + 3))) + ((nu (5 * i + 3)) * (nu (5 * j + 2))))) || tOv (nu (5 * i + 0)) (nu (5 * j + 2))) || thO (nu (5 * i + 1)) (nu (5 * j + 3))) || pOv ((nu (5 * i + 0)) * (nu (5 * j + 2))) (thV (nu (5 * i + 1)) (nu (5 * j + 3)))) || tOv (nu (5 * i + 2)) (nu (5 * j + 0))) || pOv (((nu (5 * i + 0)) * (nu (5 * j + 2))) + (thV (nu (5 * i + 1)) (nu (5 * j + 3)))) ((nu (5 * i + 2)) * (nu (5 * j + 0)))) || thO (nu (5 * i + 3)) (nu (5 * j + 1))) || pOv ((((nu (5 * i + 0)) * (nu (5 * j + 2))) + (thV (nu (5 * i + 1)) (nu (5 * j + 3)))) + ((nu (5 * i + 2)) * (nu (5 * j + 0)))) (thV (nu (5 * i + 3)) (nu (5 * j + 1)))) || tOv (nu (5 * i + 0)) (nu (5 * j + 3))) || tOv (nu (5 * i + 1)) (nu (5 * j + 2))) || pOv ((nu (5 * i + 0)) * (nu (5 * j + 3))) ((nu (5 * i + 1)) * (nu (5 * j + 2)))) || tOv (nu (5 * i + 2)) (nu (5 * j + 1))) z)), ((ad 3), .inl (ka 1, 200, .inr (.inl nu)))]) H locs := hB
  refine zVl zm_X8_127 hF hB (c_X8_and l D ka kb q ad (((((((((((((((((((((((((o || tOv (nu (5 * i + 0)) (nu (5 * j + 0))) || thO (nu (5 * i + 1)) (nu (5 * j + 1))) || pOv ((nu (5 * i + 0)) * (nu (5 * j + 0))) (thV (nu (5 * i + 1)) (nu (5 * j + 1)))) || tOv (nu (5 * i + 2)) (nu (5 * j + 2))) || thO (nu (5 * i + 3)) (nu (5 * j + 3))) || pOv ((nu (5 * i + 2)) * (nu (5 * j + 2))) (thV (nu (5 * i + 3)) (nu (5 * j + 3)))) || mOv (((nu (5 * i + 0)) * (nu (5 * j + 0))) + (thV (nu (5 * i + 1)) (nu (5 * j + 1)))) (((nu (5 * i + 2)) * (nu (5 * j + 2))) + (thV (nu (5 * i + 3)) (nu (5 * j + 3))))) || tOv (nu (5 * i + 0)) (nu (5 * j + 1))) || tOv (nu (5 * i + 1)) (nu (5 * j + 0))) || pOv ((nu (5 * i + 0)) * (nu (5 * j + 1))) ((nu (5 * i + 1)) * (nu (5 * j + 0)))) || tOv (nu (5 * i + 2)) (nu (5 * j + 3))) || tOv (nu (5 * i + 3)) (nu (5 * j + 2))) || pOv ((nu (5 * i + 2)) * (nu (5 * j + 3))) ((nu (5 * i + 3)) * (nu (5 * j + 2)))) || mOv (((nu (5 * i + 0)) * (nu (5 * j + 1))) + ((nu (5 * i + 1)) * (nu (5 * j + 0)))) (((nu (5 * i + 2)) * (nu (5 * j + 3))) + ((nu (5 * i + 3)) * (nu (5 * j + 2))))) || tOv (nu (5 * i + 0)) (nu (5 * j + 2))) || thO (nu (5 * i + 1)) (nu (5 * j + 3))) || pOv ((nu (5 * i + 0)) * (nu (5 * j + 2))) (thV (nu (5 * i + 1)) (nu (5 * j + 3)))) || tOv (nu (5 * i + 2)) (nu (5 * j + 0))) || pOv (((nu (5 * i + 0)) * (nu (5 * j + 2))) + (thV (nu (5 * i + 1)) (nu (5 * j + 3)))) ((nu (5 * i + 2)) * (nu (5 * j + 0)))) || thO (nu (5 * i + 3)) (nu (5 * j + 1))) || pOv ((((nu (5 * i + 0)) * (nu (5 * j + 2))) + (thV (nu (5 * i + 1)) (nu (5 * j + 3)))) + ((nu (5 * i + 2)) * (nu (5 * j + 0)))) (thV (nu (5 * i + 3)) (nu (5 * j + 1)))) || tOv (nu (5 * i + 0)) (nu (5 * j + 3))) || tOv (nu (5 * i + 1)) (nu (5 * j + 2))) || pOv ((nu (5 * i + 0)) * (nu (5 * j + 3))) ((nu (5 * i + 1)) * (nu (5 * j + 2)))) || tOv (nu (5 * i + 2)) (nu (5 * j + 1))) z (((nu (5 * i + 0)) * (nu (5 * j + 3))) + ((nu (5 * i + 1)) * (nu (5 * j + 2)))) ((nu (5 * i + 2)) * (nu (5 * j + 1))) ) [0] rfl (by decide) [q] (fun _ => rfl) rfl 0 8 rfl rfl rfl ⟨Nat.le_of_ble_eq_true rfl, Nat.le_of_ble_eq_true rfl⟩ rfl hl.1 (Nat.le_of_ble_eq_true rfl) ⟨Nat.le_refl _, Nat.le_refl _⟩ dX8_product_232 ?_
  clear hB
  try clear locs
  try clear H
  intro r34 u34 H locs hp hB
  obtain rfl : r34 = (((nu (5 * i + 0)) * (nu (5 * j + 3))) + ((nu (5 * i + 1)) * (nu (5 * j + 2)))) + ((nu (5 * i + 2)) * (nu (5 * j + 1))) := hp
  replace hB : zB D A s ([(q, .inr (8, mO ad ((((((((((((((((((((((((((o || tOv (nu (5 * i + 0)) (nu (5 * j + 0))) || thO (nu (5 * i + 1)) (nu (5 * j + 1))) || pOv ((nu (5 * i + 0)) * (nu (5 * j + 0))) (thV (nu (5 * i + 1)) (nu (5 * j + 1)))) || tOv (nu (5 * i + 2)) (nu (5 * j + 2))) || thO (nu (5 * i + 3)) (nu (5 * j + 3))) || pOv ((nu (5 * i + 2)) * (nu (5 * j + 2))) (thV (nu (5 * i + 3)) (nu (5 * j + 3)))) || mOv (((nu (5 * i + 0)) * (nu (5 * j + 0))) + (thV (nu (5 * i + 1)) (nu (5 * j + 1)))) (((nu (5 * i + 2)) * (nu (5 * j + 2))) + (thV (nu (5 * i + 3)) (nu (5 * j + 3))))) || tOv (nu (5 * i + 0)) (nu (5 * j + 1))) || tOv (nu (5 * i + 1)) (nu (5 * j + 0))) || pOv ((nu (5 * i + 0)) * (nu (5 * j + 1))) ((nu (5 * i + 1)) * (nu (5 * j + 0)))) || tOv (nu (5 * i + 2)) (nu (5 * j + 3))) || tOv (nu (5 * i + 3)) (nu (5 * j + 2))) || pOv ((nu (5 * i + 2)) * (nu (5 * j + 3))) ((nu (5 * i + 3)) * (nu (5 * j + 2)))) || mOv (((nu (5 * i + 0)) * (nu (5 * j + 1))) + ((nu (5 * i + 1)) * (nu (5 * j + 0)))) (((nu (5 * i + 2)) * (nu (5 * j + 3))) + ((nu (5 * i + 3)) * (nu (5 * j + 2))))) || tOv (nu (5 * i + 0)) (nu (5 * j + 2))) || thO (nu (5 * i + 1)) (nu (5 * j + 3))) || pOv ((nu (5 * i + 0)) * (nu (5 * j + 2))) (thV (nu (5 * i + 1)) (nu (5 * j + 3)))) || tOv (nu (5 * i + 2)) (nu (5 * j + 0))) || pOv (((nu (5 * i + 0)) * (nu (5 * j + 2))) + (thV (nu (5 * i + 1)) (nu (5 * j + 3)))) ((nu (5 * i + 2)) * (nu (5 * j + 0)))) || thO (nu (5 * i + 3)) (nu (5 * j + 1))) || pOv ((((nu (5 * i + 0)) * (nu (5 * j + 2))) + (thV (nu (5 * i + 1)) (nu (5 * j + 3)))) + ((nu (5 * i + 2)) * (nu (5 * j + 0)))) (thV (nu (5 * i + 3)) (nu (5 * j + 1)))) || tOv (nu (5 * i + 0)) (nu (5 * j + 3))) || tOv (nu (5 * i + 1)) (nu (5 * j + 2))) || pOv ((nu (5 * i + 0)) * (nu (5 * j + 3))) ((nu (5 * i + 1)) * (nu (5 * j + 2)))) || tOv (nu (5 * i + 2)) (nu (5 * j + 1))) || pOv (((nu (5 * i + 0)) * (nu (5 * j + 3))) + ((nu (5 * i + 1)) * (nu (5 * j + 2)))) ((nu (5 * i + 2)) * (nu (5 * j + 1)))) z)), ((ad 3), .inl (ka 1, 200, .inr (.inl nu)))]) H locs := hB
  refine lv_aload_n hx hb dX8_product_235 rfl (lv_at hl 11 rfl) ?_
  refine lv_lload hx hb dX8_product_236 (lv_at hl 7 rfl) ?_
  refine lv_lload hx hb dX8_product_238 (lv_at hl 6 rfl) ?_
  refine zVl zm_X8_124 hF hB (c_X8_times l D ka kb q ad ((((((((((((((((((((((((((o || tOv (nu (5 * i + 0)) (nu (5 * j + 0))) || thO (nu (5 * i + 1)) (nu (5 * j + 1))) || pOv ((nu (5 * i + 0)) * (nu (5 * j + 0))) (thV (nu (5 * i + 1)) (nu (5 * j + 1)))) || tOv (nu (5 * i + 2)) (nu (5 * j + 2))) || thO (nu (5 * i + 3)) (nu (5 * j + 3))) || pOv ((nu (5 * i + 2)) * (nu (5 * j + 2))) (thV (nu (5 * i + 3)) (nu (5 * j + 3)))) || mOv (((nu (5 * i + 0)) * (nu (5 * j + 0))) + (thV (nu (5 * i + 1)) (nu (5 * j + 1)))) (((nu (5 * i + 2)) * (nu (5 * j + 2))) + (thV (nu (5 * i + 3)) (nu (5 * j + 3))))) || tOv (nu (5 * i + 0)) (nu (5 * j + 1))) || tOv (nu (5 * i + 1)) (nu (5 * j + 0))) || pOv ((nu (5 * i + 0)) * (nu (5 * j + 1))) ((nu (5 * i + 1)) * (nu (5 * j + 0)))) || tOv (nu (5 * i + 2)) (nu (5 * j + 3))) || tOv (nu (5 * i + 3)) (nu (5 * j + 2))) || pOv ((nu (5 * i + 2)) * (nu (5 * j + 3))) ((nu (5 * i + 3)) * (nu (5 * j + 2)))) || mOv (((nu (5 * i + 0)) * (nu (5 * j + 1))) + ((nu (5 * i + 1)) * (nu (5 * j + 0)))) (((nu (5 * i + 2)) * (nu (5 * j + 3))) + ((nu (5 * i + 3)) * (nu (5 * j + 2))))) || tOv (nu (5 * i + 0)) (nu (5 * j + 2))) || thO (nu (5 * i + 1)) (nu (5 * j + 3))) || pOv ((nu (5 * i + 0)) * (nu (5 * j + 2))) (thV (nu (5 * i + 1)) (nu (5 * j + 3)))) || tOv (nu (5 * i + 2)) (nu (5 * j + 0))) || pOv (((nu (5 * i + 0)) * (nu (5 * j + 2))) + (thV (nu (5 * i + 1)) (nu (5 * j + 3)))) ((nu (5 * i + 2)) * (nu (5 * j + 0)))) || thO (nu (5 * i + 3)) (nu (5 * j + 1))) || pOv ((((nu (5 * i + 0)) * (nu (5 * j + 2))) + (thV (nu (5 * i + 1)) (nu (5 * j + 3)))) + ((nu (5 * i + 2)) * (nu (5 * j + 0)))) (thV (nu (5 * i + 3)) (nu (5 * j + 1)))) || tOv (nu (5 * i + 0)) (nu (5 * j + 3))) || tOv (nu (5 * i + 1)) (nu (5 * j + 2))) || pOv ((nu (5 * i + 0)) * (nu (5 * j + 3))) ((nu (5 * i + 1)) * (nu (5 * j + 2)))) || tOv (nu (5 * i + 2)) (nu (5 * j + 1))) || pOv (((nu (5 * i + 0)) * (nu (5 * j + 3))) + ((nu (5 * i + 1)) * (nu (5 * j + 2)))) ((nu (5 * i + 2)) * (nu (5 * j + 1)))) z (nu (5 * i + 3)) (nu (5 * j + 0)) ) [0] rfl (by decide) [q] (fun _ => rfl) rfl 0 8 rfl rfl rfl ⟨Nat.le_of_ble_eq_true rfl, Nat.le_of_ble_eq_true rfl⟩ rfl hl.1 (Nat.le_of_ble_eq_true rfl) ⟨Nat.le_refl _, Nat.le_refl _⟩ dX8_product_240 ?_
  clear hB
  try clear locs
  try clear H
  intro r35 u35 H locs hp hB
  obtain rfl : r35 = (nu (5 * i + 3)) * (nu (5 * j + 0)) := hp
  replace hB : zB D A s ([(q, .inr (8, mO ad (((((((((((((((((((((((((((o || tOv (nu (5 * i + 0)) (nu (5 * j + 0))) || thO (nu (5 * i + 1)) (nu (5 * j + 1))) || pOv ((nu (5 * i + 0)) * (nu (5 * j + 0))) (thV (nu (5 * i + 1)) (nu (5 * j + 1)))) || tOv (nu (5 * i + 2)) (nu (5 * j + 2))) || thO (nu (5 * i + 3)) (nu (5 * j + 3))) || pOv ((nu (5 * i + 2)) * (nu (5 * j + 2))) (thV (nu (5 * i + 3)) (nu (5 * j + 3)))) || mOv (((nu (5 * i + 0)) * (nu (5 * j + 0))) + (thV (nu (5 * i + 1)) (nu (5 * j + 1)))) (((nu (5 * i + 2)) * (nu (5 * j + 2))) + (thV (nu (5 * i + 3)) (nu (5 * j + 3))))) || tOv (nu (5 * i + 0)) (nu (5 * j + 1))) || tOv (nu (5 * i + 1)) (nu (5 * j + 0))) || pOv ((nu (5 * i + 0)) * (nu (5 * j + 1))) ((nu (5 * i + 1)) * (nu (5 * j + 0)))) || tOv (nu (5 * i + 2)) (nu (5 * j + 3))) || tOv (nu (5 * i + 3)) (nu (5 * j + 2))) || pOv ((nu (5 * i + 2)) * (nu (5 * j + 3))) ((nu (5 * i + 3)) * (nu (5 * j + 2)))) || mOv (((nu (5 * i + 0)) * (nu (5 * j + 1))) + ((nu (5 * i + 1)) * (nu (5 * j + 0)))) (((nu (5 * i + 2)) * (nu (5 * j + 3))) + ((nu (5 * i + 3)) * (nu (5 * j + 2))))) || tOv (nu (5 * i + 0)) (nu (5 * j + 2))) || thO (nu (5 * i + 1)) (nu (5 * j + 3))) || pOv ((nu (5 * i + 0)) * (nu (5 * j + 2))) (thV (nu (5 * i + 1)) (nu (5 * j + 3)))) || tOv (nu (5 * i + 2)) (nu (5 * j + 0))) || pOv (((nu (5 * i + 0)) * (nu (5 * j + 2))) + (thV (nu (5 * i + 1)) (nu (5 * j + 3)))) ((nu (5 * i + 2)) * (nu (5 * j + 0)))) || thO (nu (5 * i + 3)) (nu (5 * j + 1))) || pOv ((((nu (5 * i + 0)) * (nu (5 * j + 2))) + (thV (nu (5 * i + 1)) (nu (5 * j + 3)))) + ((nu (5 * i + 2)) * (nu (5 * j + 0)))) (thV (nu (5 * i + 3)) (nu (5 * j + 1)))) || tOv (nu (5 * i + 0)) (nu (5 * j + 3))) || tOv (nu (5 * i + 1)) (nu (5 * j + 2))) || pOv ((nu (5 * i + 0)) * (nu (5 * j + 3))) ((nu (5 * i + 1)) * (nu (5 * j + 2)))) || tOv (nu (5 * i + 2)) (nu (5 * j + 1))) || pOv (((nu (5 * i + 0)) * (nu (5 * j + 3))) + ((nu (5 * i + 1)) * (nu (5 * j + 2)))) ((nu (5 * i + 2)) * (nu (5 * j + 1)))) || tOv (nu (5 * i + 3)) (nu (5 * j + 0))) z)), ((ad 3), .inl (ka 1, 200, .inr (.inl nu)))]) H locs := hB
  refine zVl zm_X8_127 hF hB (c_X8_and l D ka kb q ad (((((((((((((((((((((((((((o || tOv (nu (5 * i + 0)) (nu (5 * j + 0))) || thO (nu (5 * i + 1)) (nu (5 * j + 1))) || pOv ((nu (5 * i + 0)) * (nu (5 * j + 0))) (thV (nu (5 * i + 1)) (nu (5 * j + 1)))) || tOv (nu (5 * i + 2)) (nu (5 * j + 2))) || thO (nu (5 * i + 3)) (nu (5 * j + 3))) || pOv ((nu (5 * i + 2)) * (nu (5 * j + 2))) (thV (nu (5 * i + 3)) (nu (5 * j + 3)))) || mOv (((nu (5 * i + 0)) * (nu (5 * j + 0))) + (thV (nu (5 * i + 1)) (nu (5 * j + 1)))) (((nu (5 * i + 2)) * (nu (5 * j + 2))) + (thV (nu (5 * i + 3)) (nu (5 * j + 3))))) || tOv (nu (5 * i + 0)) (nu (5 * j + 1))) || tOv (nu (5 * i + 1)) (nu (5 * j + 0))) || pOv ((nu (5 * i + 0)) * (nu (5 * j + 1))) ((nu (5 * i + 1)) * (nu (5 * j + 0)))) || tOv (nu (5 * i + 2)) (nu (5 * j + 3))) || tOv (nu (5 * i + 3)) (nu (5 * j + 2))) || pOv ((nu (5 * i + 2)) * (nu (5 * j + 3))) ((nu (5 * i + 3)) * (nu (5 * j + 2)))) || mOv (((nu (5 * i + 0)) * (nu (5 * j + 1))) + ((nu (5 * i + 1)) * (nu (5 * j + 0)))) (((nu (5 * i + 2)) * (nu (5 * j + 3))) + ((nu (5 * i + 3)) * (nu (5 * j + 2))))) || tOv (nu (5 * i + 0)) (nu (5 * j + 2))) || thO (nu (5 * i + 1)) (nu (5 * j + 3))) || pOv ((nu (5 * i + 0)) * (nu (5 * j + 2))) (thV (nu (5 * i + 1)) (nu (5 * j + 3)))) || tOv (nu (5 * i + 2)) (nu (5 * j + 0))) || pOv (((nu (5 * i + 0)) * (nu (5 * j + 2))) + (thV (nu (5 * i + 1)) (nu (5 * j + 3)))) ((nu (5 * i + 2)) * (nu (5 * j + 0)))) || thO (nu (5 * i + 3)) (nu (5 * j + 1))) || pOv ((((nu (5 * i + 0)) * (nu (5 * j + 2))) + (thV (nu (5 * i + 1)) (nu (5 * j + 3)))) + ((nu (5 * i + 2)) * (nu (5 * j + 0)))) (thV (nu (5 * i + 3)) (nu (5 * j + 1)))) || tOv (nu (5 * i + 0)) (nu (5 * j + 3))) || tOv (nu (5 * i + 1)) (nu (5 * j + 2))) || pOv ((nu (5 * i + 0)) * (nu (5 * j + 3))) ((nu (5 * i + 1)) * (nu (5 * j + 2)))) || tOv (nu (5 * i + 2)) (nu (5 * j + 1))) || pOv (((nu (5 * i + 0)) * (nu (5 * j + 3))) + ((nu (5 * i + 1)) * (nu (5 * j + 2)))) ((nu (5 * i + 2)) * (nu (5 * j + 1)))) || tOv (nu (5 * i + 3)) (nu (5 * j + 0))) z ((((nu (5 * i + 0)) * (nu (5 * j + 3))) + ((nu (5 * i + 1)) * (nu (5 * j + 2)))) + ((nu (5 * i + 2)) * (nu (5 * j + 1)))) ((nu (5 * i + 3)) * (nu (5 * j + 0))) ) [0] rfl (by decide) [q] (fun _ => rfl) rfl 0 8 rfl rfl rfl ⟨Nat.le_of_ble_eq_true rfl, Nat.le_of_ble_eq_true rfl⟩ rfl hl.1 (Nat.le_of_ble_eq_true rfl) ⟨Nat.le_refl _, Nat.le_refl _⟩ dX8_product_243 ?_
  clear hB
  try clear locs
  try clear H
  intro r36 u36 H locs hp hB
  obtain rfl : r36 = ((((nu (5 * i + 0)) * (nu (5 * j + 3))) + ((nu (5 * i + 1)) * (nu (5 * j + 2)))) + ((nu (5 * i + 2)) * (nu (5 * j + 1)))) + ((nu (5 * i + 3)) * (nu (5 * j + 0))) := hp
  replace hB : zB D A s ([(q, .inr (8, mO ad ((((((((((((((((((((((((((((o || tOv (nu (5 * i + 0)) (nu (5 * j + 0))) || thO (nu (5 * i + 1)) (nu (5 * j + 1))) || pOv ((nu (5 * i + 0)) * (nu (5 * j + 0))) (thV (nu (5 * i + 1)) (nu (5 * j + 1)))) || tOv (nu (5 * i + 2)) (nu (5 * j + 2))) || thO (nu (5 * i + 3)) (nu (5 * j + 3))) || pOv ((nu (5 * i + 2)) * (nu (5 * j + 2))) (thV (nu (5 * i + 3)) (nu (5 * j + 3)))) || mOv (((nu (5 * i + 0)) * (nu (5 * j + 0))) + (thV (nu (5 * i + 1)) (nu (5 * j + 1)))) (((nu (5 * i + 2)) * (nu (5 * j + 2))) + (thV (nu (5 * i + 3)) (nu (5 * j + 3))))) || tOv (nu (5 * i + 0)) (nu (5 * j + 1))) || tOv (nu (5 * i + 1)) (nu (5 * j + 0))) || pOv ((nu (5 * i + 0)) * (nu (5 * j + 1))) ((nu (5 * i + 1)) * (nu (5 * j + 0)))) || tOv (nu (5 * i + 2)) (nu (5 * j + 3))) || tOv (nu (5 * i + 3)) (nu (5 * j + 2))) || pOv ((nu (5 * i + 2)) * (nu (5 * j + 3))) ((nu (5 * i + 3)) * (nu (5 * j + 2)))) || mOv (((nu (5 * i + 0)) * (nu (5 * j + 1))) + ((nu (5 * i + 1)) * (nu (5 * j + 0)))) (((nu (5 * i + 2)) * (nu (5 * j + 3))) + ((nu (5 * i + 3)) * (nu (5 * j + 2))))) || tOv (nu (5 * i + 0)) (nu (5 * j + 2))) || thO (nu (5 * i + 1)) (nu (5 * j + 3))) || pOv ((nu (5 * i + 0)) * (nu (5 * j + 2))) (thV (nu (5 * i + 1)) (nu (5 * j + 3)))) || tOv (nu (5 * i + 2)) (nu (5 * j + 0))) || pOv (((nu (5 * i + 0)) * (nu (5 * j + 2))) + (thV (nu (5 * i + 1)) (nu (5 * j + 3)))) ((nu (5 * i + 2)) * (nu (5 * j + 0)))) || thO (nu (5 * i + 3)) (nu (5 * j + 1))) || pOv ((((nu (5 * i + 0)) * (nu (5 * j + 2))) + (thV (nu (5 * i + 1)) (nu (5 * j + 3)))) + ((nu (5 * i + 2)) * (nu (5 * j + 0)))) (thV (nu (5 * i + 3)) (nu (5 * j + 1)))) || tOv (nu (5 * i + 0)) (nu (5 * j + 3))) || tOv (nu (5 * i + 1)) (nu (5 * j + 2))) || pOv ((nu (5 * i + 0)) * (nu (5 * j + 3))) ((nu (5 * i + 1)) * (nu (5 * j + 2)))) || tOv (nu (5 * i + 2)) (nu (5 * j + 1))) || pOv (((nu (5 * i + 0)) * (nu (5 * j + 3))) + ((nu (5 * i + 1)) * (nu (5 * j + 2)))) ((nu (5 * i + 2)) * (nu (5 * j + 1)))) || tOv (nu (5 * i + 3)) (nu (5 * j + 0))) || pOv ((((nu (5 * i + 0)) * (nu (5 * j + 3))) + ((nu (5 * i + 1)) * (nu (5 * j + 2)))) + ((nu (5 * i + 2)) * (nu (5 * j + 1)))) ((nu (5 * i + 3)) * (nu (5 * j + 0)))) z)), ((ad 3), .inl (ka 1, 200, .inr (.inl nu)))]) H locs := hB
  refine lv_lstore (lv' := [(26, .long (((((nu (5 * i + 0)) * (nu (5 * j + 3))) + ((nu (5 * i + 1)) * (nu (5 * j + 2)))) + ((nu (5 * i + 2)) * (nu (5 * j + 1)))) + ((nu (5 * i + 3)) * (nu (5 * j + 0))))), (24, .long (((((nu (5 * i + 0)) * (nu (5 * j + 2))) + (thV (nu (5 * i + 1)) (nu (5 * j + 3)))) + ((nu (5 * i + 2)) * (nu (5 * j + 0)))) + (thV (nu (5 * i + 3)) (nu (5 * j + 1))))), (22, .long ((((nu (5 * i + 0)) * (nu (5 * j + 1))) + ((nu (5 * i + 1)) * (nu (5 * j + 0)))) - (((nu (5 * i + 2)) * (nu (5 * j + 3))) + ((nu (5 * i + 3)) * (nu (5 * j + 2)))))), (20, .long ((((nu (5 * i + 0)) * (nu (5 * j + 0))) + (thV (nu (5 * i + 1)) (nu (5 * j + 1)))) - (((nu (5 * i + 2)) * (nu (5 * j + 2))) + (thV (nu (5 * i + 3)) (nu (5 * j + 3)))))), (18, .long (nu (5 * j + 3))), (16, .long (nu (5 * j + 2))), (14, .long (nu (5 * j + 1))), (12, .long (nu (5 * j + 0))), (10, .long (nu (5 * i + 3))), (8, .long (nu (5 * i + 2))), (6, .long (nu (5 * i + 1))), (4, .long (nu (5 * i + 0))), (0, .ref q), (1, .int (nI t)), (2, .int (nI i)), (3, .int (nI j))]) hx hb dX8_product_246 hl (by decide) rfl ?_
  clear hl
  clear ls
  intro ls hl
  refine lv_aload_n hx hb dX8_product_248 rfl (lv_at hl 12 rfl) ?_
  refine lv_aload_n hx hb dX8_product_249 rfl (lv_at hl 12 rfl) ?_
  refine lv_iload_n hx hb dX8_product_250 rfl (lv_at hl 14 rfl) ?_
  refine lv_iconst (v := 4) hx hb dX8_product_251 (by decide) ?_
  refine zVl zm_X8_120 hF hB (c_X8_at l D ka kb q ad ((((((((((((((((((((((((((((o || tOv (nu (5 * i + 0)) (nu (5 * j + 0))) || thO (nu (5 * i + 1)) (nu (5 * j + 1))) || pOv ((nu (5 * i + 0)) * (nu (5 * j + 0))) (thV (nu (5 * i + 1)) (nu (5 * j + 1)))) || tOv (nu (5 * i + 2)) (nu (5 * j + 2))) || thO (nu (5 * i + 3)) (nu (5 * j + 3))) || pOv ((nu (5 * i + 2)) * (nu (5 * j + 2))) (thV (nu (5 * i + 3)) (nu (5 * j + 3)))) || mOv (((nu (5 * i + 0)) * (nu (5 * j + 0))) + (thV (nu (5 * i + 1)) (nu (5 * j + 1)))) (((nu (5 * i + 2)) * (nu (5 * j + 2))) + (thV (nu (5 * i + 3)) (nu (5 * j + 3))))) || tOv (nu (5 * i + 0)) (nu (5 * j + 1))) || tOv (nu (5 * i + 1)) (nu (5 * j + 0))) || pOv ((nu (5 * i + 0)) * (nu (5 * j + 1))) ((nu (5 * i + 1)) * (nu (5 * j + 0)))) || tOv (nu (5 * i + 2)) (nu (5 * j + 3))) || tOv (nu (5 * i + 3)) (nu (5 * j + 2))) || pOv ((nu (5 * i + 2)) * (nu (5 * j + 3))) ((nu (5 * i + 3)) * (nu (5 * j + 2)))) || mOv (((nu (5 * i + 0)) * (nu (5 * j + 1))) + ((nu (5 * i + 1)) * (nu (5 * j + 0)))) (((nu (5 * i + 2)) * (nu (5 * j + 3))) + ((nu (5 * i + 3)) * (nu (5 * j + 2))))) || tOv (nu (5 * i + 0)) (nu (5 * j + 2))) || thO (nu (5 * i + 1)) (nu (5 * j + 3))) || pOv ((nu (5 * i + 0)) * (nu (5 * j + 2))) (thV (nu (5 * i + 1)) (nu (5 * j + 3)))) || tOv (nu (5 * i + 2)) (nu (5 * j + 0))) || pOv (((nu (5 * i + 0)) * (nu (5 * j + 2))) + (thV (nu (5 * i + 1)) (nu (5 * j + 3)))) ((nu (5 * i + 2)) * (nu (5 * j + 0)))) || thO (nu (5 * i + 3)) (nu (5 * j + 1))) || pOv ((((nu (5 * i + 0)) * (nu (5 * j + 2))) + (thV (nu (5 * i + 1)) (nu (5 * j + 3)))) + ((nu (5 * i + 2)) * (nu (5 * j + 0)))) (thV (nu (5 * i + 3)) (nu (5 * j + 1)))) || tOv (nu (5 * i + 0)) (nu (5 * j + 3))) || tOv (nu (5 * i + 1)) (nu (5 * j + 2))) || pOv ((nu (5 * i + 0)) * (nu (5 * j + 3))) ((nu (5 * i + 1)) * (nu (5 * j + 2)))) || tOv (nu (5 * i + 2)) (nu (5 * j + 1))) || pOv (((nu (5 * i + 0)) * (nu (5 * j + 3))) + ((nu (5 * i + 1)) * (nu (5 * j + 2)))) ((nu (5 * i + 2)) * (nu (5 * j + 1)))) || tOv (nu (5 * i + 3)) (nu (5 * j + 0))) || pOv ((((nu (5 * i + 0)) * (nu (5 * j + 3))) + ((nu (5 * i + 1)) * (nu (5 * j + 2)))) + ((nu (5 * i + 2)) * (nu (5 * j + 1)))) ((nu (5 * i + 3)) * (nu (5 * j + 0)))) z nu i 4 (by omega) (by omega)) [0, 1] rfl (by decide) [q, (ad 3)] (fun _ => rfl) rfl 0 8 rfl rfl rfl ⟨Nat.le_of_ble_eq_true rfl, Nat.le_of_ble_eq_true rfl⟩ rfl hl.1 (Nat.le_of_ble_eq_true rfl) ⟨Nat.le_refl _, Nat.le_refl _⟩ dX8_product_252 ?_
  clear hB
  try clear locs
  try clear H
  intro r37 u37 H locs hp hB
  obtain rfl : r37 = nu (5 * i + 4) := hp
  replace hB : zB D A s ([(q, .inr (8, mO ad ((((((((((((((((((((((((((((o || tOv (nu (5 * i + 0)) (nu (5 * j + 0))) || thO (nu (5 * i + 1)) (nu (5 * j + 1))) || pOv ((nu (5 * i + 0)) * (nu (5 * j + 0))) (thV (nu (5 * i + 1)) (nu (5 * j + 1)))) || tOv (nu (5 * i + 2)) (nu (5 * j + 2))) || thO (nu (5 * i + 3)) (nu (5 * j + 3))) || pOv ((nu (5 * i + 2)) * (nu (5 * j + 2))) (thV (nu (5 * i + 3)) (nu (5 * j + 3)))) || mOv (((nu (5 * i + 0)) * (nu (5 * j + 0))) + (thV (nu (5 * i + 1)) (nu (5 * j + 1)))) (((nu (5 * i + 2)) * (nu (5 * j + 2))) + (thV (nu (5 * i + 3)) (nu (5 * j + 3))))) || tOv (nu (5 * i + 0)) (nu (5 * j + 1))) || tOv (nu (5 * i + 1)) (nu (5 * j + 0))) || pOv ((nu (5 * i + 0)) * (nu (5 * j + 1))) ((nu (5 * i + 1)) * (nu (5 * j + 0)))) || tOv (nu (5 * i + 2)) (nu (5 * j + 3))) || tOv (nu (5 * i + 3)) (nu (5 * j + 2))) || pOv ((nu (5 * i + 2)) * (nu (5 * j + 3))) ((nu (5 * i + 3)) * (nu (5 * j + 2)))) || mOv (((nu (5 * i + 0)) * (nu (5 * j + 1))) + ((nu (5 * i + 1)) * (nu (5 * j + 0)))) (((nu (5 * i + 2)) * (nu (5 * j + 3))) + ((nu (5 * i + 3)) * (nu (5 * j + 2))))) || tOv (nu (5 * i + 0)) (nu (5 * j + 2))) || thO (nu (5 * i + 1)) (nu (5 * j + 3))) || pOv ((nu (5 * i + 0)) * (nu (5 * j + 2))) (thV (nu (5 * i + 1)) (nu (5 * j + 3)))) || tOv (nu (5 * i + 2)) (nu (5 * j + 0))) || pOv (((nu (5 * i + 0)) * (nu (5 * j + 2))) + (thV (nu (5 * i + 1)) (nu (5 * j + 3)))) ((nu (5 * i + 2)) * (nu (5 * j + 0)))) || thO (nu (5 * i + 3)) (nu (5 * j + 1))) || pOv ((((nu (5 * i + 0)) * (nu (5 * j + 2))) + (thV (nu (5 * i + 1)) (nu (5 * j + 3)))) + ((nu (5 * i + 2)) * (nu (5 * j + 0)))) (thV (nu (5 * i + 3)) (nu (5 * j + 1)))) || tOv (nu (5 * i + 0)) (nu (5 * j + 3))) || tOv (nu (5 * i + 1)) (nu (5 * j + 2))) || pOv ((nu (5 * i + 0)) * (nu (5 * j + 3))) ((nu (5 * i + 1)) * (nu (5 * j + 2)))) || tOv (nu (5 * i + 2)) (nu (5 * j + 1))) || pOv (((nu (5 * i + 0)) * (nu (5 * j + 3))) + ((nu (5 * i + 1)) * (nu (5 * j + 2)))) ((nu (5 * i + 2)) * (nu (5 * j + 1)))) || tOv (nu (5 * i + 3)) (nu (5 * j + 0))) || pOv ((((nu (5 * i + 0)) * (nu (5 * j + 3))) + ((nu (5 * i + 1)) * (nu (5 * j + 2)))) + ((nu (5 * i + 2)) * (nu (5 * j + 1)))) ((nu (5 * i + 3)) * (nu (5 * j + 0)))) z)), ((ad 3), .inl (ka 1, 200, .inr (.inl nu)))]) H locs := hB
  refine lv_aload_n hx hb dX8_product_255 rfl (lv_at hl 12 rfl) ?_
  refine lv_iload_n hx hb dX8_product_256 rfl (lv_at hl 15 rfl) ?_
  refine lv_iconst (v := 4) hx hb dX8_product_257 (by decide) ?_
  refine zVl zm_X8_120 hF hB (c_X8_at l D ka kb q ad ((((((((((((((((((((((((((((o || tOv (nu (5 * i + 0)) (nu (5 * j + 0))) || thO (nu (5 * i + 1)) (nu (5 * j + 1))) || pOv ((nu (5 * i + 0)) * (nu (5 * j + 0))) (thV (nu (5 * i + 1)) (nu (5 * j + 1)))) || tOv (nu (5 * i + 2)) (nu (5 * j + 2))) || thO (nu (5 * i + 3)) (nu (5 * j + 3))) || pOv ((nu (5 * i + 2)) * (nu (5 * j + 2))) (thV (nu (5 * i + 3)) (nu (5 * j + 3)))) || mOv (((nu (5 * i + 0)) * (nu (5 * j + 0))) + (thV (nu (5 * i + 1)) (nu (5 * j + 1)))) (((nu (5 * i + 2)) * (nu (5 * j + 2))) + (thV (nu (5 * i + 3)) (nu (5 * j + 3))))) || tOv (nu (5 * i + 0)) (nu (5 * j + 1))) || tOv (nu (5 * i + 1)) (nu (5 * j + 0))) || pOv ((nu (5 * i + 0)) * (nu (5 * j + 1))) ((nu (5 * i + 1)) * (nu (5 * j + 0)))) || tOv (nu (5 * i + 2)) (nu (5 * j + 3))) || tOv (nu (5 * i + 3)) (nu (5 * j + 2))) || pOv ((nu (5 * i + 2)) * (nu (5 * j + 3))) ((nu (5 * i + 3)) * (nu (5 * j + 2)))) || mOv (((nu (5 * i + 0)) * (nu (5 * j + 1))) + ((nu (5 * i + 1)) * (nu (5 * j + 0)))) (((nu (5 * i + 2)) * (nu (5 * j + 3))) + ((nu (5 * i + 3)) * (nu (5 * j + 2))))) || tOv (nu (5 * i + 0)) (nu (5 * j + 2))) || thO (nu (5 * i + 1)) (nu (5 * j + 3))) || pOv ((nu (5 * i + 0)) * (nu (5 * j + 2))) (thV (nu (5 * i + 1)) (nu (5 * j + 3)))) || tOv (nu (5 * i + 2)) (nu (5 * j + 0))) || pOv (((nu (5 * i + 0)) * (nu (5 * j + 2))) + (thV (nu (5 * i + 1)) (nu (5 * j + 3)))) ((nu (5 * i + 2)) * (nu (5 * j + 0)))) || thO (nu (5 * i + 3)) (nu (5 * j + 1))) || pOv ((((nu (5 * i + 0)) * (nu (5 * j + 2))) + (thV (nu (5 * i + 1)) (nu (5 * j + 3)))) + ((nu (5 * i + 2)) * (nu (5 * j + 0)))) (thV (nu (5 * i + 3)) (nu (5 * j + 1)))) || tOv (nu (5 * i + 0)) (nu (5 * j + 3))) || tOv (nu (5 * i + 1)) (nu (5 * j + 2))) || pOv ((nu (5 * i + 0)) * (nu (5 * j + 3))) ((nu (5 * i + 1)) * (nu (5 * j + 2)))) || tOv (nu (5 * i + 2)) (nu (5 * j + 1))) || pOv (((nu (5 * i + 0)) * (nu (5 * j + 3))) + ((nu (5 * i + 1)) * (nu (5 * j + 2)))) ((nu (5 * i + 2)) * (nu (5 * j + 1)))) || tOv (nu (5 * i + 3)) (nu (5 * j + 0))) || pOv ((((nu (5 * i + 0)) * (nu (5 * j + 3))) + ((nu (5 * i + 1)) * (nu (5 * j + 2)))) + ((nu (5 * i + 2)) * (nu (5 * j + 1)))) ((nu (5 * i + 3)) * (nu (5 * j + 0)))) z nu j 4 (by omega) (by omega)) [0, 1] rfl (by decide) [q, (ad 3)] (fun _ => rfl) rfl 0 8 rfl rfl rfl ⟨Nat.le_of_ble_eq_true rfl, Nat.le_of_ble_eq_true rfl⟩ rfl hl.1 (Nat.le_of_ble_eq_true rfl) ⟨Nat.le_refl _, Nat.le_refl _⟩ dX8_product_258 ?_
  clear hB
  try clear locs
  try clear H
  intro r38 u38 H locs hp hB
  obtain rfl : r38 = nu (5 * j + 4) := hp
  replace hB : zB D A s ([(q, .inr (8, mO ad ((((((((((((((((((((((((((((o || tOv (nu (5 * i + 0)) (nu (5 * j + 0))) || thO (nu (5 * i + 1)) (nu (5 * j + 1))) || pOv ((nu (5 * i + 0)) * (nu (5 * j + 0))) (thV (nu (5 * i + 1)) (nu (5 * j + 1)))) || tOv (nu (5 * i + 2)) (nu (5 * j + 2))) || thO (nu (5 * i + 3)) (nu (5 * j + 3))) || pOv ((nu (5 * i + 2)) * (nu (5 * j + 2))) (thV (nu (5 * i + 3)) (nu (5 * j + 3)))) || mOv (((nu (5 * i + 0)) * (nu (5 * j + 0))) + (thV (nu (5 * i + 1)) (nu (5 * j + 1)))) (((nu (5 * i + 2)) * (nu (5 * j + 2))) + (thV (nu (5 * i + 3)) (nu (5 * j + 3))))) || tOv (nu (5 * i + 0)) (nu (5 * j + 1))) || tOv (nu (5 * i + 1)) (nu (5 * j + 0))) || pOv ((nu (5 * i + 0)) * (nu (5 * j + 1))) ((nu (5 * i + 1)) * (nu (5 * j + 0)))) || tOv (nu (5 * i + 2)) (nu (5 * j + 3))) || tOv (nu (5 * i + 3)) (nu (5 * j + 2))) || pOv ((nu (5 * i + 2)) * (nu (5 * j + 3))) ((nu (5 * i + 3)) * (nu (5 * j + 2)))) || mOv (((nu (5 * i + 0)) * (nu (5 * j + 1))) + ((nu (5 * i + 1)) * (nu (5 * j + 0)))) (((nu (5 * i + 2)) * (nu (5 * j + 3))) + ((nu (5 * i + 3)) * (nu (5 * j + 2))))) || tOv (nu (5 * i + 0)) (nu (5 * j + 2))) || thO (nu (5 * i + 1)) (nu (5 * j + 3))) || pOv ((nu (5 * i + 0)) * (nu (5 * j + 2))) (thV (nu (5 * i + 1)) (nu (5 * j + 3)))) || tOv (nu (5 * i + 2)) (nu (5 * j + 0))) || pOv (((nu (5 * i + 0)) * (nu (5 * j + 2))) + (thV (nu (5 * i + 1)) (nu (5 * j + 3)))) ((nu (5 * i + 2)) * (nu (5 * j + 0)))) || thO (nu (5 * i + 3)) (nu (5 * j + 1))) || pOv ((((nu (5 * i + 0)) * (nu (5 * j + 2))) + (thV (nu (5 * i + 1)) (nu (5 * j + 3)))) + ((nu (5 * i + 2)) * (nu (5 * j + 0)))) (thV (nu (5 * i + 3)) (nu (5 * j + 1)))) || tOv (nu (5 * i + 0)) (nu (5 * j + 3))) || tOv (nu (5 * i + 1)) (nu (5 * j + 2))) || pOv ((nu (5 * i + 0)) * (nu (5 * j + 3))) ((nu (5 * i + 1)) * (nu (5 * j + 2)))) || tOv (nu (5 * i + 2)) (nu (5 * j + 1))) || pOv (((nu (5 * i + 0)) * (nu (5 * j + 3))) + ((nu (5 * i + 1)) * (nu (5 * j + 2)))) ((nu (5 * i + 2)) * (nu (5 * j + 1)))) || tOv (nu (5 * i + 3)) (nu (5 * j + 0))) || pOv ((((nu (5 * i + 0)) * (nu (5 * j + 3))) + ((nu (5 * i + 1)) * (nu (5 * j + 2)))) + ((nu (5 * i + 2)) * (nu (5 * j + 1)))) ((nu (5 * i + 3)) * (nu (5 * j + 0)))) z)), ((ad 3), .inl (ka 1, 200, .inr (.inl nu)))]) H locs := hB
  refine zVl zm_X8_124 hF hB (c_X8_times l D ka kb q ad ((((((((((((((((((((((((((((o || tOv (nu (5 * i + 0)) (nu (5 * j + 0))) || thO (nu (5 * i + 1)) (nu (5 * j + 1))) || pOv ((nu (5 * i + 0)) * (nu (5 * j + 0))) (thV (nu (5 * i + 1)) (nu (5 * j + 1)))) || tOv (nu (5 * i + 2)) (nu (5 * j + 2))) || thO (nu (5 * i + 3)) (nu (5 * j + 3))) || pOv ((nu (5 * i + 2)) * (nu (5 * j + 2))) (thV (nu (5 * i + 3)) (nu (5 * j + 3)))) || mOv (((nu (5 * i + 0)) * (nu (5 * j + 0))) + (thV (nu (5 * i + 1)) (nu (5 * j + 1)))) (((nu (5 * i + 2)) * (nu (5 * j + 2))) + (thV (nu (5 * i + 3)) (nu (5 * j + 3))))) || tOv (nu (5 * i + 0)) (nu (5 * j + 1))) || tOv (nu (5 * i + 1)) (nu (5 * j + 0))) || pOv ((nu (5 * i + 0)) * (nu (5 * j + 1))) ((nu (5 * i + 1)) * (nu (5 * j + 0)))) || tOv (nu (5 * i + 2)) (nu (5 * j + 3))) || tOv (nu (5 * i + 3)) (nu (5 * j + 2))) || pOv ((nu (5 * i + 2)) * (nu (5 * j + 3))) ((nu (5 * i + 3)) * (nu (5 * j + 2)))) || mOv (((nu (5 * i + 0)) * (nu (5 * j + 1))) + ((nu (5 * i + 1)) * (nu (5 * j + 0)))) (((nu (5 * i + 2)) * (nu (5 * j + 3))) + ((nu (5 * i + 3)) * (nu (5 * j + 2))))) || tOv (nu (5 * i + 0)) (nu (5 * j + 2))) || thO (nu (5 * i + 1)) (nu (5 * j + 3))) || pOv ((nu (5 * i + 0)) * (nu (5 * j + 2))) (thV (nu (5 * i + 1)) (nu (5 * j + 3)))) || tOv (nu (5 * i + 2)) (nu (5 * j + 0))) || pOv (((nu (5 * i + 0)) * (nu (5 * j + 2))) + (thV (nu (5 * i + 1)) (nu (5 * j + 3)))) ((nu (5 * i + 2)) * (nu (5 * j + 0)))) || thO (nu (5 * i + 3)) (nu (5 * j + 1))) || pOv ((((nu (5 * i + 0)) * (nu (5 * j + 2))) + (thV (nu (5 * i + 1)) (nu (5 * j + 3)))) + ((nu (5 * i + 2)) * (nu (5 * j + 0)))) (thV (nu (5 * i + 3)) (nu (5 * j + 1)))) || tOv (nu (5 * i + 0)) (nu (5 * j + 3))) || tOv (nu (5 * i + 1)) (nu (5 * j + 2))) || pOv ((nu (5 * i + 0)) * (nu (5 * j + 3))) ((nu (5 * i + 1)) * (nu (5 * j + 2)))) || tOv (nu (5 * i + 2)) (nu (5 * j + 1))) || pOv (((nu (5 * i + 0)) * (nu (5 * j + 3))) + ((nu (5 * i + 1)) * (nu (5 * j + 2)))) ((nu (5 * i + 2)) * (nu (5 * j + 1)))) || tOv (nu (5 * i + 3)) (nu (5 * j + 0))) || pOv ((((nu (5 * i + 0)) * (nu (5 * j + 3))) + ((nu (5 * i + 1)) * (nu (5 * j + 2)))) + ((nu (5 * i + 2)) * (nu (5 * j + 1)))) ((nu (5 * i + 3)) * (nu (5 * j + 0)))) z (nu (5 * i + 4)) (nu (5 * j + 4)) ) [0] rfl (by decide) [q] (fun _ => rfl) rfl 0 8 rfl rfl rfl ⟨Nat.le_of_ble_eq_true rfl, Nat.le_of_ble_eq_true rfl⟩ rfl hl.1 (Nat.le_of_ble_eq_true rfl) ⟨Nat.le_refl _, Nat.le_refl _⟩ dX8_product_261 ?_
  clear hB
  try clear locs
  try clear H
  intro r39 u39 H locs hp hB
  obtain rfl : r39 = (nu (5 * i + 4)) * (nu (5 * j + 4)) := hp
  replace hB : zB D A s ([(q, .inr (8, mO ad (((((((((((((((((((((((((((((o || tOv (nu (5 * i + 0)) (nu (5 * j + 0))) || thO (nu (5 * i + 1)) (nu (5 * j + 1))) || pOv ((nu (5 * i + 0)) * (nu (5 * j + 0))) (thV (nu (5 * i + 1)) (nu (5 * j + 1)))) || tOv (nu (5 * i + 2)) (nu (5 * j + 2))) || thO (nu (5 * i + 3)) (nu (5 * j + 3))) || pOv ((nu (5 * i + 2)) * (nu (5 * j + 2))) (thV (nu (5 * i + 3)) (nu (5 * j + 3)))) || mOv (((nu (5 * i + 0)) * (nu (5 * j + 0))) + (thV (nu (5 * i + 1)) (nu (5 * j + 1)))) (((nu (5 * i + 2)) * (nu (5 * j + 2))) + (thV (nu (5 * i + 3)) (nu (5 * j + 3))))) || tOv (nu (5 * i + 0)) (nu (5 * j + 1))) || tOv (nu (5 * i + 1)) (nu (5 * j + 0))) || pOv ((nu (5 * i + 0)) * (nu (5 * j + 1))) ((nu (5 * i + 1)) * (nu (5 * j + 0)))) || tOv (nu (5 * i + 2)) (nu (5 * j + 3))) || tOv (nu (5 * i + 3)) (nu (5 * j + 2))) || pOv ((nu (5 * i + 2)) * (nu (5 * j + 3))) ((nu (5 * i + 3)) * (nu (5 * j + 2)))) || mOv (((nu (5 * i + 0)) * (nu (5 * j + 1))) + ((nu (5 * i + 1)) * (nu (5 * j + 0)))) (((nu (5 * i + 2)) * (nu (5 * j + 3))) + ((nu (5 * i + 3)) * (nu (5 * j + 2))))) || tOv (nu (5 * i + 0)) (nu (5 * j + 2))) || thO (nu (5 * i + 1)) (nu (5 * j + 3))) || pOv ((nu (5 * i + 0)) * (nu (5 * j + 2))) (thV (nu (5 * i + 1)) (nu (5 * j + 3)))) || tOv (nu (5 * i + 2)) (nu (5 * j + 0))) || pOv (((nu (5 * i + 0)) * (nu (5 * j + 2))) + (thV (nu (5 * i + 1)) (nu (5 * j + 3)))) ((nu (5 * i + 2)) * (nu (5 * j + 0)))) || thO (nu (5 * i + 3)) (nu (5 * j + 1))) || pOv ((((nu (5 * i + 0)) * (nu (5 * j + 2))) + (thV (nu (5 * i + 1)) (nu (5 * j + 3)))) + ((nu (5 * i + 2)) * (nu (5 * j + 0)))) (thV (nu (5 * i + 3)) (nu (5 * j + 1)))) || tOv (nu (5 * i + 0)) (nu (5 * j + 3))) || tOv (nu (5 * i + 1)) (nu (5 * j + 2))) || pOv ((nu (5 * i + 0)) * (nu (5 * j + 3))) ((nu (5 * i + 1)) * (nu (5 * j + 2)))) || tOv (nu (5 * i + 2)) (nu (5 * j + 1))) || pOv (((nu (5 * i + 0)) * (nu (5 * j + 3))) + ((nu (5 * i + 1)) * (nu (5 * j + 2)))) ((nu (5 * i + 2)) * (nu (5 * j + 1)))) || tOv (nu (5 * i + 3)) (nu (5 * j + 0))) || pOv ((((nu (5 * i + 0)) * (nu (5 * j + 3))) + ((nu (5 * i + 1)) * (nu (5 * j + 2)))) + ((nu (5 * i + 2)) * (nu (5 * j + 1)))) ((nu (5 * i + 3)) * (nu (5 * j + 0)))) || tOv (nu (5 * i + 4)) (nu (5 * j + 4))) z)), ((ad 3), .inl (ka 1, 200, .inr (.inl nu)))]) H locs := hB
  refine lv_lstore (lv' := [(28, .long ((nu (5 * i + 4)) * (nu (5 * j + 4)))), (26, .long (((((nu (5 * i + 0)) * (nu (5 * j + 3))) + ((nu (5 * i + 1)) * (nu (5 * j + 2)))) + ((nu (5 * i + 2)) * (nu (5 * j + 1)))) + ((nu (5 * i + 3)) * (nu (5 * j + 0))))), (24, .long (((((nu (5 * i + 0)) * (nu (5 * j + 2))) + (thV (nu (5 * i + 1)) (nu (5 * j + 3)))) + ((nu (5 * i + 2)) * (nu (5 * j + 0)))) + (thV (nu (5 * i + 3)) (nu (5 * j + 1))))), (22, .long ((((nu (5 * i + 0)) * (nu (5 * j + 1))) + ((nu (5 * i + 1)) * (nu (5 * j + 0)))) - (((nu (5 * i + 2)) * (nu (5 * j + 3))) + ((nu (5 * i + 3)) * (nu (5 * j + 2)))))), (20, .long ((((nu (5 * i + 0)) * (nu (5 * j + 0))) + (thV (nu (5 * i + 1)) (nu (5 * j + 1)))) - (((nu (5 * i + 2)) * (nu (5 * j + 2))) + (thV (nu (5 * i + 3)) (nu (5 * j + 3)))))), (18, .long (nu (5 * j + 3))), (16, .long (nu (5 * j + 2))), (14, .long (nu (5 * j + 1))), (12, .long (nu (5 * j + 0))), (10, .long (nu (5 * i + 3))), (8, .long (nu (5 * i + 2))), (6, .long (nu (5 * i + 1))), (4, .long (nu (5 * i + 0))), (0, .ref q), (1, .int (nI t)), (2, .int (nI i)), (3, .int (nI j))]) hx hb dX8_product_264 hl (by decide) rfl ?_
  clear hl
  clear ls
  intro ls hl
  refine lv_aload_n hx hb dX8_product_266 rfl (lv_at hl 13 rfl) ?_
  refine zget zf_X8_105 hF hB 0 rfl rfl dX8_product_267 ?_
  refine lv_if_ne (tgt := 288) hx hb dX8_product_270 (by decide) (fun h270 => ?_) (fun h270 => ?_)
  · skip
    have hE : (o || prodO (getN nu i) (getN nu j)) = (((((((((((((((((((((((((((((o || tOv (nu (5 * i + 0)) (nu (5 * j + 0))) || thO (nu (5 * i + 1)) (nu (5 * j + 1))) || pOv ((nu (5 * i + 0)) * (nu (5 * j + 0))) (thV (nu (5 * i + 1)) (nu (5 * j + 1)))) || tOv (nu (5 * i + 2)) (nu (5 * j + 2))) || thO (nu (5 * i + 3)) (nu (5 * j + 3))) || pOv ((nu (5 * i + 2)) * (nu (5 * j + 2))) (thV (nu (5 * i + 3)) (nu (5 * j + 3)))) || mOv (((nu (5 * i + 0)) * (nu (5 * j + 0))) + (thV (nu (5 * i + 1)) (nu (5 * j + 1)))) (((nu (5 * i + 2)) * (nu (5 * j + 2))) + (thV (nu (5 * i + 3)) (nu (5 * j + 3))))) || tOv (nu (5 * i + 0)) (nu (5 * j + 1))) || tOv (nu (5 * i + 1)) (nu (5 * j + 0))) || pOv ((nu (5 * i + 0)) * (nu (5 * j + 1))) ((nu (5 * i + 1)) * (nu (5 * j + 0)))) || tOv (nu (5 * i + 2)) (nu (5 * j + 3))) || tOv (nu (5 * i + 3)) (nu (5 * j + 2))) || pOv ((nu (5 * i + 2)) * (nu (5 * j + 3))) ((nu (5 * i + 3)) * (nu (5 * j + 2)))) || mOv (((nu (5 * i + 0)) * (nu (5 * j + 1))) + ((nu (5 * i + 1)) * (nu (5 * j + 0)))) (((nu (5 * i + 2)) * (nu (5 * j + 3))) + ((nu (5 * i + 3)) * (nu (5 * j + 2))))) || tOv (nu (5 * i + 0)) (nu (5 * j + 2))) || thO (nu (5 * i + 1)) (nu (5 * j + 3))) || pOv ((nu (5 * i + 0)) * (nu (5 * j + 2))) (thV (nu (5 * i + 1)) (nu (5 * j + 3)))) || tOv (nu (5 * i + 2)) (nu (5 * j + 0))) || pOv (((nu (5 * i + 0)) * (nu (5 * j + 2))) + (thV (nu (5 * i + 1)) (nu (5 * j + 3)))) ((nu (5 * i + 2)) * (nu (5 * j + 0)))) || thO (nu (5 * i + 3)) (nu (5 * j + 1))) || pOv ((((nu (5 * i + 0)) * (nu (5 * j + 2))) + (thV (nu (5 * i + 1)) (nu (5 * j + 3)))) + ((nu (5 * i + 2)) * (nu (5 * j + 0)))) (thV (nu (5 * i + 3)) (nu (5 * j + 1)))) || tOv (nu (5 * i + 0)) (nu (5 * j + 3))) || tOv (nu (5 * i + 1)) (nu (5 * j + 2))) || pOv ((nu (5 * i + 0)) * (nu (5 * j + 3))) ((nu (5 * i + 1)) * (nu (5 * j + 2)))) || tOv (nu (5 * i + 2)) (nu (5 * j + 1))) || pOv (((nu (5 * i + 0)) * (nu (5 * j + 3))) + ((nu (5 * i + 1)) * (nu (5 * j + 2)))) ((nu (5 * i + 2)) * (nu (5 * j + 1)))) || tOv (nu (5 * i + 3)) (nu (5 * j + 0))) || pOv ((((nu (5 * i + 0)) * (nu (5 * j + 3))) + ((nu (5 * i + 1)) * (nu (5 * j + 2)))) + ((nu (5 * i + 2)) * (nu (5 * j + 1)))) ((nu (5 * i + 3)) * (nu (5 * j + 0)))) || tOv (nu (5 * i + 4)) (nu (5 * j + 4))) := by simp [prodO, prAo, prBo, prCo, prEo, getN, Bool.or_assoc]
    have hT : (((((((((((((((((((((((((((((o || tOv (nu (5 * i + 0)) (nu (5 * j + 0))) || thO (nu (5 * i + 1)) (nu (5 * j + 1))) || pOv ((nu (5 * i + 0)) * (nu (5 * j + 0))) (thV (nu (5 * i + 1)) (nu (5 * j + 1)))) || tOv (nu (5 * i + 2)) (nu (5 * j + 2))) || thO (nu (5 * i + 3)) (nu (5 * j + 3))) || pOv ((nu (5 * i + 2)) * (nu (5 * j + 2))) (thV (nu (5 * i + 3)) (nu (5 * j + 3)))) || mOv (((nu (5 * i + 0)) * (nu (5 * j + 0))) + (thV (nu (5 * i + 1)) (nu (5 * j + 1)))) (((nu (5 * i + 2)) * (nu (5 * j + 2))) + (thV (nu (5 * i + 3)) (nu (5 * j + 3))))) || tOv (nu (5 * i + 0)) (nu (5 * j + 1))) || tOv (nu (5 * i + 1)) (nu (5 * j + 0))) || pOv ((nu (5 * i + 0)) * (nu (5 * j + 1))) ((nu (5 * i + 1)) * (nu (5 * j + 0)))) || tOv (nu (5 * i + 2)) (nu (5 * j + 3))) || tOv (nu (5 * i + 3)) (nu (5 * j + 2))) || pOv ((nu (5 * i + 2)) * (nu (5 * j + 3))) ((nu (5 * i + 3)) * (nu (5 * j + 2)))) || mOv (((nu (5 * i + 0)) * (nu (5 * j + 1))) + ((nu (5 * i + 1)) * (nu (5 * j + 0)))) (((nu (5 * i + 2)) * (nu (5 * j + 3))) + ((nu (5 * i + 3)) * (nu (5 * j + 2))))) || tOv (nu (5 * i + 0)) (nu (5 * j + 2))) || thO (nu (5 * i + 1)) (nu (5 * j + 3))) || pOv ((nu (5 * i + 0)) * (nu (5 * j + 2))) (thV (nu (5 * i + 1)) (nu (5 * j + 3)))) || tOv (nu (5 * i + 2)) (nu (5 * j + 0))) || pOv (((nu (5 * i + 0)) * (nu (5 * j + 2))) + (thV (nu (5 * i + 1)) (nu (5 * j + 3)))) ((nu (5 * i + 2)) * (nu (5 * j + 0)))) || thO (nu (5 * i + 3)) (nu (5 * j + 1))) || pOv ((((nu (5 * i + 0)) * (nu (5 * j + 2))) + (thV (nu (5 * i + 1)) (nu (5 * j + 3)))) + ((nu (5 * i + 2)) * (nu (5 * j + 0)))) (thV (nu (5 * i + 3)) (nu (5 * j + 1)))) || tOv (nu (5 * i + 0)) (nu (5 * j + 3))) || tOv (nu (5 * i + 1)) (nu (5 * j + 2))) || pOv ((nu (5 * i + 0)) * (nu (5 * j + 3))) ((nu (5 * i + 1)) * (nu (5 * j + 2)))) || tOv (nu (5 * i + 2)) (nu (5 * j + 1))) || pOv (((nu (5 * i + 0)) * (nu (5 * j + 3))) + ((nu (5 * i + 1)) * (nu (5 * j + 2)))) ((nu (5 * i + 2)) * (nu (5 * j + 1)))) || tOv (nu (5 * i + 3)) (nu (5 * j + 0))) || pOv ((((nu (5 * i + 0)) * (nu (5 * j + 3))) + ((nu (5 * i + 1)) * (nu (5 * j + 2)))) + ((nu (5 * i + 2)) * (nu (5 * j + 1)))) ((nu (5 * i + 3)) * (nu (5 * j + 0)))) || tOv (nu (5 * i + 4)) (nu (5 * j + 4))) = true := bI_ne0 h270
    exact zretv hF hB () (trivial) (by rw [hE, hT] <;> rfl) dX8_product_288 hQ
  · skip
    have hE : (o || prodO (getN nu i) (getN nu j)) = (((((((((((((((((((((((((((((o || tOv (nu (5 * i + 0)) (nu (5 * j + 0))) || thO (nu (5 * i + 1)) (nu (5 * j + 1))) || pOv ((nu (5 * i + 0)) * (nu (5 * j + 0))) (thV (nu (5 * i + 1)) (nu (5 * j + 1)))) || tOv (nu (5 * i + 2)) (nu (5 * j + 2))) || thO (nu (5 * i + 3)) (nu (5 * j + 3))) || pOv ((nu (5 * i + 2)) * (nu (5 * j + 2))) (thV (nu (5 * i + 3)) (nu (5 * j + 3)))) || mOv (((nu (5 * i + 0)) * (nu (5 * j + 0))) + (thV (nu (5 * i + 1)) (nu (5 * j + 1)))) (((nu (5 * i + 2)) * (nu (5 * j + 2))) + (thV (nu (5 * i + 3)) (nu (5 * j + 3))))) || tOv (nu (5 * i + 0)) (nu (5 * j + 1))) || tOv (nu (5 * i + 1)) (nu (5 * j + 0))) || pOv ((nu (5 * i + 0)) * (nu (5 * j + 1))) ((nu (5 * i + 1)) * (nu (5 * j + 0)))) || tOv (nu (5 * i + 2)) (nu (5 * j + 3))) || tOv (nu (5 * i + 3)) (nu (5 * j + 2))) || pOv ((nu (5 * i + 2)) * (nu (5 * j + 3))) ((nu (5 * i + 3)) * (nu (5 * j + 2)))) || mOv (((nu (5 * i + 0)) * (nu (5 * j + 1))) + ((nu (5 * i + 1)) * (nu (5 * j + 0)))) (((nu (5 * i + 2)) * (nu (5 * j + 3))) + ((nu (5 * i + 3)) * (nu (5 * j + 2))))) || tOv (nu (5 * i + 0)) (nu (5 * j + 2))) || thO (nu (5 * i + 1)) (nu (5 * j + 3))) || pOv ((nu (5 * i + 0)) * (nu (5 * j + 2))) (thV (nu (5 * i + 1)) (nu (5 * j + 3)))) || tOv (nu (5 * i + 2)) (nu (5 * j + 0))) || pOv (((nu (5 * i + 0)) * (nu (5 * j + 2))) + (thV (nu (5 * i + 1)) (nu (5 * j + 3)))) ((nu (5 * i + 2)) * (nu (5 * j + 0)))) || thO (nu (5 * i + 3)) (nu (5 * j + 1))) || pOv ((((nu (5 * i + 0)) * (nu (5 * j + 2))) + (thV (nu (5 * i + 1)) (nu (5 * j + 3)))) + ((nu (5 * i + 2)) * (nu (5 * j + 0)))) (thV (nu (5 * i + 3)) (nu (5 * j + 1)))) || tOv (nu (5 * i + 0)) (nu (5 * j + 3))) || tOv (nu (5 * i + 1)) (nu (5 * j + 2))) || pOv ((nu (5 * i + 0)) * (nu (5 * j + 3))) ((nu (5 * i + 1)) * (nu (5 * j + 2)))) || tOv (nu (5 * i + 2)) (nu (5 * j + 1))) || pOv (((nu (5 * i + 0)) * (nu (5 * j + 3))) + ((nu (5 * i + 1)) * (nu (5 * j + 2)))) ((nu (5 * i + 2)) * (nu (5 * j + 1)))) || tOv (nu (5 * i + 3)) (nu (5 * j + 0))) || pOv ((((nu (5 * i + 0)) * (nu (5 * j + 3))) + ((nu (5 * i + 1)) * (nu (5 * j + 2)))) + ((nu (5 * i + 2)) * (nu (5 * j + 1)))) ((nu (5 * i + 3)) * (nu (5 * j + 0)))) || tOv (nu (5 * i + 4)) (nu (5 * j + 4))) := by simp [prodO, prAo, prBo, prCo, prEo, getN, Bool.or_assoc]
    have hT : (((((((((((((((((((((((((((((o || tOv (nu (5 * i + 0)) (nu (5 * j + 0))) || thO (nu (5 * i + 1)) (nu (5 * j + 1))) || pOv ((nu (5 * i + 0)) * (nu (5 * j + 0))) (thV (nu (5 * i + 1)) (nu (5 * j + 1)))) || tOv (nu (5 * i + 2)) (nu (5 * j + 2))) || thO (nu (5 * i + 3)) (nu (5 * j + 3))) || pOv ((nu (5 * i + 2)) * (nu (5 * j + 2))) (thV (nu (5 * i + 3)) (nu (5 * j + 3)))) || mOv (((nu (5 * i + 0)) * (nu (5 * j + 0))) + (thV (nu (5 * i + 1)) (nu (5 * j + 1)))) (((nu (5 * i + 2)) * (nu (5 * j + 2))) + (thV (nu (5 * i + 3)) (nu (5 * j + 3))))) || tOv (nu (5 * i + 0)) (nu (5 * j + 1))) || tOv (nu (5 * i + 1)) (nu (5 * j + 0))) || pOv ((nu (5 * i + 0)) * (nu (5 * j + 1))) ((nu (5 * i + 1)) * (nu (5 * j + 0)))) || tOv (nu (5 * i + 2)) (nu (5 * j + 3))) || tOv (nu (5 * i + 3)) (nu (5 * j + 2))) || pOv ((nu (5 * i + 2)) * (nu (5 * j + 3))) ((nu (5 * i + 3)) * (nu (5 * j + 2)))) || mOv (((nu (5 * i + 0)) * (nu (5 * j + 1))) + ((nu (5 * i + 1)) * (nu (5 * j + 0)))) (((nu (5 * i + 2)) * (nu (5 * j + 3))) + ((nu (5 * i + 3)) * (nu (5 * j + 2))))) || tOv (nu (5 * i + 0)) (nu (5 * j + 2))) || thO (nu (5 * i + 1)) (nu (5 * j + 3))) || pOv ((nu (5 * i + 0)) * (nu (5 * j + 2))) (thV (nu (5 * i + 1)) (nu (5 * j + 3)))) || tOv (nu (5 * i + 2)) (nu (5 * j + 0))) || pOv (((nu (5 * i + 0)) * (nu (5 * j + 2))) + (thV (nu (5 * i + 1)) (nu (5 * j + 3)))) ((nu (5 * i + 2)) * (nu (5 * j + 0)))) || thO (nu (5 * i + 3)) (nu (5 * j + 1))) || pOv ((((nu (5 * i + 0)) * (nu (5 * j + 2))) + (thV (nu (5 * i + 1)) (nu (5 * j + 3)))) + ((nu (5 * i + 2)) * (nu (5 * j + 0)))) (thV (nu (5 * i + 3)) (nu (5 * j + 1)))) || tOv (nu (5 * i + 0)) (nu (5 * j + 3))) || tOv (nu (5 * i + 1)) (nu (5 * j + 2))) || pOv ((nu (5 * i + 0)) * (nu (5 * j + 3))) ((nu (5 * i + 1)) * (nu (5 * j + 2)))) || tOv (nu (5 * i + 2)) (nu (5 * j + 1))) || pOv (((nu (5 * i + 0)) * (nu (5 * j + 3))) + ((nu (5 * i + 1)) * (nu (5 * j + 2)))) ((nu (5 * i + 2)) * (nu (5 * j + 1)))) || tOv (nu (5 * i + 3)) (nu (5 * j + 0))) || pOv ((((nu (5 * i + 0)) * (nu (5 * j + 3))) + ((nu (5 * i + 1)) * (nu (5 * j + 2)))) + ((nu (5 * i + 2)) * (nu (5 * j + 1)))) ((nu (5 * i + 3)) * (nu (5 * j + 0)))) || tOv (nu (5 * i + 4)) (nu (5 * j + 4))) = false := bI_eq0 h270
    have hdd : 0 < (nu (5 * i + 4) * nu (5 * j + 4)).toInt := by
      rw [i64_mul (Bool.or_eq_false_iff.mp hT).2]; exact Int.mul_pos hdi hdj
    refine lv_aload_n hx hb dX8_product_273 rfl (lv_at hl 13 rfl) ?_
    refine lv_iload_n hx hb dX8_product_274 rfl (lv_at hl 14 rfl) ?_
    refine lv_lload hx hb dX8_product_275 (lv_at hl 4 rfl) ?_
    refine lv_lload hx hb dX8_product_277 (lv_at hl 3 rfl) ?_
    refine lv_lload hx hb dX8_product_279 (lv_at hl 2 rfl) ?_
    refine lv_lload hx hb dX8_product_281 (lv_at hl 1 rfl) ?_
    refine lv_lload hx hb dX8_product_283 (lv_at hl 0 rfl) ?_
    refine zVv zm_X8_134 hF hB (c_X8_lays l D ka kb q ad (((((((((((((((((((((((((((((o || tOv (nu (5 * i + 0)) (nu (5 * j + 0))) || thO (nu (5 * i + 1)) (nu (5 * j + 1))) || pOv ((nu (5 * i + 0)) * (nu (5 * j + 0))) (thV (nu (5 * i + 1)) (nu (5 * j + 1)))) || tOv (nu (5 * i + 2)) (nu (5 * j + 2))) || thO (nu (5 * i + 3)) (nu (5 * j + 3))) || pOv ((nu (5 * i + 2)) * (nu (5 * j + 2))) (thV (nu (5 * i + 3)) (nu (5 * j + 3)))) || mOv (((nu (5 * i + 0)) * (nu (5 * j + 0))) + (thV (nu (5 * i + 1)) (nu (5 * j + 1)))) (((nu (5 * i + 2)) * (nu (5 * j + 2))) + (thV (nu (5 * i + 3)) (nu (5 * j + 3))))) || tOv (nu (5 * i + 0)) (nu (5 * j + 1))) || tOv (nu (5 * i + 1)) (nu (5 * j + 0))) || pOv ((nu (5 * i + 0)) * (nu (5 * j + 1))) ((nu (5 * i + 1)) * (nu (5 * j + 0)))) || tOv (nu (5 * i + 2)) (nu (5 * j + 3))) || tOv (nu (5 * i + 3)) (nu (5 * j + 2))) || pOv ((nu (5 * i + 2)) * (nu (5 * j + 3))) ((nu (5 * i + 3)) * (nu (5 * j + 2)))) || mOv (((nu (5 * i + 0)) * (nu (5 * j + 1))) + ((nu (5 * i + 1)) * (nu (5 * j + 0)))) (((nu (5 * i + 2)) * (nu (5 * j + 3))) + ((nu (5 * i + 3)) * (nu (5 * j + 2))))) || tOv (nu (5 * i + 0)) (nu (5 * j + 2))) || thO (nu (5 * i + 1)) (nu (5 * j + 3))) || pOv ((nu (5 * i + 0)) * (nu (5 * j + 2))) (thV (nu (5 * i + 1)) (nu (5 * j + 3)))) || tOv (nu (5 * i + 2)) (nu (5 * j + 0))) || pOv (((nu (5 * i + 0)) * (nu (5 * j + 2))) + (thV (nu (5 * i + 1)) (nu (5 * j + 3)))) ((nu (5 * i + 2)) * (nu (5 * j + 0)))) || thO (nu (5 * i + 3)) (nu (5 * j + 1))) || pOv ((((nu (5 * i + 0)) * (nu (5 * j + 2))) + (thV (nu (5 * i + 1)) (nu (5 * j + 3)))) + ((nu (5 * i + 2)) * (nu (5 * j + 0)))) (thV (nu (5 * i + 3)) (nu (5 * j + 1)))) || tOv (nu (5 * i + 0)) (nu (5 * j + 3))) || tOv (nu (5 * i + 1)) (nu (5 * j + 2))) || pOv ((nu (5 * i + 0)) * (nu (5 * j + 3))) ((nu (5 * i + 1)) * (nu (5 * j + 2)))) || tOv (nu (5 * i + 2)) (nu (5 * j + 1))) || pOv (((nu (5 * i + 0)) * (nu (5 * j + 3))) + ((nu (5 * i + 1)) * (nu (5 * j + 2)))) ((nu (5 * i + 2)) * (nu (5 * j + 1)))) || tOv (nu (5 * i + 3)) (nu (5 * j + 0))) || pOv ((((nu (5 * i + 0)) * (nu (5 * j + 3))) + ((nu (5 * i + 1)) * (nu (5 * j + 2)))) + ((nu (5 * i + 2)) * (nu (5 * j + 1)))) ((nu (5 * i + 3)) * (nu (5 * j + 0)))) || tOv (nu (5 * i + 4)) (nu (5 * j + 4))) z nu t ((((nu (5 * i + 0)) * (nu (5 * j + 0))) + (thV (nu (5 * i + 1)) (nu (5 * j + 1)))) - (((nu (5 * i + 2)) * (nu (5 * j + 2))) + (thV (nu (5 * i + 3)) (nu (5 * j + 3))))) ((((nu (5 * i + 0)) * (nu (5 * j + 1))) + ((nu (5 * i + 1)) * (nu (5 * j + 0)))) - (((nu (5 * i + 2)) * (nu (5 * j + 3))) + ((nu (5 * i + 3)) * (nu (5 * j + 2))))) (((((nu (5 * i + 0)) * (nu (5 * j + 2))) + (thV (nu (5 * i + 1)) (nu (5 * j + 3)))) + ((nu (5 * i + 2)) * (nu (5 * j + 0)))) + (thV (nu (5 * i + 3)) (nu (5 * j + 1)))) (((((nu (5 * i + 0)) * (nu (5 * j + 3))) + ((nu (5 * i + 1)) * (nu (5 * j + 2)))) + ((nu (5 * i + 2)) * (nu (5 * j + 1)))) + ((nu (5 * i + 3)) * (nu (5 * j + 0)))) ((nu (5 * i + 4)) * (nu (5 * j + 4))) (by omega) (hdd)) [0, 1] rfl (by decide) [q, (ad 3)] (fun _ => rfl) rfl 0 8 rfl rfl rfl ⟨Nat.le_of_ble_eq_true rfl, Nat.le_of_ble_eq_true rfl⟩ rfl hl.1 (Nat.le_of_ble_eq_true rfl) ⟨Nat.le_refl _, Nat.le_refl _⟩ dX8_product_285 ?_
    clear hB
    try clear locs
    try clear H
    intro u40 H locs hp hB
    replace hB : zB D A s ([(q, .inr (8, mO ad (((((((((((((((((((((((((((((o || tOv (nu (5 * i + 0)) (nu (5 * j + 0))) || thO (nu (5 * i + 1)) (nu (5 * j + 1))) || pOv ((nu (5 * i + 0)) * (nu (5 * j + 0))) (thV (nu (5 * i + 1)) (nu (5 * j + 1)))) || tOv (nu (5 * i + 2)) (nu (5 * j + 2))) || thO (nu (5 * i + 3)) (nu (5 * j + 3))) || pOv ((nu (5 * i + 2)) * (nu (5 * j + 2))) (thV (nu (5 * i + 3)) (nu (5 * j + 3)))) || mOv (((nu (5 * i + 0)) * (nu (5 * j + 0))) + (thV (nu (5 * i + 1)) (nu (5 * j + 1)))) (((nu (5 * i + 2)) * (nu (5 * j + 2))) + (thV (nu (5 * i + 3)) (nu (5 * j + 3))))) || tOv (nu (5 * i + 0)) (nu (5 * j + 1))) || tOv (nu (5 * i + 1)) (nu (5 * j + 0))) || pOv ((nu (5 * i + 0)) * (nu (5 * j + 1))) ((nu (5 * i + 1)) * (nu (5 * j + 0)))) || tOv (nu (5 * i + 2)) (nu (5 * j + 3))) || tOv (nu (5 * i + 3)) (nu (5 * j + 2))) || pOv ((nu (5 * i + 2)) * (nu (5 * j + 3))) ((nu (5 * i + 3)) * (nu (5 * j + 2)))) || mOv (((nu (5 * i + 0)) * (nu (5 * j + 1))) + ((nu (5 * i + 1)) * (nu (5 * j + 0)))) (((nu (5 * i + 2)) * (nu (5 * j + 3))) + ((nu (5 * i + 3)) * (nu (5 * j + 2))))) || tOv (nu (5 * i + 0)) (nu (5 * j + 2))) || thO (nu (5 * i + 1)) (nu (5 * j + 3))) || pOv ((nu (5 * i + 0)) * (nu (5 * j + 2))) (thV (nu (5 * i + 1)) (nu (5 * j + 3)))) || tOv (nu (5 * i + 2)) (nu (5 * j + 0))) || pOv (((nu (5 * i + 0)) * (nu (5 * j + 2))) + (thV (nu (5 * i + 1)) (nu (5 * j + 3)))) ((nu (5 * i + 2)) * (nu (5 * j + 0)))) || thO (nu (5 * i + 3)) (nu (5 * j + 1))) || pOv ((((nu (5 * i + 0)) * (nu (5 * j + 2))) + (thV (nu (5 * i + 1)) (nu (5 * j + 3)))) + ((nu (5 * i + 2)) * (nu (5 * j + 0)))) (thV (nu (5 * i + 3)) (nu (5 * j + 1)))) || tOv (nu (5 * i + 0)) (nu (5 * j + 3))) || tOv (nu (5 * i + 1)) (nu (5 * j + 2))) || pOv ((nu (5 * i + 0)) * (nu (5 * j + 3))) ((nu (5 * i + 1)) * (nu (5 * j + 2)))) || tOv (nu (5 * i + 2)) (nu (5 * j + 1))) || pOv (((nu (5 * i + 0)) * (nu (5 * j + 3))) + ((nu (5 * i + 1)) * (nu (5 * j + 2)))) ((nu (5 * i + 2)) * (nu (5 * j + 1)))) || tOv (nu (5 * i + 3)) (nu (5 * j + 0))) || pOv ((((nu (5 * i + 0)) * (nu (5 * j + 3))) + ((nu (5 * i + 1)) * (nu (5 * j + 2)))) + ((nu (5 * i + 2)) * (nu (5 * j + 1)))) ((nu (5 * i + 3)) * (nu (5 * j + 0)))) || tOv (nu (5 * i + 4)) (nu (5 * j + 4))) z)), ((ad 3), .inl (ka 1, 200, .inr (.inl (setN nu t (lowN ((((nu (5 * i + 0)) * (nu (5 * j + 0))) + (thV (nu (5 * i + 1)) (nu (5 * j + 1)))) - (((nu (5 * i + 2)) * (nu (5 * j + 2))) + (thV (nu (5 * i + 3)) (nu (5 * j + 3))))) ((((nu (5 * i + 0)) * (nu (5 * j + 1))) + ((nu (5 * i + 1)) * (nu (5 * j + 0)))) - (((nu (5 * i + 2)) * (nu (5 * j + 3))) + ((nu (5 * i + 3)) * (nu (5 * j + 2))))) (((((nu (5 * i + 0)) * (nu (5 * j + 2))) + (thV (nu (5 * i + 1)) (nu (5 * j + 3)))) + ((nu (5 * i + 2)) * (nu (5 * j + 0)))) + (thV (nu (5 * i + 3)) (nu (5 * j + 1)))) (((((nu (5 * i + 0)) * (nu (5 * j + 3))) + ((nu (5 * i + 1)) * (nu (5 * j + 2)))) + ((nu (5 * i + 2)) * (nu (5 * j + 1)))) + ((nu (5 * i + 3)) * (nu (5 * j + 0)))) ((nu (5 * i + 4)) * (nu (5 * j + 4))))))))]) H locs := hB
    exact zretv hF hB () (trivial) (by rw [hE, hT] <;> rfl) dX8_product_288 hQ

set_option maxHeartbeats 4000000 in
set_option maxRecDepth 100000 in
theorem c_X8_mirror (l : Launch) (D : va_G) (ka : Nat → ClassId) (kb : Nat → Nat) (q : Nat) (ad : Nat → Nat) (o : Bool) (z : mZ) (nu : Nat → Int64) (t : Nat) (i : Nat) (d : Int64) (ht : t < 40) (hi : i < 40) (hd : 0 < d.toInt) : zV l D ka kb yX8_mirror cX8_mirror 9 2 63 [.ref q, .int (nI t), .int (nI i), .long d] ([(q, .inr (8, mO ad o z)), ((ad 3), .inl (ka 1, 200, .inr (.inl nu)))]) (fun (_ : Unit) => True) (fun (_ : Unit) => [(q, .inr (8, mO ad (o || (mOv 0 (nu (5 * i + 2)) || mOv 0 (nu (5 * i + 3)))) z)), ((ad 3), .inl (ka 1, 200, .inr (.inl (if (o || (mOv 0 (nu (5 * i + 2)) || mOv 0 (nu (5 * i + 3)))) = true then nu else setN nu t (lowN (nu (5 * i)) (nu (5 * i + 1)) (0 - nu (5 * i + 2)) (0 - nu (5 * i + 3)) d)))))]) := by
  refine zV.mk RX8 (by decide +kernel) rfl (Nat.le_of_ble_eq_true rfl) ?_
  intro p e s m below meth c A ls args Q hQ hx hb hF hB hl
  replace hl : lv_has ls 9 [(0, .ref q), (1, .int (nI t)), (2, .int (nI i)), (3, .long d)] := hl
  refine lv_aload_n hx hb dX8_mirror_0 rfl (lv_at hl 0 rfl) ?_
  refine lv_aload_n hx hb dX8_mirror_1 rfl (lv_at hl 0 rfl) ?_
  refine lv_iload_n hx hb dX8_mirror_2 rfl (lv_at hl 2 rfl) ?_
  refine lv_iconst (v := 2) hx hb dX8_mirror_3 (by decide) ?_
  refine zVl zm_X8_120 hF hB (c_X8_at l D ka kb q ad o z nu i 2 (by omega) (by omega)) [0, 1] rfl (by decide) [q, (ad 3)] (fun _ => rfl) rfl 0 8 rfl rfl rfl ⟨Nat.le_of_ble_eq_true rfl, Nat.le_of_ble_eq_true rfl⟩ rfl hl.1 (Nat.le_of_ble_eq_true rfl) ⟨Nat.le_refl _, Nat.le_refl _⟩ dX8_mirror_4 ?_
  clear hB
  try clear locs
  try clear H
  intro r1 u1 H locs hp hB
  obtain rfl : r1 = nu (5 * i + 2) := hp
  replace hB : zB D A s ([(q, .inr (8, mO ad o z)), ((ad 3), .inl (ka 1, 200, .inr (.inl nu)))]) H locs := hB
  refine zVl zm_X8_141 hF hB (c_X8_turned l D ka kb q ad o z (nu (5 * i + 2)) ) [0] rfl (by decide) [q] (fun _ => rfl) rfl 0 8 rfl rfl rfl ⟨Nat.le_of_ble_eq_true rfl, Nat.le_of_ble_eq_true rfl⟩ rfl hl.1 (Nat.le_of_ble_eq_true rfl) ⟨Nat.le_refl _, Nat.le_refl _⟩ dX8_mirror_7 ?_
  clear hB
  try clear locs
  try clear H
  intro r2 u2 H locs hp hB
  obtain rfl : r2 = 0 - (nu (5 * i + 2)) := hp
  replace hB : zB D A s ([(q, .inr (8, mO ad (o || mOv 0 (nu (5 * i + 2))) z)), ((ad 3), .inl (ka 1, 200, .inr (.inl nu)))]) H locs := hB
  refine lv_lstore (lv' := [(5, .long (0 - (nu (5 * i + 2)))), (0, .ref q), (1, .int (nI t)), (2, .int (nI i)), (3, .long d)]) hx hb dX8_mirror_10 hl (by decide) rfl ?_
  clear hl
  clear ls
  intro ls hl
  refine lv_aload_n hx hb dX8_mirror_12 rfl (lv_at hl 1 rfl) ?_
  refine lv_aload_n hx hb dX8_mirror_13 rfl (lv_at hl 1 rfl) ?_
  refine lv_iload_n hx hb dX8_mirror_14 rfl (lv_at hl 3 rfl) ?_
  refine lv_iconst (v := 3) hx hb dX8_mirror_15 (by decide) ?_
  refine zVl zm_X8_120 hF hB (c_X8_at l D ka kb q ad (o || mOv 0 (nu (5 * i + 2))) z nu i 3 (by omega) (by omega)) [0, 1] rfl (by decide) [q, (ad 3)] (fun _ => rfl) rfl 0 8 rfl rfl rfl ⟨Nat.le_of_ble_eq_true rfl, Nat.le_of_ble_eq_true rfl⟩ rfl hl.1 (Nat.le_of_ble_eq_true rfl) ⟨Nat.le_refl _, Nat.le_refl _⟩ dX8_mirror_16 ?_
  clear hB
  try clear locs
  try clear H
  intro r3 u3 H locs hp hB
  obtain rfl : r3 = nu (5 * i + 3) := hp
  replace hB : zB D A s ([(q, .inr (8, mO ad (o || mOv 0 (nu (5 * i + 2))) z)), ((ad 3), .inl (ka 1, 200, .inr (.inl nu)))]) H locs := hB
  refine zVl zm_X8_141 hF hB (c_X8_turned l D ka kb q ad (o || mOv 0 (nu (5 * i + 2))) z (nu (5 * i + 3)) ) [0] rfl (by decide) [q] (fun _ => rfl) rfl 0 8 rfl rfl rfl ⟨Nat.le_of_ble_eq_true rfl, Nat.le_of_ble_eq_true rfl⟩ rfl hl.1 (Nat.le_of_ble_eq_true rfl) ⟨Nat.le_refl _, Nat.le_refl _⟩ dX8_mirror_19 ?_
  clear hB
  try clear locs
  try clear H
  intro r4 u4 H locs hp hB
  obtain rfl : r4 = 0 - (nu (5 * i + 3)) := hp
  replace hB : zB D A s ([(q, .inr (8, mO ad ((o || mOv 0 (nu (5 * i + 2))) || mOv 0 (nu (5 * i + 3))) z)), ((ad 3), .inl (ka 1, 200, .inr (.inl nu)))]) H locs := hB
  refine lv_lstore (lv' := [(7, .long (0 - (nu (5 * i + 3)))), (5, .long (0 - (nu (5 * i + 2)))), (0, .ref q), (1, .int (nI t)), (2, .int (nI i)), (3, .long d)]) hx hb dX8_mirror_22 hl (by decide) rfl ?_
  clear hl
  clear ls
  intro ls hl
  refine lv_aload_n hx hb dX8_mirror_24 rfl (lv_at hl 2 rfl) ?_
  refine zget zf_X8_105 hF hB 0 rfl rfl dX8_mirror_25 ?_
  refine lv_if_ne (tgt := 53) hx hb dX8_mirror_28 (by decide) (fun h28 => ?_) (fun h28 => ?_)
  · skip
    have hE : (o || (mOv 0 (nu (5 * i + 2)) || mOv 0 (nu (5 * i + 3)))) = ((o || mOv 0 (nu (5 * i + 2))) || mOv 0 (nu (5 * i + 3))) := by simp [Bool.or_assoc]
    have hT : ((o || mOv 0 (nu (5 * i + 2))) || mOv 0 (nu (5 * i + 3))) = true := bI_ne0 h28
    exact zretv hF hB () (trivial) (by rw [hE, hT] <;> rfl) dX8_mirror_53 hQ
  · skip
    have hE : (o || (mOv 0 (nu (5 * i + 2)) || mOv 0 (nu (5 * i + 3)))) = ((o || mOv 0 (nu (5 * i + 2))) || mOv 0 (nu (5 * i + 3))) := by simp [Bool.or_assoc]
    have hT : ((o || mOv 0 (nu (5 * i + 2))) || mOv 0 (nu (5 * i + 3))) = false := bI_eq0 h28
    refine lv_aload_n hx hb dX8_mirror_31 rfl (lv_at hl 2 rfl) ?_
    refine lv_iload_n hx hb dX8_mirror_32 rfl (lv_at hl 3 rfl) ?_
    refine lv_aload_n hx hb dX8_mirror_33 rfl (lv_at hl 2 rfl) ?_
    refine lv_iload_n hx hb dX8_mirror_34 rfl (lv_at hl 4 rfl) ?_
    refine lv_iconst (v := 0) hx hb dX8_mirror_35 (by decide) ?_
    refine zVl zm_X8_120 hF hB (c_X8_at l D ka kb q ad ((o || mOv 0 (nu (5 * i + 2))) || mOv 0 (nu (5 * i + 3))) z nu i 0 (by omega) (by omega)) [0, 1] rfl (by decide) [q, (ad 3)] (fun _ => rfl) rfl 0 8 rfl rfl rfl ⟨Nat.le_of_ble_eq_true rfl, Nat.le_of_ble_eq_true rfl⟩ rfl hl.1 (Nat.le_of_ble_eq_true rfl) ⟨Nat.le_refl _, Nat.le_refl _⟩ dX8_mirror_36 ?_
    clear hB
    try clear locs
    try clear H
    intro r5 u5 H locs hp hB
    obtain rfl : r5 = nu (5 * i + 0) := hp
    replace hB : zB D A s ([(q, .inr (8, mO ad ((o || mOv 0 (nu (5 * i + 2))) || mOv 0 (nu (5 * i + 3))) z)), ((ad 3), .inl (ka 1, 200, .inr (.inl nu)))]) H locs := hB
    refine lv_aload_n hx hb dX8_mirror_39 rfl (lv_at hl 2 rfl) ?_
    refine lv_iload_n hx hb dX8_mirror_40 rfl (lv_at hl 4 rfl) ?_
    refine lv_iconst (v := 1) hx hb dX8_mirror_41 (by decide) ?_
    refine zVl zm_X8_120 hF hB (c_X8_at l D ka kb q ad ((o || mOv 0 (nu (5 * i + 2))) || mOv 0 (nu (5 * i + 3))) z nu i 1 (by omega) (by omega)) [0, 1] rfl (by decide) [q, (ad 3)] (fun _ => rfl) rfl 0 8 rfl rfl rfl ⟨Nat.le_of_ble_eq_true rfl, Nat.le_of_ble_eq_true rfl⟩ rfl hl.1 (Nat.le_of_ble_eq_true rfl) ⟨Nat.le_refl _, Nat.le_refl _⟩ dX8_mirror_42 ?_
    clear hB
    try clear locs
    try clear H
    intro r6 u6 H locs hp hB
    obtain rfl : r6 = nu (5 * i + 1) := hp
    replace hB : zB D A s ([(q, .inr (8, mO ad ((o || mOv 0 (nu (5 * i + 2))) || mOv 0 (nu (5 * i + 3))) z)), ((ad 3), .inl (ka 1, 200, .inr (.inl nu)))]) H locs := hB
    refine lv_lload hx hb dX8_mirror_45 (lv_at hl 1 rfl) ?_
    refine lv_lload hx hb dX8_mirror_47 (lv_at hl 0 rfl) ?_
    refine lv_lload_n hx hb dX8_mirror_49 rfl (lv_at hl 5 rfl) ?_
    refine zVv zm_X8_134 hF hB (c_X8_lays l D ka kb q ad ((o || mOv 0 (nu (5 * i + 2))) || mOv 0 (nu (5 * i + 3))) z nu t (nu (5 * i + 0)) (nu (5 * i + 1)) (0 - (nu (5 * i + 2))) (0 - (nu (5 * i + 3))) d (by omega) (hd)) [0, 1] rfl (by decide) [q, (ad 3)] (fun _ => rfl) rfl 0 8 rfl rfl rfl ⟨Nat.le_of_ble_eq_true rfl, Nat.le_of_ble_eq_true rfl⟩ rfl hl.1 (Nat.le_of_ble_eq_true rfl) ⟨Nat.le_refl _, Nat.le_refl _⟩ dX8_mirror_50 ?_
    clear hB
    try clear locs
    try clear H
    intro u7 H locs hp hB
    replace hB : zB D A s ([(q, .inr (8, mO ad ((o || mOv 0 (nu (5 * i + 2))) || mOv 0 (nu (5 * i + 3))) z)), ((ad 3), .inl (ka 1, 200, .inr (.inl (setN nu t (lowN (nu (5 * i + 0)) (nu (5 * i + 1)) (0 - (nu (5 * i + 2))) (0 - (nu (5 * i + 3))) d)))))]) H locs := hB
    exact zretv hF hB () (trivial) (by rw [hE, hT] <;> rfl) dX8_mirror_53 hQ

set_option maxHeartbeats 4000000 in
set_option maxRecDepth 100000 in
theorem c_X8_isNought (l : Launch) (D : va_G) (ka : Nat → ClassId) (kb : Nat → Nat) (q : Nat) (ad : Nat → Nat) (o : Bool) (z : mZ) (nu : Nat → Int64) (i : Nat) (hi : i < 40) : zI l D ka kb yX8_isNought cX8_isNought 2 .boolean 1 22 [.ref q, .int (nI i)] ([(q, .inr (8, mO ad o z)), ((ad 3), .inl (ka 1, 200, .inr (.inl nu)))]) (fun (r : Int32) (_ : Unit) => r = bI (zeroN (getN nu i))) (fun (_ : Unit) => [(q, .inr (8, mO ad o z)), ((ad 3), .inl (ka 1, 200, .inr (.inl nu)))]) := by
  refine zI.mk RX8 (by decide +kernel) rfl (Nat.le_of_ble_eq_true rfl) ?_
  intro p e s m below meth c A ls args Q hQ hx hb hF hB hl
  replace hl : lv_has ls 2 [(0, .ref q), (1, .int (nI i))] := hl
  refine lv_aload_n hx hb dX8_isNought_0 rfl (lv_at hl 0 rfl) ?_
  refine lv_iload_n hx hb dX8_isNought_1 rfl (lv_at hl 1 rfl) ?_
  refine lv_iconst (v := 0) hx hb dX8_isNought_2 (by decide) ?_
  refine zVl zm_X8_120 hF hB (c_X8_at l D ka kb q ad o z nu i 0 (by omega) (by omega)) [0, 1] rfl (by decide) [q, (ad 3)] (fun _ => rfl) rfl 0 8 rfl rfl rfl ⟨Nat.le_of_ble_eq_true rfl, Nat.le_of_ble_eq_true rfl⟩ rfl hl.1 (Nat.le_of_ble_eq_true rfl) ⟨Nat.le_refl _, Nat.le_refl _⟩ dX8_isNought_3 ?_
  clear hB
  try clear locs
  try clear H
  intro r1 u1 H locs hp hB
  obtain rfl : r1 = nu (5 * i + 0) := hp
  replace hB : zB D A s ([(q, .inr (8, mO ad o z)), ((ad 3), .inl (ka 1, 200, .inr (.inl nu)))]) H locs := hB
  refine lv_lconst (v := 0) hx hb dX8_isNought_6 (by decide) ?_
  refine W.lcmp hx hb dX8_isNought_7 ?_
  refine lv_if_ne (tgt := 48) hx hb dX8_isNought_8 (by decide) (fun h8 => ?_) (fun h8 => ?_)
  · skip
    replace h8 := (fun e9 => h8 ((lg_cmp_eq _ _).mpr e9))
    refine lv_iconst (v := 0) hx hb dX8_isNought_48 (by decide) ?_
    refine ztopi (y := bI (zeroN (getN nu i))) (bI_0 (dB_f.mpr (fun e9 => h8 e9.1))) ?_
    exact zreti hF hB () (rfl) (rfl) (zbI_n _) dX8_isNought_49 hQ
  · skip
    replace h8 := (lg_cmp_eq _ _).mp h8
    refine lv_aload_n hx hb dX8_isNought_11 rfl (lv_at hl 0 rfl) ?_
    refine lv_iload_n hx hb dX8_isNought_12 rfl (lv_at hl 1 rfl) ?_
    refine lv_iconst (v := 1) hx hb dX8_isNought_13 (by decide) ?_
    refine zVl zm_X8_120 hF hB (c_X8_at l D ka kb q ad o z nu i 1 (by omega) (by omega)) [0, 1] rfl (by decide) [q, (ad 3)] (fun _ => rfl) rfl 0 8 rfl rfl rfl ⟨Nat.le_of_ble_eq_true rfl, Nat.le_of_ble_eq_true rfl⟩ rfl hl.1 (Nat.le_of_ble_eq_true rfl) ⟨Nat.le_refl _, Nat.le_refl _⟩ dX8_isNought_14 ?_
    clear hB
    try clear locs
    try clear H
    intro r2 u2 H locs hp hB
    obtain rfl : r2 = nu (5 * i + 1) := hp
    replace hB : zB D A s ([(q, .inr (8, mO ad o z)), ((ad 3), .inl (ka 1, 200, .inr (.inl nu)))]) H locs := hB
    refine lv_lconst (v := 0) hx hb dX8_isNought_17 (by decide) ?_
    refine W.lcmp hx hb dX8_isNought_18 ?_
    refine lv_if_ne (tgt := 48) hx hb dX8_isNought_19 (by decide) (fun h19 => ?_) (fun h19 => ?_)
    · skip
      replace h19 := (fun e9 => h19 ((lg_cmp_eq _ _).mpr e9))
      refine lv_iconst (v := 0) hx hb dX8_isNought_48 (by decide) ?_
      refine ztopi (y := bI (zeroN (getN nu i))) (bI_0 (dB_f.mpr (fun e9 => h19 e9.2.1))) ?_
      exact zreti hF hB () (rfl) (rfl) (zbI_n _) dX8_isNought_49 hQ
    · skip
      replace h19 := (lg_cmp_eq _ _).mp h19
      refine lv_aload_n hx hb dX8_isNought_22 rfl (lv_at hl 0 rfl) ?_
      refine lv_iload_n hx hb dX8_isNought_23 rfl (lv_at hl 1 rfl) ?_
      refine lv_iconst (v := 2) hx hb dX8_isNought_24 (by decide) ?_
      refine zVl zm_X8_120 hF hB (c_X8_at l D ka kb q ad o z nu i 2 (by omega) (by omega)) [0, 1] rfl (by decide) [q, (ad 3)] (fun _ => rfl) rfl 0 8 rfl rfl rfl ⟨Nat.le_of_ble_eq_true rfl, Nat.le_of_ble_eq_true rfl⟩ rfl hl.1 (Nat.le_of_ble_eq_true rfl) ⟨Nat.le_refl _, Nat.le_refl _⟩ dX8_isNought_25 ?_
      clear hB
      try clear locs
      try clear H
      intro r3 u3 H locs hp hB
      obtain rfl : r3 = nu (5 * i + 2) := hp
      replace hB : zB D A s ([(q, .inr (8, mO ad o z)), ((ad 3), .inl (ka 1, 200, .inr (.inl nu)))]) H locs := hB
      refine lv_lconst (v := 0) hx hb dX8_isNought_28 (by decide) ?_
      refine W.lcmp hx hb dX8_isNought_29 ?_
      refine lv_if_ne (tgt := 48) hx hb dX8_isNought_30 (by decide) (fun h30 => ?_) (fun h30 => ?_)
      · skip
        replace h30 := (fun e9 => h30 ((lg_cmp_eq _ _).mpr e9))
        refine lv_iconst (v := 0) hx hb dX8_isNought_48 (by decide) ?_
        refine ztopi (y := bI (zeroN (getN nu i))) (bI_0 (dB_f.mpr (fun e9 => h30 e9.2.2.1))) ?_
        exact zreti hF hB () (rfl) (rfl) (zbI_n _) dX8_isNought_49 hQ
      · skip
        replace h30 := (lg_cmp_eq _ _).mp h30
        refine lv_aload_n hx hb dX8_isNought_33 rfl (lv_at hl 0 rfl) ?_
        refine lv_iload_n hx hb dX8_isNought_34 rfl (lv_at hl 1 rfl) ?_
        refine lv_iconst (v := 3) hx hb dX8_isNought_35 (by decide) ?_
        refine zVl zm_X8_120 hF hB (c_X8_at l D ka kb q ad o z nu i 3 (by omega) (by omega)) [0, 1] rfl (by decide) [q, (ad 3)] (fun _ => rfl) rfl 0 8 rfl rfl rfl ⟨Nat.le_of_ble_eq_true rfl, Nat.le_of_ble_eq_true rfl⟩ rfl hl.1 (Nat.le_of_ble_eq_true rfl) ⟨Nat.le_refl _, Nat.le_refl _⟩ dX8_isNought_36 ?_
        clear hB
        try clear locs
        try clear H
        intro r4 u4 H locs hp hB
        obtain rfl : r4 = nu (5 * i + 3) := hp
        replace hB : zB D A s ([(q, .inr (8, mO ad o z)), ((ad 3), .inl (ka 1, 200, .inr (.inl nu)))]) H locs := hB
        refine lv_lconst (v := 0) hx hb dX8_isNought_39 (by decide) ?_
        refine W.lcmp hx hb dX8_isNought_40 ?_
        refine lv_if_ne (tgt := 48) hx hb dX8_isNought_41 (by decide) (fun h41 => ?_) (fun h41 => ?_)
        · skip
          replace h41 := (fun e9 => h41 ((lg_cmp_eq _ _).mpr e9))
          refine lv_iconst (v := 0) hx hb dX8_isNought_48 (by decide) ?_
          refine ztopi (y := bI (zeroN (getN nu i))) (bI_0 (dB_f.mpr (fun e9 => h41 e9.2.2.2))) ?_
          exact zreti hF hB () (rfl) (rfl) (zbI_n _) dX8_isNought_49 hQ
        · skip
          replace h41 := (lg_cmp_eq _ _).mp h41
          refine lv_iconst (v := 1) hx hb dX8_isNought_44 (by decide) ?_
          refine ztopi (y := bI (zeroN (getN nu i))) (bI_1 (dB_t.mpr ⟨h8, h19, h30, h41⟩)) ?_
          refine lv_goto (tgt := 49) hx hb dX8_isNought_45 (by decide) ?_
          exact zreti hF hB () (rfl) (rfl) (zbI_n _) dX8_isNought_49 hQ

set_option maxHeartbeats 4000000 in
set_option maxRecDepth 100000 in
theorem c_X8_divides (l : Launch) (D : va_G) (ka : Nat → ClassId) (kb : Nat → Nat) (q : Nat) (ad : Nat → Nat) (o : Bool) (z : mZ) (nu : Nat → Int64) (t : Nat) (w : Int64) (ht : t < 40) (hw : 0 < w.toInt) : zV l D ka kb yX8_divides cX8_divides 14 2 63 [.ref q, .int (nI t), .long w] ([(q, .inr (8, mO ad o z)), ((ad 3), .inl (ka 1, 200, .inr (.inl nu)))]) (fun (_ : Unit) => True) (fun (_ : Unit) => [(q, .inr (8, mO ad o z)), ((ad 3), .inl (ka 1, 200, .inr (.inl (if o = true then nu else setN nu t (lowN (nu (5 * 36)) (nu (5 * 36 + 1)) (nu (5 * 36 + 2)) (nu (5 * 36 + 3)) w)))))]) := by
  refine zV.mk RX8 (by decide +kernel) rfl (Nat.le_of_ble_eq_true rfl) ?_
  intro p e s m below meth c A ls args Q hQ hx hb hF hB hl
  replace hl : lv_has ls 14 [(0, .ref q), (1, .int (nI t)), (2, .long w)] := hl
  have hw0 : ¬ w < 0 := by rw [i64_neg_i]; omega
  refine lv_aload_n hx hb dX8_divides_0 rfl (lv_at hl 0 rfl) ?_
  refine lv_bipush (v := 36) hx hb dX8_divides_1 (by decide) ?_
  refine lv_iconst (v := 0) hx hb dX8_divides_3 (by decide) ?_
  refine zVl zm_X8_120 hF hB (c_X8_at l D ka kb q ad o z nu 36 0 (by first | assumption | omega | decide) (by first | assumption | omega | decide)) [0, 1] rfl (by decide) [q, (ad 3)] (fun _ => rfl) rfl 0 8 rfl rfl rfl ⟨Nat.le_of_ble_eq_true rfl, Nat.le_of_ble_eq_true rfl⟩ rfl hl.1 (Nat.le_of_ble_eq_true rfl) ⟨Nat.le_refl _, Nat.le_refl _⟩ dX8_divides_4 ?_
  clear hB
  try clear locs
  try clear H
  intro r1 u1 H locs hp hB
  obtain rfl : r1 = nu (5 * 36 + 0) := hp
  replace hB : zB D A s ([(q, .inr (8, mO ad o z)), ((ad 3), .inl (ka 1, 200, .inr (.inl nu)))]) H locs := hB
  refine lv_lstore (lv' := [(4, .long (nu (5 * 36 + 0))), (0, .ref q), (1, .int (nI t)), (2, .long w)]) hx hb dX8_divides_7 hl (by decide) rfl ?_
  clear hl
  clear ls
  intro ls hl
  refine lv_aload_n hx hb dX8_divides_9 rfl (lv_at hl 1 rfl) ?_
  refine lv_bipush (v := 36) hx hb dX8_divides_10 (by decide) ?_
  refine lv_iconst (v := 1) hx hb dX8_divides_12 (by decide) ?_
  refine zVl zm_X8_120 hF hB (c_X8_at l D ka kb q ad o z nu 36 1 (by first | assumption | omega | decide) (by first | assumption | omega | decide)) [0, 1] rfl (by decide) [q, (ad 3)] (fun _ => rfl) rfl 0 8 rfl rfl rfl ⟨Nat.le_of_ble_eq_true rfl, Nat.le_of_ble_eq_true rfl⟩ rfl hl.1 (Nat.le_of_ble_eq_true rfl) ⟨Nat.le_refl _, Nat.le_refl _⟩ dX8_divides_13 ?_
  clear hB
  try clear locs
  try clear H
  intro r2 u2 H locs hp hB
  obtain rfl : r2 = nu (5 * 36 + 1) := hp
  replace hB : zB D A s ([(q, .inr (8, mO ad o z)), ((ad 3), .inl (ka 1, 200, .inr (.inl nu)))]) H locs := hB
  refine lv_lstore (lv' := [(6, .long (nu (5 * 36 + 1))), (4, .long (nu (5 * 36 + 0))), (0, .ref q), (1, .int (nI t)), (2, .long w)]) hx hb dX8_divides_16 hl (by decide) rfl ?_
  clear hl
  clear ls
  intro ls hl
  refine lv_aload_n hx hb dX8_divides_18 rfl (lv_at hl 2 rfl) ?_
  refine lv_bipush (v := 36) hx hb dX8_divides_19 (by decide) ?_
  refine lv_iconst (v := 2) hx hb dX8_divides_21 (by decide) ?_
  refine zVl zm_X8_120 hF hB (c_X8_at l D ka kb q ad o z nu 36 2 (by first | assumption | omega | decide) (by first | assumption | omega | decide)) [0, 1] rfl (by decide) [q, (ad 3)] (fun _ => rfl) rfl 0 8 rfl rfl rfl ⟨Nat.le_of_ble_eq_true rfl, Nat.le_of_ble_eq_true rfl⟩ rfl hl.1 (Nat.le_of_ble_eq_true rfl) ⟨Nat.le_refl _, Nat.le_refl _⟩ dX8_divides_22 ?_
  clear hB
  try clear locs
  try clear H
  intro r3 u3 H locs hp hB
  obtain rfl : r3 = nu (5 * 36 + 2) := hp
  replace hB : zB D A s ([(q, .inr (8, mO ad o z)), ((ad 3), .inl (ka 1, 200, .inr (.inl nu)))]) H locs := hB
  refine lv_lstore (lv' := [(8, .long (nu (5 * 36 + 2))), (6, .long (nu (5 * 36 + 1))), (4, .long (nu (5 * 36 + 0))), (0, .ref q), (1, .int (nI t)), (2, .long w)]) hx hb dX8_divides_25 hl (by decide) rfl ?_
  clear hl
  clear ls
  intro ls hl
  refine lv_aload_n hx hb dX8_divides_27 rfl (lv_at hl 3 rfl) ?_
  refine lv_bipush (v := 36) hx hb dX8_divides_28 (by decide) ?_
  refine lv_iconst (v := 3) hx hb dX8_divides_30 (by decide) ?_
  refine zVl zm_X8_120 hF hB (c_X8_at l D ka kb q ad o z nu 36 3 (by first | assumption | omega | decide) (by first | assumption | omega | decide)) [0, 1] rfl (by decide) [q, (ad 3)] (fun _ => rfl) rfl 0 8 rfl rfl rfl ⟨Nat.le_of_ble_eq_true rfl, Nat.le_of_ble_eq_true rfl⟩ rfl hl.1 (Nat.le_of_ble_eq_true rfl) ⟨Nat.le_refl _, Nat.le_refl _⟩ dX8_divides_31 ?_
  clear hB
  try clear locs
  try clear H
  intro r4 u4 H locs hp hB
  obtain rfl : r4 = nu (5 * 36 + 3) := hp
  replace hB : zB D A s ([(q, .inr (8, mO ad o z)), ((ad 3), .inl (ka 1, 200, .inr (.inl nu)))]) H locs := hB
  refine lv_lstore (lv' := [(10, .long (nu (5 * 36 + 3))), (8, .long (nu (5 * 36 + 2))), (6, .long (nu (5 * 36 + 1))), (4, .long (nu (5 * 36 + 0))), (0, .ref q), (1, .int (nI t)), (2, .long w)]) hx hb dX8_divides_34 hl (by decide) rfl ?_
  clear hl
  clear ls
  intro ls hl
  refine lv_lload_n hx hb dX8_divides_36 rfl (lv_at hl 6 rfl) ?_
  refine lv_lconst (v := 0) hx hb dX8_divides_37 (by decide) ?_
  refine W.lcmp hx hb dX8_divides_38 ?_
  refine lv_if_ge (tgt := 74) hx hb dX8_divides_39 (by decide) (fun h39 => ?_) (fun h39 => ?_)
  · skip
    replace h39 := (lg_cmp_ge _ _).mp h39
    refine lv_lload_n hx hb dX8_divides_74 rfl (lv_at hl 6 rfl) ?_
    refine lv_lconst (v := 0) hx hb dX8_divides_75 (by decide) ?_
    refine W.lcmp hx hb dX8_divides_76 ?_
    refine lv_if_ge (tgt := 88) hx hb dX8_divides_77 (by decide) (fun h77 => ?_) (fun h77 => ?_)
    · skip
      replace h77 := (lg_cmp_ge _ _).mp h77
      refine lv_lload_n hx hb dX8_divides_88 rfl (lv_at hl 6 rfl) ?_
      refine lv_lstore (lv' := [(12, .long w), (10, .long (nu (5 * 36 + 3))), (8, .long (nu (5 * 36 + 2))), (6, .long (nu (5 * 36 + 1))), (4, .long (nu (5 * 36 + 0))), (0, .ref q), (1, .int (nI t)), (2, .long w)]) hx hb dX8_divides_89 hl (by decide) rfl ?_
      clear hl
      clear ls
      intro ls hl
      refine lv_aload_n hx hb dX8_divides_91 rfl (lv_at hl 5 rfl) ?_
      refine zget zf_X8_105 hF hB 0 rfl rfl dX8_divides_92 ?_
      refine lv_if_ne (tgt := 113) hx hb dX8_divides_95 (by decide) (fun h95 => ?_) (fun h95 => ?_)
      · skip
        have e9 := bI_ne0 h95; subst e9
        exact zretv hF hB () (trivial) (rfl) dX8_divides_113 hQ
      · skip
        have e9 := bI_eq0 h95; subst e9
        refine lv_aload_n hx hb dX8_divides_98 rfl (lv_at hl 5 rfl) ?_
        refine lv_iload_n hx hb dX8_divides_99 rfl (lv_at hl 6 rfl) ?_
        refine lv_lload hx hb dX8_divides_100 (lv_at hl 4 rfl) ?_
        refine lv_lload hx hb dX8_divides_102 (lv_at hl 3 rfl) ?_
        refine lv_lload hx hb dX8_divides_104 (lv_at hl 2 rfl) ?_
        refine lv_lload hx hb dX8_divides_106 (lv_at hl 1 rfl) ?_
        refine lv_lload hx hb dX8_divides_108 (lv_at hl 0 rfl) ?_
        refine zVv zm_X8_134 hF hB (c_X8_lays l D ka kb q ad false z nu t (nu (5 * 36 + 0)) (nu (5 * 36 + 1)) (nu (5 * 36 + 2)) (nu (5 * 36 + 3)) w (by omega) (hw)) [0, 1] rfl (by decide) [q, (ad 3)] (fun _ => rfl) rfl 0 8 rfl rfl rfl ⟨Nat.le_of_ble_eq_true rfl, Nat.le_of_ble_eq_true rfl⟩ rfl hl.1 (Nat.le_of_ble_eq_true rfl) ⟨Nat.le_refl _, Nat.le_refl _⟩ dX8_divides_110 ?_
        clear hB
        try clear locs
        try clear H
        intro u5 H locs hp hB
        replace hB : zB D A s ([(q, .inr (8, mO ad false z)), ((ad 3), .inl (ka 1, 200, .inr (.inl (setN nu t (lowN (nu (5 * 36 + 0)) (nu (5 * 36 + 1)) (nu (5 * 36 + 2)) (nu (5 * 36 + 3)) w)))))]) H locs := hB
        exact zretv hF hB () (trivial) (rfl) dX8_divides_113 hQ
    · skip
      replace h77 := (fun e9 => h77 ((lg_cmp_ge _ _).mpr e9))
      exact absurd (Int64.not_le.mp h77) hw0
  · skip
    replace h39 := (fun e9 => h39 ((lg_cmp_ge _ _).mpr e9))
    exact absurd (Int64.not_le.mp h39) hw0
