theorem i32_rem (x y : Int32) (hy : y ≠ 0) : (x - x / y * y).toInt = x.toInt.tmod y.toInt := by
  have hx := i32_rng x
  have hyr := i32_rng y
  have hy' : y.toInt ≠ 0 := fun h => hy (i32_eq.mpr (by rw [h]; rfl))
  rw [Int32.toInt_sub, Int32.toInt_mul, Int32.toInt_div]
  have e1 : (((x.toInt.tdiv y.toInt).bmod (2 ^ 32) * y.toInt).bmod (2 ^ 32)) = ((x.toInt.tdiv y.toInt * y.toInt).bmod (2 ^ 32)) := by
    rw [Int.bmod_mul_bmod]
  rw [e1, Int.sub_bmod_bmod]
  have e2 : x.toInt - x.toInt.tdiv y.toInt * y.toInt = x.toInt.tmod y.toInt := by
    have := Int.mul_tdiv_add_tmod x.toInt y.toInt
    rw [Int.mul_comm] at this
    omega
  rw [e2]
  have h3 : (x.toInt.tmod y.toInt).natAbs < y.toInt.natAbs := by
    rw [Int.natAbs_tmod]
    exact Nat.mod_lt _ (by omega)
  rw [Int.bmod_def]
  split <;> omega
theorem and31b (x : Int32) : 0 ≤ (x &&& 2147483647).toInt := by
  have h1 : (x &&& 2147483647).toBitVec.toNat ≤ 2147483647 := by
    have e2 : (x &&& 2147483647).toBitVec = x.toBitVec &&& 2147483647#32 := rfl
    rw [e2, BitVec.toNat_and]
    exact Nat.and_le_right
  have h2 : (x &&& 2147483647).toInt = ((x &&& 2147483647).toBitVec.toNat : Int) := by
    have h3 := BitVec.toInt_eq_toNat_cond (x &&& 2147483647).toBitVec
    rw [if_pos (by omega)] at h3
    exact h3
  omega
theorem nI_n0 {n : Nat} (h0 : 0 < n) (h : n < 2 ^ 31) : ¬ nI n = 0 := fun e => by
  have := nI_toInt h
  rw [e, show (0 : Int32).toInt = 0 from rfl] at this
  omega
theorem up_ok (x : Int32) {n : Nat} (h0 : 0 < n) (h : n < 2 ^ 31) : ∃ k, k < n ∧ (x &&& 2147483647) - (x &&& 2147483647) / nI n * nI n = nI k := by
  have h1 := i32_rem (x &&& 2147483647) (nI n) (nI_n0 h0 h)
  have h2 := and31b x
  rw [nI_toInt h] at h1
  generalize (x &&& 2147483647) = z at h1 h2 ⊢
  obtain ⟨a, ha⟩ : ∃ a : Nat, z.toInt = (a : Int) := ⟨z.toInt.toNat, by omega⟩
  rw [ha] at h1
  refine ⟨a % n, Nat.mod_lt _ h0, ?_⟩
  rw [i32_eq, h1, nI_toInt (Nat.lt_trans (Nat.mod_lt _ h0) h)]
  rfl
theorem sc_in {k n : Nat} (hn : n < 2 ^ 31) (hk : k < 2 ^ 31) (h : ¬ Int32.ofNat n ≤ nI k) : vp_in (nI k) n := vp_in_nI (Nat.not_le.mp (fun e => h ((nI_leI hn hk).mpr e))) hn
theorem gc_re (a b c e d : Nat) : Nat.gcd (Nat.gcd (Nat.gcd a b) (Nat.gcd c e)) d = Nat.gcd (Nat.gcd (Nat.gcd (Nat.gcd d a) b) c) e := by
  rw [← Nat.gcd_assoc (Nat.gcd a b) c e, Nat.gcd_comm _ d, ← Nat.gcd_assoc d (Nat.gcd (Nat.gcd a b) c) e, ← Nat.gcd_assoc d (Nat.gcd a b) c, ← Nat.gcd_assoc d a b]
theorem i64_ng {x : Int64} (h2 : -4611686018427387904 ≤ x.toInt) : (-x).toInt = -x.toInt := by
  rw [Int64.toInt_neg]
  have := i64_rng x
  rw [Int.bmod_def]
  split <;> omega
theorem neg_abs {x : Int64} (h : x < 0) (h2 : -4611686018427387904 ≤ x.toInt) : -x = lN x.toInt.natAbs := by
  rw [Int64.lt_iff_toInt_lt, show (0 : Int64).toInt = 0 from rfl] at h
  rw [i64_eq, lN_int (by omega), i64_ng h2]
  omega

set_option maxHeartbeats 4000000 in
set_option maxRecDepth 100000 in
theorem c_L_cell (l : Launch) (D : va_G) (ka : Nat → ClassId) (kb : Nat → Nat) (k : Nat) (hL : kb 2 ≤ 260) (hk : k < 1000) : zI l D ka kb yL_cell cL_cell 2 .int 0 0 [.ref (kb 1), .int (nI k)] ([]) (fun (r : Int32) (u9 : PUnit) => True) (fun (u9 : PUnit) => []) := by
  refine zI.mk RL (by decide +kernel) rfl (Nat.le_of_ble_eq_true rfl) ?_
  intro p e s m below meth c A ls args Q hQ hx hb hF hB hl
  replace hl : lv_has ls 2 [(0, .ref (kb 1)), (1, .int (nI k))] := hl
  refine lv_iload_n hx hb dL_cell_0 rfl (lv_at hl 1 rfl) ?_
  refine lv_aload_n hx hb dL_cell_1 rfl (lv_at hl 0 rfl) ?_
  refine va_slen hx hb hF.2.2.1.2.2.2.1 hF.2.2.1.2.2.2.2.1 hF.2.2.1.2.2.2.2.2 hB.2.2 dL_cell_2 ?_
  refine lv_icmp_ge (tgt := 12) hx hb dL_cell_3 (by decide) (fun h3 => ?_) (fun h3 => ?_)
  · skip
    refine zldc (v := (763049417 : Int32)) ww_5_19 hF dL_cell_12 ?_
    refine lv_iload_n hx hb dL_cell_14 rfl (lv_at hl 1 rfl) ?_
    refine lv_iconst (v := 3) hx hb dL_cell_15 (by decide) ?_
    refine lv_iadd hx hb dL_cell_16 ?_
    refine ztopi (y := nI (k + 3)) (nI_add k 3) ?_
    refine lv_imul hx hb dL_cell_17 ?_
    refine ztopi (y := nI (763049417 * (k + 3))) (pk_mul 763049417 (k + 3)) ?_
    exact zreti hF hB PUnit.unit (trivial) (rfl) (rfl) dL_cell_18 hQ
  · skip
    refine lv_aload_n hx hb dL_cell_6 rfl (lv_at hl 0 rfl) ?_
    refine lv_iload_n hx hb dL_cell_7 rfl (lv_at hl 1 rfl) ?_
    refine va_sld hx hb hF.2.2.1.2.2.2.1 hF.2.2.1.2.2.2.2.1 hF.2.2.1.2.2.2.2.2 hB.2.2 (sc_in (by omega) (by omega) h3) dL_cell_8 ?_
    refine lv_goto (tgt := 18) hx hb dL_cell_9 (by decide) ?_
    exact zreti hF hB PUnit.unit (trivial) (rfl) (rfl) dL_cell_18 hQ

set_option maxHeartbeats 4000000 in
set_option maxRecDepth 100000 in
theorem c_L_up (l : Launch) (D : va_G) (ka : Nat → ClassId) (kb : Nat → Nat) (x : Int32) (n : Nat) (h0 : 0 < n) (hn : n < 2 ^ 31) : zI l D ka kb yL_up cL_up 2 .int 0 0 [.int x, .int (nI n)] ([]) (fun (r : Int32) (u9 : PUnit) => ∃ k9, k9 < n ∧ r = nI k9) (fun (u9 : PUnit) => []) := by
  refine zI.mk RL (by decide +kernel) rfl (Nat.le_of_ble_eq_true rfl) ?_
  intro p e s m below meth c A ls args Q hQ hx hb hF hB hl
  replace hl : lv_has ls 2 [(0, .int x), (1, .int (nI n))] := hl
  refine lv_iload_n hx hb dL_up_0 rfl (lv_at hl 0 rfl) ?_
  refine zldc (v := (2147483647 : Int32)) ww_5_23 hF dL_up_1 ?_
  refine lv_iand hx hb dL_up_3 ?_
  refine lv_iload_n hx hb dL_up_4 rfl (lv_at hl 1 rfl) ?_
  refine lv_irem hx hb dL_up_5 (nI_n0 h0 hn) ?_
  exact zreti hF hB PUnit.unit (up_ok x h0 hn) (rfl) (rfl) dL_up_6 hQ

set_option maxHeartbeats 4000000 in
set_option maxRecDepth 100000 in
theorem c_L_way_0_0 (l : Launch) (D : va_G) (ka : Nat → ClassId) (kb : Nat → Nat)   : zI l D ka kb yL_way cL_way 8 .int 0 0 [.int (0 : Int32), .int (0 : Int32)] ([]) (fun (r : Int32) (_ : Unit) => r = (zways.getD 0 0)) (fun (_ : Unit) => []) := by
  refine zI.mk RL (by decide +kernel) rfl (Nat.le_of_ble_eq_true rfl) ?_
  intro p e s m below meth c A ls args Q hQ hx hb hF hB hl
  replace hl : lv_has ls 8 [(0, .int (0 : Int32)), (1, .int (0 : Int32))] := hl
  refine lv_iload_n hx hb dL_way_0 rfl (lv_at hl 0 rfl) ?_
  refine lv_bipush (v := 6) hx hb dL_way_1 (by decide) ?_
  refine lv_irem hx hb dL_way_3 (by decide) ?_
  refine ztopi (y := (0 : Int32)) (by decide) ?_
  refine lv_istore_n (lv' := [(2, .int (0 : Int32)), (0, .int (0 : Int32)), (1, .int (0 : Int32))]) hx hb dL_way_4 rfl hl (by decide) rfl ?_
  clear hl
  clear ls
  intro ls hl
  refine lv_iload_n hx hb dL_way_5 rfl (lv_at hl 0 rfl) ?_
  refine lv_if_ne (tgt := 13) hx hb dL_way_6 (by decide) (fun h6 => ?_) (fun h6 => ?_)
  · skip
    exact absurd (by decide) h6
  · skip
    refine lv_iconst (v := 2) hx hb dL_way_9 (by decide) ?_
    refine lv_goto (tgt := 32) hx hb dL_way_10 (by decide) ?_
    refine lv_istore_n (lv' := [(3, .int (2 : Int32)), (2, .int (0 : Int32)), (0, .int (0 : Int32)), (1, .int (0 : Int32))]) hx hb dL_way_32 rfl hl (by decide) rfl ?_
    clear hl
    clear ls
    intro ls hl
    refine lv_iload_n hx hb dL_way_33 rfl (lv_at hl 1 rfl) ?_
    refine lv_iconst (v := 1) hx hb dL_way_34 (by decide) ?_
    refine lv_icmp_ne (tgt := 42) hx hb dL_way_35 (by decide) (fun h35 => ?_) (fun h35 => ?_)
    · skip
      refine lv_iload_n hx hb dL_way_42 rfl (lv_at hl 1 rfl) ?_
      refine lv_iconst (v := 5) hx hb dL_way_43 (by decide) ?_
      refine lv_icmp_ne (tgt := 51) hx hb dL_way_44 (by decide) (fun h44 => ?_) (fun h44 => ?_)
      · skip
        refine lv_iconst (v := 0) hx hb dL_way_51 (by decide) ?_
        refine lv_istore (lv' := [(4, .int (0 : Int32)), (3, .int (2 : Int32)), (2, .int (0 : Int32)), (0, .int (0 : Int32)), (1, .int (0 : Int32))]) hx hb dL_way_52 hl (by decide) rfl ?_
        clear hl
        clear ls
        intro ls hl
        refine lv_iload_n hx hb dL_way_54 rfl (lv_at hl 2 rfl) ?_
        refine lv_iconst (v := 3) hx hb dL_way_55 (by decide) ?_
        refine lv_icmp_ne (tgt := 63) hx hb dL_way_56 (by decide) (fun h56 => ?_) (fun h56 => ?_)
        · skip
          refine lv_iload_n hx hb dL_way_63 rfl (lv_at hl 2 rfl) ?_
          refine lv_iconst (v := 1) hx hb dL_way_64 (by decide) ?_
          refine lv_icmp_eq (tgt := 73) hx hb dL_way_65 (by decide) (fun h65 => ?_) (fun h65 => ?_)
          · skip
            exact absurd h65 (by decide)
          · skip
            refine lv_iload_n hx hb dL_way_68 rfl (lv_at hl 2 rfl) ?_
            refine lv_iconst (v := 5) hx hb dL_way_69 (by decide) ?_
            refine lv_icmp_ne (tgt := 77) hx hb dL_way_70 (by decide) (fun h70 => ?_) (fun h70 => ?_)
            · skip
              refine lv_iconst (v := 0) hx hb dL_way_77 (by decide) ?_
              refine lv_istore (lv' := [(5, .int (0 : Int32)), (4, .int (0 : Int32)), (3, .int (2 : Int32)), (2, .int (0 : Int32)), (0, .int (0 : Int32)), (1, .int (0 : Int32))]) hx hb dL_way_78 hl (by decide) rfl ?_
              clear hl
              clear ls
              intro ls hl
              refine lv_iload_n hx hb dL_way_80 rfl (lv_at hl 3 rfl) ?_
              refine lv_iconst (v := 2) hx hb dL_way_81 (by decide) ?_
              refine lv_icmp_eq (tgt := 90) hx hb dL_way_82 (by decide) (fun h82 => ?_) (fun h82 => ?_)
              · skip
                exact absurd h82 (by decide)
              · skip
                refine lv_iload_n hx hb dL_way_85 rfl (lv_at hl 3 rfl) ?_
                refine lv_iconst (v := 4) hx hb dL_way_86 (by decide) ?_
                refine lv_icmp_ne (tgt := 94) hx hb dL_way_87 (by decide) (fun h87 => ?_) (fun h87 => ?_)
                · skip
                  refine lv_iconst (v := 0) hx hb dL_way_94 (by decide) ?_
                  refine lv_istore (lv' := [(6, .int (0 : Int32)), (5, .int (0 : Int32)), (4, .int (0 : Int32)), (3, .int (2 : Int32)), (2, .int (0 : Int32)), (0, .int (0 : Int32)), (1, .int (0 : Int32))]) hx hb dL_way_95 hl (by decide) rfl ?_
                  clear hl
                  clear ls
                  intro ls hl
                  refine lv_iload_n hx hb dL_way_97 rfl (lv_at hl 6 rfl) ?_
                  refine lv_if_ne (tgt := 105) hx hb dL_way_98 (by decide) (fun h98 => ?_) (fun h98 => ?_)
                  · skip
                    exact absurd (by decide) h98
                  · skip
                    refine lv_iload_n hx hb dL_way_101 rfl (lv_at hl 3 rfl) ?_
                    refine lv_goto (tgt := 127) hx hb dL_way_102 (by decide) ?_
                    refine lv_istore (lv' := [(7, .int (2 : Int32)), (6, .int (0 : Int32)), (5, .int (0 : Int32)), (4, .int (0 : Int32)), (3, .int (2 : Int32)), (2, .int (0 : Int32)), (0, .int (0 : Int32)), (1, .int (0 : Int32))]) hx hb dL_way_127 hl (by decide) rfl ?_
                    clear hl
                    clear ls
                    intro ls hl
                    refine lv_iload_n hx hb dL_way_129 rfl (lv_at hl 6 rfl) ?_
                    refine lv_bipush (v := 6) hx hb dL_way_130 (by decide) ?_
                    refine lv_icmp_ge (tgt := 140) hx hb dL_way_132 (by decide) (fun h132 => ?_) (fun h132 => ?_)
                    · skip
                      exact absurd h132 (by decide)
                    · skip
                      refine lv_iload hx hb dL_way_135 (lv_at hl 0 rfl) ?_
                      refine lv_goto (tgt := 143) hx hb dL_way_137 (by decide) ?_
                      exact zreti hF hB () (rfl) (rfl) (rfl) dL_way_143 hQ
                · skip
                  exact absurd h87 (by decide)
            · skip
              exact absurd h70 (by decide)
        · skip
          exact absurd h56 (by decide)
      · skip
        exact absurd h44 (by decide)
    · skip
      exact absurd h35 (by decide)

set_option maxHeartbeats 4000000 in
set_option maxRecDepth 100000 in
theorem c_L_way_0_1 (l : Launch) (D : va_G) (ka : Nat → ClassId) (kb : Nat → Nat)   : zI l D ka kb yL_way cL_way 8 .int 0 0 [.int (0 : Int32), .int (1 : Int32)] ([]) (fun (r : Int32) (_ : Unit) => r = (zways.getD 1 0)) (fun (_ : Unit) => []) := by
  refine zI.mk RL (by decide +kernel) rfl (Nat.le_of_ble_eq_true rfl) ?_
  intro p e s m below meth c A ls args Q hQ hx hb hF hB hl
  replace hl : lv_has ls 8 [(0, .int (0 : Int32)), (1, .int (1 : Int32))] := hl
  refine lv_iload_n hx hb dL_way_0 rfl (lv_at hl 0 rfl) ?_
  refine lv_bipush (v := 6) hx hb dL_way_1 (by decide) ?_
  refine lv_irem hx hb dL_way_3 (by decide) ?_
  refine ztopi (y := (0 : Int32)) (by decide) ?_
  refine lv_istore_n (lv' := [(2, .int (0 : Int32)), (0, .int (0 : Int32)), (1, .int (1 : Int32))]) hx hb dL_way_4 rfl hl (by decide) rfl ?_
  clear hl
  clear ls
  intro ls hl
  refine lv_iload_n hx hb dL_way_5 rfl (lv_at hl 0 rfl) ?_
  refine lv_if_ne (tgt := 13) hx hb dL_way_6 (by decide) (fun h6 => ?_) (fun h6 => ?_)
  · skip
    exact absurd (by decide) h6
  · skip
    refine lv_iconst (v := 2) hx hb dL_way_9 (by decide) ?_
    refine lv_goto (tgt := 32) hx hb dL_way_10 (by decide) ?_
    refine lv_istore_n (lv' := [(3, .int (2 : Int32)), (2, .int (0 : Int32)), (0, .int (0 : Int32)), (1, .int (1 : Int32))]) hx hb dL_way_32 rfl hl (by decide) rfl ?_
    clear hl
    clear ls
    intro ls hl
    refine lv_iload_n hx hb dL_way_33 rfl (lv_at hl 1 rfl) ?_
    refine lv_iconst (v := 1) hx hb dL_way_34 (by decide) ?_
    refine lv_icmp_ne (tgt := 42) hx hb dL_way_35 (by decide) (fun h35 => ?_) (fun h35 => ?_)
    · skip
      refine lv_iload_n hx hb dL_way_42 rfl (lv_at hl 1 rfl) ?_
      refine lv_iconst (v := 5) hx hb dL_way_43 (by decide) ?_
      refine lv_icmp_ne (tgt := 51) hx hb dL_way_44 (by decide) (fun h44 => ?_) (fun h44 => ?_)
      · skip
        refine lv_iconst (v := 0) hx hb dL_way_51 (by decide) ?_
        refine lv_istore (lv' := [(4, .int (0 : Int32)), (3, .int (2 : Int32)), (2, .int (0 : Int32)), (0, .int (0 : Int32)), (1, .int (1 : Int32))]) hx hb dL_way_52 hl (by decide) rfl ?_
        clear hl
        clear ls
        intro ls hl
        refine lv_iload_n hx hb dL_way_54 rfl (lv_at hl 2 rfl) ?_
        refine lv_iconst (v := 3) hx hb dL_way_55 (by decide) ?_
        refine lv_icmp_ne (tgt := 63) hx hb dL_way_56 (by decide) (fun h56 => ?_) (fun h56 => ?_)
        · skip
          refine lv_iload_n hx hb dL_way_63 rfl (lv_at hl 2 rfl) ?_
          refine lv_iconst (v := 1) hx hb dL_way_64 (by decide) ?_
          refine lv_icmp_eq (tgt := 73) hx hb dL_way_65 (by decide) (fun h65 => ?_) (fun h65 => ?_)
          · skip
            exact absurd h65 (by decide)
          · skip
            refine lv_iload_n hx hb dL_way_68 rfl (lv_at hl 2 rfl) ?_
            refine lv_iconst (v := 5) hx hb dL_way_69 (by decide) ?_
            refine lv_icmp_ne (tgt := 77) hx hb dL_way_70 (by decide) (fun h70 => ?_) (fun h70 => ?_)
            · skip
              refine lv_iconst (v := 0) hx hb dL_way_77 (by decide) ?_
              refine lv_istore (lv' := [(5, .int (0 : Int32)), (4, .int (0 : Int32)), (3, .int (2 : Int32)), (2, .int (0 : Int32)), (0, .int (0 : Int32)), (1, .int (1 : Int32))]) hx hb dL_way_78 hl (by decide) rfl ?_
              clear hl
              clear ls
              intro ls hl
              refine lv_iload_n hx hb dL_way_80 rfl (lv_at hl 3 rfl) ?_
              refine lv_iconst (v := 2) hx hb dL_way_81 (by decide) ?_
              refine lv_icmp_eq (tgt := 90) hx hb dL_way_82 (by decide) (fun h82 => ?_) (fun h82 => ?_)
              · skip
                exact absurd h82 (by decide)
              · skip
                refine lv_iload_n hx hb dL_way_85 rfl (lv_at hl 3 rfl) ?_
                refine lv_iconst (v := 4) hx hb dL_way_86 (by decide) ?_
                refine lv_icmp_ne (tgt := 94) hx hb dL_way_87 (by decide) (fun h87 => ?_) (fun h87 => ?_)
                · skip
                  refine lv_iconst (v := 0) hx hb dL_way_94 (by decide) ?_
                  refine lv_istore (lv' := [(6, .int (0 : Int32)), (5, .int (0 : Int32)), (4, .int (0 : Int32)), (3, .int (2 : Int32)), (2, .int (0 : Int32)), (0, .int (0 : Int32)), (1, .int (1 : Int32))]) hx hb dL_way_95 hl (by decide) rfl ?_
                  clear hl
                  clear ls
                  intro ls hl
                  refine lv_iload_n hx hb dL_way_97 rfl (lv_at hl 6 rfl) ?_
                  refine lv_if_ne (tgt := 105) hx hb dL_way_98 (by decide) (fun h98 => ?_) (fun h98 => ?_)
                  · skip
                    refine lv_iload_n hx hb dL_way_105 rfl (lv_at hl 6 rfl) ?_
                    refine lv_iconst (v := 1) hx hb dL_way_106 (by decide) ?_
                    refine lv_icmp_ne (tgt := 115) hx hb dL_way_107 (by decide) (fun h107 => ?_) (fun h107 => ?_)
                    · skip
                      exact absurd rfl h107
                    · skip
                      refine lv_iload hx hb dL_way_110 (lv_at hl 2 rfl) ?_
                      refine lv_goto (tgt := 127) hx hb dL_way_112 (by decide) ?_
                      refine lv_istore (lv' := [(7, .int (0 : Int32)), (6, .int (0 : Int32)), (5, .int (0 : Int32)), (4, .int (0 : Int32)), (3, .int (2 : Int32)), (2, .int (0 : Int32)), (0, .int (0 : Int32)), (1, .int (1 : Int32))]) hx hb dL_way_127 hl (by decide) rfl ?_
                      clear hl
                      clear ls
                      intro ls hl
                      refine lv_iload_n hx hb dL_way_129 rfl (lv_at hl 6 rfl) ?_
                      refine lv_bipush (v := 6) hx hb dL_way_130 (by decide) ?_
                      refine lv_icmp_ge (tgt := 140) hx hb dL_way_132 (by decide) (fun h132 => ?_) (fun h132 => ?_)
                      · skip
                        exact absurd h132 (by decide)
                      · skip
                        refine lv_iload hx hb dL_way_135 (lv_at hl 0 rfl) ?_
                        refine lv_goto (tgt := 143) hx hb dL_way_137 (by decide) ?_
                        exact zreti hF hB () (rfl) (rfl) (rfl) dL_way_143 hQ
                  · skip
                    exact absurd h98 (by decide)
                · skip
                  exact absurd h87 (by decide)
            · skip
              exact absurd h70 (by decide)
        · skip
          exact absurd h56 (by decide)
      · skip
        exact absurd h44 (by decide)
    · skip
      exact absurd h35 (by decide)

set_option maxHeartbeats 4000000 in
set_option maxRecDepth 100000 in
theorem c_L_way_0_2 (l : Launch) (D : va_G) (ka : Nat → ClassId) (kb : Nat → Nat)   : zI l D ka kb yL_way cL_way 8 .int 0 0 [.int (0 : Int32), .int (2 : Int32)] ([]) (fun (r : Int32) (_ : Unit) => r = (zways.getD 2 0)) (fun (_ : Unit) => []) := by
  refine zI.mk RL (by decide +kernel) rfl (Nat.le_of_ble_eq_true rfl) ?_
  intro p e s m below meth c A ls args Q hQ hx hb hF hB hl
  replace hl : lv_has ls 8 [(0, .int (0 : Int32)), (1, .int (2 : Int32))] := hl
  refine lv_iload_n hx hb dL_way_0 rfl (lv_at hl 0 rfl) ?_
  refine lv_bipush (v := 6) hx hb dL_way_1 (by decide) ?_
  refine lv_irem hx hb dL_way_3 (by decide) ?_
  refine ztopi (y := (0 : Int32)) (by decide) ?_
  refine lv_istore_n (lv' := [(2, .int (0 : Int32)), (0, .int (0 : Int32)), (1, .int (2 : Int32))]) hx hb dL_way_4 rfl hl (by decide) rfl ?_
  clear hl
  clear ls
  intro ls hl
  refine lv_iload_n hx hb dL_way_5 rfl (lv_at hl 0 rfl) ?_
  refine lv_if_ne (tgt := 13) hx hb dL_way_6 (by decide) (fun h6 => ?_) (fun h6 => ?_)
  · skip
    exact absurd (by decide) h6
  · skip
    refine lv_iconst (v := 2) hx hb dL_way_9 (by decide) ?_
    refine lv_goto (tgt := 32) hx hb dL_way_10 (by decide) ?_
    refine lv_istore_n (lv' := [(3, .int (2 : Int32)), (2, .int (0 : Int32)), (0, .int (0 : Int32)), (1, .int (2 : Int32))]) hx hb dL_way_32 rfl hl (by decide) rfl ?_
    clear hl
    clear ls
    intro ls hl
    refine lv_iload_n hx hb dL_way_33 rfl (lv_at hl 1 rfl) ?_
    refine lv_iconst (v := 1) hx hb dL_way_34 (by decide) ?_
    refine lv_icmp_ne (tgt := 42) hx hb dL_way_35 (by decide) (fun h35 => ?_) (fun h35 => ?_)
    · skip
      refine lv_iload_n hx hb dL_way_42 rfl (lv_at hl 1 rfl) ?_
      refine lv_iconst (v := 5) hx hb dL_way_43 (by decide) ?_
      refine lv_icmp_ne (tgt := 51) hx hb dL_way_44 (by decide) (fun h44 => ?_) (fun h44 => ?_)
      · skip
        refine lv_iconst (v := 0) hx hb dL_way_51 (by decide) ?_
        refine lv_istore (lv' := [(4, .int (0 : Int32)), (3, .int (2 : Int32)), (2, .int (0 : Int32)), (0, .int (0 : Int32)), (1, .int (2 : Int32))]) hx hb dL_way_52 hl (by decide) rfl ?_
        clear hl
        clear ls
        intro ls hl
        refine lv_iload_n hx hb dL_way_54 rfl (lv_at hl 2 rfl) ?_
        refine lv_iconst (v := 3) hx hb dL_way_55 (by decide) ?_
        refine lv_icmp_ne (tgt := 63) hx hb dL_way_56 (by decide) (fun h56 => ?_) (fun h56 => ?_)
        · skip
          refine lv_iload_n hx hb dL_way_63 rfl (lv_at hl 2 rfl) ?_
          refine lv_iconst (v := 1) hx hb dL_way_64 (by decide) ?_
          refine lv_icmp_eq (tgt := 73) hx hb dL_way_65 (by decide) (fun h65 => ?_) (fun h65 => ?_)
          · skip
            exact absurd h65 (by decide)
          · skip
            refine lv_iload_n hx hb dL_way_68 rfl (lv_at hl 2 rfl) ?_
            refine lv_iconst (v := 5) hx hb dL_way_69 (by decide) ?_
            refine lv_icmp_ne (tgt := 77) hx hb dL_way_70 (by decide) (fun h70 => ?_) (fun h70 => ?_)
            · skip
              refine lv_iconst (v := 0) hx hb dL_way_77 (by decide) ?_
              refine lv_istore (lv' := [(5, .int (0 : Int32)), (4, .int (0 : Int32)), (3, .int (2 : Int32)), (2, .int (0 : Int32)), (0, .int (0 : Int32)), (1, .int (2 : Int32))]) hx hb dL_way_78 hl (by decide) rfl ?_
              clear hl
              clear ls
              intro ls hl
              refine lv_iload_n hx hb dL_way_80 rfl (lv_at hl 3 rfl) ?_
              refine lv_iconst (v := 2) hx hb dL_way_81 (by decide) ?_
              refine lv_icmp_eq (tgt := 90) hx hb dL_way_82 (by decide) (fun h82 => ?_) (fun h82 => ?_)
              · skip
                exact absurd h82 (by decide)
              · skip
                refine lv_iload_n hx hb dL_way_85 rfl (lv_at hl 3 rfl) ?_
                refine lv_iconst (v := 4) hx hb dL_way_86 (by decide) ?_
                refine lv_icmp_ne (tgt := 94) hx hb dL_way_87 (by decide) (fun h87 => ?_) (fun h87 => ?_)
                · skip
                  refine lv_iconst (v := 0) hx hb dL_way_94 (by decide) ?_
                  refine lv_istore (lv' := [(6, .int (0 : Int32)), (5, .int (0 : Int32)), (4, .int (0 : Int32)), (3, .int (2 : Int32)), (2, .int (0 : Int32)), (0, .int (0 : Int32)), (1, .int (2 : Int32))]) hx hb dL_way_95 hl (by decide) rfl ?_
                  clear hl
                  clear ls
                  intro ls hl
                  refine lv_iload_n hx hb dL_way_97 rfl (lv_at hl 6 rfl) ?_
                  refine lv_if_ne (tgt := 105) hx hb dL_way_98 (by decide) (fun h98 => ?_) (fun h98 => ?_)
                  · skip
                    refine lv_iload_n hx hb dL_way_105 rfl (lv_at hl 6 rfl) ?_
                    refine lv_iconst (v := 1) hx hb dL_way_106 (by decide) ?_
                    refine lv_icmp_ne (tgt := 115) hx hb dL_way_107 (by decide) (fun h107 => ?_) (fun h107 => ?_)
                    · skip
                      refine lv_iload_n hx hb dL_way_115 rfl (lv_at hl 6 rfl) ?_
                      refine lv_iconst (v := 2) hx hb dL_way_116 (by decide) ?_
                      refine lv_icmp_ne (tgt := 125) hx hb dL_way_117 (by decide) (fun h117 => ?_) (fun h117 => ?_)
                      · skip
                        exact absurd rfl h117
                      · skip
                        refine lv_iload hx hb dL_way_120 (lv_at hl 1 rfl) ?_
                        refine lv_goto (tgt := 127) hx hb dL_way_122 (by decide) ?_
                        refine lv_istore (lv' := [(7, .int (0 : Int32)), (6, .int (0 : Int32)), (5, .int (0 : Int32)), (4, .int (0 : Int32)), (3, .int (2 : Int32)), (2, .int (0 : Int32)), (0, .int (0 : Int32)), (1, .int (2 : Int32))]) hx hb dL_way_127 hl (by decide) rfl ?_
                        clear hl
                        clear ls
                        intro ls hl
                        refine lv_iload_n hx hb dL_way_129 rfl (lv_at hl 6 rfl) ?_
                        refine lv_bipush (v := 6) hx hb dL_way_130 (by decide) ?_
                        refine lv_icmp_ge (tgt := 140) hx hb dL_way_132 (by decide) (fun h132 => ?_) (fun h132 => ?_)
                        · skip
                          exact absurd h132 (by decide)
                        · skip
                          refine lv_iload hx hb dL_way_135 (lv_at hl 0 rfl) ?_
                          refine lv_goto (tgt := 143) hx hb dL_way_137 (by decide) ?_
                          exact zreti hF hB () (rfl) (rfl) (rfl) dL_way_143 hQ
                    · skip
                      exact absurd h107 (by decide)
                  · skip
                    exact absurd h98 (by decide)
                · skip
                  exact absurd h87 (by decide)
            · skip
              exact absurd h70 (by decide)
        · skip
          exact absurd h56 (by decide)
      · skip
        exact absurd h44 (by decide)
    · skip
      exact absurd h35 (by decide)

set_option maxHeartbeats 4000000 in
set_option maxRecDepth 100000 in
theorem c_L_way_0_3 (l : Launch) (D : va_G) (ka : Nat → ClassId) (kb : Nat → Nat)   : zI l D ka kb yL_way cL_way 8 .int 0 0 [.int (0 : Int32), .int (3 : Int32)] ([]) (fun (r : Int32) (_ : Unit) => r = (zways.getD 3 0)) (fun (_ : Unit) => []) := by
  refine zI.mk RL (by decide +kernel) rfl (Nat.le_of_ble_eq_true rfl) ?_
  intro p e s m below meth c A ls args Q hQ hx hb hF hB hl
  replace hl : lv_has ls 8 [(0, .int (0 : Int32)), (1, .int (3 : Int32))] := hl
  refine lv_iload_n hx hb dL_way_0 rfl (lv_at hl 0 rfl) ?_
  refine lv_bipush (v := 6) hx hb dL_way_1 (by decide) ?_
  refine lv_irem hx hb dL_way_3 (by decide) ?_
  refine ztopi (y := (0 : Int32)) (by decide) ?_
  refine lv_istore_n (lv' := [(2, .int (0 : Int32)), (0, .int (0 : Int32)), (1, .int (3 : Int32))]) hx hb dL_way_4 rfl hl (by decide) rfl ?_
  clear hl
  clear ls
  intro ls hl
  refine lv_iload_n hx hb dL_way_5 rfl (lv_at hl 0 rfl) ?_
  refine lv_if_ne (tgt := 13) hx hb dL_way_6 (by decide) (fun h6 => ?_) (fun h6 => ?_)
  · skip
    exact absurd (by decide) h6
  · skip
    refine lv_iconst (v := 2) hx hb dL_way_9 (by decide) ?_
    refine lv_goto (tgt := 32) hx hb dL_way_10 (by decide) ?_
    refine lv_istore_n (lv' := [(3, .int (2 : Int32)), (2, .int (0 : Int32)), (0, .int (0 : Int32)), (1, .int (3 : Int32))]) hx hb dL_way_32 rfl hl (by decide) rfl ?_
    clear hl
    clear ls
    intro ls hl
    refine lv_iload_n hx hb dL_way_33 rfl (lv_at hl 1 rfl) ?_
    refine lv_iconst (v := 1) hx hb dL_way_34 (by decide) ?_
    refine lv_icmp_ne (tgt := 42) hx hb dL_way_35 (by decide) (fun h35 => ?_) (fun h35 => ?_)
    · skip
      refine lv_iload_n hx hb dL_way_42 rfl (lv_at hl 1 rfl) ?_
      refine lv_iconst (v := 5) hx hb dL_way_43 (by decide) ?_
      refine lv_icmp_ne (tgt := 51) hx hb dL_way_44 (by decide) (fun h44 => ?_) (fun h44 => ?_)
      · skip
        refine lv_iconst (v := 0) hx hb dL_way_51 (by decide) ?_
        refine lv_istore (lv' := [(4, .int (0 : Int32)), (3, .int (2 : Int32)), (2, .int (0 : Int32)), (0, .int (0 : Int32)), (1, .int (3 : Int32))]) hx hb dL_way_52 hl (by decide) rfl ?_
        clear hl
        clear ls
        intro ls hl
        refine lv_iload_n hx hb dL_way_54 rfl (lv_at hl 2 rfl) ?_
        refine lv_iconst (v := 3) hx hb dL_way_55 (by decide) ?_
        refine lv_icmp_ne (tgt := 63) hx hb dL_way_56 (by decide) (fun h56 => ?_) (fun h56 => ?_)
        · skip
          refine lv_iload_n hx hb dL_way_63 rfl (lv_at hl 2 rfl) ?_
          refine lv_iconst (v := 1) hx hb dL_way_64 (by decide) ?_
          refine lv_icmp_eq (tgt := 73) hx hb dL_way_65 (by decide) (fun h65 => ?_) (fun h65 => ?_)
          · skip
            exact absurd h65 (by decide)
          · skip
            refine lv_iload_n hx hb dL_way_68 rfl (lv_at hl 2 rfl) ?_
            refine lv_iconst (v := 5) hx hb dL_way_69 (by decide) ?_
            refine lv_icmp_ne (tgt := 77) hx hb dL_way_70 (by decide) (fun h70 => ?_) (fun h70 => ?_)
            · skip
              refine lv_iconst (v := 0) hx hb dL_way_77 (by decide) ?_
              refine lv_istore (lv' := [(5, .int (0 : Int32)), (4, .int (0 : Int32)), (3, .int (2 : Int32)), (2, .int (0 : Int32)), (0, .int (0 : Int32)), (1, .int (3 : Int32))]) hx hb dL_way_78 hl (by decide) rfl ?_
              clear hl
              clear ls
              intro ls hl
              refine lv_iload_n hx hb dL_way_80 rfl (lv_at hl 3 rfl) ?_
              refine lv_iconst (v := 2) hx hb dL_way_81 (by decide) ?_
              refine lv_icmp_eq (tgt := 90) hx hb dL_way_82 (by decide) (fun h82 => ?_) (fun h82 => ?_)
              · skip
                exact absurd h82 (by decide)
              · skip
                refine lv_iload_n hx hb dL_way_85 rfl (lv_at hl 3 rfl) ?_
                refine lv_iconst (v := 4) hx hb dL_way_86 (by decide) ?_
                refine lv_icmp_ne (tgt := 94) hx hb dL_way_87 (by decide) (fun h87 => ?_) (fun h87 => ?_)
                · skip
                  refine lv_iconst (v := 0) hx hb dL_way_94 (by decide) ?_
                  refine lv_istore (lv' := [(6, .int (0 : Int32)), (5, .int (0 : Int32)), (4, .int (0 : Int32)), (3, .int (2 : Int32)), (2, .int (0 : Int32)), (0, .int (0 : Int32)), (1, .int (3 : Int32))]) hx hb dL_way_95 hl (by decide) rfl ?_
                  clear hl
                  clear ls
                  intro ls hl
                  refine lv_iload_n hx hb dL_way_97 rfl (lv_at hl 6 rfl) ?_
                  refine lv_if_ne (tgt := 105) hx hb dL_way_98 (by decide) (fun h98 => ?_) (fun h98 => ?_)
                  · skip
                    refine lv_iload_n hx hb dL_way_105 rfl (lv_at hl 6 rfl) ?_
                    refine lv_iconst (v := 1) hx hb dL_way_106 (by decide) ?_
                    refine lv_icmp_ne (tgt := 115) hx hb dL_way_107 (by decide) (fun h107 => ?_) (fun h107 => ?_)
                    · skip
                      refine lv_iload_n hx hb dL_way_115 rfl (lv_at hl 6 rfl) ?_
                      refine lv_iconst (v := 2) hx hb dL_way_116 (by decide) ?_
                      refine lv_icmp_ne (tgt := 125) hx hb dL_way_117 (by decide) (fun h117 => ?_) (fun h117 => ?_)
                      · skip
                        refine lv_iload hx hb dL_way_125 (lv_at hl 0 rfl) ?_
                        refine lv_istore (lv' := [(7, .int (0 : Int32)), (6, .int (0 : Int32)), (5, .int (0 : Int32)), (4, .int (0 : Int32)), (3, .int (2 : Int32)), (2, .int (0 : Int32)), (0, .int (0 : Int32)), (1, .int (3 : Int32))]) hx hb dL_way_127 hl (by decide) rfl ?_
                        clear hl
                        clear ls
                        intro ls hl
                        refine lv_iload_n hx hb dL_way_129 rfl (lv_at hl 6 rfl) ?_
                        refine lv_bipush (v := 6) hx hb dL_way_130 (by decide) ?_
                        refine lv_icmp_ge (tgt := 140) hx hb dL_way_132 (by decide) (fun h132 => ?_) (fun h132 => ?_)
                        · skip
                          exact absurd h132 (by decide)
                        · skip
                          refine lv_iload hx hb dL_way_135 (lv_at hl 0 rfl) ?_
                          refine lv_goto (tgt := 143) hx hb dL_way_137 (by decide) ?_
                          exact zreti hF hB () (rfl) (rfl) (rfl) dL_way_143 hQ
                      · skip
                        exact absurd h117 (by decide)
                    · skip
                      exact absurd h107 (by decide)
                  · skip
                    exact absurd h98 (by decide)
                · skip
                  exact absurd h87 (by decide)
            · skip
              exact absurd h70 (by decide)
        · skip
          exact absurd h56 (by decide)
      · skip
        exact absurd h44 (by decide)
    · skip
      exact absurd h35 (by decide)

set_option maxHeartbeats 4000000 in
set_option maxRecDepth 100000 in
theorem c_L_way_1_0 (l : Launch) (D : va_G) (ka : Nat → ClassId) (kb : Nat → Nat)   : zI l D ka kb yL_way cL_way 8 .int 0 0 [.int (1 : Int32), .int (0 : Int32)] ([]) (fun (r : Int32) (_ : Unit) => r = (zways.getD 4 0)) (fun (_ : Unit) => []) := by
  refine zI.mk RL (by decide +kernel) rfl (Nat.le_of_ble_eq_true rfl) ?_
  intro p e s m below meth c A ls args Q hQ hx hb hF hB hl
  replace hl : lv_has ls 8 [(0, .int (1 : Int32)), (1, .int (0 : Int32))] := hl
  refine lv_iload_n hx hb dL_way_0 rfl (lv_at hl 0 rfl) ?_
  refine lv_bipush (v := 6) hx hb dL_way_1 (by decide) ?_
  refine lv_irem hx hb dL_way_3 (by decide) ?_
  refine ztopi (y := (1 : Int32)) (by decide) ?_
  refine lv_istore_n (lv' := [(2, .int (1 : Int32)), (0, .int (1 : Int32)), (1, .int (0 : Int32))]) hx hb dL_way_4 rfl hl (by decide) rfl ?_
  clear hl
  clear ls
  intro ls hl
  refine lv_iload_n hx hb dL_way_5 rfl (lv_at hl 0 rfl) ?_
  refine lv_if_ne (tgt := 13) hx hb dL_way_6 (by decide) (fun h6 => ?_) (fun h6 => ?_)
  · skip
    refine lv_iload_n hx hb dL_way_13 rfl (lv_at hl 0 rfl) ?_
    refine lv_iconst (v := 2) hx hb dL_way_14 (by decide) ?_
    refine lv_icmp_ne (tgt := 22) hx hb dL_way_15 (by decide) (fun h15 => ?_) (fun h15 => ?_)
    · skip
      refine lv_iload_n hx hb dL_way_22 rfl (lv_at hl 0 rfl) ?_
      refine lv_iconst (v := 4) hx hb dL_way_23 (by decide) ?_
      refine lv_icmp_ne (tgt := 31) hx hb dL_way_24 (by decide) (fun h24 => ?_) (fun h24 => ?_)
      · skip
        refine lv_iconst (v := 0) hx hb dL_way_31 (by decide) ?_
        refine lv_istore_n (lv' := [(3, .int (0 : Int32)), (2, .int (1 : Int32)), (0, .int (1 : Int32)), (1, .int (0 : Int32))]) hx hb dL_way_32 rfl hl (by decide) rfl ?_
        clear hl
        clear ls
        intro ls hl
        refine lv_iload_n hx hb dL_way_33 rfl (lv_at hl 1 rfl) ?_
        refine lv_iconst (v := 1) hx hb dL_way_34 (by decide) ?_
        refine lv_icmp_ne (tgt := 42) hx hb dL_way_35 (by decide) (fun h35 => ?_) (fun h35 => ?_)
        · skip
          exact absurd rfl h35
        · skip
          refine lv_iconst (v := 1) hx hb dL_way_38 (by decide) ?_
          refine lv_goto (tgt := 52) hx hb dL_way_39 (by decide) ?_
          refine lv_istore (lv' := [(4, .int (1 : Int32)), (3, .int (0 : Int32)), (2, .int (1 : Int32)), (0, .int (1 : Int32)), (1, .int (0 : Int32))]) hx hb dL_way_52 hl (by decide) rfl ?_
          clear hl
          clear ls
          intro ls hl
          refine lv_iload_n hx hb dL_way_54 rfl (lv_at hl 2 rfl) ?_
          refine lv_iconst (v := 3) hx hb dL_way_55 (by decide) ?_
          refine lv_icmp_ne (tgt := 63) hx hb dL_way_56 (by decide) (fun h56 => ?_) (fun h56 => ?_)
          · skip
            refine lv_iload_n hx hb dL_way_63 rfl (lv_at hl 2 rfl) ?_
            refine lv_iconst (v := 1) hx hb dL_way_64 (by decide) ?_
            refine lv_icmp_eq (tgt := 73) hx hb dL_way_65 (by decide) (fun h65 => ?_) (fun h65 => ?_)
            · skip
              refine lv_iconst (v := 1) hx hb dL_way_73 (by decide) ?_
              refine lv_goto (tgt := 78) hx hb dL_way_74 (by decide) ?_
              refine lv_istore (lv' := [(5, .int (1 : Int32)), (4, .int (1 : Int32)), (3, .int (0 : Int32)), (2, .int (1 : Int32)), (0, .int (1 : Int32)), (1, .int (0 : Int32))]) hx hb dL_way_78 hl (by decide) rfl ?_
              clear hl
              clear ls
              intro ls hl
              refine lv_iload_n hx hb dL_way_80 rfl (lv_at hl 3 rfl) ?_
              refine lv_iconst (v := 2) hx hb dL_way_81 (by decide) ?_
              refine lv_icmp_eq (tgt := 90) hx hb dL_way_82 (by decide) (fun h82 => ?_) (fun h82 => ?_)
              · skip
                exact absurd h82 (by decide)
              · skip
                refine lv_iload_n hx hb dL_way_85 rfl (lv_at hl 3 rfl) ?_
                refine lv_iconst (v := 4) hx hb dL_way_86 (by decide) ?_
                refine lv_icmp_ne (tgt := 94) hx hb dL_way_87 (by decide) (fun h87 => ?_) (fun h87 => ?_)
                · skip
                  refine lv_iconst (v := 0) hx hb dL_way_94 (by decide) ?_
                  refine lv_istore (lv' := [(6, .int (0 : Int32)), (5, .int (1 : Int32)), (4, .int (1 : Int32)), (3, .int (0 : Int32)), (2, .int (1 : Int32)), (0, .int (1 : Int32)), (1, .int (0 : Int32))]) hx hb dL_way_95 hl (by decide) rfl ?_
                  clear hl
                  clear ls
                  intro ls hl
                  refine lv_iload_n hx hb dL_way_97 rfl (lv_at hl 6 rfl) ?_
                  refine lv_if_ne (tgt := 105) hx hb dL_way_98 (by decide) (fun h98 => ?_) (fun h98 => ?_)
                  · skip
                    exact absurd (by decide) h98
                  · skip
                    refine lv_iload_n hx hb dL_way_101 rfl (lv_at hl 3 rfl) ?_
                    refine lv_goto (tgt := 127) hx hb dL_way_102 (by decide) ?_
                    refine lv_istore (lv' := [(7, .int (0 : Int32)), (6, .int (0 : Int32)), (5, .int (1 : Int32)), (4, .int (1 : Int32)), (3, .int (0 : Int32)), (2, .int (1 : Int32)), (0, .int (1 : Int32)), (1, .int (0 : Int32))]) hx hb dL_way_127 hl (by decide) rfl ?_
                    clear hl
                    clear ls
                    intro ls hl
                    refine lv_iload_n hx hb dL_way_129 rfl (lv_at hl 6 rfl) ?_
                    refine lv_bipush (v := 6) hx hb dL_way_130 (by decide) ?_
                    refine lv_icmp_ge (tgt := 140) hx hb dL_way_132 (by decide) (fun h132 => ?_) (fun h132 => ?_)
                    · skip
                      exact absurd h132 (by decide)
                    · skip
                      refine lv_iload hx hb dL_way_135 (lv_at hl 0 rfl) ?_
                      refine lv_goto (tgt := 143) hx hb dL_way_137 (by decide) ?_
                      exact zreti hF hB () (rfl) (rfl) (rfl) dL_way_143 hQ
                · skip
                  exact absurd h87 (by decide)
            · skip
              exact absurd (by decide) h65
          · skip
            exact absurd h56 (by decide)
      · skip
        exact absurd h24 (by decide)
    · skip
      exact absurd h15 (by decide)
  · skip
    exact absurd h6 (by decide)

set_option maxHeartbeats 4000000 in
set_option maxRecDepth 100000 in
theorem c_L_way_1_1 (l : Launch) (D : va_G) (ka : Nat → ClassId) (kb : Nat → Nat)   : zI l D ka kb yL_way cL_way 8 .int 0 0 [.int (1 : Int32), .int (1 : Int32)] ([]) (fun (r : Int32) (_ : Unit) => r = (zways.getD 5 0)) (fun (_ : Unit) => []) := by
  refine zI.mk RL (by decide +kernel) rfl (Nat.le_of_ble_eq_true rfl) ?_
  intro p e s m below meth c A ls args Q hQ hx hb hF hB hl
  replace hl : lv_has ls 8 [(0, .int (1 : Int32)), (1, .int (1 : Int32))] := hl
  refine lv_iload_n hx hb dL_way_0 rfl (lv_at hl 0 rfl) ?_
  refine lv_bipush (v := 6) hx hb dL_way_1 (by decide) ?_
  refine lv_irem hx hb dL_way_3 (by decide) ?_
  refine ztopi (y := (1 : Int32)) (by decide) ?_
  refine lv_istore_n (lv' := [(2, .int (1 : Int32)), (0, .int (1 : Int32)), (1, .int (1 : Int32))]) hx hb dL_way_4 rfl hl (by decide) rfl ?_
  clear hl
  clear ls
  intro ls hl
  refine lv_iload_n hx hb dL_way_5 rfl (lv_at hl 0 rfl) ?_
  refine lv_if_ne (tgt := 13) hx hb dL_way_6 (by decide) (fun h6 => ?_) (fun h6 => ?_)
  · skip
    refine lv_iload_n hx hb dL_way_13 rfl (lv_at hl 0 rfl) ?_
    refine lv_iconst (v := 2) hx hb dL_way_14 (by decide) ?_
    refine lv_icmp_ne (tgt := 22) hx hb dL_way_15 (by decide) (fun h15 => ?_) (fun h15 => ?_)
    · skip
      refine lv_iload_n hx hb dL_way_22 rfl (lv_at hl 0 rfl) ?_
      refine lv_iconst (v := 4) hx hb dL_way_23 (by decide) ?_
      refine lv_icmp_ne (tgt := 31) hx hb dL_way_24 (by decide) (fun h24 => ?_) (fun h24 => ?_)
      · skip
        refine lv_iconst (v := 0) hx hb dL_way_31 (by decide) ?_
        refine lv_istore_n (lv' := [(3, .int (0 : Int32)), (2, .int (1 : Int32)), (0, .int (1 : Int32)), (1, .int (1 : Int32))]) hx hb dL_way_32 rfl hl (by decide) rfl ?_
        clear hl
        clear ls
        intro ls hl
        refine lv_iload_n hx hb dL_way_33 rfl (lv_at hl 1 rfl) ?_
        refine lv_iconst (v := 1) hx hb dL_way_34 (by decide) ?_
        refine lv_icmp_ne (tgt := 42) hx hb dL_way_35 (by decide) (fun h35 => ?_) (fun h35 => ?_)
        · skip
          exact absurd rfl h35
        · skip
          refine lv_iconst (v := 1) hx hb dL_way_38 (by decide) ?_
          refine lv_goto (tgt := 52) hx hb dL_way_39 (by decide) ?_
          refine lv_istore (lv' := [(4, .int (1 : Int32)), (3, .int (0 : Int32)), (2, .int (1 : Int32)), (0, .int (1 : Int32)), (1, .int (1 : Int32))]) hx hb dL_way_52 hl (by decide) rfl ?_
          clear hl
          clear ls
          intro ls hl
          refine lv_iload_n hx hb dL_way_54 rfl (lv_at hl 2 rfl) ?_
          refine lv_iconst (v := 3) hx hb dL_way_55 (by decide) ?_
          refine lv_icmp_ne (tgt := 63) hx hb dL_way_56 (by decide) (fun h56 => ?_) (fun h56 => ?_)
          · skip
            refine lv_iload_n hx hb dL_way_63 rfl (lv_at hl 2 rfl) ?_
            refine lv_iconst (v := 1) hx hb dL_way_64 (by decide) ?_
            refine lv_icmp_eq (tgt := 73) hx hb dL_way_65 (by decide) (fun h65 => ?_) (fun h65 => ?_)
            · skip
              refine lv_iconst (v := 1) hx hb dL_way_73 (by decide) ?_
              refine lv_goto (tgt := 78) hx hb dL_way_74 (by decide) ?_
              refine lv_istore (lv' := [(5, .int (1 : Int32)), (4, .int (1 : Int32)), (3, .int (0 : Int32)), (2, .int (1 : Int32)), (0, .int (1 : Int32)), (1, .int (1 : Int32))]) hx hb dL_way_78 hl (by decide) rfl ?_
              clear hl
              clear ls
              intro ls hl
              refine lv_iload_n hx hb dL_way_80 rfl (lv_at hl 3 rfl) ?_
              refine lv_iconst (v := 2) hx hb dL_way_81 (by decide) ?_
              refine lv_icmp_eq (tgt := 90) hx hb dL_way_82 (by decide) (fun h82 => ?_) (fun h82 => ?_)
              · skip
                exact absurd h82 (by decide)
              · skip
                refine lv_iload_n hx hb dL_way_85 rfl (lv_at hl 3 rfl) ?_
                refine lv_iconst (v := 4) hx hb dL_way_86 (by decide) ?_
                refine lv_icmp_ne (tgt := 94) hx hb dL_way_87 (by decide) (fun h87 => ?_) (fun h87 => ?_)
                · skip
                  refine lv_iconst (v := 0) hx hb dL_way_94 (by decide) ?_
                  refine lv_istore (lv' := [(6, .int (0 : Int32)), (5, .int (1 : Int32)), (4, .int (1 : Int32)), (3, .int (0 : Int32)), (2, .int (1 : Int32)), (0, .int (1 : Int32)), (1, .int (1 : Int32))]) hx hb dL_way_95 hl (by decide) rfl ?_
                  clear hl
                  clear ls
                  intro ls hl
                  refine lv_iload_n hx hb dL_way_97 rfl (lv_at hl 6 rfl) ?_
                  refine lv_if_ne (tgt := 105) hx hb dL_way_98 (by decide) (fun h98 => ?_) (fun h98 => ?_)
                  · skip
                    refine lv_iload_n hx hb dL_way_105 rfl (lv_at hl 6 rfl) ?_
                    refine lv_iconst (v := 1) hx hb dL_way_106 (by decide) ?_
                    refine lv_icmp_ne (tgt := 115) hx hb dL_way_107 (by decide) (fun h107 => ?_) (fun h107 => ?_)
                    · skip
                      exact absurd rfl h107
                    · skip
                      refine lv_iload hx hb dL_way_110 (lv_at hl 2 rfl) ?_
                      refine lv_goto (tgt := 127) hx hb dL_way_112 (by decide) ?_
                      refine lv_istore (lv' := [(7, .int (1 : Int32)), (6, .int (0 : Int32)), (5, .int (1 : Int32)), (4, .int (1 : Int32)), (3, .int (0 : Int32)), (2, .int (1 : Int32)), (0, .int (1 : Int32)), (1, .int (1 : Int32))]) hx hb dL_way_127 hl (by decide) rfl ?_
                      clear hl
                      clear ls
                      intro ls hl
                      refine lv_iload_n hx hb dL_way_129 rfl (lv_at hl 6 rfl) ?_
                      refine lv_bipush (v := 6) hx hb dL_way_130 (by decide) ?_
                      refine lv_icmp_ge (tgt := 140) hx hb dL_way_132 (by decide) (fun h132 => ?_) (fun h132 => ?_)
                      · skip
                        exact absurd h132 (by decide)
                      · skip
                        refine lv_iload hx hb dL_way_135 (lv_at hl 0 rfl) ?_
                        refine lv_goto (tgt := 143) hx hb dL_way_137 (by decide) ?_
                        exact zreti hF hB () (rfl) (rfl) (rfl) dL_way_143 hQ
                  · skip
                    exact absurd h98 (by decide)
                · skip
                  exact absurd h87 (by decide)
            · skip
              exact absurd (by decide) h65
          · skip
            exact absurd h56 (by decide)
      · skip
        exact absurd h24 (by decide)
    · skip
      exact absurd h15 (by decide)
  · skip
    exact absurd h6 (by decide)

set_option maxHeartbeats 4000000 in
set_option maxRecDepth 100000 in
theorem c_L_way_1_2 (l : Launch) (D : va_G) (ka : Nat → ClassId) (kb : Nat → Nat)   : zI l D ka kb yL_way cL_way 8 .int 0 0 [.int (1 : Int32), .int (2 : Int32)] ([]) (fun (r : Int32) (_ : Unit) => r = (zways.getD 6 0)) (fun (_ : Unit) => []) := by
  refine zI.mk RL (by decide +kernel) rfl (Nat.le_of_ble_eq_true rfl) ?_
  intro p e s m below meth c A ls args Q hQ hx hb hF hB hl
  replace hl : lv_has ls 8 [(0, .int (1 : Int32)), (1, .int (2 : Int32))] := hl
  refine lv_iload_n hx hb dL_way_0 rfl (lv_at hl 0 rfl) ?_
  refine lv_bipush (v := 6) hx hb dL_way_1 (by decide) ?_
  refine lv_irem hx hb dL_way_3 (by decide) ?_
  refine ztopi (y := (1 : Int32)) (by decide) ?_
  refine lv_istore_n (lv' := [(2, .int (1 : Int32)), (0, .int (1 : Int32)), (1, .int (2 : Int32))]) hx hb dL_way_4 rfl hl (by decide) rfl ?_
  clear hl
  clear ls
  intro ls hl
  refine lv_iload_n hx hb dL_way_5 rfl (lv_at hl 0 rfl) ?_
  refine lv_if_ne (tgt := 13) hx hb dL_way_6 (by decide) (fun h6 => ?_) (fun h6 => ?_)
  · skip
    refine lv_iload_n hx hb dL_way_13 rfl (lv_at hl 0 rfl) ?_
    refine lv_iconst (v := 2) hx hb dL_way_14 (by decide) ?_
    refine lv_icmp_ne (tgt := 22) hx hb dL_way_15 (by decide) (fun h15 => ?_) (fun h15 => ?_)
    · skip
      refine lv_iload_n hx hb dL_way_22 rfl (lv_at hl 0 rfl) ?_
      refine lv_iconst (v := 4) hx hb dL_way_23 (by decide) ?_
      refine lv_icmp_ne (tgt := 31) hx hb dL_way_24 (by decide) (fun h24 => ?_) (fun h24 => ?_)
      · skip
        refine lv_iconst (v := 0) hx hb dL_way_31 (by decide) ?_
        refine lv_istore_n (lv' := [(3, .int (0 : Int32)), (2, .int (1 : Int32)), (0, .int (1 : Int32)), (1, .int (2 : Int32))]) hx hb dL_way_32 rfl hl (by decide) rfl ?_
        clear hl
        clear ls
        intro ls hl
        refine lv_iload_n hx hb dL_way_33 rfl (lv_at hl 1 rfl) ?_
        refine lv_iconst (v := 1) hx hb dL_way_34 (by decide) ?_
        refine lv_icmp_ne (tgt := 42) hx hb dL_way_35 (by decide) (fun h35 => ?_) (fun h35 => ?_)
        · skip
          exact absurd rfl h35
        · skip
          refine lv_iconst (v := 1) hx hb dL_way_38 (by decide) ?_
          refine lv_goto (tgt := 52) hx hb dL_way_39 (by decide) ?_
          refine lv_istore (lv' := [(4, .int (1 : Int32)), (3, .int (0 : Int32)), (2, .int (1 : Int32)), (0, .int (1 : Int32)), (1, .int (2 : Int32))]) hx hb dL_way_52 hl (by decide) rfl ?_
          clear hl
          clear ls
          intro ls hl
          refine lv_iload_n hx hb dL_way_54 rfl (lv_at hl 2 rfl) ?_
          refine lv_iconst (v := 3) hx hb dL_way_55 (by decide) ?_
          refine lv_icmp_ne (tgt := 63) hx hb dL_way_56 (by decide) (fun h56 => ?_) (fun h56 => ?_)
          · skip
            refine lv_iload_n hx hb dL_way_63 rfl (lv_at hl 2 rfl) ?_
            refine lv_iconst (v := 1) hx hb dL_way_64 (by decide) ?_
            refine lv_icmp_eq (tgt := 73) hx hb dL_way_65 (by decide) (fun h65 => ?_) (fun h65 => ?_)
            · skip
              refine lv_iconst (v := 1) hx hb dL_way_73 (by decide) ?_
              refine lv_goto (tgt := 78) hx hb dL_way_74 (by decide) ?_
              refine lv_istore (lv' := [(5, .int (1 : Int32)), (4, .int (1 : Int32)), (3, .int (0 : Int32)), (2, .int (1 : Int32)), (0, .int (1 : Int32)), (1, .int (2 : Int32))]) hx hb dL_way_78 hl (by decide) rfl ?_
              clear hl
              clear ls
              intro ls hl
              refine lv_iload_n hx hb dL_way_80 rfl (lv_at hl 3 rfl) ?_
              refine lv_iconst (v := 2) hx hb dL_way_81 (by decide) ?_
              refine lv_icmp_eq (tgt := 90) hx hb dL_way_82 (by decide) (fun h82 => ?_) (fun h82 => ?_)
              · skip
                exact absurd h82 (by decide)
              · skip
                refine lv_iload_n hx hb dL_way_85 rfl (lv_at hl 3 rfl) ?_
                refine lv_iconst (v := 4) hx hb dL_way_86 (by decide) ?_
                refine lv_icmp_ne (tgt := 94) hx hb dL_way_87 (by decide) (fun h87 => ?_) (fun h87 => ?_)
                · skip
                  refine lv_iconst (v := 0) hx hb dL_way_94 (by decide) ?_
                  refine lv_istore (lv' := [(6, .int (0 : Int32)), (5, .int (1 : Int32)), (4, .int (1 : Int32)), (3, .int (0 : Int32)), (2, .int (1 : Int32)), (0, .int (1 : Int32)), (1, .int (2 : Int32))]) hx hb dL_way_95 hl (by decide) rfl ?_
                  clear hl
                  clear ls
                  intro ls hl
                  refine lv_iload_n hx hb dL_way_97 rfl (lv_at hl 6 rfl) ?_
                  refine lv_if_ne (tgt := 105) hx hb dL_way_98 (by decide) (fun h98 => ?_) (fun h98 => ?_)
                  · skip
                    refine lv_iload_n hx hb dL_way_105 rfl (lv_at hl 6 rfl) ?_
                    refine lv_iconst (v := 1) hx hb dL_way_106 (by decide) ?_
                    refine lv_icmp_ne (tgt := 115) hx hb dL_way_107 (by decide) (fun h107 => ?_) (fun h107 => ?_)
                    · skip
                      refine lv_iload_n hx hb dL_way_115 rfl (lv_at hl 6 rfl) ?_
                      refine lv_iconst (v := 2) hx hb dL_way_116 (by decide) ?_
                      refine lv_icmp_ne (tgt := 125) hx hb dL_way_117 (by decide) (fun h117 => ?_) (fun h117 => ?_)
                      · skip
                        exact absurd rfl h117
                      · skip
                        refine lv_iload hx hb dL_way_120 (lv_at hl 1 rfl) ?_
                        refine lv_goto (tgt := 127) hx hb dL_way_122 (by decide) ?_
                        refine lv_istore (lv' := [(7, .int (1 : Int32)), (6, .int (0 : Int32)), (5, .int (1 : Int32)), (4, .int (1 : Int32)), (3, .int (0 : Int32)), (2, .int (1 : Int32)), (0, .int (1 : Int32)), (1, .int (2 : Int32))]) hx hb dL_way_127 hl (by decide) rfl ?_
                        clear hl
                        clear ls
                        intro ls hl
                        refine lv_iload_n hx hb dL_way_129 rfl (lv_at hl 6 rfl) ?_
                        refine lv_bipush (v := 6) hx hb dL_way_130 (by decide) ?_
                        refine lv_icmp_ge (tgt := 140) hx hb dL_way_132 (by decide) (fun h132 => ?_) (fun h132 => ?_)
                        · skip
                          exact absurd h132 (by decide)
                        · skip
                          refine lv_iload hx hb dL_way_135 (lv_at hl 0 rfl) ?_
                          refine lv_goto (tgt := 143) hx hb dL_way_137 (by decide) ?_
                          exact zreti hF hB () (rfl) (rfl) (rfl) dL_way_143 hQ
                    · skip
                      exact absurd h107 (by decide)
                  · skip
                    exact absurd h98 (by decide)
                · skip
                  exact absurd h87 (by decide)
            · skip
              exact absurd (by decide) h65
          · skip
            exact absurd h56 (by decide)
      · skip
        exact absurd h24 (by decide)
    · skip
      exact absurd h15 (by decide)
  · skip
    exact absurd h6 (by decide)

set_option maxHeartbeats 4000000 in
set_option maxRecDepth 100000 in
theorem c_L_way_1_3 (l : Launch) (D : va_G) (ka : Nat → ClassId) (kb : Nat → Nat)   : zI l D ka kb yL_way cL_way 8 .int 0 0 [.int (1 : Int32), .int (3 : Int32)] ([]) (fun (r : Int32) (_ : Unit) => r = (zways.getD 7 0)) (fun (_ : Unit) => []) := by
  refine zI.mk RL (by decide +kernel) rfl (Nat.le_of_ble_eq_true rfl) ?_
  intro p e s m below meth c A ls args Q hQ hx hb hF hB hl
  replace hl : lv_has ls 8 [(0, .int (1 : Int32)), (1, .int (3 : Int32))] := hl
  refine lv_iload_n hx hb dL_way_0 rfl (lv_at hl 0 rfl) ?_
  refine lv_bipush (v := 6) hx hb dL_way_1 (by decide) ?_
  refine lv_irem hx hb dL_way_3 (by decide) ?_
  refine ztopi (y := (1 : Int32)) (by decide) ?_
  refine lv_istore_n (lv' := [(2, .int (1 : Int32)), (0, .int (1 : Int32)), (1, .int (3 : Int32))]) hx hb dL_way_4 rfl hl (by decide) rfl ?_
  clear hl
  clear ls
  intro ls hl
  refine lv_iload_n hx hb dL_way_5 rfl (lv_at hl 0 rfl) ?_
  refine lv_if_ne (tgt := 13) hx hb dL_way_6 (by decide) (fun h6 => ?_) (fun h6 => ?_)
  · skip
    refine lv_iload_n hx hb dL_way_13 rfl (lv_at hl 0 rfl) ?_
    refine lv_iconst (v := 2) hx hb dL_way_14 (by decide) ?_
    refine lv_icmp_ne (tgt := 22) hx hb dL_way_15 (by decide) (fun h15 => ?_) (fun h15 => ?_)
    · skip
      refine lv_iload_n hx hb dL_way_22 rfl (lv_at hl 0 rfl) ?_
      refine lv_iconst (v := 4) hx hb dL_way_23 (by decide) ?_
      refine lv_icmp_ne (tgt := 31) hx hb dL_way_24 (by decide) (fun h24 => ?_) (fun h24 => ?_)
      · skip
        refine lv_iconst (v := 0) hx hb dL_way_31 (by decide) ?_
        refine lv_istore_n (lv' := [(3, .int (0 : Int32)), (2, .int (1 : Int32)), (0, .int (1 : Int32)), (1, .int (3 : Int32))]) hx hb dL_way_32 rfl hl (by decide) rfl ?_
        clear hl
        clear ls
        intro ls hl
        refine lv_iload_n hx hb dL_way_33 rfl (lv_at hl 1 rfl) ?_
        refine lv_iconst (v := 1) hx hb dL_way_34 (by decide) ?_
        refine lv_icmp_ne (tgt := 42) hx hb dL_way_35 (by decide) (fun h35 => ?_) (fun h35 => ?_)
        · skip
          exact absurd rfl h35
        · skip
          refine lv_iconst (v := 1) hx hb dL_way_38 (by decide) ?_
          refine lv_goto (tgt := 52) hx hb dL_way_39 (by decide) ?_
          refine lv_istore (lv' := [(4, .int (1 : Int32)), (3, .int (0 : Int32)), (2, .int (1 : Int32)), (0, .int (1 : Int32)), (1, .int (3 : Int32))]) hx hb dL_way_52 hl (by decide) rfl ?_
          clear hl
          clear ls
          intro ls hl
          refine lv_iload_n hx hb dL_way_54 rfl (lv_at hl 2 rfl) ?_
          refine lv_iconst (v := 3) hx hb dL_way_55 (by decide) ?_
          refine lv_icmp_ne (tgt := 63) hx hb dL_way_56 (by decide) (fun h56 => ?_) (fun h56 => ?_)
          · skip
            refine lv_iload_n hx hb dL_way_63 rfl (lv_at hl 2 rfl) ?_
            refine lv_iconst (v := 1) hx hb dL_way_64 (by decide) ?_
            refine lv_icmp_eq (tgt := 73) hx hb dL_way_65 (by decide) (fun h65 => ?_) (fun h65 => ?_)
            · skip
              refine lv_iconst (v := 1) hx hb dL_way_73 (by decide) ?_
              refine lv_goto (tgt := 78) hx hb dL_way_74 (by decide) ?_
              refine lv_istore (lv' := [(5, .int (1 : Int32)), (4, .int (1 : Int32)), (3, .int (0 : Int32)), (2, .int (1 : Int32)), (0, .int (1 : Int32)), (1, .int (3 : Int32))]) hx hb dL_way_78 hl (by decide) rfl ?_
              clear hl
              clear ls
              intro ls hl
              refine lv_iload_n hx hb dL_way_80 rfl (lv_at hl 3 rfl) ?_
              refine lv_iconst (v := 2) hx hb dL_way_81 (by decide) ?_
              refine lv_icmp_eq (tgt := 90) hx hb dL_way_82 (by decide) (fun h82 => ?_) (fun h82 => ?_)
              · skip
                exact absurd h82 (by decide)
              · skip
                refine lv_iload_n hx hb dL_way_85 rfl (lv_at hl 3 rfl) ?_
                refine lv_iconst (v := 4) hx hb dL_way_86 (by decide) ?_
                refine lv_icmp_ne (tgt := 94) hx hb dL_way_87 (by decide) (fun h87 => ?_) (fun h87 => ?_)
                · skip
                  refine lv_iconst (v := 0) hx hb dL_way_94 (by decide) ?_
                  refine lv_istore (lv' := [(6, .int (0 : Int32)), (5, .int (1 : Int32)), (4, .int (1 : Int32)), (3, .int (0 : Int32)), (2, .int (1 : Int32)), (0, .int (1 : Int32)), (1, .int (3 : Int32))]) hx hb dL_way_95 hl (by decide) rfl ?_
                  clear hl
                  clear ls
                  intro ls hl
                  refine lv_iload_n hx hb dL_way_97 rfl (lv_at hl 6 rfl) ?_
                  refine lv_if_ne (tgt := 105) hx hb dL_way_98 (by decide) (fun h98 => ?_) (fun h98 => ?_)
                  · skip
                    refine lv_iload_n hx hb dL_way_105 rfl (lv_at hl 6 rfl) ?_
                    refine lv_iconst (v := 1) hx hb dL_way_106 (by decide) ?_
                    refine lv_icmp_ne (tgt := 115) hx hb dL_way_107 (by decide) (fun h107 => ?_) (fun h107 => ?_)
                    · skip
                      refine lv_iload_n hx hb dL_way_115 rfl (lv_at hl 6 rfl) ?_
                      refine lv_iconst (v := 2) hx hb dL_way_116 (by decide) ?_
                      refine lv_icmp_ne (tgt := 125) hx hb dL_way_117 (by decide) (fun h117 => ?_) (fun h117 => ?_)
                      · skip
                        refine lv_iload hx hb dL_way_125 (lv_at hl 0 rfl) ?_
                        refine lv_istore (lv' := [(7, .int (0 : Int32)), (6, .int (0 : Int32)), (5, .int (1 : Int32)), (4, .int (1 : Int32)), (3, .int (0 : Int32)), (2, .int (1 : Int32)), (0, .int (1 : Int32)), (1, .int (3 : Int32))]) hx hb dL_way_127 hl (by decide) rfl ?_
                        clear hl
                        clear ls
                        intro ls hl
                        refine lv_iload_n hx hb dL_way_129 rfl (lv_at hl 6 rfl) ?_
                        refine lv_bipush (v := 6) hx hb dL_way_130 (by decide) ?_
                        refine lv_icmp_ge (tgt := 140) hx hb dL_way_132 (by decide) (fun h132 => ?_) (fun h132 => ?_)
                        · skip
                          exact absurd h132 (by decide)
                        · skip
                          refine lv_iload hx hb dL_way_135 (lv_at hl 0 rfl) ?_
                          refine lv_goto (tgt := 143) hx hb dL_way_137 (by decide) ?_
                          exact zreti hF hB () (rfl) (rfl) (rfl) dL_way_143 hQ
                      · skip
                        exact absurd h117 (by decide)
                    · skip
                      exact absurd h107 (by decide)
                  · skip
                    exact absurd h98 (by decide)
                · skip
                  exact absurd h87 (by decide)
            · skip
              exact absurd (by decide) h65
          · skip
            exact absurd h56 (by decide)
      · skip
        exact absurd h24 (by decide)
    · skip
      exact absurd h15 (by decide)
  · skip
    exact absurd h6 (by decide)

set_option maxHeartbeats 4000000 in
set_option maxRecDepth 100000 in
theorem c_L_way_2_0 (l : Launch) (D : va_G) (ka : Nat → ClassId) (kb : Nat → Nat)   : zI l D ka kb yL_way cL_way 8 .int 0 0 [.int (2 : Int32), .int (0 : Int32)] ([]) (fun (r : Int32) (_ : Unit) => r = (zways.getD 8 0)) (fun (_ : Unit) => []) := by
  refine zI.mk RL (by decide +kernel) rfl (Nat.le_of_ble_eq_true rfl) ?_
  intro p e s m below meth c A ls args Q hQ hx hb hF hB hl
  replace hl : lv_has ls 8 [(0, .int (2 : Int32)), (1, .int (0 : Int32))] := hl
  refine lv_iload_n hx hb dL_way_0 rfl (lv_at hl 0 rfl) ?_
  refine lv_bipush (v := 6) hx hb dL_way_1 (by decide) ?_
  refine lv_irem hx hb dL_way_3 (by decide) ?_
  refine ztopi (y := (2 : Int32)) (by decide) ?_
  refine lv_istore_n (lv' := [(2, .int (2 : Int32)), (0, .int (2 : Int32)), (1, .int (0 : Int32))]) hx hb dL_way_4 rfl hl (by decide) rfl ?_
  clear hl
  clear ls
  intro ls hl
  refine lv_iload_n hx hb dL_way_5 rfl (lv_at hl 0 rfl) ?_
  refine lv_if_ne (tgt := 13) hx hb dL_way_6 (by decide) (fun h6 => ?_) (fun h6 => ?_)
  · skip
    refine lv_iload_n hx hb dL_way_13 rfl (lv_at hl 0 rfl) ?_
    refine lv_iconst (v := 2) hx hb dL_way_14 (by decide) ?_
    refine lv_icmp_ne (tgt := 22) hx hb dL_way_15 (by decide) (fun h15 => ?_) (fun h15 => ?_)
    · skip
      exact absurd rfl h15
    · skip
      refine lv_iconst (v := 1) hx hb dL_way_18 (by decide) ?_
      refine lv_goto (tgt := 32) hx hb dL_way_19 (by decide) ?_
      refine lv_istore_n (lv' := [(3, .int (1 : Int32)), (2, .int (2 : Int32)), (0, .int (2 : Int32)), (1, .int (0 : Int32))]) hx hb dL_way_32 rfl hl (by decide) rfl ?_
      clear hl
      clear ls
      intro ls hl
      refine lv_iload_n hx hb dL_way_33 rfl (lv_at hl 1 rfl) ?_
      refine lv_iconst (v := 1) hx hb dL_way_34 (by decide) ?_
      refine lv_icmp_ne (tgt := 42) hx hb dL_way_35 (by decide) (fun h35 => ?_) (fun h35 => ?_)
      · skip
        refine lv_iload_n hx hb dL_way_42 rfl (lv_at hl 1 rfl) ?_
        refine lv_iconst (v := 5) hx hb dL_way_43 (by decide) ?_
        refine lv_icmp_ne (tgt := 51) hx hb dL_way_44 (by decide) (fun h44 => ?_) (fun h44 => ?_)
        · skip
          refine lv_iconst (v := 0) hx hb dL_way_51 (by decide) ?_
          refine lv_istore (lv' := [(4, .int (0 : Int32)), (3, .int (1 : Int32)), (2, .int (2 : Int32)), (0, .int (2 : Int32)), (1, .int (0 : Int32))]) hx hb dL_way_52 hl (by decide) rfl ?_
          clear hl
          clear ls
          intro ls hl
          refine lv_iload_n hx hb dL_way_54 rfl (lv_at hl 2 rfl) ?_
          refine lv_iconst (v := 3) hx hb dL_way_55 (by decide) ?_
          refine lv_icmp_ne (tgt := 63) hx hb dL_way_56 (by decide) (fun h56 => ?_) (fun h56 => ?_)
          · skip
            refine lv_iload_n hx hb dL_way_63 rfl (lv_at hl 2 rfl) ?_
            refine lv_iconst (v := 1) hx hb dL_way_64 (by decide) ?_
            refine lv_icmp_eq (tgt := 73) hx hb dL_way_65 (by decide) (fun h65 => ?_) (fun h65 => ?_)
            · skip
              exact absurd h65 (by decide)
            · skip
              refine lv_iload_n hx hb dL_way_68 rfl (lv_at hl 2 rfl) ?_
              refine lv_iconst (v := 5) hx hb dL_way_69 (by decide) ?_
              refine lv_icmp_ne (tgt := 77) hx hb dL_way_70 (by decide) (fun h70 => ?_) (fun h70 => ?_)
              · skip
                refine lv_iconst (v := 0) hx hb dL_way_77 (by decide) ?_
                refine lv_istore (lv' := [(5, .int (0 : Int32)), (4, .int (0 : Int32)), (3, .int (1 : Int32)), (2, .int (2 : Int32)), (0, .int (2 : Int32)), (1, .int (0 : Int32))]) hx hb dL_way_78 hl (by decide) rfl ?_
                clear hl
                clear ls
                intro ls hl
                refine lv_iload_n hx hb dL_way_80 rfl (lv_at hl 3 rfl) ?_
                refine lv_iconst (v := 2) hx hb dL_way_81 (by decide) ?_
                refine lv_icmp_eq (tgt := 90) hx hb dL_way_82 (by decide) (fun h82 => ?_) (fun h82 => ?_)
                · skip
                  refine lv_iconst (v := 1) hx hb dL_way_90 (by decide) ?_
                  refine lv_goto (tgt := 95) hx hb dL_way_91 (by decide) ?_
                  refine lv_istore (lv' := [(6, .int (1 : Int32)), (5, .int (0 : Int32)), (4, .int (0 : Int32)), (3, .int (1 : Int32)), (2, .int (2 : Int32)), (0, .int (2 : Int32)), (1, .int (0 : Int32))]) hx hb dL_way_95 hl (by decide) rfl ?_
                  clear hl
                  clear ls
                  intro ls hl
                  refine lv_iload_n hx hb dL_way_97 rfl (lv_at hl 6 rfl) ?_
                  refine lv_if_ne (tgt := 105) hx hb dL_way_98 (by decide) (fun h98 => ?_) (fun h98 => ?_)
                  · skip
                    exact absurd (by decide) h98
                  · skip
                    refine lv_iload_n hx hb dL_way_101 rfl (lv_at hl 3 rfl) ?_
                    refine lv_goto (tgt := 127) hx hb dL_way_102 (by decide) ?_
                    refine lv_istore (lv' := [(7, .int (1 : Int32)), (6, .int (1 : Int32)), (5, .int (0 : Int32)), (4, .int (0 : Int32)), (3, .int (1 : Int32)), (2, .int (2 : Int32)), (0, .int (2 : Int32)), (1, .int (0 : Int32))]) hx hb dL_way_127 hl (by decide) rfl ?_
                    clear hl
                    clear ls
                    intro ls hl
                    refine lv_iload_n hx hb dL_way_129 rfl (lv_at hl 6 rfl) ?_
                    refine lv_bipush (v := 6) hx hb dL_way_130 (by decide) ?_
                    refine lv_icmp_ge (tgt := 140) hx hb dL_way_132 (by decide) (fun h132 => ?_) (fun h132 => ?_)
                    · skip
                      exact absurd h132 (by decide)
                    · skip
                      refine lv_iload hx hb dL_way_135 (lv_at hl 0 rfl) ?_
                      refine lv_goto (tgt := 143) hx hb dL_way_137 (by decide) ?_
                      exact zreti hF hB () (rfl) (rfl) (rfl) dL_way_143 hQ
                · skip
                  exact absurd (by decide) h82
              · skip
                exact absurd h70 (by decide)
          · skip
            exact absurd h56 (by decide)
        · skip
          exact absurd h44 (by decide)
      · skip
        exact absurd h35 (by decide)
  · skip
    exact absurd h6 (by decide)

set_option maxHeartbeats 4000000 in
set_option maxRecDepth 100000 in
theorem c_L_way_2_1 (l : Launch) (D : va_G) (ka : Nat → ClassId) (kb : Nat → Nat)   : zI l D ka kb yL_way cL_way 8 .int 0 0 [.int (2 : Int32), .int (1 : Int32)] ([]) (fun (r : Int32) (_ : Unit) => r = (zways.getD 9 0)) (fun (_ : Unit) => []) := by
  refine zI.mk RL (by decide +kernel) rfl (Nat.le_of_ble_eq_true rfl) ?_
  intro p e s m below meth c A ls args Q hQ hx hb hF hB hl
  replace hl : lv_has ls 8 [(0, .int (2 : Int32)), (1, .int (1 : Int32))] := hl
  refine lv_iload_n hx hb dL_way_0 rfl (lv_at hl 0 rfl) ?_
  refine lv_bipush (v := 6) hx hb dL_way_1 (by decide) ?_
  refine lv_irem hx hb dL_way_3 (by decide) ?_
  refine ztopi (y := (2 : Int32)) (by decide) ?_
  refine lv_istore_n (lv' := [(2, .int (2 : Int32)), (0, .int (2 : Int32)), (1, .int (1 : Int32))]) hx hb dL_way_4 rfl hl (by decide) rfl ?_
  clear hl
  clear ls
  intro ls hl
  refine lv_iload_n hx hb dL_way_5 rfl (lv_at hl 0 rfl) ?_
  refine lv_if_ne (tgt := 13) hx hb dL_way_6 (by decide) (fun h6 => ?_) (fun h6 => ?_)
  · skip
    refine lv_iload_n hx hb dL_way_13 rfl (lv_at hl 0 rfl) ?_
    refine lv_iconst (v := 2) hx hb dL_way_14 (by decide) ?_
    refine lv_icmp_ne (tgt := 22) hx hb dL_way_15 (by decide) (fun h15 => ?_) (fun h15 => ?_)
    · skip
      exact absurd rfl h15
    · skip
      refine lv_iconst (v := 1) hx hb dL_way_18 (by decide) ?_
      refine lv_goto (tgt := 32) hx hb dL_way_19 (by decide) ?_
      refine lv_istore_n (lv' := [(3, .int (1 : Int32)), (2, .int (2 : Int32)), (0, .int (2 : Int32)), (1, .int (1 : Int32))]) hx hb dL_way_32 rfl hl (by decide) rfl ?_
      clear hl
      clear ls
      intro ls hl
      refine lv_iload_n hx hb dL_way_33 rfl (lv_at hl 1 rfl) ?_
      refine lv_iconst (v := 1) hx hb dL_way_34 (by decide) ?_
      refine lv_icmp_ne (tgt := 42) hx hb dL_way_35 (by decide) (fun h35 => ?_) (fun h35 => ?_)
      · skip
        refine lv_iload_n hx hb dL_way_42 rfl (lv_at hl 1 rfl) ?_
        refine lv_iconst (v := 5) hx hb dL_way_43 (by decide) ?_
        refine lv_icmp_ne (tgt := 51) hx hb dL_way_44 (by decide) (fun h44 => ?_) (fun h44 => ?_)
        · skip
          refine lv_iconst (v := 0) hx hb dL_way_51 (by decide) ?_
          refine lv_istore (lv' := [(4, .int (0 : Int32)), (3, .int (1 : Int32)), (2, .int (2 : Int32)), (0, .int (2 : Int32)), (1, .int (1 : Int32))]) hx hb dL_way_52 hl (by decide) rfl ?_
          clear hl
          clear ls
          intro ls hl
          refine lv_iload_n hx hb dL_way_54 rfl (lv_at hl 2 rfl) ?_
          refine lv_iconst (v := 3) hx hb dL_way_55 (by decide) ?_
          refine lv_icmp_ne (tgt := 63) hx hb dL_way_56 (by decide) (fun h56 => ?_) (fun h56 => ?_)
          · skip
            refine lv_iload_n hx hb dL_way_63 rfl (lv_at hl 2 rfl) ?_
            refine lv_iconst (v := 1) hx hb dL_way_64 (by decide) ?_
            refine lv_icmp_eq (tgt := 73) hx hb dL_way_65 (by decide) (fun h65 => ?_) (fun h65 => ?_)
            · skip
              exact absurd h65 (by decide)
            · skip
              refine lv_iload_n hx hb dL_way_68 rfl (lv_at hl 2 rfl) ?_
              refine lv_iconst (v := 5) hx hb dL_way_69 (by decide) ?_
              refine lv_icmp_ne (tgt := 77) hx hb dL_way_70 (by decide) (fun h70 => ?_) (fun h70 => ?_)
              · skip
                refine lv_iconst (v := 0) hx hb dL_way_77 (by decide) ?_
                refine lv_istore (lv' := [(5, .int (0 : Int32)), (4, .int (0 : Int32)), (3, .int (1 : Int32)), (2, .int (2 : Int32)), (0, .int (2 : Int32)), (1, .int (1 : Int32))]) hx hb dL_way_78 hl (by decide) rfl ?_
                clear hl
                clear ls
                intro ls hl
                refine lv_iload_n hx hb dL_way_80 rfl (lv_at hl 3 rfl) ?_
                refine lv_iconst (v := 2) hx hb dL_way_81 (by decide) ?_
                refine lv_icmp_eq (tgt := 90) hx hb dL_way_82 (by decide) (fun h82 => ?_) (fun h82 => ?_)
                · skip
                  refine lv_iconst (v := 1) hx hb dL_way_90 (by decide) ?_
                  refine lv_goto (tgt := 95) hx hb dL_way_91 (by decide) ?_
                  refine lv_istore (lv' := [(6, .int (1 : Int32)), (5, .int (0 : Int32)), (4, .int (0 : Int32)), (3, .int (1 : Int32)), (2, .int (2 : Int32)), (0, .int (2 : Int32)), (1, .int (1 : Int32))]) hx hb dL_way_95 hl (by decide) rfl ?_
                  clear hl
                  clear ls
                  intro ls hl
                  refine lv_iload_n hx hb dL_way_97 rfl (lv_at hl 6 rfl) ?_
                  refine lv_if_ne (tgt := 105) hx hb dL_way_98 (by decide) (fun h98 => ?_) (fun h98 => ?_)
                  · skip
                    refine lv_iload_n hx hb dL_way_105 rfl (lv_at hl 6 rfl) ?_
                    refine lv_iconst (v := 1) hx hb dL_way_106 (by decide) ?_
                    refine lv_icmp_ne (tgt := 115) hx hb dL_way_107 (by decide) (fun h107 => ?_) (fun h107 => ?_)
                    · skip
                      exact absurd rfl h107
                    · skip
                      refine lv_iload hx hb dL_way_110 (lv_at hl 2 rfl) ?_
                      refine lv_goto (tgt := 127) hx hb dL_way_112 (by decide) ?_
                      refine lv_istore (lv' := [(7, .int (0 : Int32)), (6, .int (1 : Int32)), (5, .int (0 : Int32)), (4, .int (0 : Int32)), (3, .int (1 : Int32)), (2, .int (2 : Int32)), (0, .int (2 : Int32)), (1, .int (1 : Int32))]) hx hb dL_way_127 hl (by decide) rfl ?_
                      clear hl
                      clear ls
                      intro ls hl
                      refine lv_iload_n hx hb dL_way_129 rfl (lv_at hl 6 rfl) ?_
                      refine lv_bipush (v := 6) hx hb dL_way_130 (by decide) ?_
                      refine lv_icmp_ge (tgt := 140) hx hb dL_way_132 (by decide) (fun h132 => ?_) (fun h132 => ?_)
                      · skip
                        exact absurd h132 (by decide)
                      · skip
                        refine lv_iload hx hb dL_way_135 (lv_at hl 0 rfl) ?_
                        refine lv_goto (tgt := 143) hx hb dL_way_137 (by decide) ?_
                        exact zreti hF hB () (rfl) (rfl) (rfl) dL_way_143 hQ
                  · skip
                    exact absurd h98 (by decide)
                · skip
                  exact absurd (by decide) h82
              · skip
                exact absurd h70 (by decide)
          · skip
            exact absurd h56 (by decide)
        · skip
          exact absurd h44 (by decide)
      · skip
        exact absurd h35 (by decide)
  · skip
    exact absurd h6 (by decide)

set_option maxHeartbeats 4000000 in
set_option maxRecDepth 100000 in
theorem c_L_way_2_2 (l : Launch) (D : va_G) (ka : Nat → ClassId) (kb : Nat → Nat)   : zI l D ka kb yL_way cL_way 8 .int 0 0 [.int (2 : Int32), .int (2 : Int32)] ([]) (fun (r : Int32) (_ : Unit) => r = (zways.getD 10 0)) (fun (_ : Unit) => []) := by
  refine zI.mk RL (by decide +kernel) rfl (Nat.le_of_ble_eq_true rfl) ?_
  intro p e s m below meth c A ls args Q hQ hx hb hF hB hl
  replace hl : lv_has ls 8 [(0, .int (2 : Int32)), (1, .int (2 : Int32))] := hl
  refine lv_iload_n hx hb dL_way_0 rfl (lv_at hl 0 rfl) ?_
  refine lv_bipush (v := 6) hx hb dL_way_1 (by decide) ?_
  refine lv_irem hx hb dL_way_3 (by decide) ?_
  refine ztopi (y := (2 : Int32)) (by decide) ?_
  refine lv_istore_n (lv' := [(2, .int (2 : Int32)), (0, .int (2 : Int32)), (1, .int (2 : Int32))]) hx hb dL_way_4 rfl hl (by decide) rfl ?_
  clear hl
  clear ls
  intro ls hl
  refine lv_iload_n hx hb dL_way_5 rfl (lv_at hl 0 rfl) ?_
  refine lv_if_ne (tgt := 13) hx hb dL_way_6 (by decide) (fun h6 => ?_) (fun h6 => ?_)
  · skip
    refine lv_iload_n hx hb dL_way_13 rfl (lv_at hl 0 rfl) ?_
    refine lv_iconst (v := 2) hx hb dL_way_14 (by decide) ?_
    refine lv_icmp_ne (tgt := 22) hx hb dL_way_15 (by decide) (fun h15 => ?_) (fun h15 => ?_)
    · skip
      exact absurd rfl h15
    · skip
      refine lv_iconst (v := 1) hx hb dL_way_18 (by decide) ?_
      refine lv_goto (tgt := 32) hx hb dL_way_19 (by decide) ?_
      refine lv_istore_n (lv' := [(3, .int (1 : Int32)), (2, .int (2 : Int32)), (0, .int (2 : Int32)), (1, .int (2 : Int32))]) hx hb dL_way_32 rfl hl (by decide) rfl ?_
      clear hl
      clear ls
      intro ls hl
      refine lv_iload_n hx hb dL_way_33 rfl (lv_at hl 1 rfl) ?_
      refine lv_iconst (v := 1) hx hb dL_way_34 (by decide) ?_
      refine lv_icmp_ne (tgt := 42) hx hb dL_way_35 (by decide) (fun h35 => ?_) (fun h35 => ?_)
      · skip
        refine lv_iload_n hx hb dL_way_42 rfl (lv_at hl 1 rfl) ?_
        refine lv_iconst (v := 5) hx hb dL_way_43 (by decide) ?_
        refine lv_icmp_ne (tgt := 51) hx hb dL_way_44 (by decide) (fun h44 => ?_) (fun h44 => ?_)
        · skip
          refine lv_iconst (v := 0) hx hb dL_way_51 (by decide) ?_
          refine lv_istore (lv' := [(4, .int (0 : Int32)), (3, .int (1 : Int32)), (2, .int (2 : Int32)), (0, .int (2 : Int32)), (1, .int (2 : Int32))]) hx hb dL_way_52 hl (by decide) rfl ?_
          clear hl
          clear ls
          intro ls hl
          refine lv_iload_n hx hb dL_way_54 rfl (lv_at hl 2 rfl) ?_
          refine lv_iconst (v := 3) hx hb dL_way_55 (by decide) ?_
          refine lv_icmp_ne (tgt := 63) hx hb dL_way_56 (by decide) (fun h56 => ?_) (fun h56 => ?_)
          · skip
            refine lv_iload_n hx hb dL_way_63 rfl (lv_at hl 2 rfl) ?_
            refine lv_iconst (v := 1) hx hb dL_way_64 (by decide) ?_
            refine lv_icmp_eq (tgt := 73) hx hb dL_way_65 (by decide) (fun h65 => ?_) (fun h65 => ?_)
            · skip
              exact absurd h65 (by decide)
            · skip
              refine lv_iload_n hx hb dL_way_68 rfl (lv_at hl 2 rfl) ?_
              refine lv_iconst (v := 5) hx hb dL_way_69 (by decide) ?_
              refine lv_icmp_ne (tgt := 77) hx hb dL_way_70 (by decide) (fun h70 => ?_) (fun h70 => ?_)
              · skip
                refine lv_iconst (v := 0) hx hb dL_way_77 (by decide) ?_
                refine lv_istore (lv' := [(5, .int (0 : Int32)), (4, .int (0 : Int32)), (3, .int (1 : Int32)), (2, .int (2 : Int32)), (0, .int (2 : Int32)), (1, .int (2 : Int32))]) hx hb dL_way_78 hl (by decide) rfl ?_
                clear hl
                clear ls
                intro ls hl
                refine lv_iload_n hx hb dL_way_80 rfl (lv_at hl 3 rfl) ?_
                refine lv_iconst (v := 2) hx hb dL_way_81 (by decide) ?_
                refine lv_icmp_eq (tgt := 90) hx hb dL_way_82 (by decide) (fun h82 => ?_) (fun h82 => ?_)
                · skip
                  refine lv_iconst (v := 1) hx hb dL_way_90 (by decide) ?_
                  refine lv_goto (tgt := 95) hx hb dL_way_91 (by decide) ?_
                  refine lv_istore (lv' := [(6, .int (1 : Int32)), (5, .int (0 : Int32)), (4, .int (0 : Int32)), (3, .int (1 : Int32)), (2, .int (2 : Int32)), (0, .int (2 : Int32)), (1, .int (2 : Int32))]) hx hb dL_way_95 hl (by decide) rfl ?_
                  clear hl
                  clear ls
                  intro ls hl
                  refine lv_iload_n hx hb dL_way_97 rfl (lv_at hl 6 rfl) ?_
                  refine lv_if_ne (tgt := 105) hx hb dL_way_98 (by decide) (fun h98 => ?_) (fun h98 => ?_)
                  · skip
                    refine lv_iload_n hx hb dL_way_105 rfl (lv_at hl 6 rfl) ?_
                    refine lv_iconst (v := 1) hx hb dL_way_106 (by decide) ?_
                    refine lv_icmp_ne (tgt := 115) hx hb dL_way_107 (by decide) (fun h107 => ?_) (fun h107 => ?_)
                    · skip
                      refine lv_iload_n hx hb dL_way_115 rfl (lv_at hl 6 rfl) ?_
                      refine lv_iconst (v := 2) hx hb dL_way_116 (by decide) ?_
                      refine lv_icmp_ne (tgt := 125) hx hb dL_way_117 (by decide) (fun h117 => ?_) (fun h117 => ?_)
                      · skip
                        exact absurd rfl h117
                      · skip
                        refine lv_iload hx hb dL_way_120 (lv_at hl 1 rfl) ?_
                        refine lv_goto (tgt := 127) hx hb dL_way_122 (by decide) ?_
                        refine lv_istore (lv' := [(7, .int (0 : Int32)), (6, .int (1 : Int32)), (5, .int (0 : Int32)), (4, .int (0 : Int32)), (3, .int (1 : Int32)), (2, .int (2 : Int32)), (0, .int (2 : Int32)), (1, .int (2 : Int32))]) hx hb dL_way_127 hl (by decide) rfl ?_
                        clear hl
                        clear ls
                        intro ls hl
                        refine lv_iload_n hx hb dL_way_129 rfl (lv_at hl 6 rfl) ?_
                        refine lv_bipush (v := 6) hx hb dL_way_130 (by decide) ?_
                        refine lv_icmp_ge (tgt := 140) hx hb dL_way_132 (by decide) (fun h132 => ?_) (fun h132 => ?_)
                        · skip
                          exact absurd h132 (by decide)
                        · skip
                          refine lv_iload hx hb dL_way_135 (lv_at hl 0 rfl) ?_
                          refine lv_goto (tgt := 143) hx hb dL_way_137 (by decide) ?_
                          exact zreti hF hB () (rfl) (rfl) (rfl) dL_way_143 hQ
                    · skip
                      exact absurd h107 (by decide)
                  · skip
                    exact absurd h98 (by decide)
                · skip
                  exact absurd (by decide) h82
              · skip
                exact absurd h70 (by decide)
          · skip
            exact absurd h56 (by decide)
        · skip
          exact absurd h44 (by decide)
      · skip
        exact absurd h35 (by decide)
  · skip
    exact absurd h6 (by decide)

set_option maxHeartbeats 4000000 in
set_option maxRecDepth 100000 in
theorem c_L_way_2_3 (l : Launch) (D : va_G) (ka : Nat → ClassId) (kb : Nat → Nat)   : zI l D ka kb yL_way cL_way 8 .int 0 0 [.int (2 : Int32), .int (3 : Int32)] ([]) (fun (r : Int32) (_ : Unit) => r = (zways.getD 11 0)) (fun (_ : Unit) => []) := by
  refine zI.mk RL (by decide +kernel) rfl (Nat.le_of_ble_eq_true rfl) ?_
  intro p e s m below meth c A ls args Q hQ hx hb hF hB hl
  replace hl : lv_has ls 8 [(0, .int (2 : Int32)), (1, .int (3 : Int32))] := hl
  refine lv_iload_n hx hb dL_way_0 rfl (lv_at hl 0 rfl) ?_
  refine lv_bipush (v := 6) hx hb dL_way_1 (by decide) ?_
  refine lv_irem hx hb dL_way_3 (by decide) ?_
  refine ztopi (y := (2 : Int32)) (by decide) ?_
  refine lv_istore_n (lv' := [(2, .int (2 : Int32)), (0, .int (2 : Int32)), (1, .int (3 : Int32))]) hx hb dL_way_4 rfl hl (by decide) rfl ?_
  clear hl
  clear ls
  intro ls hl
  refine lv_iload_n hx hb dL_way_5 rfl (lv_at hl 0 rfl) ?_
  refine lv_if_ne (tgt := 13) hx hb dL_way_6 (by decide) (fun h6 => ?_) (fun h6 => ?_)
  · skip
    refine lv_iload_n hx hb dL_way_13 rfl (lv_at hl 0 rfl) ?_
    refine lv_iconst (v := 2) hx hb dL_way_14 (by decide) ?_
    refine lv_icmp_ne (tgt := 22) hx hb dL_way_15 (by decide) (fun h15 => ?_) (fun h15 => ?_)
    · skip
      exact absurd rfl h15
    · skip
      refine lv_iconst (v := 1) hx hb dL_way_18 (by decide) ?_
      refine lv_goto (tgt := 32) hx hb dL_way_19 (by decide) ?_
      refine lv_istore_n (lv' := [(3, .int (1 : Int32)), (2, .int (2 : Int32)), (0, .int (2 : Int32)), (1, .int (3 : Int32))]) hx hb dL_way_32 rfl hl (by decide) rfl ?_
      clear hl
      clear ls
      intro ls hl
      refine lv_iload_n hx hb dL_way_33 rfl (lv_at hl 1 rfl) ?_
      refine lv_iconst (v := 1) hx hb dL_way_34 (by decide) ?_
      refine lv_icmp_ne (tgt := 42) hx hb dL_way_35 (by decide) (fun h35 => ?_) (fun h35 => ?_)
      · skip
        refine lv_iload_n hx hb dL_way_42 rfl (lv_at hl 1 rfl) ?_
        refine lv_iconst (v := 5) hx hb dL_way_43 (by decide) ?_
        refine lv_icmp_ne (tgt := 51) hx hb dL_way_44 (by decide) (fun h44 => ?_) (fun h44 => ?_)
        · skip
          refine lv_iconst (v := 0) hx hb dL_way_51 (by decide) ?_
          refine lv_istore (lv' := [(4, .int (0 : Int32)), (3, .int (1 : Int32)), (2, .int (2 : Int32)), (0, .int (2 : Int32)), (1, .int (3 : Int32))]) hx hb dL_way_52 hl (by decide) rfl ?_
          clear hl
          clear ls
          intro ls hl
          refine lv_iload_n hx hb dL_way_54 rfl (lv_at hl 2 rfl) ?_
          refine lv_iconst (v := 3) hx hb dL_way_55 (by decide) ?_
          refine lv_icmp_ne (tgt := 63) hx hb dL_way_56 (by decide) (fun h56 => ?_) (fun h56 => ?_)
          · skip
            refine lv_iload_n hx hb dL_way_63 rfl (lv_at hl 2 rfl) ?_
            refine lv_iconst (v := 1) hx hb dL_way_64 (by decide) ?_
            refine lv_icmp_eq (tgt := 73) hx hb dL_way_65 (by decide) (fun h65 => ?_) (fun h65 => ?_)
            · skip
              exact absurd h65 (by decide)
            · skip
              refine lv_iload_n hx hb dL_way_68 rfl (lv_at hl 2 rfl) ?_
              refine lv_iconst (v := 5) hx hb dL_way_69 (by decide) ?_
              refine lv_icmp_ne (tgt := 77) hx hb dL_way_70 (by decide) (fun h70 => ?_) (fun h70 => ?_)
              · skip
                refine lv_iconst (v := 0) hx hb dL_way_77 (by decide) ?_
                refine lv_istore (lv' := [(5, .int (0 : Int32)), (4, .int (0 : Int32)), (3, .int (1 : Int32)), (2, .int (2 : Int32)), (0, .int (2 : Int32)), (1, .int (3 : Int32))]) hx hb dL_way_78 hl (by decide) rfl ?_
                clear hl
                clear ls
                intro ls hl
                refine lv_iload_n hx hb dL_way_80 rfl (lv_at hl 3 rfl) ?_
                refine lv_iconst (v := 2) hx hb dL_way_81 (by decide) ?_
                refine lv_icmp_eq (tgt := 90) hx hb dL_way_82 (by decide) (fun h82 => ?_) (fun h82 => ?_)
                · skip
                  refine lv_iconst (v := 1) hx hb dL_way_90 (by decide) ?_
                  refine lv_goto (tgt := 95) hx hb dL_way_91 (by decide) ?_
                  refine lv_istore (lv' := [(6, .int (1 : Int32)), (5, .int (0 : Int32)), (4, .int (0 : Int32)), (3, .int (1 : Int32)), (2, .int (2 : Int32)), (0, .int (2 : Int32)), (1, .int (3 : Int32))]) hx hb dL_way_95 hl (by decide) rfl ?_
                  clear hl
                  clear ls
                  intro ls hl
                  refine lv_iload_n hx hb dL_way_97 rfl (lv_at hl 6 rfl) ?_
                  refine lv_if_ne (tgt := 105) hx hb dL_way_98 (by decide) (fun h98 => ?_) (fun h98 => ?_)
                  · skip
                    refine lv_iload_n hx hb dL_way_105 rfl (lv_at hl 6 rfl) ?_
                    refine lv_iconst (v := 1) hx hb dL_way_106 (by decide) ?_
                    refine lv_icmp_ne (tgt := 115) hx hb dL_way_107 (by decide) (fun h107 => ?_) (fun h107 => ?_)
                    · skip
                      refine lv_iload_n hx hb dL_way_115 rfl (lv_at hl 6 rfl) ?_
                      refine lv_iconst (v := 2) hx hb dL_way_116 (by decide) ?_
                      refine lv_icmp_ne (tgt := 125) hx hb dL_way_117 (by decide) (fun h117 => ?_) (fun h117 => ?_)
                      · skip
                        refine lv_iload hx hb dL_way_125 (lv_at hl 0 rfl) ?_
                        refine lv_istore (lv' := [(7, .int (1 : Int32)), (6, .int (1 : Int32)), (5, .int (0 : Int32)), (4, .int (0 : Int32)), (3, .int (1 : Int32)), (2, .int (2 : Int32)), (0, .int (2 : Int32)), (1, .int (3 : Int32))]) hx hb dL_way_127 hl (by decide) rfl ?_
                        clear hl
                        clear ls
                        intro ls hl
                        refine lv_iload_n hx hb dL_way_129 rfl (lv_at hl 6 rfl) ?_
                        refine lv_bipush (v := 6) hx hb dL_way_130 (by decide) ?_
                        refine lv_icmp_ge (tgt := 140) hx hb dL_way_132 (by decide) (fun h132 => ?_) (fun h132 => ?_)
                        · skip
                          exact absurd h132 (by decide)
                        · skip
                          refine lv_iload hx hb dL_way_135 (lv_at hl 0 rfl) ?_
                          refine lv_goto (tgt := 143) hx hb dL_way_137 (by decide) ?_
                          exact zreti hF hB () (rfl) (rfl) (rfl) dL_way_143 hQ
                      · skip
                        exact absurd h117 (by decide)
                    · skip
                      exact absurd h107 (by decide)
                  · skip
                    exact absurd h98 (by decide)
                · skip
                  exact absurd (by decide) h82
              · skip
                exact absurd h70 (by decide)
          · skip
            exact absurd h56 (by decide)
        · skip
          exact absurd h44 (by decide)
      · skip
        exact absurd h35 (by decide)
  · skip
    exact absurd h6 (by decide)

set_option maxHeartbeats 4000000 in
set_option maxRecDepth 100000 in
theorem c_L_way_3_0 (l : Launch) (D : va_G) (ka : Nat → ClassId) (kb : Nat → Nat)   : zI l D ka kb yL_way cL_way 8 .int 0 0 [.int (3 : Int32), .int (0 : Int32)] ([]) (fun (r : Int32) (_ : Unit) => r = (zways.getD 12 0)) (fun (_ : Unit) => []) := by
  refine zI.mk RL (by decide +kernel) rfl (Nat.le_of_ble_eq_true rfl) ?_
  intro p e s m below meth c A ls args Q hQ hx hb hF hB hl
  replace hl : lv_has ls 8 [(0, .int (3 : Int32)), (1, .int (0 : Int32))] := hl
  refine lv_iload_n hx hb dL_way_0 rfl (lv_at hl 0 rfl) ?_
  refine lv_bipush (v := 6) hx hb dL_way_1 (by decide) ?_
  refine lv_irem hx hb dL_way_3 (by decide) ?_
  refine ztopi (y := (3 : Int32)) (by decide) ?_
  refine lv_istore_n (lv' := [(2, .int (3 : Int32)), (0, .int (3 : Int32)), (1, .int (0 : Int32))]) hx hb dL_way_4 rfl hl (by decide) rfl ?_
  clear hl
  clear ls
  intro ls hl
  refine lv_iload_n hx hb dL_way_5 rfl (lv_at hl 0 rfl) ?_
  refine lv_if_ne (tgt := 13) hx hb dL_way_6 (by decide) (fun h6 => ?_) (fun h6 => ?_)
  · skip
    refine lv_iload_n hx hb dL_way_13 rfl (lv_at hl 0 rfl) ?_
    refine lv_iconst (v := 2) hx hb dL_way_14 (by decide) ?_
    refine lv_icmp_ne (tgt := 22) hx hb dL_way_15 (by decide) (fun h15 => ?_) (fun h15 => ?_)
    · skip
      refine lv_iload_n hx hb dL_way_22 rfl (lv_at hl 0 rfl) ?_
      refine lv_iconst (v := 4) hx hb dL_way_23 (by decide) ?_
      refine lv_icmp_ne (tgt := 31) hx hb dL_way_24 (by decide) (fun h24 => ?_) (fun h24 => ?_)
      · skip
        refine lv_iconst (v := 0) hx hb dL_way_31 (by decide) ?_
        refine lv_istore_n (lv' := [(3, .int (0 : Int32)), (2, .int (3 : Int32)), (0, .int (3 : Int32)), (1, .int (0 : Int32))]) hx hb dL_way_32 rfl hl (by decide) rfl ?_
        clear hl
        clear ls
        intro ls hl
        refine lv_iload_n hx hb dL_way_33 rfl (lv_at hl 1 rfl) ?_
        refine lv_iconst (v := 1) hx hb dL_way_34 (by decide) ?_
        refine lv_icmp_ne (tgt := 42) hx hb dL_way_35 (by decide) (fun h35 => ?_) (fun h35 => ?_)
        · skip
          refine lv_iload_n hx hb dL_way_42 rfl (lv_at hl 1 rfl) ?_
          refine lv_iconst (v := 5) hx hb dL_way_43 (by decide) ?_
          refine lv_icmp_ne (tgt := 51) hx hb dL_way_44 (by decide) (fun h44 => ?_) (fun h44 => ?_)
          · skip
            refine lv_iconst (v := 0) hx hb dL_way_51 (by decide) ?_
            refine lv_istore (lv' := [(4, .int (0 : Int32)), (3, .int (0 : Int32)), (2, .int (3 : Int32)), (0, .int (3 : Int32)), (1, .int (0 : Int32))]) hx hb dL_way_52 hl (by decide) rfl ?_
            clear hl
            clear ls
            intro ls hl
            refine lv_iload_n hx hb dL_way_54 rfl (lv_at hl 2 rfl) ?_
            refine lv_iconst (v := 3) hx hb dL_way_55 (by decide) ?_
            refine lv_icmp_ne (tgt := 63) hx hb dL_way_56 (by decide) (fun h56 => ?_) (fun h56 => ?_)
            · skip
              exact absurd rfl h56
            · skip
              refine lv_iconst (v := 2) hx hb dL_way_59 (by decide) ?_
              refine lv_goto (tgt := 78) hx hb dL_way_60 (by decide) ?_
              refine lv_istore (lv' := [(5, .int (2 : Int32)), (4, .int (0 : Int32)), (3, .int (0 : Int32)), (2, .int (3 : Int32)), (0, .int (3 : Int32)), (1, .int (0 : Int32))]) hx hb dL_way_78 hl (by decide) rfl ?_
              clear hl
              clear ls
              intro ls hl
              refine lv_iload_n hx hb dL_way_80 rfl (lv_at hl 3 rfl) ?_
              refine lv_iconst (v := 2) hx hb dL_way_81 (by decide) ?_
              refine lv_icmp_eq (tgt := 90) hx hb dL_way_82 (by decide) (fun h82 => ?_) (fun h82 => ?_)
              · skip
                exact absurd h82 (by decide)
              · skip
                refine lv_iload_n hx hb dL_way_85 rfl (lv_at hl 3 rfl) ?_
                refine lv_iconst (v := 4) hx hb dL_way_86 (by decide) ?_
                refine lv_icmp_ne (tgt := 94) hx hb dL_way_87 (by decide) (fun h87 => ?_) (fun h87 => ?_)
                · skip
                  refine lv_iconst (v := 0) hx hb dL_way_94 (by decide) ?_
                  refine lv_istore (lv' := [(6, .int (0 : Int32)), (5, .int (2 : Int32)), (4, .int (0 : Int32)), (3, .int (0 : Int32)), (2, .int (3 : Int32)), (0, .int (3 : Int32)), (1, .int (0 : Int32))]) hx hb dL_way_95 hl (by decide) rfl ?_
                  clear hl
                  clear ls
                  intro ls hl
                  refine lv_iload_n hx hb dL_way_97 rfl (lv_at hl 6 rfl) ?_
                  refine lv_if_ne (tgt := 105) hx hb dL_way_98 (by decide) (fun h98 => ?_) (fun h98 => ?_)
                  · skip
                    exact absurd (by decide) h98
                  · skip
                    refine lv_iload_n hx hb dL_way_101 rfl (lv_at hl 3 rfl) ?_
                    refine lv_goto (tgt := 127) hx hb dL_way_102 (by decide) ?_
                    refine lv_istore (lv' := [(7, .int (0 : Int32)), (6, .int (0 : Int32)), (5, .int (2 : Int32)), (4, .int (0 : Int32)), (3, .int (0 : Int32)), (2, .int (3 : Int32)), (0, .int (3 : Int32)), (1, .int (0 : Int32))]) hx hb dL_way_127 hl (by decide) rfl ?_
                    clear hl
                    clear ls
                    intro ls hl
                    refine lv_iload_n hx hb dL_way_129 rfl (lv_at hl 6 rfl) ?_
                    refine lv_bipush (v := 6) hx hb dL_way_130 (by decide) ?_
                    refine lv_icmp_ge (tgt := 140) hx hb dL_way_132 (by decide) (fun h132 => ?_) (fun h132 => ?_)
                    · skip
                      exact absurd h132 (by decide)
                    · skip
                      refine lv_iload hx hb dL_way_135 (lv_at hl 0 rfl) ?_
                      refine lv_goto (tgt := 143) hx hb dL_way_137 (by decide) ?_
                      exact zreti hF hB () (rfl) (rfl) (rfl) dL_way_143 hQ
                · skip
                  exact absurd h87 (by decide)
          · skip
            exact absurd h44 (by decide)
        · skip
          exact absurd h35 (by decide)
      · skip
        exact absurd h24 (by decide)
    · skip
      exact absurd h15 (by decide)
  · skip
    exact absurd h6 (by decide)

set_option maxHeartbeats 4000000 in
set_option maxRecDepth 100000 in
theorem c_L_way_3_1 (l : Launch) (D : va_G) (ka : Nat → ClassId) (kb : Nat → Nat)   : zI l D ka kb yL_way cL_way 8 .int 0 0 [.int (3 : Int32), .int (1 : Int32)] ([]) (fun (r : Int32) (_ : Unit) => r = (zways.getD 13 0)) (fun (_ : Unit) => []) := by
  refine zI.mk RL (by decide +kernel) rfl (Nat.le_of_ble_eq_true rfl) ?_
  intro p e s m below meth c A ls args Q hQ hx hb hF hB hl
  replace hl : lv_has ls 8 [(0, .int (3 : Int32)), (1, .int (1 : Int32))] := hl
  refine lv_iload_n hx hb dL_way_0 rfl (lv_at hl 0 rfl) ?_
  refine lv_bipush (v := 6) hx hb dL_way_1 (by decide) ?_
  refine lv_irem hx hb dL_way_3 (by decide) ?_
  refine ztopi (y := (3 : Int32)) (by decide) ?_
  refine lv_istore_n (lv' := [(2, .int (3 : Int32)), (0, .int (3 : Int32)), (1, .int (1 : Int32))]) hx hb dL_way_4 rfl hl (by decide) rfl ?_
  clear hl
  clear ls
  intro ls hl
  refine lv_iload_n hx hb dL_way_5 rfl (lv_at hl 0 rfl) ?_
  refine lv_if_ne (tgt := 13) hx hb dL_way_6 (by decide) (fun h6 => ?_) (fun h6 => ?_)
  · skip
    refine lv_iload_n hx hb dL_way_13 rfl (lv_at hl 0 rfl) ?_
    refine lv_iconst (v := 2) hx hb dL_way_14 (by decide) ?_
    refine lv_icmp_ne (tgt := 22) hx hb dL_way_15 (by decide) (fun h15 => ?_) (fun h15 => ?_)
    · skip
      refine lv_iload_n hx hb dL_way_22 rfl (lv_at hl 0 rfl) ?_
      refine lv_iconst (v := 4) hx hb dL_way_23 (by decide) ?_
      refine lv_icmp_ne (tgt := 31) hx hb dL_way_24 (by decide) (fun h24 => ?_) (fun h24 => ?_)
      · skip
        refine lv_iconst (v := 0) hx hb dL_way_31 (by decide) ?_
        refine lv_istore_n (lv' := [(3, .int (0 : Int32)), (2, .int (3 : Int32)), (0, .int (3 : Int32)), (1, .int (1 : Int32))]) hx hb dL_way_32 rfl hl (by decide) rfl ?_
        clear hl
        clear ls
        intro ls hl
        refine lv_iload_n hx hb dL_way_33 rfl (lv_at hl 1 rfl) ?_
        refine lv_iconst (v := 1) hx hb dL_way_34 (by decide) ?_
        refine lv_icmp_ne (tgt := 42) hx hb dL_way_35 (by decide) (fun h35 => ?_) (fun h35 => ?_)
        · skip
          refine lv_iload_n hx hb dL_way_42 rfl (lv_at hl 1 rfl) ?_
          refine lv_iconst (v := 5) hx hb dL_way_43 (by decide) ?_
          refine lv_icmp_ne (tgt := 51) hx hb dL_way_44 (by decide) (fun h44 => ?_) (fun h44 => ?_)
          · skip
            refine lv_iconst (v := 0) hx hb dL_way_51 (by decide) ?_
            refine lv_istore (lv' := [(4, .int (0 : Int32)), (3, .int (0 : Int32)), (2, .int (3 : Int32)), (0, .int (3 : Int32)), (1, .int (1 : Int32))]) hx hb dL_way_52 hl (by decide) rfl ?_
            clear hl
            clear ls
            intro ls hl
            refine lv_iload_n hx hb dL_way_54 rfl (lv_at hl 2 rfl) ?_
            refine lv_iconst (v := 3) hx hb dL_way_55 (by decide) ?_
            refine lv_icmp_ne (tgt := 63) hx hb dL_way_56 (by decide) (fun h56 => ?_) (fun h56 => ?_)
            · skip
              exact absurd rfl h56
            · skip
              refine lv_iconst (v := 2) hx hb dL_way_59 (by decide) ?_
              refine lv_goto (tgt := 78) hx hb dL_way_60 (by decide) ?_
              refine lv_istore (lv' := [(5, .int (2 : Int32)), (4, .int (0 : Int32)), (3, .int (0 : Int32)), (2, .int (3 : Int32)), (0, .int (3 : Int32)), (1, .int (1 : Int32))]) hx hb dL_way_78 hl (by decide) rfl ?_
              clear hl
              clear ls
              intro ls hl
              refine lv_iload_n hx hb dL_way_80 rfl (lv_at hl 3 rfl) ?_
              refine lv_iconst (v := 2) hx hb dL_way_81 (by decide) ?_
              refine lv_icmp_eq (tgt := 90) hx hb dL_way_82 (by decide) (fun h82 => ?_) (fun h82 => ?_)
              · skip
                exact absurd h82 (by decide)
              · skip
                refine lv_iload_n hx hb dL_way_85 rfl (lv_at hl 3 rfl) ?_
                refine lv_iconst (v := 4) hx hb dL_way_86 (by decide) ?_
                refine lv_icmp_ne (tgt := 94) hx hb dL_way_87 (by decide) (fun h87 => ?_) (fun h87 => ?_)
                · skip
                  refine lv_iconst (v := 0) hx hb dL_way_94 (by decide) ?_
                  refine lv_istore (lv' := [(6, .int (0 : Int32)), (5, .int (2 : Int32)), (4, .int (0 : Int32)), (3, .int (0 : Int32)), (2, .int (3 : Int32)), (0, .int (3 : Int32)), (1, .int (1 : Int32))]) hx hb dL_way_95 hl (by decide) rfl ?_
                  clear hl
                  clear ls
                  intro ls hl
                  refine lv_iload_n hx hb dL_way_97 rfl (lv_at hl 6 rfl) ?_
                  refine lv_if_ne (tgt := 105) hx hb dL_way_98 (by decide) (fun h98 => ?_) (fun h98 => ?_)
                  · skip
                    refine lv_iload_n hx hb dL_way_105 rfl (lv_at hl 6 rfl) ?_
                    refine lv_iconst (v := 1) hx hb dL_way_106 (by decide) ?_
                    refine lv_icmp_ne (tgt := 115) hx hb dL_way_107 (by decide) (fun h107 => ?_) (fun h107 => ?_)
                    · skip
                      exact absurd rfl h107
                    · skip
                      refine lv_iload hx hb dL_way_110 (lv_at hl 2 rfl) ?_
                      refine lv_goto (tgt := 127) hx hb dL_way_112 (by decide) ?_
                      refine lv_istore (lv' := [(7, .int (0 : Int32)), (6, .int (0 : Int32)), (5, .int (2 : Int32)), (4, .int (0 : Int32)), (3, .int (0 : Int32)), (2, .int (3 : Int32)), (0, .int (3 : Int32)), (1, .int (1 : Int32))]) hx hb dL_way_127 hl (by decide) rfl ?_
                      clear hl
                      clear ls
                      intro ls hl
                      refine lv_iload_n hx hb dL_way_129 rfl (lv_at hl 6 rfl) ?_
                      refine lv_bipush (v := 6) hx hb dL_way_130 (by decide) ?_
                      refine lv_icmp_ge (tgt := 140) hx hb dL_way_132 (by decide) (fun h132 => ?_) (fun h132 => ?_)
                      · skip
                        exact absurd h132 (by decide)
                      · skip
                        refine lv_iload hx hb dL_way_135 (lv_at hl 0 rfl) ?_
                        refine lv_goto (tgt := 143) hx hb dL_way_137 (by decide) ?_
                        exact zreti hF hB () (rfl) (rfl) (rfl) dL_way_143 hQ
                  · skip
                    exact absurd h98 (by decide)
                · skip
                  exact absurd h87 (by decide)
          · skip
            exact absurd h44 (by decide)
        · skip
          exact absurd h35 (by decide)
      · skip
        exact absurd h24 (by decide)
    · skip
      exact absurd h15 (by decide)
  · skip
    exact absurd h6 (by decide)

set_option maxHeartbeats 4000000 in
set_option maxRecDepth 100000 in
theorem c_L_way_3_2 (l : Launch) (D : va_G) (ka : Nat → ClassId) (kb : Nat → Nat)   : zI l D ka kb yL_way cL_way 8 .int 0 0 [.int (3 : Int32), .int (2 : Int32)] ([]) (fun (r : Int32) (_ : Unit) => r = (zways.getD 14 0)) (fun (_ : Unit) => []) := by
  refine zI.mk RL (by decide +kernel) rfl (Nat.le_of_ble_eq_true rfl) ?_
  intro p e s m below meth c A ls args Q hQ hx hb hF hB hl
  replace hl : lv_has ls 8 [(0, .int (3 : Int32)), (1, .int (2 : Int32))] := hl
  refine lv_iload_n hx hb dL_way_0 rfl (lv_at hl 0 rfl) ?_
  refine lv_bipush (v := 6) hx hb dL_way_1 (by decide) ?_
  refine lv_irem hx hb dL_way_3 (by decide) ?_
  refine ztopi (y := (3 : Int32)) (by decide) ?_
  refine lv_istore_n (lv' := [(2, .int (3 : Int32)), (0, .int (3 : Int32)), (1, .int (2 : Int32))]) hx hb dL_way_4 rfl hl (by decide) rfl ?_
  clear hl
  clear ls
  intro ls hl
  refine lv_iload_n hx hb dL_way_5 rfl (lv_at hl 0 rfl) ?_
  refine lv_if_ne (tgt := 13) hx hb dL_way_6 (by decide) (fun h6 => ?_) (fun h6 => ?_)
  · skip
    refine lv_iload_n hx hb dL_way_13 rfl (lv_at hl 0 rfl) ?_
    refine lv_iconst (v := 2) hx hb dL_way_14 (by decide) ?_
    refine lv_icmp_ne (tgt := 22) hx hb dL_way_15 (by decide) (fun h15 => ?_) (fun h15 => ?_)
    · skip
      refine lv_iload_n hx hb dL_way_22 rfl (lv_at hl 0 rfl) ?_
      refine lv_iconst (v := 4) hx hb dL_way_23 (by decide) ?_
      refine lv_icmp_ne (tgt := 31) hx hb dL_way_24 (by decide) (fun h24 => ?_) (fun h24 => ?_)
      · skip
        refine lv_iconst (v := 0) hx hb dL_way_31 (by decide) ?_
        refine lv_istore_n (lv' := [(3, .int (0 : Int32)), (2, .int (3 : Int32)), (0, .int (3 : Int32)), (1, .int (2 : Int32))]) hx hb dL_way_32 rfl hl (by decide) rfl ?_
        clear hl
        clear ls
        intro ls hl
        refine lv_iload_n hx hb dL_way_33 rfl (lv_at hl 1 rfl) ?_
        refine lv_iconst (v := 1) hx hb dL_way_34 (by decide) ?_
        refine lv_icmp_ne (tgt := 42) hx hb dL_way_35 (by decide) (fun h35 => ?_) (fun h35 => ?_)
        · skip
          refine lv_iload_n hx hb dL_way_42 rfl (lv_at hl 1 rfl) ?_
          refine lv_iconst (v := 5) hx hb dL_way_43 (by decide) ?_
          refine lv_icmp_ne (tgt := 51) hx hb dL_way_44 (by decide) (fun h44 => ?_) (fun h44 => ?_)
          · skip
            refine lv_iconst (v := 0) hx hb dL_way_51 (by decide) ?_
            refine lv_istore (lv' := [(4, .int (0 : Int32)), (3, .int (0 : Int32)), (2, .int (3 : Int32)), (0, .int (3 : Int32)), (1, .int (2 : Int32))]) hx hb dL_way_52 hl (by decide) rfl ?_
            clear hl
            clear ls
            intro ls hl
            refine lv_iload_n hx hb dL_way_54 rfl (lv_at hl 2 rfl) ?_
            refine lv_iconst (v := 3) hx hb dL_way_55 (by decide) ?_
            refine lv_icmp_ne (tgt := 63) hx hb dL_way_56 (by decide) (fun h56 => ?_) (fun h56 => ?_)
            · skip
              exact absurd rfl h56
            · skip
              refine lv_iconst (v := 2) hx hb dL_way_59 (by decide) ?_
              refine lv_goto (tgt := 78) hx hb dL_way_60 (by decide) ?_
              refine lv_istore (lv' := [(5, .int (2 : Int32)), (4, .int (0 : Int32)), (3, .int (0 : Int32)), (2, .int (3 : Int32)), (0, .int (3 : Int32)), (1, .int (2 : Int32))]) hx hb dL_way_78 hl (by decide) rfl ?_
              clear hl
              clear ls
              intro ls hl
              refine lv_iload_n hx hb dL_way_80 rfl (lv_at hl 3 rfl) ?_
              refine lv_iconst (v := 2) hx hb dL_way_81 (by decide) ?_
              refine lv_icmp_eq (tgt := 90) hx hb dL_way_82 (by decide) (fun h82 => ?_) (fun h82 => ?_)
              · skip
                exact absurd h82 (by decide)
              · skip
                refine lv_iload_n hx hb dL_way_85 rfl (lv_at hl 3 rfl) ?_
                refine lv_iconst (v := 4) hx hb dL_way_86 (by decide) ?_
                refine lv_icmp_ne (tgt := 94) hx hb dL_way_87 (by decide) (fun h87 => ?_) (fun h87 => ?_)
                · skip
                  refine lv_iconst (v := 0) hx hb dL_way_94 (by decide) ?_
                  refine lv_istore (lv' := [(6, .int (0 : Int32)), (5, .int (2 : Int32)), (4, .int (0 : Int32)), (3, .int (0 : Int32)), (2, .int (3 : Int32)), (0, .int (3 : Int32)), (1, .int (2 : Int32))]) hx hb dL_way_95 hl (by decide) rfl ?_
                  clear hl
                  clear ls
                  intro ls hl
                  refine lv_iload_n hx hb dL_way_97 rfl (lv_at hl 6 rfl) ?_
                  refine lv_if_ne (tgt := 105) hx hb dL_way_98 (by decide) (fun h98 => ?_) (fun h98 => ?_)
                  · skip
                    refine lv_iload_n hx hb dL_way_105 rfl (lv_at hl 6 rfl) ?_
                    refine lv_iconst (v := 1) hx hb dL_way_106 (by decide) ?_
                    refine lv_icmp_ne (tgt := 115) hx hb dL_way_107 (by decide) (fun h107 => ?_) (fun h107 => ?_)
                    · skip
                      refine lv_iload_n hx hb dL_way_115 rfl (lv_at hl 6 rfl) ?_
                      refine lv_iconst (v := 2) hx hb dL_way_116 (by decide) ?_
                      refine lv_icmp_ne (tgt := 125) hx hb dL_way_117 (by decide) (fun h117 => ?_) (fun h117 => ?_)
                      · skip
                        exact absurd rfl h117
                      · skip
                        refine lv_iload hx hb dL_way_120 (lv_at hl 1 rfl) ?_
                        refine lv_goto (tgt := 127) hx hb dL_way_122 (by decide) ?_
                        refine lv_istore (lv' := [(7, .int (2 : Int32)), (6, .int (0 : Int32)), (5, .int (2 : Int32)), (4, .int (0 : Int32)), (3, .int (0 : Int32)), (2, .int (3 : Int32)), (0, .int (3 : Int32)), (1, .int (2 : Int32))]) hx hb dL_way_127 hl (by decide) rfl ?_
                        clear hl
                        clear ls
                        intro ls hl
                        refine lv_iload_n hx hb dL_way_129 rfl (lv_at hl 6 rfl) ?_
                        refine lv_bipush (v := 6) hx hb dL_way_130 (by decide) ?_
                        refine lv_icmp_ge (tgt := 140) hx hb dL_way_132 (by decide) (fun h132 => ?_) (fun h132 => ?_)
                        · skip
                          exact absurd h132 (by decide)
                        · skip
                          refine lv_iload hx hb dL_way_135 (lv_at hl 0 rfl) ?_
                          refine lv_goto (tgt := 143) hx hb dL_way_137 (by decide) ?_
                          exact zreti hF hB () (rfl) (rfl) (rfl) dL_way_143 hQ
                    · skip
                      exact absurd h107 (by decide)
                  · skip
                    exact absurd h98 (by decide)
                · skip
                  exact absurd h87 (by decide)
          · skip
            exact absurd h44 (by decide)
        · skip
          exact absurd h35 (by decide)
      · skip
        exact absurd h24 (by decide)
    · skip
      exact absurd h15 (by decide)
  · skip
    exact absurd h6 (by decide)

set_option maxHeartbeats 4000000 in
set_option maxRecDepth 100000 in
theorem c_L_way_3_3 (l : Launch) (D : va_G) (ka : Nat → ClassId) (kb : Nat → Nat)   : zI l D ka kb yL_way cL_way 8 .int 0 0 [.int (3 : Int32), .int (3 : Int32)] ([]) (fun (r : Int32) (_ : Unit) => r = (zways.getD 15 0)) (fun (_ : Unit) => []) := by
  refine zI.mk RL (by decide +kernel) rfl (Nat.le_of_ble_eq_true rfl) ?_
  intro p e s m below meth c A ls args Q hQ hx hb hF hB hl
  replace hl : lv_has ls 8 [(0, .int (3 : Int32)), (1, .int (3 : Int32))] := hl
  refine lv_iload_n hx hb dL_way_0 rfl (lv_at hl 0 rfl) ?_
  refine lv_bipush (v := 6) hx hb dL_way_1 (by decide) ?_
  refine lv_irem hx hb dL_way_3 (by decide) ?_
  refine ztopi (y := (3 : Int32)) (by decide) ?_
  refine lv_istore_n (lv' := [(2, .int (3 : Int32)), (0, .int (3 : Int32)), (1, .int (3 : Int32))]) hx hb dL_way_4 rfl hl (by decide) rfl ?_
  clear hl
  clear ls
  intro ls hl
  refine lv_iload_n hx hb dL_way_5 rfl (lv_at hl 0 rfl) ?_
  refine lv_if_ne (tgt := 13) hx hb dL_way_6 (by decide) (fun h6 => ?_) (fun h6 => ?_)
  · skip
    refine lv_iload_n hx hb dL_way_13 rfl (lv_at hl 0 rfl) ?_
    refine lv_iconst (v := 2) hx hb dL_way_14 (by decide) ?_
    refine lv_icmp_ne (tgt := 22) hx hb dL_way_15 (by decide) (fun h15 => ?_) (fun h15 => ?_)
    · skip
      refine lv_iload_n hx hb dL_way_22 rfl (lv_at hl 0 rfl) ?_
      refine lv_iconst (v := 4) hx hb dL_way_23 (by decide) ?_
      refine lv_icmp_ne (tgt := 31) hx hb dL_way_24 (by decide) (fun h24 => ?_) (fun h24 => ?_)
      · skip
        refine lv_iconst (v := 0) hx hb dL_way_31 (by decide) ?_
        refine lv_istore_n (lv' := [(3, .int (0 : Int32)), (2, .int (3 : Int32)), (0, .int (3 : Int32)), (1, .int (3 : Int32))]) hx hb dL_way_32 rfl hl (by decide) rfl ?_
        clear hl
        clear ls
        intro ls hl
        refine lv_iload_n hx hb dL_way_33 rfl (lv_at hl 1 rfl) ?_
        refine lv_iconst (v := 1) hx hb dL_way_34 (by decide) ?_
        refine lv_icmp_ne (tgt := 42) hx hb dL_way_35 (by decide) (fun h35 => ?_) (fun h35 => ?_)
        · skip
          refine lv_iload_n hx hb dL_way_42 rfl (lv_at hl 1 rfl) ?_
          refine lv_iconst (v := 5) hx hb dL_way_43 (by decide) ?_
          refine lv_icmp_ne (tgt := 51) hx hb dL_way_44 (by decide) (fun h44 => ?_) (fun h44 => ?_)
          · skip
            refine lv_iconst (v := 0) hx hb dL_way_51 (by decide) ?_
            refine lv_istore (lv' := [(4, .int (0 : Int32)), (3, .int (0 : Int32)), (2, .int (3 : Int32)), (0, .int (3 : Int32)), (1, .int (3 : Int32))]) hx hb dL_way_52 hl (by decide) rfl ?_
            clear hl
            clear ls
            intro ls hl
            refine lv_iload_n hx hb dL_way_54 rfl (lv_at hl 2 rfl) ?_
            refine lv_iconst (v := 3) hx hb dL_way_55 (by decide) ?_
            refine lv_icmp_ne (tgt := 63) hx hb dL_way_56 (by decide) (fun h56 => ?_) (fun h56 => ?_)
            · skip
              exact absurd rfl h56
            · skip
              refine lv_iconst (v := 2) hx hb dL_way_59 (by decide) ?_
              refine lv_goto (tgt := 78) hx hb dL_way_60 (by decide) ?_
              refine lv_istore (lv' := [(5, .int (2 : Int32)), (4, .int (0 : Int32)), (3, .int (0 : Int32)), (2, .int (3 : Int32)), (0, .int (3 : Int32)), (1, .int (3 : Int32))]) hx hb dL_way_78 hl (by decide) rfl ?_
              clear hl
              clear ls
              intro ls hl
              refine lv_iload_n hx hb dL_way_80 rfl (lv_at hl 3 rfl) ?_
              refine lv_iconst (v := 2) hx hb dL_way_81 (by decide) ?_
              refine lv_icmp_eq (tgt := 90) hx hb dL_way_82 (by decide) (fun h82 => ?_) (fun h82 => ?_)
              · skip
                exact absurd h82 (by decide)
              · skip
                refine lv_iload_n hx hb dL_way_85 rfl (lv_at hl 3 rfl) ?_
                refine lv_iconst (v := 4) hx hb dL_way_86 (by decide) ?_
                refine lv_icmp_ne (tgt := 94) hx hb dL_way_87 (by decide) (fun h87 => ?_) (fun h87 => ?_)
                · skip
                  refine lv_iconst (v := 0) hx hb dL_way_94 (by decide) ?_
                  refine lv_istore (lv' := [(6, .int (0 : Int32)), (5, .int (2 : Int32)), (4, .int (0 : Int32)), (3, .int (0 : Int32)), (2, .int (3 : Int32)), (0, .int (3 : Int32)), (1, .int (3 : Int32))]) hx hb dL_way_95 hl (by decide) rfl ?_
                  clear hl
                  clear ls
                  intro ls hl
                  refine lv_iload_n hx hb dL_way_97 rfl (lv_at hl 6 rfl) ?_
                  refine lv_if_ne (tgt := 105) hx hb dL_way_98 (by decide) (fun h98 => ?_) (fun h98 => ?_)
                  · skip
                    refine lv_iload_n hx hb dL_way_105 rfl (lv_at hl 6 rfl) ?_
                    refine lv_iconst (v := 1) hx hb dL_way_106 (by decide) ?_
                    refine lv_icmp_ne (tgt := 115) hx hb dL_way_107 (by decide) (fun h107 => ?_) (fun h107 => ?_)
                    · skip
                      refine lv_iload_n hx hb dL_way_115 rfl (lv_at hl 6 rfl) ?_
                      refine lv_iconst (v := 2) hx hb dL_way_116 (by decide) ?_
                      refine lv_icmp_ne (tgt := 125) hx hb dL_way_117 (by decide) (fun h117 => ?_) (fun h117 => ?_)
                      · skip
                        refine lv_iload hx hb dL_way_125 (lv_at hl 0 rfl) ?_
                        refine lv_istore (lv' := [(7, .int (0 : Int32)), (6, .int (0 : Int32)), (5, .int (2 : Int32)), (4, .int (0 : Int32)), (3, .int (0 : Int32)), (2, .int (3 : Int32)), (0, .int (3 : Int32)), (1, .int (3 : Int32))]) hx hb dL_way_127 hl (by decide) rfl ?_
                        clear hl
                        clear ls
                        intro ls hl
                        refine lv_iload_n hx hb dL_way_129 rfl (lv_at hl 6 rfl) ?_
                        refine lv_bipush (v := 6) hx hb dL_way_130 (by decide) ?_
                        refine lv_icmp_ge (tgt := 140) hx hb dL_way_132 (by decide) (fun h132 => ?_) (fun h132 => ?_)
                        · skip
                          exact absurd h132 (by decide)
                        · skip
                          refine lv_iload hx hb dL_way_135 (lv_at hl 0 rfl) ?_
                          refine lv_goto (tgt := 143) hx hb dL_way_137 (by decide) ?_
                          exact zreti hF hB () (rfl) (rfl) (rfl) dL_way_143 hQ
                      · skip
                        exact absurd h117 (by decide)
                    · skip
                      exact absurd h107 (by decide)
                  · skip
                    exact absurd h98 (by decide)
                · skip
                  exact absurd h87 (by decide)
          · skip
            exact absurd h44 (by decide)
        · skip
          exact absurd h35 (by decide)
      · skip
        exact absurd h24 (by decide)
    · skip
      exact absurd h15 (by decide)
  · skip
    exact absurd h6 (by decide)

set_option maxHeartbeats 4000000 in
set_option maxRecDepth 100000 in
theorem c_L_way_4_0 (l : Launch) (D : va_G) (ka : Nat → ClassId) (kb : Nat → Nat)   : zI l D ka kb yL_way cL_way 8 .int 0 0 [.int (4 : Int32), .int (0 : Int32)] ([]) (fun (r : Int32) (_ : Unit) => r = (zways.getD 16 0)) (fun (_ : Unit) => []) := by
  refine zI.mk RL (by decide +kernel) rfl (Nat.le_of_ble_eq_true rfl) ?_
  intro p e s m below meth c A ls args Q hQ hx hb hF hB hl
  replace hl : lv_has ls 8 [(0, .int (4 : Int32)), (1, .int (0 : Int32))] := hl
  refine lv_iload_n hx hb dL_way_0 rfl (lv_at hl 0 rfl) ?_
  refine lv_bipush (v := 6) hx hb dL_way_1 (by decide) ?_
  refine lv_irem hx hb dL_way_3 (by decide) ?_
  refine ztopi (y := (4 : Int32)) (by decide) ?_
  refine lv_istore_n (lv' := [(2, .int (4 : Int32)), (0, .int (4 : Int32)), (1, .int (0 : Int32))]) hx hb dL_way_4 rfl hl (by decide) rfl ?_
  clear hl
  clear ls
  intro ls hl
  refine lv_iload_n hx hb dL_way_5 rfl (lv_at hl 0 rfl) ?_
  refine lv_if_ne (tgt := 13) hx hb dL_way_6 (by decide) (fun h6 => ?_) (fun h6 => ?_)
  · skip
    refine lv_iload_n hx hb dL_way_13 rfl (lv_at hl 0 rfl) ?_
    refine lv_iconst (v := 2) hx hb dL_way_14 (by decide) ?_
    refine lv_icmp_ne (tgt := 22) hx hb dL_way_15 (by decide) (fun h15 => ?_) (fun h15 => ?_)
    · skip
      refine lv_iload_n hx hb dL_way_22 rfl (lv_at hl 0 rfl) ?_
      refine lv_iconst (v := 4) hx hb dL_way_23 (by decide) ?_
      refine lv_icmp_ne (tgt := 31) hx hb dL_way_24 (by decide) (fun h24 => ?_) (fun h24 => ?_)
      · skip
        exact absurd rfl h24
      · skip
        refine lv_iconst (v := -1) hx hb dL_way_27 (by decide) ?_
        refine lv_goto (tgt := 32) hx hb dL_way_28 (by decide) ?_
        refine lv_istore_n (lv' := [(3, .int (-1 : Int32)), (2, .int (4 : Int32)), (0, .int (4 : Int32)), (1, .int (0 : Int32))]) hx hb dL_way_32 rfl hl (by decide) rfl ?_
        clear hl
        clear ls
        intro ls hl
        refine lv_iload_n hx hb dL_way_33 rfl (lv_at hl 1 rfl) ?_
        refine lv_iconst (v := 1) hx hb dL_way_34 (by decide) ?_
        refine lv_icmp_ne (tgt := 42) hx hb dL_way_35 (by decide) (fun h35 => ?_) (fun h35 => ?_)
        · skip
          refine lv_iload_n hx hb dL_way_42 rfl (lv_at hl 1 rfl) ?_
          refine lv_iconst (v := 5) hx hb dL_way_43 (by decide) ?_
          refine lv_icmp_ne (tgt := 51) hx hb dL_way_44 (by decide) (fun h44 => ?_) (fun h44 => ?_)
          · skip
            refine lv_iconst (v := 0) hx hb dL_way_51 (by decide) ?_
            refine lv_istore (lv' := [(4, .int (0 : Int32)), (3, .int (-1 : Int32)), (2, .int (4 : Int32)), (0, .int (4 : Int32)), (1, .int (0 : Int32))]) hx hb dL_way_52 hl (by decide) rfl ?_
            clear hl
            clear ls
            intro ls hl
            refine lv_iload_n hx hb dL_way_54 rfl (lv_at hl 2 rfl) ?_
            refine lv_iconst (v := 3) hx hb dL_way_55 (by decide) ?_
            refine lv_icmp_ne (tgt := 63) hx hb dL_way_56 (by decide) (fun h56 => ?_) (fun h56 => ?_)
            · skip
              refine lv_iload_n hx hb dL_way_63 rfl (lv_at hl 2 rfl) ?_
              refine lv_iconst (v := 1) hx hb dL_way_64 (by decide) ?_
              refine lv_icmp_eq (tgt := 73) hx hb dL_way_65 (by decide) (fun h65 => ?_) (fun h65 => ?_)
              · skip
                exact absurd h65 (by decide)
              · skip
                refine lv_iload_n hx hb dL_way_68 rfl (lv_at hl 2 rfl) ?_
                refine lv_iconst (v := 5) hx hb dL_way_69 (by decide) ?_
                refine lv_icmp_ne (tgt := 77) hx hb dL_way_70 (by decide) (fun h70 => ?_) (fun h70 => ?_)
                · skip
                  refine lv_iconst (v := 0) hx hb dL_way_77 (by decide) ?_
                  refine lv_istore (lv' := [(5, .int (0 : Int32)), (4, .int (0 : Int32)), (3, .int (-1 : Int32)), (2, .int (4 : Int32)), (0, .int (4 : Int32)), (1, .int (0 : Int32))]) hx hb dL_way_78 hl (by decide) rfl ?_
                  clear hl
                  clear ls
                  intro ls hl
                  refine lv_iload_n hx hb dL_way_80 rfl (lv_at hl 3 rfl) ?_
                  refine lv_iconst (v := 2) hx hb dL_way_81 (by decide) ?_
                  refine lv_icmp_eq (tgt := 90) hx hb dL_way_82 (by decide) (fun h82 => ?_) (fun h82 => ?_)
                  · skip
                    exact absurd h82 (by decide)
                  · skip
                    refine lv_iload_n hx hb dL_way_85 rfl (lv_at hl 3 rfl) ?_
                    refine lv_iconst (v := 4) hx hb dL_way_86 (by decide) ?_
                    refine lv_icmp_ne (tgt := 94) hx hb dL_way_87 (by decide) (fun h87 => ?_) (fun h87 => ?_)
                    · skip
                      exact absurd rfl h87
                    · skip
                      refine lv_iconst (v := 1) hx hb dL_way_90 (by decide) ?_
                      refine lv_goto (tgt := 95) hx hb dL_way_91 (by decide) ?_
                      refine lv_istore (lv' := [(6, .int (1 : Int32)), (5, .int (0 : Int32)), (4, .int (0 : Int32)), (3, .int (-1 : Int32)), (2, .int (4 : Int32)), (0, .int (4 : Int32)), (1, .int (0 : Int32))]) hx hb dL_way_95 hl (by decide) rfl ?_
                      clear hl
                      clear ls
                      intro ls hl
                      refine lv_iload_n hx hb dL_way_97 rfl (lv_at hl 6 rfl) ?_
                      refine lv_if_ne (tgt := 105) hx hb dL_way_98 (by decide) (fun h98 => ?_) (fun h98 => ?_)
                      · skip
                        exact absurd (by decide) h98
                      · skip
                        refine lv_iload_n hx hb dL_way_101 rfl (lv_at hl 3 rfl) ?_
                        refine lv_goto (tgt := 127) hx hb dL_way_102 (by decide) ?_
                        refine lv_istore (lv' := [(7, .int (-1 : Int32)), (6, .int (1 : Int32)), (5, .int (0 : Int32)), (4, .int (0 : Int32)), (3, .int (-1 : Int32)), (2, .int (4 : Int32)), (0, .int (4 : Int32)), (1, .int (0 : Int32))]) hx hb dL_way_127 hl (by decide) rfl ?_
                        clear hl
                        clear ls
                        intro ls hl
                        refine lv_iload_n hx hb dL_way_129 rfl (lv_at hl 6 rfl) ?_
                        refine lv_bipush (v := 6) hx hb dL_way_130 (by decide) ?_
                        refine lv_icmp_ge (tgt := 140) hx hb dL_way_132 (by decide) (fun h132 => ?_) (fun h132 => ?_)
                        · skip
                          exact absurd h132 (by decide)
                        · skip
                          refine lv_iload hx hb dL_way_135 (lv_at hl 0 rfl) ?_
                          refine lv_goto (tgt := 143) hx hb dL_way_137 (by decide) ?_
                          exact zreti hF hB () (rfl) (rfl) (rfl) dL_way_143 hQ
                · skip
                  exact absurd h70 (by decide)
            · skip
              exact absurd h56 (by decide)
          · skip
            exact absurd h44 (by decide)
        · skip
          exact absurd h35 (by decide)
    · skip
      exact absurd h15 (by decide)
  · skip
    exact absurd h6 (by decide)

set_option maxHeartbeats 4000000 in
set_option maxRecDepth 100000 in
theorem c_L_way_4_1 (l : Launch) (D : va_G) (ka : Nat → ClassId) (kb : Nat → Nat)   : zI l D ka kb yL_way cL_way 8 .int 0 0 [.int (4 : Int32), .int (1 : Int32)] ([]) (fun (r : Int32) (_ : Unit) => r = (zways.getD 17 0)) (fun (_ : Unit) => []) := by
  refine zI.mk RL (by decide +kernel) rfl (Nat.le_of_ble_eq_true rfl) ?_
  intro p e s m below meth c A ls args Q hQ hx hb hF hB hl
  replace hl : lv_has ls 8 [(0, .int (4 : Int32)), (1, .int (1 : Int32))] := hl
  refine lv_iload_n hx hb dL_way_0 rfl (lv_at hl 0 rfl) ?_
  refine lv_bipush (v := 6) hx hb dL_way_1 (by decide) ?_
  refine lv_irem hx hb dL_way_3 (by decide) ?_
  refine ztopi (y := (4 : Int32)) (by decide) ?_
  refine lv_istore_n (lv' := [(2, .int (4 : Int32)), (0, .int (4 : Int32)), (1, .int (1 : Int32))]) hx hb dL_way_4 rfl hl (by decide) rfl ?_
  clear hl
  clear ls
  intro ls hl
  refine lv_iload_n hx hb dL_way_5 rfl (lv_at hl 0 rfl) ?_
  refine lv_if_ne (tgt := 13) hx hb dL_way_6 (by decide) (fun h6 => ?_) (fun h6 => ?_)
  · skip
    refine lv_iload_n hx hb dL_way_13 rfl (lv_at hl 0 rfl) ?_
    refine lv_iconst (v := 2) hx hb dL_way_14 (by decide) ?_
    refine lv_icmp_ne (tgt := 22) hx hb dL_way_15 (by decide) (fun h15 => ?_) (fun h15 => ?_)
    · skip
      refine lv_iload_n hx hb dL_way_22 rfl (lv_at hl 0 rfl) ?_
      refine lv_iconst (v := 4) hx hb dL_way_23 (by decide) ?_
      refine lv_icmp_ne (tgt := 31) hx hb dL_way_24 (by decide) (fun h24 => ?_) (fun h24 => ?_)
      · skip
        exact absurd rfl h24
      · skip
        refine lv_iconst (v := -1) hx hb dL_way_27 (by decide) ?_
        refine lv_goto (tgt := 32) hx hb dL_way_28 (by decide) ?_
        refine lv_istore_n (lv' := [(3, .int (-1 : Int32)), (2, .int (4 : Int32)), (0, .int (4 : Int32)), (1, .int (1 : Int32))]) hx hb dL_way_32 rfl hl (by decide) rfl ?_
        clear hl
        clear ls
        intro ls hl
        refine lv_iload_n hx hb dL_way_33 rfl (lv_at hl 1 rfl) ?_
        refine lv_iconst (v := 1) hx hb dL_way_34 (by decide) ?_
        refine lv_icmp_ne (tgt := 42) hx hb dL_way_35 (by decide) (fun h35 => ?_) (fun h35 => ?_)
        · skip
          refine lv_iload_n hx hb dL_way_42 rfl (lv_at hl 1 rfl) ?_
          refine lv_iconst (v := 5) hx hb dL_way_43 (by decide) ?_
          refine lv_icmp_ne (tgt := 51) hx hb dL_way_44 (by decide) (fun h44 => ?_) (fun h44 => ?_)
          · skip
            refine lv_iconst (v := 0) hx hb dL_way_51 (by decide) ?_
            refine lv_istore (lv' := [(4, .int (0 : Int32)), (3, .int (-1 : Int32)), (2, .int (4 : Int32)), (0, .int (4 : Int32)), (1, .int (1 : Int32))]) hx hb dL_way_52 hl (by decide) rfl ?_
            clear hl
            clear ls
            intro ls hl
            refine lv_iload_n hx hb dL_way_54 rfl (lv_at hl 2 rfl) ?_
            refine lv_iconst (v := 3) hx hb dL_way_55 (by decide) ?_
            refine lv_icmp_ne (tgt := 63) hx hb dL_way_56 (by decide) (fun h56 => ?_) (fun h56 => ?_)
            · skip
              refine lv_iload_n hx hb dL_way_63 rfl (lv_at hl 2 rfl) ?_
              refine lv_iconst (v := 1) hx hb dL_way_64 (by decide) ?_
              refine lv_icmp_eq (tgt := 73) hx hb dL_way_65 (by decide) (fun h65 => ?_) (fun h65 => ?_)
              · skip
                exact absurd h65 (by decide)
              · skip
                refine lv_iload_n hx hb dL_way_68 rfl (lv_at hl 2 rfl) ?_
                refine lv_iconst (v := 5) hx hb dL_way_69 (by decide) ?_
                refine lv_icmp_ne (tgt := 77) hx hb dL_way_70 (by decide) (fun h70 => ?_) (fun h70 => ?_)
                · skip
                  refine lv_iconst (v := 0) hx hb dL_way_77 (by decide) ?_
                  refine lv_istore (lv' := [(5, .int (0 : Int32)), (4, .int (0 : Int32)), (3, .int (-1 : Int32)), (2, .int (4 : Int32)), (0, .int (4 : Int32)), (1, .int (1 : Int32))]) hx hb dL_way_78 hl (by decide) rfl ?_
                  clear hl
                  clear ls
                  intro ls hl
                  refine lv_iload_n hx hb dL_way_80 rfl (lv_at hl 3 rfl) ?_
                  refine lv_iconst (v := 2) hx hb dL_way_81 (by decide) ?_
                  refine lv_icmp_eq (tgt := 90) hx hb dL_way_82 (by decide) (fun h82 => ?_) (fun h82 => ?_)
                  · skip
                    exact absurd h82 (by decide)
                  · skip
                    refine lv_iload_n hx hb dL_way_85 rfl (lv_at hl 3 rfl) ?_
                    refine lv_iconst (v := 4) hx hb dL_way_86 (by decide) ?_
                    refine lv_icmp_ne (tgt := 94) hx hb dL_way_87 (by decide) (fun h87 => ?_) (fun h87 => ?_)
                    · skip
                      exact absurd rfl h87
                    · skip
                      refine lv_iconst (v := 1) hx hb dL_way_90 (by decide) ?_
                      refine lv_goto (tgt := 95) hx hb dL_way_91 (by decide) ?_
                      refine lv_istore (lv' := [(6, .int (1 : Int32)), (5, .int (0 : Int32)), (4, .int (0 : Int32)), (3, .int (-1 : Int32)), (2, .int (4 : Int32)), (0, .int (4 : Int32)), (1, .int (1 : Int32))]) hx hb dL_way_95 hl (by decide) rfl ?_
                      clear hl
                      clear ls
                      intro ls hl
                      refine lv_iload_n hx hb dL_way_97 rfl (lv_at hl 6 rfl) ?_
                      refine lv_if_ne (tgt := 105) hx hb dL_way_98 (by decide) (fun h98 => ?_) (fun h98 => ?_)
                      · skip
                        refine lv_iload_n hx hb dL_way_105 rfl (lv_at hl 6 rfl) ?_
                        refine lv_iconst (v := 1) hx hb dL_way_106 (by decide) ?_
                        refine lv_icmp_ne (tgt := 115) hx hb dL_way_107 (by decide) (fun h107 => ?_) (fun h107 => ?_)
                        · skip
                          exact absurd rfl h107
                        · skip
                          refine lv_iload hx hb dL_way_110 (lv_at hl 2 rfl) ?_
                          refine lv_goto (tgt := 127) hx hb dL_way_112 (by decide) ?_
                          refine lv_istore (lv' := [(7, .int (0 : Int32)), (6, .int (1 : Int32)), (5, .int (0 : Int32)), (4, .int (0 : Int32)), (3, .int (-1 : Int32)), (2, .int (4 : Int32)), (0, .int (4 : Int32)), (1, .int (1 : Int32))]) hx hb dL_way_127 hl (by decide) rfl ?_
                          clear hl
                          clear ls
                          intro ls hl
                          refine lv_iload_n hx hb dL_way_129 rfl (lv_at hl 6 rfl) ?_
                          refine lv_bipush (v := 6) hx hb dL_way_130 (by decide) ?_
                          refine lv_icmp_ge (tgt := 140) hx hb dL_way_132 (by decide) (fun h132 => ?_) (fun h132 => ?_)
                          · skip
                            exact absurd h132 (by decide)
                          · skip
                            refine lv_iload hx hb dL_way_135 (lv_at hl 0 rfl) ?_
                            refine lv_goto (tgt := 143) hx hb dL_way_137 (by decide) ?_
                            exact zreti hF hB () (rfl) (rfl) (rfl) dL_way_143 hQ
                      · skip
                        exact absurd h98 (by decide)
                · skip
                  exact absurd h70 (by decide)
            · skip
              exact absurd h56 (by decide)
          · skip
            exact absurd h44 (by decide)
        · skip
          exact absurd h35 (by decide)
    · skip
      exact absurd h15 (by decide)
  · skip
    exact absurd h6 (by decide)

set_option maxHeartbeats 4000000 in
set_option maxRecDepth 100000 in
theorem c_L_way_4_2 (l : Launch) (D : va_G) (ka : Nat → ClassId) (kb : Nat → Nat)   : zI l D ka kb yL_way cL_way 8 .int 0 0 [.int (4 : Int32), .int (2 : Int32)] ([]) (fun (r : Int32) (_ : Unit) => r = (zways.getD 18 0)) (fun (_ : Unit) => []) := by
  refine zI.mk RL (by decide +kernel) rfl (Nat.le_of_ble_eq_true rfl) ?_
  intro p e s m below meth c A ls args Q hQ hx hb hF hB hl
  replace hl : lv_has ls 8 [(0, .int (4 : Int32)), (1, .int (2 : Int32))] := hl
  refine lv_iload_n hx hb dL_way_0 rfl (lv_at hl 0 rfl) ?_
  refine lv_bipush (v := 6) hx hb dL_way_1 (by decide) ?_
  refine lv_irem hx hb dL_way_3 (by decide) ?_
  refine ztopi (y := (4 : Int32)) (by decide) ?_
  refine lv_istore_n (lv' := [(2, .int (4 : Int32)), (0, .int (4 : Int32)), (1, .int (2 : Int32))]) hx hb dL_way_4 rfl hl (by decide) rfl ?_
  clear hl
  clear ls
  intro ls hl
  refine lv_iload_n hx hb dL_way_5 rfl (lv_at hl 0 rfl) ?_
  refine lv_if_ne (tgt := 13) hx hb dL_way_6 (by decide) (fun h6 => ?_) (fun h6 => ?_)
  · skip
    refine lv_iload_n hx hb dL_way_13 rfl (lv_at hl 0 rfl) ?_
    refine lv_iconst (v := 2) hx hb dL_way_14 (by decide) ?_
    refine lv_icmp_ne (tgt := 22) hx hb dL_way_15 (by decide) (fun h15 => ?_) (fun h15 => ?_)
    · skip
      refine lv_iload_n hx hb dL_way_22 rfl (lv_at hl 0 rfl) ?_
      refine lv_iconst (v := 4) hx hb dL_way_23 (by decide) ?_
      refine lv_icmp_ne (tgt := 31) hx hb dL_way_24 (by decide) (fun h24 => ?_) (fun h24 => ?_)
      · skip
        exact absurd rfl h24
      · skip
        refine lv_iconst (v := -1) hx hb dL_way_27 (by decide) ?_
        refine lv_goto (tgt := 32) hx hb dL_way_28 (by decide) ?_
        refine lv_istore_n (lv' := [(3, .int (-1 : Int32)), (2, .int (4 : Int32)), (0, .int (4 : Int32)), (1, .int (2 : Int32))]) hx hb dL_way_32 rfl hl (by decide) rfl ?_
        clear hl
        clear ls
        intro ls hl
        refine lv_iload_n hx hb dL_way_33 rfl (lv_at hl 1 rfl) ?_
        refine lv_iconst (v := 1) hx hb dL_way_34 (by decide) ?_
        refine lv_icmp_ne (tgt := 42) hx hb dL_way_35 (by decide) (fun h35 => ?_) (fun h35 => ?_)
        · skip
          refine lv_iload_n hx hb dL_way_42 rfl (lv_at hl 1 rfl) ?_
          refine lv_iconst (v := 5) hx hb dL_way_43 (by decide) ?_
          refine lv_icmp_ne (tgt := 51) hx hb dL_way_44 (by decide) (fun h44 => ?_) (fun h44 => ?_)
          · skip
            refine lv_iconst (v := 0) hx hb dL_way_51 (by decide) ?_
            refine lv_istore (lv' := [(4, .int (0 : Int32)), (3, .int (-1 : Int32)), (2, .int (4 : Int32)), (0, .int (4 : Int32)), (1, .int (2 : Int32))]) hx hb dL_way_52 hl (by decide) rfl ?_
            clear hl
            clear ls
            intro ls hl
            refine lv_iload_n hx hb dL_way_54 rfl (lv_at hl 2 rfl) ?_
            refine lv_iconst (v := 3) hx hb dL_way_55 (by decide) ?_
            refine lv_icmp_ne (tgt := 63) hx hb dL_way_56 (by decide) (fun h56 => ?_) (fun h56 => ?_)
            · skip
              refine lv_iload_n hx hb dL_way_63 rfl (lv_at hl 2 rfl) ?_
              refine lv_iconst (v := 1) hx hb dL_way_64 (by decide) ?_
              refine lv_icmp_eq (tgt := 73) hx hb dL_way_65 (by decide) (fun h65 => ?_) (fun h65 => ?_)
              · skip
                exact absurd h65 (by decide)
              · skip
                refine lv_iload_n hx hb dL_way_68 rfl (lv_at hl 2 rfl) ?_
                refine lv_iconst (v := 5) hx hb dL_way_69 (by decide) ?_
                refine lv_icmp_ne (tgt := 77) hx hb dL_way_70 (by decide) (fun h70 => ?_) (fun h70 => ?_)
                · skip
                  refine lv_iconst (v := 0) hx hb dL_way_77 (by decide) ?_
                  refine lv_istore (lv' := [(5, .int (0 : Int32)), (4, .int (0 : Int32)), (3, .int (-1 : Int32)), (2, .int (4 : Int32)), (0, .int (4 : Int32)), (1, .int (2 : Int32))]) hx hb dL_way_78 hl (by decide) rfl ?_
                  clear hl
                  clear ls
                  intro ls hl
                  refine lv_iload_n hx hb dL_way_80 rfl (lv_at hl 3 rfl) ?_
                  refine lv_iconst (v := 2) hx hb dL_way_81 (by decide) ?_
                  refine lv_icmp_eq (tgt := 90) hx hb dL_way_82 (by decide) (fun h82 => ?_) (fun h82 => ?_)
                  · skip
                    exact absurd h82 (by decide)
                  · skip
                    refine lv_iload_n hx hb dL_way_85 rfl (lv_at hl 3 rfl) ?_
                    refine lv_iconst (v := 4) hx hb dL_way_86 (by decide) ?_
                    refine lv_icmp_ne (tgt := 94) hx hb dL_way_87 (by decide) (fun h87 => ?_) (fun h87 => ?_)
                    · skip
                      exact absurd rfl h87
                    · skip
                      refine lv_iconst (v := 1) hx hb dL_way_90 (by decide) ?_
                      refine lv_goto (tgt := 95) hx hb dL_way_91 (by decide) ?_
                      refine lv_istore (lv' := [(6, .int (1 : Int32)), (5, .int (0 : Int32)), (4, .int (0 : Int32)), (3, .int (-1 : Int32)), (2, .int (4 : Int32)), (0, .int (4 : Int32)), (1, .int (2 : Int32))]) hx hb dL_way_95 hl (by decide) rfl ?_
                      clear hl
                      clear ls
                      intro ls hl
                      refine lv_iload_n hx hb dL_way_97 rfl (lv_at hl 6 rfl) ?_
                      refine lv_if_ne (tgt := 105) hx hb dL_way_98 (by decide) (fun h98 => ?_) (fun h98 => ?_)
                      · skip
                        refine lv_iload_n hx hb dL_way_105 rfl (lv_at hl 6 rfl) ?_
                        refine lv_iconst (v := 1) hx hb dL_way_106 (by decide) ?_
                        refine lv_icmp_ne (tgt := 115) hx hb dL_way_107 (by decide) (fun h107 => ?_) (fun h107 => ?_)
                        · skip
                          refine lv_iload_n hx hb dL_way_115 rfl (lv_at hl 6 rfl) ?_
                          refine lv_iconst (v := 2) hx hb dL_way_116 (by decide) ?_
                          refine lv_icmp_ne (tgt := 125) hx hb dL_way_117 (by decide) (fun h117 => ?_) (fun h117 => ?_)
                          · skip
                            exact absurd rfl h117
                          · skip
                            refine lv_iload hx hb dL_way_120 (lv_at hl 1 rfl) ?_
                            refine lv_goto (tgt := 127) hx hb dL_way_122 (by decide) ?_
                            refine lv_istore (lv' := [(7, .int (0 : Int32)), (6, .int (1 : Int32)), (5, .int (0 : Int32)), (4, .int (0 : Int32)), (3, .int (-1 : Int32)), (2, .int (4 : Int32)), (0, .int (4 : Int32)), (1, .int (2 : Int32))]) hx hb dL_way_127 hl (by decide) rfl ?_
                            clear hl
                            clear ls
                            intro ls hl
                            refine lv_iload_n hx hb dL_way_129 rfl (lv_at hl 6 rfl) ?_
                            refine lv_bipush (v := 6) hx hb dL_way_130 (by decide) ?_
                            refine lv_icmp_ge (tgt := 140) hx hb dL_way_132 (by decide) (fun h132 => ?_) (fun h132 => ?_)
                            · skip
                              exact absurd h132 (by decide)
                            · skip
                              refine lv_iload hx hb dL_way_135 (lv_at hl 0 rfl) ?_
                              refine lv_goto (tgt := 143) hx hb dL_way_137 (by decide) ?_
                              exact zreti hF hB () (rfl) (rfl) (rfl) dL_way_143 hQ
                        · skip
                          exact absurd h107 (by decide)
                      · skip
                        exact absurd h98 (by decide)
                · skip
                  exact absurd h70 (by decide)
            · skip
              exact absurd h56 (by decide)
          · skip
            exact absurd h44 (by decide)
        · skip
          exact absurd h35 (by decide)
    · skip
      exact absurd h15 (by decide)
  · skip
    exact absurd h6 (by decide)

set_option maxHeartbeats 4000000 in
set_option maxRecDepth 100000 in
theorem c_L_way_4_3 (l : Launch) (D : va_G) (ka : Nat → ClassId) (kb : Nat → Nat)   : zI l D ka kb yL_way cL_way 8 .int 0 0 [.int (4 : Int32), .int (3 : Int32)] ([]) (fun (r : Int32) (_ : Unit) => r = (zways.getD 19 0)) (fun (_ : Unit) => []) := by
  refine zI.mk RL (by decide +kernel) rfl (Nat.le_of_ble_eq_true rfl) ?_
  intro p e s m below meth c A ls args Q hQ hx hb hF hB hl
  replace hl : lv_has ls 8 [(0, .int (4 : Int32)), (1, .int (3 : Int32))] := hl
  refine lv_iload_n hx hb dL_way_0 rfl (lv_at hl 0 rfl) ?_
  refine lv_bipush (v := 6) hx hb dL_way_1 (by decide) ?_
  refine lv_irem hx hb dL_way_3 (by decide) ?_
  refine ztopi (y := (4 : Int32)) (by decide) ?_
  refine lv_istore_n (lv' := [(2, .int (4 : Int32)), (0, .int (4 : Int32)), (1, .int (3 : Int32))]) hx hb dL_way_4 rfl hl (by decide) rfl ?_
  clear hl
  clear ls
  intro ls hl
  refine lv_iload_n hx hb dL_way_5 rfl (lv_at hl 0 rfl) ?_
  refine lv_if_ne (tgt := 13) hx hb dL_way_6 (by decide) (fun h6 => ?_) (fun h6 => ?_)
  · skip
    refine lv_iload_n hx hb dL_way_13 rfl (lv_at hl 0 rfl) ?_
    refine lv_iconst (v := 2) hx hb dL_way_14 (by decide) ?_
    refine lv_icmp_ne (tgt := 22) hx hb dL_way_15 (by decide) (fun h15 => ?_) (fun h15 => ?_)
    · skip
      refine lv_iload_n hx hb dL_way_22 rfl (lv_at hl 0 rfl) ?_
      refine lv_iconst (v := 4) hx hb dL_way_23 (by decide) ?_
      refine lv_icmp_ne (tgt := 31) hx hb dL_way_24 (by decide) (fun h24 => ?_) (fun h24 => ?_)
      · skip
        exact absurd rfl h24
      · skip
        refine lv_iconst (v := -1) hx hb dL_way_27 (by decide) ?_
        refine lv_goto (tgt := 32) hx hb dL_way_28 (by decide) ?_
        refine lv_istore_n (lv' := [(3, .int (-1 : Int32)), (2, .int (4 : Int32)), (0, .int (4 : Int32)), (1, .int (3 : Int32))]) hx hb dL_way_32 rfl hl (by decide) rfl ?_
        clear hl
        clear ls
        intro ls hl
        refine lv_iload_n hx hb dL_way_33 rfl (lv_at hl 1 rfl) ?_
        refine lv_iconst (v := 1) hx hb dL_way_34 (by decide) ?_
        refine lv_icmp_ne (tgt := 42) hx hb dL_way_35 (by decide) (fun h35 => ?_) (fun h35 => ?_)
        · skip
          refine lv_iload_n hx hb dL_way_42 rfl (lv_at hl 1 rfl) ?_
          refine lv_iconst (v := 5) hx hb dL_way_43 (by decide) ?_
          refine lv_icmp_ne (tgt := 51) hx hb dL_way_44 (by decide) (fun h44 => ?_) (fun h44 => ?_)
          · skip
            refine lv_iconst (v := 0) hx hb dL_way_51 (by decide) ?_
            refine lv_istore (lv' := [(4, .int (0 : Int32)), (3, .int (-1 : Int32)), (2, .int (4 : Int32)), (0, .int (4 : Int32)), (1, .int (3 : Int32))]) hx hb dL_way_52 hl (by decide) rfl ?_
            clear hl
            clear ls
            intro ls hl
            refine lv_iload_n hx hb dL_way_54 rfl (lv_at hl 2 rfl) ?_
            refine lv_iconst (v := 3) hx hb dL_way_55 (by decide) ?_
            refine lv_icmp_ne (tgt := 63) hx hb dL_way_56 (by decide) (fun h56 => ?_) (fun h56 => ?_)
            · skip
              refine lv_iload_n hx hb dL_way_63 rfl (lv_at hl 2 rfl) ?_
              refine lv_iconst (v := 1) hx hb dL_way_64 (by decide) ?_
              refine lv_icmp_eq (tgt := 73) hx hb dL_way_65 (by decide) (fun h65 => ?_) (fun h65 => ?_)
              · skip
                exact absurd h65 (by decide)
              · skip
                refine lv_iload_n hx hb dL_way_68 rfl (lv_at hl 2 rfl) ?_
                refine lv_iconst (v := 5) hx hb dL_way_69 (by decide) ?_
                refine lv_icmp_ne (tgt := 77) hx hb dL_way_70 (by decide) (fun h70 => ?_) (fun h70 => ?_)
                · skip
                  refine lv_iconst (v := 0) hx hb dL_way_77 (by decide) ?_
                  refine lv_istore (lv' := [(5, .int (0 : Int32)), (4, .int (0 : Int32)), (3, .int (-1 : Int32)), (2, .int (4 : Int32)), (0, .int (4 : Int32)), (1, .int (3 : Int32))]) hx hb dL_way_78 hl (by decide) rfl ?_
                  clear hl
                  clear ls
                  intro ls hl
                  refine lv_iload_n hx hb dL_way_80 rfl (lv_at hl 3 rfl) ?_
                  refine lv_iconst (v := 2) hx hb dL_way_81 (by decide) ?_
                  refine lv_icmp_eq (tgt := 90) hx hb dL_way_82 (by decide) (fun h82 => ?_) (fun h82 => ?_)
                  · skip
                    exact absurd h82 (by decide)
                  · skip
                    refine lv_iload_n hx hb dL_way_85 rfl (lv_at hl 3 rfl) ?_
                    refine lv_iconst (v := 4) hx hb dL_way_86 (by decide) ?_
                    refine lv_icmp_ne (tgt := 94) hx hb dL_way_87 (by decide) (fun h87 => ?_) (fun h87 => ?_)
                    · skip
                      exact absurd rfl h87
                    · skip
                      refine lv_iconst (v := 1) hx hb dL_way_90 (by decide) ?_
                      refine lv_goto (tgt := 95) hx hb dL_way_91 (by decide) ?_
                      refine lv_istore (lv' := [(6, .int (1 : Int32)), (5, .int (0 : Int32)), (4, .int (0 : Int32)), (3, .int (-1 : Int32)), (2, .int (4 : Int32)), (0, .int (4 : Int32)), (1, .int (3 : Int32))]) hx hb dL_way_95 hl (by decide) rfl ?_
                      clear hl
                      clear ls
                      intro ls hl
                      refine lv_iload_n hx hb dL_way_97 rfl (lv_at hl 6 rfl) ?_
                      refine lv_if_ne (tgt := 105) hx hb dL_way_98 (by decide) (fun h98 => ?_) (fun h98 => ?_)
                      · skip
                        refine lv_iload_n hx hb dL_way_105 rfl (lv_at hl 6 rfl) ?_
                        refine lv_iconst (v := 1) hx hb dL_way_106 (by decide) ?_
                        refine lv_icmp_ne (tgt := 115) hx hb dL_way_107 (by decide) (fun h107 => ?_) (fun h107 => ?_)
                        · skip
                          refine lv_iload_n hx hb dL_way_115 rfl (lv_at hl 6 rfl) ?_
                          refine lv_iconst (v := 2) hx hb dL_way_116 (by decide) ?_
                          refine lv_icmp_ne (tgt := 125) hx hb dL_way_117 (by decide) (fun h117 => ?_) (fun h117 => ?_)
                          · skip
                            refine lv_iload hx hb dL_way_125 (lv_at hl 0 rfl) ?_
                            refine lv_istore (lv' := [(7, .int (1 : Int32)), (6, .int (1 : Int32)), (5, .int (0 : Int32)), (4, .int (0 : Int32)), (3, .int (-1 : Int32)), (2, .int (4 : Int32)), (0, .int (4 : Int32)), (1, .int (3 : Int32))]) hx hb dL_way_127 hl (by decide) rfl ?_
                            clear hl
                            clear ls
                            intro ls hl
                            refine lv_iload_n hx hb dL_way_129 rfl (lv_at hl 6 rfl) ?_
                            refine lv_bipush (v := 6) hx hb dL_way_130 (by decide) ?_
                            refine lv_icmp_ge (tgt := 140) hx hb dL_way_132 (by decide) (fun h132 => ?_) (fun h132 => ?_)
                            · skip
                              exact absurd h132 (by decide)
                            · skip
                              refine lv_iload hx hb dL_way_135 (lv_at hl 0 rfl) ?_
                              refine lv_goto (tgt := 143) hx hb dL_way_137 (by decide) ?_
                              exact zreti hF hB () (rfl) (rfl) (rfl) dL_way_143 hQ
                          · skip
                            exact absurd h117 (by decide)
                        · skip
                          exact absurd h107 (by decide)
                      · skip
                        exact absurd h98 (by decide)
                · skip
                  exact absurd h70 (by decide)
            · skip
              exact absurd h56 (by decide)
          · skip
            exact absurd h44 (by decide)
        · skip
          exact absurd h35 (by decide)
    · skip
      exact absurd h15 (by decide)
  · skip
    exact absurd h6 (by decide)

set_option maxHeartbeats 4000000 in
set_option maxRecDepth 100000 in
theorem c_L_way_5_0 (l : Launch) (D : va_G) (ka : Nat → ClassId) (kb : Nat → Nat)   : zI l D ka kb yL_way cL_way 8 .int 0 0 [.int (5 : Int32), .int (0 : Int32)] ([]) (fun (r : Int32) (_ : Unit) => r = (zways.getD 20 0)) (fun (_ : Unit) => []) := by
  refine zI.mk RL (by decide +kernel) rfl (Nat.le_of_ble_eq_true rfl) ?_
  intro p e s m below meth c A ls args Q hQ hx hb hF hB hl
  replace hl : lv_has ls 8 [(0, .int (5 : Int32)), (1, .int (0 : Int32))] := hl
  refine lv_iload_n hx hb dL_way_0 rfl (lv_at hl 0 rfl) ?_
  refine lv_bipush (v := 6) hx hb dL_way_1 (by decide) ?_
  refine lv_irem hx hb dL_way_3 (by decide) ?_
  refine ztopi (y := (5 : Int32)) (by decide) ?_
  refine lv_istore_n (lv' := [(2, .int (5 : Int32)), (0, .int (5 : Int32)), (1, .int (0 : Int32))]) hx hb dL_way_4 rfl hl (by decide) rfl ?_
  clear hl
  clear ls
  intro ls hl
  refine lv_iload_n hx hb dL_way_5 rfl (lv_at hl 0 rfl) ?_
  refine lv_if_ne (tgt := 13) hx hb dL_way_6 (by decide) (fun h6 => ?_) (fun h6 => ?_)
  · skip
    refine lv_iload_n hx hb dL_way_13 rfl (lv_at hl 0 rfl) ?_
    refine lv_iconst (v := 2) hx hb dL_way_14 (by decide) ?_
    refine lv_icmp_ne (tgt := 22) hx hb dL_way_15 (by decide) (fun h15 => ?_) (fun h15 => ?_)
    · skip
      refine lv_iload_n hx hb dL_way_22 rfl (lv_at hl 0 rfl) ?_
      refine lv_iconst (v := 4) hx hb dL_way_23 (by decide) ?_
      refine lv_icmp_ne (tgt := 31) hx hb dL_way_24 (by decide) (fun h24 => ?_) (fun h24 => ?_)
      · skip
        refine lv_iconst (v := 0) hx hb dL_way_31 (by decide) ?_
        refine lv_istore_n (lv' := [(3, .int (0 : Int32)), (2, .int (5 : Int32)), (0, .int (5 : Int32)), (1, .int (0 : Int32))]) hx hb dL_way_32 rfl hl (by decide) rfl ?_
        clear hl
        clear ls
        intro ls hl
        refine lv_iload_n hx hb dL_way_33 rfl (lv_at hl 1 rfl) ?_
        refine lv_iconst (v := 1) hx hb dL_way_34 (by decide) ?_
        refine lv_icmp_ne (tgt := 42) hx hb dL_way_35 (by decide) (fun h35 => ?_) (fun h35 => ?_)
        · skip
          refine lv_iload_n hx hb dL_way_42 rfl (lv_at hl 1 rfl) ?_
          refine lv_iconst (v := 5) hx hb dL_way_43 (by decide) ?_
          refine lv_icmp_ne (tgt := 51) hx hb dL_way_44 (by decide) (fun h44 => ?_) (fun h44 => ?_)
          · skip
            exact absurd rfl h44
          · skip
            refine lv_iconst (v := -1) hx hb dL_way_47 (by decide) ?_
            refine lv_goto (tgt := 52) hx hb dL_way_48 (by decide) ?_
            refine lv_istore (lv' := [(4, .int (-1 : Int32)), (3, .int (0 : Int32)), (2, .int (5 : Int32)), (0, .int (5 : Int32)), (1, .int (0 : Int32))]) hx hb dL_way_52 hl (by decide) rfl ?_
            clear hl
            clear ls
            intro ls hl
            refine lv_iload_n hx hb dL_way_54 rfl (lv_at hl 2 rfl) ?_
            refine lv_iconst (v := 3) hx hb dL_way_55 (by decide) ?_
            refine lv_icmp_ne (tgt := 63) hx hb dL_way_56 (by decide) (fun h56 => ?_) (fun h56 => ?_)
            · skip
              refine lv_iload_n hx hb dL_way_63 rfl (lv_at hl 2 rfl) ?_
              refine lv_iconst (v := 1) hx hb dL_way_64 (by decide) ?_
              refine lv_icmp_eq (tgt := 73) hx hb dL_way_65 (by decide) (fun h65 => ?_) (fun h65 => ?_)
              · skip
                exact absurd h65 (by decide)
              · skip
                refine lv_iload_n hx hb dL_way_68 rfl (lv_at hl 2 rfl) ?_
                refine lv_iconst (v := 5) hx hb dL_way_69 (by decide) ?_
                refine lv_icmp_ne (tgt := 77) hx hb dL_way_70 (by decide) (fun h70 => ?_) (fun h70 => ?_)
                · skip
                  exact absurd rfl h70
                · skip
                  refine lv_iconst (v := 1) hx hb dL_way_73 (by decide) ?_
                  refine lv_goto (tgt := 78) hx hb dL_way_74 (by decide) ?_
                  refine lv_istore (lv' := [(5, .int (1 : Int32)), (4, .int (-1 : Int32)), (3, .int (0 : Int32)), (2, .int (5 : Int32)), (0, .int (5 : Int32)), (1, .int (0 : Int32))]) hx hb dL_way_78 hl (by decide) rfl ?_
                  clear hl
                  clear ls
                  intro ls hl
                  refine lv_iload_n hx hb dL_way_80 rfl (lv_at hl 3 rfl) ?_
                  refine lv_iconst (v := 2) hx hb dL_way_81 (by decide) ?_
                  refine lv_icmp_eq (tgt := 90) hx hb dL_way_82 (by decide) (fun h82 => ?_) (fun h82 => ?_)
                  · skip
                    exact absurd h82 (by decide)
                  · skip
                    refine lv_iload_n hx hb dL_way_85 rfl (lv_at hl 3 rfl) ?_
                    refine lv_iconst (v := 4) hx hb dL_way_86 (by decide) ?_
                    refine lv_icmp_ne (tgt := 94) hx hb dL_way_87 (by decide) (fun h87 => ?_) (fun h87 => ?_)
                    · skip
                      refine lv_iconst (v := 0) hx hb dL_way_94 (by decide) ?_
                      refine lv_istore (lv' := [(6, .int (0 : Int32)), (5, .int (1 : Int32)), (4, .int (-1 : Int32)), (3, .int (0 : Int32)), (2, .int (5 : Int32)), (0, .int (5 : Int32)), (1, .int (0 : Int32))]) hx hb dL_way_95 hl (by decide) rfl ?_
                      clear hl
                      clear ls
                      intro ls hl
                      refine lv_iload_n hx hb dL_way_97 rfl (lv_at hl 6 rfl) ?_
                      refine lv_if_ne (tgt := 105) hx hb dL_way_98 (by decide) (fun h98 => ?_) (fun h98 => ?_)
                      · skip
                        exact absurd (by decide) h98
                      · skip
                        refine lv_iload_n hx hb dL_way_101 rfl (lv_at hl 3 rfl) ?_
                        refine lv_goto (tgt := 127) hx hb dL_way_102 (by decide) ?_
                        refine lv_istore (lv' := [(7, .int (0 : Int32)), (6, .int (0 : Int32)), (5, .int (1 : Int32)), (4, .int (-1 : Int32)), (3, .int (0 : Int32)), (2, .int (5 : Int32)), (0, .int (5 : Int32)), (1, .int (0 : Int32))]) hx hb dL_way_127 hl (by decide) rfl ?_
                        clear hl
                        clear ls
                        intro ls hl
                        refine lv_iload_n hx hb dL_way_129 rfl (lv_at hl 6 rfl) ?_
                        refine lv_bipush (v := 6) hx hb dL_way_130 (by decide) ?_
                        refine lv_icmp_ge (tgt := 140) hx hb dL_way_132 (by decide) (fun h132 => ?_) (fun h132 => ?_)
                        · skip
                          exact absurd h132 (by decide)
                        · skip
                          refine lv_iload hx hb dL_way_135 (lv_at hl 0 rfl) ?_
                          refine lv_goto (tgt := 143) hx hb dL_way_137 (by decide) ?_
                          exact zreti hF hB () (rfl) (rfl) (rfl) dL_way_143 hQ
                    · skip
                      exact absurd h87 (by decide)
            · skip
              exact absurd h56 (by decide)
        · skip
          exact absurd h35 (by decide)
      · skip
        exact absurd h24 (by decide)
    · skip
      exact absurd h15 (by decide)
  · skip
    exact absurd h6 (by decide)

set_option maxHeartbeats 4000000 in
set_option maxRecDepth 100000 in
theorem c_L_way_5_1 (l : Launch) (D : va_G) (ka : Nat → ClassId) (kb : Nat → Nat)   : zI l D ka kb yL_way cL_way 8 .int 0 0 [.int (5 : Int32), .int (1 : Int32)] ([]) (fun (r : Int32) (_ : Unit) => r = (zways.getD 21 0)) (fun (_ : Unit) => []) := by
  refine zI.mk RL (by decide +kernel) rfl (Nat.le_of_ble_eq_true rfl) ?_
  intro p e s m below meth c A ls args Q hQ hx hb hF hB hl
  replace hl : lv_has ls 8 [(0, .int (5 : Int32)), (1, .int (1 : Int32))] := hl
  refine lv_iload_n hx hb dL_way_0 rfl (lv_at hl 0 rfl) ?_
  refine lv_bipush (v := 6) hx hb dL_way_1 (by decide) ?_
  refine lv_irem hx hb dL_way_3 (by decide) ?_
  refine ztopi (y := (5 : Int32)) (by decide) ?_
  refine lv_istore_n (lv' := [(2, .int (5 : Int32)), (0, .int (5 : Int32)), (1, .int (1 : Int32))]) hx hb dL_way_4 rfl hl (by decide) rfl ?_
  clear hl
  clear ls
  intro ls hl
  refine lv_iload_n hx hb dL_way_5 rfl (lv_at hl 0 rfl) ?_
  refine lv_if_ne (tgt := 13) hx hb dL_way_6 (by decide) (fun h6 => ?_) (fun h6 => ?_)
  · skip
    refine lv_iload_n hx hb dL_way_13 rfl (lv_at hl 0 rfl) ?_
    refine lv_iconst (v := 2) hx hb dL_way_14 (by decide) ?_
    refine lv_icmp_ne (tgt := 22) hx hb dL_way_15 (by decide) (fun h15 => ?_) (fun h15 => ?_)
    · skip
      refine lv_iload_n hx hb dL_way_22 rfl (lv_at hl 0 rfl) ?_
      refine lv_iconst (v := 4) hx hb dL_way_23 (by decide) ?_
      refine lv_icmp_ne (tgt := 31) hx hb dL_way_24 (by decide) (fun h24 => ?_) (fun h24 => ?_)
      · skip
        refine lv_iconst (v := 0) hx hb dL_way_31 (by decide) ?_
        refine lv_istore_n (lv' := [(3, .int (0 : Int32)), (2, .int (5 : Int32)), (0, .int (5 : Int32)), (1, .int (1 : Int32))]) hx hb dL_way_32 rfl hl (by decide) rfl ?_
        clear hl
        clear ls
        intro ls hl
        refine lv_iload_n hx hb dL_way_33 rfl (lv_at hl 1 rfl) ?_
        refine lv_iconst (v := 1) hx hb dL_way_34 (by decide) ?_
        refine lv_icmp_ne (tgt := 42) hx hb dL_way_35 (by decide) (fun h35 => ?_) (fun h35 => ?_)
        · skip
          refine lv_iload_n hx hb dL_way_42 rfl (lv_at hl 1 rfl) ?_
          refine lv_iconst (v := 5) hx hb dL_way_43 (by decide) ?_
          refine lv_icmp_ne (tgt := 51) hx hb dL_way_44 (by decide) (fun h44 => ?_) (fun h44 => ?_)
          · skip
            exact absurd rfl h44
          · skip
            refine lv_iconst (v := -1) hx hb dL_way_47 (by decide) ?_
            refine lv_goto (tgt := 52) hx hb dL_way_48 (by decide) ?_
            refine lv_istore (lv' := [(4, .int (-1 : Int32)), (3, .int (0 : Int32)), (2, .int (5 : Int32)), (0, .int (5 : Int32)), (1, .int (1 : Int32))]) hx hb dL_way_52 hl (by decide) rfl ?_
            clear hl
            clear ls
            intro ls hl
            refine lv_iload_n hx hb dL_way_54 rfl (lv_at hl 2 rfl) ?_
            refine lv_iconst (v := 3) hx hb dL_way_55 (by decide) ?_
            refine lv_icmp_ne (tgt := 63) hx hb dL_way_56 (by decide) (fun h56 => ?_) (fun h56 => ?_)
            · skip
              refine lv_iload_n hx hb dL_way_63 rfl (lv_at hl 2 rfl) ?_
              refine lv_iconst (v := 1) hx hb dL_way_64 (by decide) ?_
              refine lv_icmp_eq (tgt := 73) hx hb dL_way_65 (by decide) (fun h65 => ?_) (fun h65 => ?_)
              · skip
                exact absurd h65 (by decide)
              · skip
                refine lv_iload_n hx hb dL_way_68 rfl (lv_at hl 2 rfl) ?_
                refine lv_iconst (v := 5) hx hb dL_way_69 (by decide) ?_
                refine lv_icmp_ne (tgt := 77) hx hb dL_way_70 (by decide) (fun h70 => ?_) (fun h70 => ?_)
                · skip
                  exact absurd rfl h70
                · skip
                  refine lv_iconst (v := 1) hx hb dL_way_73 (by decide) ?_
                  refine lv_goto (tgt := 78) hx hb dL_way_74 (by decide) ?_
                  refine lv_istore (lv' := [(5, .int (1 : Int32)), (4, .int (-1 : Int32)), (3, .int (0 : Int32)), (2, .int (5 : Int32)), (0, .int (5 : Int32)), (1, .int (1 : Int32))]) hx hb dL_way_78 hl (by decide) rfl ?_
                  clear hl
                  clear ls
                  intro ls hl
                  refine lv_iload_n hx hb dL_way_80 rfl (lv_at hl 3 rfl) ?_
                  refine lv_iconst (v := 2) hx hb dL_way_81 (by decide) ?_
                  refine lv_icmp_eq (tgt := 90) hx hb dL_way_82 (by decide) (fun h82 => ?_) (fun h82 => ?_)
                  · skip
                    exact absurd h82 (by decide)
                  · skip
                    refine lv_iload_n hx hb dL_way_85 rfl (lv_at hl 3 rfl) ?_
                    refine lv_iconst (v := 4) hx hb dL_way_86 (by decide) ?_
                    refine lv_icmp_ne (tgt := 94) hx hb dL_way_87 (by decide) (fun h87 => ?_) (fun h87 => ?_)
                    · skip
                      refine lv_iconst (v := 0) hx hb dL_way_94 (by decide) ?_
                      refine lv_istore (lv' := [(6, .int (0 : Int32)), (5, .int (1 : Int32)), (4, .int (-1 : Int32)), (3, .int (0 : Int32)), (2, .int (5 : Int32)), (0, .int (5 : Int32)), (1, .int (1 : Int32))]) hx hb dL_way_95 hl (by decide) rfl ?_
                      clear hl
                      clear ls
                      intro ls hl
                      refine lv_iload_n hx hb dL_way_97 rfl (lv_at hl 6 rfl) ?_
                      refine lv_if_ne (tgt := 105) hx hb dL_way_98 (by decide) (fun h98 => ?_) (fun h98 => ?_)
                      · skip
                        refine lv_iload_n hx hb dL_way_105 rfl (lv_at hl 6 rfl) ?_
                        refine lv_iconst (v := 1) hx hb dL_way_106 (by decide) ?_
                        refine lv_icmp_ne (tgt := 115) hx hb dL_way_107 (by decide) (fun h107 => ?_) (fun h107 => ?_)
                        · skip
                          exact absurd rfl h107
                        · skip
                          refine lv_iload hx hb dL_way_110 (lv_at hl 2 rfl) ?_
                          refine lv_goto (tgt := 127) hx hb dL_way_112 (by decide) ?_
                          refine lv_istore (lv' := [(7, .int (-1 : Int32)), (6, .int (0 : Int32)), (5, .int (1 : Int32)), (4, .int (-1 : Int32)), (3, .int (0 : Int32)), (2, .int (5 : Int32)), (0, .int (5 : Int32)), (1, .int (1 : Int32))]) hx hb dL_way_127 hl (by decide) rfl ?_
                          clear hl
                          clear ls
                          intro ls hl
                          refine lv_iload_n hx hb dL_way_129 rfl (lv_at hl 6 rfl) ?_
                          refine lv_bipush (v := 6) hx hb dL_way_130 (by decide) ?_
                          refine lv_icmp_ge (tgt := 140) hx hb dL_way_132 (by decide) (fun h132 => ?_) (fun h132 => ?_)
                          · skip
                            exact absurd h132 (by decide)
                          · skip
                            refine lv_iload hx hb dL_way_135 (lv_at hl 0 rfl) ?_
                            refine lv_goto (tgt := 143) hx hb dL_way_137 (by decide) ?_
                            exact zreti hF hB () (rfl) (rfl) (rfl) dL_way_143 hQ
                      · skip
                        exact absurd h98 (by decide)
                    · skip
                      exact absurd h87 (by decide)
            · skip
              exact absurd h56 (by decide)
        · skip
          exact absurd h35 (by decide)
      · skip
        exact absurd h24 (by decide)
    · skip
      exact absurd h15 (by decide)
  · skip
    exact absurd h6 (by decide)

set_option maxHeartbeats 4000000 in
set_option maxRecDepth 100000 in
theorem c_L_way_5_2 (l : Launch) (D : va_G) (ka : Nat → ClassId) (kb : Nat → Nat)   : zI l D ka kb yL_way cL_way 8 .int 0 0 [.int (5 : Int32), .int (2 : Int32)] ([]) (fun (r : Int32) (_ : Unit) => r = (zways.getD 22 0)) (fun (_ : Unit) => []) := by
  refine zI.mk RL (by decide +kernel) rfl (Nat.le_of_ble_eq_true rfl) ?_
  intro p e s m below meth c A ls args Q hQ hx hb hF hB hl
  replace hl : lv_has ls 8 [(0, .int (5 : Int32)), (1, .int (2 : Int32))] := hl
  refine lv_iload_n hx hb dL_way_0 rfl (lv_at hl 0 rfl) ?_
  refine lv_bipush (v := 6) hx hb dL_way_1 (by decide) ?_
  refine lv_irem hx hb dL_way_3 (by decide) ?_
  refine ztopi (y := (5 : Int32)) (by decide) ?_
  refine lv_istore_n (lv' := [(2, .int (5 : Int32)), (0, .int (5 : Int32)), (1, .int (2 : Int32))]) hx hb dL_way_4 rfl hl (by decide) rfl ?_
  clear hl
  clear ls
  intro ls hl
  refine lv_iload_n hx hb dL_way_5 rfl (lv_at hl 0 rfl) ?_
  refine lv_if_ne (tgt := 13) hx hb dL_way_6 (by decide) (fun h6 => ?_) (fun h6 => ?_)
  · skip
    refine lv_iload_n hx hb dL_way_13 rfl (lv_at hl 0 rfl) ?_
    refine lv_iconst (v := 2) hx hb dL_way_14 (by decide) ?_
    refine lv_icmp_ne (tgt := 22) hx hb dL_way_15 (by decide) (fun h15 => ?_) (fun h15 => ?_)
    · skip
      refine lv_iload_n hx hb dL_way_22 rfl (lv_at hl 0 rfl) ?_
      refine lv_iconst (v := 4) hx hb dL_way_23 (by decide) ?_
      refine lv_icmp_ne (tgt := 31) hx hb dL_way_24 (by decide) (fun h24 => ?_) (fun h24 => ?_)
      · skip
        refine lv_iconst (v := 0) hx hb dL_way_31 (by decide) ?_
        refine lv_istore_n (lv' := [(3, .int (0 : Int32)), (2, .int (5 : Int32)), (0, .int (5 : Int32)), (1, .int (2 : Int32))]) hx hb dL_way_32 rfl hl (by decide) rfl ?_
        clear hl
        clear ls
        intro ls hl
        refine lv_iload_n hx hb dL_way_33 rfl (lv_at hl 1 rfl) ?_
        refine lv_iconst (v := 1) hx hb dL_way_34 (by decide) ?_
        refine lv_icmp_ne (tgt := 42) hx hb dL_way_35 (by decide) (fun h35 => ?_) (fun h35 => ?_)
        · skip
          refine lv_iload_n hx hb dL_way_42 rfl (lv_at hl 1 rfl) ?_
          refine lv_iconst (v := 5) hx hb dL_way_43 (by decide) ?_
          refine lv_icmp_ne (tgt := 51) hx hb dL_way_44 (by decide) (fun h44 => ?_) (fun h44 => ?_)
          · skip
            exact absurd rfl h44
          · skip
            refine lv_iconst (v := -1) hx hb dL_way_47 (by decide) ?_
            refine lv_goto (tgt := 52) hx hb dL_way_48 (by decide) ?_
            refine lv_istore (lv' := [(4, .int (-1 : Int32)), (3, .int (0 : Int32)), (2, .int (5 : Int32)), (0, .int (5 : Int32)), (1, .int (2 : Int32))]) hx hb dL_way_52 hl (by decide) rfl ?_
            clear hl
            clear ls
            intro ls hl
            refine lv_iload_n hx hb dL_way_54 rfl (lv_at hl 2 rfl) ?_
            refine lv_iconst (v := 3) hx hb dL_way_55 (by decide) ?_
            refine lv_icmp_ne (tgt := 63) hx hb dL_way_56 (by decide) (fun h56 => ?_) (fun h56 => ?_)
            · skip
              refine lv_iload_n hx hb dL_way_63 rfl (lv_at hl 2 rfl) ?_
              refine lv_iconst (v := 1) hx hb dL_way_64 (by decide) ?_
              refine lv_icmp_eq (tgt := 73) hx hb dL_way_65 (by decide) (fun h65 => ?_) (fun h65 => ?_)
              · skip
                exact absurd h65 (by decide)
              · skip
                refine lv_iload_n hx hb dL_way_68 rfl (lv_at hl 2 rfl) ?_
                refine lv_iconst (v := 5) hx hb dL_way_69 (by decide) ?_
                refine lv_icmp_ne (tgt := 77) hx hb dL_way_70 (by decide) (fun h70 => ?_) (fun h70 => ?_)
                · skip
                  exact absurd rfl h70
                · skip
                  refine lv_iconst (v := 1) hx hb dL_way_73 (by decide) ?_
                  refine lv_goto (tgt := 78) hx hb dL_way_74 (by decide) ?_
                  refine lv_istore (lv' := [(5, .int (1 : Int32)), (4, .int (-1 : Int32)), (3, .int (0 : Int32)), (2, .int (5 : Int32)), (0, .int (5 : Int32)), (1, .int (2 : Int32))]) hx hb dL_way_78 hl (by decide) rfl ?_
                  clear hl
                  clear ls
                  intro ls hl
                  refine lv_iload_n hx hb dL_way_80 rfl (lv_at hl 3 rfl) ?_
                  refine lv_iconst (v := 2) hx hb dL_way_81 (by decide) ?_
                  refine lv_icmp_eq (tgt := 90) hx hb dL_way_82 (by decide) (fun h82 => ?_) (fun h82 => ?_)
                  · skip
                    exact absurd h82 (by decide)
                  · skip
                    refine lv_iload_n hx hb dL_way_85 rfl (lv_at hl 3 rfl) ?_
                    refine lv_iconst (v := 4) hx hb dL_way_86 (by decide) ?_
                    refine lv_icmp_ne (tgt := 94) hx hb dL_way_87 (by decide) (fun h87 => ?_) (fun h87 => ?_)
                    · skip
                      refine lv_iconst (v := 0) hx hb dL_way_94 (by decide) ?_
                      refine lv_istore (lv' := [(6, .int (0 : Int32)), (5, .int (1 : Int32)), (4, .int (-1 : Int32)), (3, .int (0 : Int32)), (2, .int (5 : Int32)), (0, .int (5 : Int32)), (1, .int (2 : Int32))]) hx hb dL_way_95 hl (by decide) rfl ?_
                      clear hl
                      clear ls
                      intro ls hl
                      refine lv_iload_n hx hb dL_way_97 rfl (lv_at hl 6 rfl) ?_
                      refine lv_if_ne (tgt := 105) hx hb dL_way_98 (by decide) (fun h98 => ?_) (fun h98 => ?_)
                      · skip
                        refine lv_iload_n hx hb dL_way_105 rfl (lv_at hl 6 rfl) ?_
                        refine lv_iconst (v := 1) hx hb dL_way_106 (by decide) ?_
                        refine lv_icmp_ne (tgt := 115) hx hb dL_way_107 (by decide) (fun h107 => ?_) (fun h107 => ?_)
                        · skip
                          refine lv_iload_n hx hb dL_way_115 rfl (lv_at hl 6 rfl) ?_
                          refine lv_iconst (v := 2) hx hb dL_way_116 (by decide) ?_
                          refine lv_icmp_ne (tgt := 125) hx hb dL_way_117 (by decide) (fun h117 => ?_) (fun h117 => ?_)
                          · skip
                            exact absurd rfl h117
                          · skip
                            refine lv_iload hx hb dL_way_120 (lv_at hl 1 rfl) ?_
                            refine lv_goto (tgt := 127) hx hb dL_way_122 (by decide) ?_
                            refine lv_istore (lv' := [(7, .int (1 : Int32)), (6, .int (0 : Int32)), (5, .int (1 : Int32)), (4, .int (-1 : Int32)), (3, .int (0 : Int32)), (2, .int (5 : Int32)), (0, .int (5 : Int32)), (1, .int (2 : Int32))]) hx hb dL_way_127 hl (by decide) rfl ?_
                            clear hl
                            clear ls
                            intro ls hl
                            refine lv_iload_n hx hb dL_way_129 rfl (lv_at hl 6 rfl) ?_
                            refine lv_bipush (v := 6) hx hb dL_way_130 (by decide) ?_
                            refine lv_icmp_ge (tgt := 140) hx hb dL_way_132 (by decide) (fun h132 => ?_) (fun h132 => ?_)
                            · skip
                              exact absurd h132 (by decide)
                            · skip
                              refine lv_iload hx hb dL_way_135 (lv_at hl 0 rfl) ?_
                              refine lv_goto (tgt := 143) hx hb dL_way_137 (by decide) ?_
                              exact zreti hF hB () (rfl) (rfl) (rfl) dL_way_143 hQ
                        · skip
                          exact absurd h107 (by decide)
                      · skip
                        exact absurd h98 (by decide)
                    · skip
                      exact absurd h87 (by decide)
            · skip
              exact absurd h56 (by decide)
        · skip
          exact absurd h35 (by decide)
      · skip
        exact absurd h24 (by decide)
    · skip
      exact absurd h15 (by decide)
  · skip
    exact absurd h6 (by decide)

set_option maxHeartbeats 4000000 in
set_option maxRecDepth 100000 in
theorem c_L_way_5_3 (l : Launch) (D : va_G) (ka : Nat → ClassId) (kb : Nat → Nat)   : zI l D ka kb yL_way cL_way 8 .int 0 0 [.int (5 : Int32), .int (3 : Int32)] ([]) (fun (r : Int32) (_ : Unit) => r = (zways.getD 23 0)) (fun (_ : Unit) => []) := by
  refine zI.mk RL (by decide +kernel) rfl (Nat.le_of_ble_eq_true rfl) ?_
  intro p e s m below meth c A ls args Q hQ hx hb hF hB hl
  replace hl : lv_has ls 8 [(0, .int (5 : Int32)), (1, .int (3 : Int32))] := hl
  refine lv_iload_n hx hb dL_way_0 rfl (lv_at hl 0 rfl) ?_
  refine lv_bipush (v := 6) hx hb dL_way_1 (by decide) ?_
  refine lv_irem hx hb dL_way_3 (by decide) ?_
  refine ztopi (y := (5 : Int32)) (by decide) ?_
  refine lv_istore_n (lv' := [(2, .int (5 : Int32)), (0, .int (5 : Int32)), (1, .int (3 : Int32))]) hx hb dL_way_4 rfl hl (by decide) rfl ?_
  clear hl
  clear ls
  intro ls hl
  refine lv_iload_n hx hb dL_way_5 rfl (lv_at hl 0 rfl) ?_
  refine lv_if_ne (tgt := 13) hx hb dL_way_6 (by decide) (fun h6 => ?_) (fun h6 => ?_)
  · skip
    refine lv_iload_n hx hb dL_way_13 rfl (lv_at hl 0 rfl) ?_
    refine lv_iconst (v := 2) hx hb dL_way_14 (by decide) ?_
    refine lv_icmp_ne (tgt := 22) hx hb dL_way_15 (by decide) (fun h15 => ?_) (fun h15 => ?_)
    · skip
      refine lv_iload_n hx hb dL_way_22 rfl (lv_at hl 0 rfl) ?_
      refine lv_iconst (v := 4) hx hb dL_way_23 (by decide) ?_
      refine lv_icmp_ne (tgt := 31) hx hb dL_way_24 (by decide) (fun h24 => ?_) (fun h24 => ?_)
      · skip
        refine lv_iconst (v := 0) hx hb dL_way_31 (by decide) ?_
        refine lv_istore_n (lv' := [(3, .int (0 : Int32)), (2, .int (5 : Int32)), (0, .int (5 : Int32)), (1, .int (3 : Int32))]) hx hb dL_way_32 rfl hl (by decide) rfl ?_
        clear hl
        clear ls
        intro ls hl
        refine lv_iload_n hx hb dL_way_33 rfl (lv_at hl 1 rfl) ?_
        refine lv_iconst (v := 1) hx hb dL_way_34 (by decide) ?_
        refine lv_icmp_ne (tgt := 42) hx hb dL_way_35 (by decide) (fun h35 => ?_) (fun h35 => ?_)
        · skip
          refine lv_iload_n hx hb dL_way_42 rfl (lv_at hl 1 rfl) ?_
          refine lv_iconst (v := 5) hx hb dL_way_43 (by decide) ?_
          refine lv_icmp_ne (tgt := 51) hx hb dL_way_44 (by decide) (fun h44 => ?_) (fun h44 => ?_)
          · skip
            exact absurd rfl h44
          · skip
            refine lv_iconst (v := -1) hx hb dL_way_47 (by decide) ?_
            refine lv_goto (tgt := 52) hx hb dL_way_48 (by decide) ?_
            refine lv_istore (lv' := [(4, .int (-1 : Int32)), (3, .int (0 : Int32)), (2, .int (5 : Int32)), (0, .int (5 : Int32)), (1, .int (3 : Int32))]) hx hb dL_way_52 hl (by decide) rfl ?_
            clear hl
            clear ls
            intro ls hl
            refine lv_iload_n hx hb dL_way_54 rfl (lv_at hl 2 rfl) ?_
            refine lv_iconst (v := 3) hx hb dL_way_55 (by decide) ?_
            refine lv_icmp_ne (tgt := 63) hx hb dL_way_56 (by decide) (fun h56 => ?_) (fun h56 => ?_)
            · skip
              refine lv_iload_n hx hb dL_way_63 rfl (lv_at hl 2 rfl) ?_
              refine lv_iconst (v := 1) hx hb dL_way_64 (by decide) ?_
              refine lv_icmp_eq (tgt := 73) hx hb dL_way_65 (by decide) (fun h65 => ?_) (fun h65 => ?_)
              · skip
                exact absurd h65 (by decide)
              · skip
                refine lv_iload_n hx hb dL_way_68 rfl (lv_at hl 2 rfl) ?_
                refine lv_iconst (v := 5) hx hb dL_way_69 (by decide) ?_
                refine lv_icmp_ne (tgt := 77) hx hb dL_way_70 (by decide) (fun h70 => ?_) (fun h70 => ?_)
                · skip
                  exact absurd rfl h70
                · skip
                  refine lv_iconst (v := 1) hx hb dL_way_73 (by decide) ?_
                  refine lv_goto (tgt := 78) hx hb dL_way_74 (by decide) ?_
                  refine lv_istore (lv' := [(5, .int (1 : Int32)), (4, .int (-1 : Int32)), (3, .int (0 : Int32)), (2, .int (5 : Int32)), (0, .int (5 : Int32)), (1, .int (3 : Int32))]) hx hb dL_way_78 hl (by decide) rfl ?_
                  clear hl
                  clear ls
                  intro ls hl
                  refine lv_iload_n hx hb dL_way_80 rfl (lv_at hl 3 rfl) ?_
                  refine lv_iconst (v := 2) hx hb dL_way_81 (by decide) ?_
                  refine lv_icmp_eq (tgt := 90) hx hb dL_way_82 (by decide) (fun h82 => ?_) (fun h82 => ?_)
                  · skip
                    exact absurd h82 (by decide)
                  · skip
                    refine lv_iload_n hx hb dL_way_85 rfl (lv_at hl 3 rfl) ?_
                    refine lv_iconst (v := 4) hx hb dL_way_86 (by decide) ?_
                    refine lv_icmp_ne (tgt := 94) hx hb dL_way_87 (by decide) (fun h87 => ?_) (fun h87 => ?_)
                    · skip
                      refine lv_iconst (v := 0) hx hb dL_way_94 (by decide) ?_
                      refine lv_istore (lv' := [(6, .int (0 : Int32)), (5, .int (1 : Int32)), (4, .int (-1 : Int32)), (3, .int (0 : Int32)), (2, .int (5 : Int32)), (0, .int (5 : Int32)), (1, .int (3 : Int32))]) hx hb dL_way_95 hl (by decide) rfl ?_
                      clear hl
                      clear ls
                      intro ls hl
                      refine lv_iload_n hx hb dL_way_97 rfl (lv_at hl 6 rfl) ?_
                      refine lv_if_ne (tgt := 105) hx hb dL_way_98 (by decide) (fun h98 => ?_) (fun h98 => ?_)
                      · skip
                        refine lv_iload_n hx hb dL_way_105 rfl (lv_at hl 6 rfl) ?_
                        refine lv_iconst (v := 1) hx hb dL_way_106 (by decide) ?_
                        refine lv_icmp_ne (tgt := 115) hx hb dL_way_107 (by decide) (fun h107 => ?_) (fun h107 => ?_)
                        · skip
                          refine lv_iload_n hx hb dL_way_115 rfl (lv_at hl 6 rfl) ?_
                          refine lv_iconst (v := 2) hx hb dL_way_116 (by decide) ?_
                          refine lv_icmp_ne (tgt := 125) hx hb dL_way_117 (by decide) (fun h117 => ?_) (fun h117 => ?_)
                          · skip
                            refine lv_iload hx hb dL_way_125 (lv_at hl 0 rfl) ?_
                            refine lv_istore (lv' := [(7, .int (0 : Int32)), (6, .int (0 : Int32)), (5, .int (1 : Int32)), (4, .int (-1 : Int32)), (3, .int (0 : Int32)), (2, .int (5 : Int32)), (0, .int (5 : Int32)), (1, .int (3 : Int32))]) hx hb dL_way_127 hl (by decide) rfl ?_
                            clear hl
                            clear ls
                            intro ls hl
                            refine lv_iload_n hx hb dL_way_129 rfl (lv_at hl 6 rfl) ?_
                            refine lv_bipush (v := 6) hx hb dL_way_130 (by decide) ?_
                            refine lv_icmp_ge (tgt := 140) hx hb dL_way_132 (by decide) (fun h132 => ?_) (fun h132 => ?_)
                            · skip
                              exact absurd h132 (by decide)
                            · skip
                              refine lv_iload hx hb dL_way_135 (lv_at hl 0 rfl) ?_
                              refine lv_goto (tgt := 143) hx hb dL_way_137 (by decide) ?_
                              exact zreti hF hB () (rfl) (rfl) (rfl) dL_way_143 hQ
                          · skip
                            exact absurd h117 (by decide)
                        · skip
                          exact absurd h107 (by decide)
                      · skip
                        exact absurd h98 (by decide)
                    · skip
                      exact absurd h87 (by decide)
            · skip
              exact absurd h56 (by decide)
        · skip
          exact absurd h35 (by decide)
      · skip
        exact absurd h24 (by decide)
    · skip
      exact absurd h15 (by decide)
  · skip
    exact absurd h6 (by decide)

set_option maxHeartbeats 4000000 in
set_option maxRecDepth 100000 in
theorem c_L_way_6_0 (l : Launch) (D : va_G) (ka : Nat → ClassId) (kb : Nat → Nat)   : zI l D ka kb yL_way cL_way 8 .int 0 0 [.int (6 : Int32), .int (0 : Int32)] ([]) (fun (r : Int32) (_ : Unit) => r = (zways.getD 24 0)) (fun (_ : Unit) => []) := by
  refine zI.mk RL (by decide +kernel) rfl (Nat.le_of_ble_eq_true rfl) ?_
  intro p e s m below meth c A ls args Q hQ hx hb hF hB hl
  replace hl : lv_has ls 8 [(0, .int (6 : Int32)), (1, .int (0 : Int32))] := hl
  refine lv_iload_n hx hb dL_way_0 rfl (lv_at hl 0 rfl) ?_
  refine lv_bipush (v := 6) hx hb dL_way_1 (by decide) ?_
  refine lv_irem hx hb dL_way_3 (by decide) ?_
  refine ztopi (y := (0 : Int32)) (by decide) ?_
  refine lv_istore_n (lv' := [(2, .int (0 : Int32)), (0, .int (6 : Int32)), (1, .int (0 : Int32))]) hx hb dL_way_4 rfl hl (by decide) rfl ?_
  clear hl
  clear ls
  intro ls hl
  refine lv_iload_n hx hb dL_way_5 rfl (lv_at hl 0 rfl) ?_
  refine lv_if_ne (tgt := 13) hx hb dL_way_6 (by decide) (fun h6 => ?_) (fun h6 => ?_)
  · skip
    exact absurd (by decide) h6
  · skip
    refine lv_iconst (v := 2) hx hb dL_way_9 (by decide) ?_
    refine lv_goto (tgt := 32) hx hb dL_way_10 (by decide) ?_
    refine lv_istore_n (lv' := [(3, .int (2 : Int32)), (2, .int (0 : Int32)), (0, .int (6 : Int32)), (1, .int (0 : Int32))]) hx hb dL_way_32 rfl hl (by decide) rfl ?_
    clear hl
    clear ls
    intro ls hl
    refine lv_iload_n hx hb dL_way_33 rfl (lv_at hl 1 rfl) ?_
    refine lv_iconst (v := 1) hx hb dL_way_34 (by decide) ?_
    refine lv_icmp_ne (tgt := 42) hx hb dL_way_35 (by decide) (fun h35 => ?_) (fun h35 => ?_)
    · skip
      refine lv_iload_n hx hb dL_way_42 rfl (lv_at hl 1 rfl) ?_
      refine lv_iconst (v := 5) hx hb dL_way_43 (by decide) ?_
      refine lv_icmp_ne (tgt := 51) hx hb dL_way_44 (by decide) (fun h44 => ?_) (fun h44 => ?_)
      · skip
        refine lv_iconst (v := 0) hx hb dL_way_51 (by decide) ?_
        refine lv_istore (lv' := [(4, .int (0 : Int32)), (3, .int (2 : Int32)), (2, .int (0 : Int32)), (0, .int (6 : Int32)), (1, .int (0 : Int32))]) hx hb dL_way_52 hl (by decide) rfl ?_
        clear hl
        clear ls
        intro ls hl
        refine lv_iload_n hx hb dL_way_54 rfl (lv_at hl 2 rfl) ?_
        refine lv_iconst (v := 3) hx hb dL_way_55 (by decide) ?_
        refine lv_icmp_ne (tgt := 63) hx hb dL_way_56 (by decide) (fun h56 => ?_) (fun h56 => ?_)
        · skip
          refine lv_iload_n hx hb dL_way_63 rfl (lv_at hl 2 rfl) ?_
          refine lv_iconst (v := 1) hx hb dL_way_64 (by decide) ?_
          refine lv_icmp_eq (tgt := 73) hx hb dL_way_65 (by decide) (fun h65 => ?_) (fun h65 => ?_)
          · skip
            exact absurd h65 (by decide)
          · skip
            refine lv_iload_n hx hb dL_way_68 rfl (lv_at hl 2 rfl) ?_
            refine lv_iconst (v := 5) hx hb dL_way_69 (by decide) ?_
            refine lv_icmp_ne (tgt := 77) hx hb dL_way_70 (by decide) (fun h70 => ?_) (fun h70 => ?_)
            · skip
              refine lv_iconst (v := 0) hx hb dL_way_77 (by decide) ?_
              refine lv_istore (lv' := [(5, .int (0 : Int32)), (4, .int (0 : Int32)), (3, .int (2 : Int32)), (2, .int (0 : Int32)), (0, .int (6 : Int32)), (1, .int (0 : Int32))]) hx hb dL_way_78 hl (by decide) rfl ?_
              clear hl
              clear ls
              intro ls hl
              refine lv_iload_n hx hb dL_way_80 rfl (lv_at hl 3 rfl) ?_
              refine lv_iconst (v := 2) hx hb dL_way_81 (by decide) ?_
              refine lv_icmp_eq (tgt := 90) hx hb dL_way_82 (by decide) (fun h82 => ?_) (fun h82 => ?_)
              · skip
                exact absurd h82 (by decide)
              · skip
                refine lv_iload_n hx hb dL_way_85 rfl (lv_at hl 3 rfl) ?_
                refine lv_iconst (v := 4) hx hb dL_way_86 (by decide) ?_
                refine lv_icmp_ne (tgt := 94) hx hb dL_way_87 (by decide) (fun h87 => ?_) (fun h87 => ?_)
                · skip
                  refine lv_iconst (v := 0) hx hb dL_way_94 (by decide) ?_
                  refine lv_istore (lv' := [(6, .int (0 : Int32)), (5, .int (0 : Int32)), (4, .int (0 : Int32)), (3, .int (2 : Int32)), (2, .int (0 : Int32)), (0, .int (6 : Int32)), (1, .int (0 : Int32))]) hx hb dL_way_95 hl (by decide) rfl ?_
                  clear hl
                  clear ls
                  intro ls hl
                  refine lv_iload_n hx hb dL_way_97 rfl (lv_at hl 6 rfl) ?_
                  refine lv_if_ne (tgt := 105) hx hb dL_way_98 (by decide) (fun h98 => ?_) (fun h98 => ?_)
                  · skip
                    exact absurd (by decide) h98
                  · skip
                    refine lv_iload_n hx hb dL_way_101 rfl (lv_at hl 3 rfl) ?_
                    refine lv_goto (tgt := 127) hx hb dL_way_102 (by decide) ?_
                    refine lv_istore (lv' := [(7, .int (2 : Int32)), (6, .int (0 : Int32)), (5, .int (0 : Int32)), (4, .int (0 : Int32)), (3, .int (2 : Int32)), (2, .int (0 : Int32)), (0, .int (6 : Int32)), (1, .int (0 : Int32))]) hx hb dL_way_127 hl (by decide) rfl ?_
                    clear hl
                    clear ls
                    intro ls hl
                    refine lv_iload_n hx hb dL_way_129 rfl (lv_at hl 6 rfl) ?_
                    refine lv_bipush (v := 6) hx hb dL_way_130 (by decide) ?_
                    refine lv_icmp_ge (tgt := 140) hx hb dL_way_132 (by decide) (fun h132 => ?_) (fun h132 => ?_)
                    · skip
                      refine lv_iload hx hb dL_way_140 (lv_at hl 0 rfl) ?_
                      refine lv_ineg hx hb dL_way_142 ?_
                      exact zreti hF hB () (rfl) (rfl) (rfl) dL_way_143 hQ
                    · skip
                      exact absurd (by decide) h132
                · skip
                  exact absurd h87 (by decide)
            · skip
              exact absurd h70 (by decide)
        · skip
          exact absurd h56 (by decide)
      · skip
        exact absurd h44 (by decide)
    · skip
      exact absurd h35 (by decide)

set_option maxHeartbeats 4000000 in
set_option maxRecDepth 100000 in
theorem c_L_way_6_1 (l : Launch) (D : va_G) (ka : Nat → ClassId) (kb : Nat → Nat)   : zI l D ka kb yL_way cL_way 8 .int 0 0 [.int (6 : Int32), .int (1 : Int32)] ([]) (fun (r : Int32) (_ : Unit) => r = (zways.getD 25 0)) (fun (_ : Unit) => []) := by
  refine zI.mk RL (by decide +kernel) rfl (Nat.le_of_ble_eq_true rfl) ?_
  intro p e s m below meth c A ls args Q hQ hx hb hF hB hl
  replace hl : lv_has ls 8 [(0, .int (6 : Int32)), (1, .int (1 : Int32))] := hl
  refine lv_iload_n hx hb dL_way_0 rfl (lv_at hl 0 rfl) ?_
  refine lv_bipush (v := 6) hx hb dL_way_1 (by decide) ?_
  refine lv_irem hx hb dL_way_3 (by decide) ?_
  refine ztopi (y := (0 : Int32)) (by decide) ?_
  refine lv_istore_n (lv' := [(2, .int (0 : Int32)), (0, .int (6 : Int32)), (1, .int (1 : Int32))]) hx hb dL_way_4 rfl hl (by decide) rfl ?_
  clear hl
  clear ls
  intro ls hl
  refine lv_iload_n hx hb dL_way_5 rfl (lv_at hl 0 rfl) ?_
  refine lv_if_ne (tgt := 13) hx hb dL_way_6 (by decide) (fun h6 => ?_) (fun h6 => ?_)
  · skip
    exact absurd (by decide) h6
  · skip
    refine lv_iconst (v := 2) hx hb dL_way_9 (by decide) ?_
    refine lv_goto (tgt := 32) hx hb dL_way_10 (by decide) ?_
    refine lv_istore_n (lv' := [(3, .int (2 : Int32)), (2, .int (0 : Int32)), (0, .int (6 : Int32)), (1, .int (1 : Int32))]) hx hb dL_way_32 rfl hl (by decide) rfl ?_
    clear hl
    clear ls
    intro ls hl
    refine lv_iload_n hx hb dL_way_33 rfl (lv_at hl 1 rfl) ?_
    refine lv_iconst (v := 1) hx hb dL_way_34 (by decide) ?_
    refine lv_icmp_ne (tgt := 42) hx hb dL_way_35 (by decide) (fun h35 => ?_) (fun h35 => ?_)
    · skip
      refine lv_iload_n hx hb dL_way_42 rfl (lv_at hl 1 rfl) ?_
      refine lv_iconst (v := 5) hx hb dL_way_43 (by decide) ?_
      refine lv_icmp_ne (tgt := 51) hx hb dL_way_44 (by decide) (fun h44 => ?_) (fun h44 => ?_)
      · skip
        refine lv_iconst (v := 0) hx hb dL_way_51 (by decide) ?_
        refine lv_istore (lv' := [(4, .int (0 : Int32)), (3, .int (2 : Int32)), (2, .int (0 : Int32)), (0, .int (6 : Int32)), (1, .int (1 : Int32))]) hx hb dL_way_52 hl (by decide) rfl ?_
        clear hl
        clear ls
        intro ls hl
        refine lv_iload_n hx hb dL_way_54 rfl (lv_at hl 2 rfl) ?_
        refine lv_iconst (v := 3) hx hb dL_way_55 (by decide) ?_
        refine lv_icmp_ne (tgt := 63) hx hb dL_way_56 (by decide) (fun h56 => ?_) (fun h56 => ?_)
        · skip
          refine lv_iload_n hx hb dL_way_63 rfl (lv_at hl 2 rfl) ?_
          refine lv_iconst (v := 1) hx hb dL_way_64 (by decide) ?_
          refine lv_icmp_eq (tgt := 73) hx hb dL_way_65 (by decide) (fun h65 => ?_) (fun h65 => ?_)
          · skip
            exact absurd h65 (by decide)
          · skip
            refine lv_iload_n hx hb dL_way_68 rfl (lv_at hl 2 rfl) ?_
            refine lv_iconst (v := 5) hx hb dL_way_69 (by decide) ?_
            refine lv_icmp_ne (tgt := 77) hx hb dL_way_70 (by decide) (fun h70 => ?_) (fun h70 => ?_)
            · skip
              refine lv_iconst (v := 0) hx hb dL_way_77 (by decide) ?_
              refine lv_istore (lv' := [(5, .int (0 : Int32)), (4, .int (0 : Int32)), (3, .int (2 : Int32)), (2, .int (0 : Int32)), (0, .int (6 : Int32)), (1, .int (1 : Int32))]) hx hb dL_way_78 hl (by decide) rfl ?_
              clear hl
              clear ls
              intro ls hl
              refine lv_iload_n hx hb dL_way_80 rfl (lv_at hl 3 rfl) ?_
              refine lv_iconst (v := 2) hx hb dL_way_81 (by decide) ?_
              refine lv_icmp_eq (tgt := 90) hx hb dL_way_82 (by decide) (fun h82 => ?_) (fun h82 => ?_)
              · skip
                exact absurd h82 (by decide)
              · skip
                refine lv_iload_n hx hb dL_way_85 rfl (lv_at hl 3 rfl) ?_
                refine lv_iconst (v := 4) hx hb dL_way_86 (by decide) ?_
                refine lv_icmp_ne (tgt := 94) hx hb dL_way_87 (by decide) (fun h87 => ?_) (fun h87 => ?_)
                · skip
                  refine lv_iconst (v := 0) hx hb dL_way_94 (by decide) ?_
                  refine lv_istore (lv' := [(6, .int (0 : Int32)), (5, .int (0 : Int32)), (4, .int (0 : Int32)), (3, .int (2 : Int32)), (2, .int (0 : Int32)), (0, .int (6 : Int32)), (1, .int (1 : Int32))]) hx hb dL_way_95 hl (by decide) rfl ?_
                  clear hl
                  clear ls
                  intro ls hl
                  refine lv_iload_n hx hb dL_way_97 rfl (lv_at hl 6 rfl) ?_
                  refine lv_if_ne (tgt := 105) hx hb dL_way_98 (by decide) (fun h98 => ?_) (fun h98 => ?_)
                  · skip
                    refine lv_iload_n hx hb dL_way_105 rfl (lv_at hl 6 rfl) ?_
                    refine lv_iconst (v := 1) hx hb dL_way_106 (by decide) ?_
                    refine lv_icmp_ne (tgt := 115) hx hb dL_way_107 (by decide) (fun h107 => ?_) (fun h107 => ?_)
                    · skip
                      exact absurd rfl h107
                    · skip
                      refine lv_iload hx hb dL_way_110 (lv_at hl 2 rfl) ?_
                      refine lv_goto (tgt := 127) hx hb dL_way_112 (by decide) ?_
                      refine lv_istore (lv' := [(7, .int (0 : Int32)), (6, .int (0 : Int32)), (5, .int (0 : Int32)), (4, .int (0 : Int32)), (3, .int (2 : Int32)), (2, .int (0 : Int32)), (0, .int (6 : Int32)), (1, .int (1 : Int32))]) hx hb dL_way_127 hl (by decide) rfl ?_
                      clear hl
                      clear ls
                      intro ls hl
                      refine lv_iload_n hx hb dL_way_129 rfl (lv_at hl 6 rfl) ?_
                      refine lv_bipush (v := 6) hx hb dL_way_130 (by decide) ?_
                      refine lv_icmp_ge (tgt := 140) hx hb dL_way_132 (by decide) (fun h132 => ?_) (fun h132 => ?_)
                      · skip
                        refine lv_iload hx hb dL_way_140 (lv_at hl 0 rfl) ?_
                        refine lv_ineg hx hb dL_way_142 ?_
                        exact zreti hF hB () (rfl) (rfl) (rfl) dL_way_143 hQ
                      · skip
                        exact absurd (by decide) h132
                  · skip
                    exact absurd h98 (by decide)
                · skip
                  exact absurd h87 (by decide)
            · skip
              exact absurd h70 (by decide)
        · skip
          exact absurd h56 (by decide)
      · skip
        exact absurd h44 (by decide)
    · skip
      exact absurd h35 (by decide)

set_option maxHeartbeats 4000000 in
set_option maxRecDepth 100000 in
theorem c_L_way_6_2 (l : Launch) (D : va_G) (ka : Nat → ClassId) (kb : Nat → Nat)   : zI l D ka kb yL_way cL_way 8 .int 0 0 [.int (6 : Int32), .int (2 : Int32)] ([]) (fun (r : Int32) (_ : Unit) => r = (zways.getD 26 0)) (fun (_ : Unit) => []) := by
  refine zI.mk RL (by decide +kernel) rfl (Nat.le_of_ble_eq_true rfl) ?_
  intro p e s m below meth c A ls args Q hQ hx hb hF hB hl
  replace hl : lv_has ls 8 [(0, .int (6 : Int32)), (1, .int (2 : Int32))] := hl
  refine lv_iload_n hx hb dL_way_0 rfl (lv_at hl 0 rfl) ?_
  refine lv_bipush (v := 6) hx hb dL_way_1 (by decide) ?_
  refine lv_irem hx hb dL_way_3 (by decide) ?_
  refine ztopi (y := (0 : Int32)) (by decide) ?_
  refine lv_istore_n (lv' := [(2, .int (0 : Int32)), (0, .int (6 : Int32)), (1, .int (2 : Int32))]) hx hb dL_way_4 rfl hl (by decide) rfl ?_
  clear hl
  clear ls
  intro ls hl
  refine lv_iload_n hx hb dL_way_5 rfl (lv_at hl 0 rfl) ?_
  refine lv_if_ne (tgt := 13) hx hb dL_way_6 (by decide) (fun h6 => ?_) (fun h6 => ?_)
  · skip
    exact absurd (by decide) h6
  · skip
    refine lv_iconst (v := 2) hx hb dL_way_9 (by decide) ?_
    refine lv_goto (tgt := 32) hx hb dL_way_10 (by decide) ?_
    refine lv_istore_n (lv' := [(3, .int (2 : Int32)), (2, .int (0 : Int32)), (0, .int (6 : Int32)), (1, .int (2 : Int32))]) hx hb dL_way_32 rfl hl (by decide) rfl ?_
    clear hl
    clear ls
    intro ls hl
    refine lv_iload_n hx hb dL_way_33 rfl (lv_at hl 1 rfl) ?_
    refine lv_iconst (v := 1) hx hb dL_way_34 (by decide) ?_
    refine lv_icmp_ne (tgt := 42) hx hb dL_way_35 (by decide) (fun h35 => ?_) (fun h35 => ?_)
    · skip
      refine lv_iload_n hx hb dL_way_42 rfl (lv_at hl 1 rfl) ?_
      refine lv_iconst (v := 5) hx hb dL_way_43 (by decide) ?_
      refine lv_icmp_ne (tgt := 51) hx hb dL_way_44 (by decide) (fun h44 => ?_) (fun h44 => ?_)
      · skip
        refine lv_iconst (v := 0) hx hb dL_way_51 (by decide) ?_
        refine lv_istore (lv' := [(4, .int (0 : Int32)), (3, .int (2 : Int32)), (2, .int (0 : Int32)), (0, .int (6 : Int32)), (1, .int (2 : Int32))]) hx hb dL_way_52 hl (by decide) rfl ?_
        clear hl
        clear ls
        intro ls hl
        refine lv_iload_n hx hb dL_way_54 rfl (lv_at hl 2 rfl) ?_
        refine lv_iconst (v := 3) hx hb dL_way_55 (by decide) ?_
        refine lv_icmp_ne (tgt := 63) hx hb dL_way_56 (by decide) (fun h56 => ?_) (fun h56 => ?_)
        · skip
          refine lv_iload_n hx hb dL_way_63 rfl (lv_at hl 2 rfl) ?_
          refine lv_iconst (v := 1) hx hb dL_way_64 (by decide) ?_
          refine lv_icmp_eq (tgt := 73) hx hb dL_way_65 (by decide) (fun h65 => ?_) (fun h65 => ?_)
          · skip
            exact absurd h65 (by decide)
          · skip
            refine lv_iload_n hx hb dL_way_68 rfl (lv_at hl 2 rfl) ?_
            refine lv_iconst (v := 5) hx hb dL_way_69 (by decide) ?_
            refine lv_icmp_ne (tgt := 77) hx hb dL_way_70 (by decide) (fun h70 => ?_) (fun h70 => ?_)
            · skip
              refine lv_iconst (v := 0) hx hb dL_way_77 (by decide) ?_
              refine lv_istore (lv' := [(5, .int (0 : Int32)), (4, .int (0 : Int32)), (3, .int (2 : Int32)), (2, .int (0 : Int32)), (0, .int (6 : Int32)), (1, .int (2 : Int32))]) hx hb dL_way_78 hl (by decide) rfl ?_
              clear hl
              clear ls
              intro ls hl
              refine lv_iload_n hx hb dL_way_80 rfl (lv_at hl 3 rfl) ?_
              refine lv_iconst (v := 2) hx hb dL_way_81 (by decide) ?_
              refine lv_icmp_eq (tgt := 90) hx hb dL_way_82 (by decide) (fun h82 => ?_) (fun h82 => ?_)
              · skip
                exact absurd h82 (by decide)
              · skip
                refine lv_iload_n hx hb dL_way_85 rfl (lv_at hl 3 rfl) ?_
                refine lv_iconst (v := 4) hx hb dL_way_86 (by decide) ?_
                refine lv_icmp_ne (tgt := 94) hx hb dL_way_87 (by decide) (fun h87 => ?_) (fun h87 => ?_)
                · skip
                  refine lv_iconst (v := 0) hx hb dL_way_94 (by decide) ?_
                  refine lv_istore (lv' := [(6, .int (0 : Int32)), (5, .int (0 : Int32)), (4, .int (0 : Int32)), (3, .int (2 : Int32)), (2, .int (0 : Int32)), (0, .int (6 : Int32)), (1, .int (2 : Int32))]) hx hb dL_way_95 hl (by decide) rfl ?_
                  clear hl
                  clear ls
                  intro ls hl
                  refine lv_iload_n hx hb dL_way_97 rfl (lv_at hl 6 rfl) ?_
                  refine lv_if_ne (tgt := 105) hx hb dL_way_98 (by decide) (fun h98 => ?_) (fun h98 => ?_)
                  · skip
                    refine lv_iload_n hx hb dL_way_105 rfl (lv_at hl 6 rfl) ?_
                    refine lv_iconst (v := 1) hx hb dL_way_106 (by decide) ?_
                    refine lv_icmp_ne (tgt := 115) hx hb dL_way_107 (by decide) (fun h107 => ?_) (fun h107 => ?_)
                    · skip
                      refine lv_iload_n hx hb dL_way_115 rfl (lv_at hl 6 rfl) ?_
                      refine lv_iconst (v := 2) hx hb dL_way_116 (by decide) ?_
                      refine lv_icmp_ne (tgt := 125) hx hb dL_way_117 (by decide) (fun h117 => ?_) (fun h117 => ?_)
                      · skip
                        exact absurd rfl h117
                      · skip
                        refine lv_iload hx hb dL_way_120 (lv_at hl 1 rfl) ?_
                        refine lv_goto (tgt := 127) hx hb dL_way_122 (by decide) ?_
                        refine lv_istore (lv' := [(7, .int (0 : Int32)), (6, .int (0 : Int32)), (5, .int (0 : Int32)), (4, .int (0 : Int32)), (3, .int (2 : Int32)), (2, .int (0 : Int32)), (0, .int (6 : Int32)), (1, .int (2 : Int32))]) hx hb dL_way_127 hl (by decide) rfl ?_
                        clear hl
                        clear ls
                        intro ls hl
                        refine lv_iload_n hx hb dL_way_129 rfl (lv_at hl 6 rfl) ?_
                        refine lv_bipush (v := 6) hx hb dL_way_130 (by decide) ?_
                        refine lv_icmp_ge (tgt := 140) hx hb dL_way_132 (by decide) (fun h132 => ?_) (fun h132 => ?_)
                        · skip
                          refine lv_iload hx hb dL_way_140 (lv_at hl 0 rfl) ?_
                          refine lv_ineg hx hb dL_way_142 ?_
                          exact zreti hF hB () (rfl) (rfl) (rfl) dL_way_143 hQ
                        · skip
                          exact absurd (by decide) h132
                    · skip
                      exact absurd h107 (by decide)
                  · skip
                    exact absurd h98 (by decide)
                · skip
                  exact absurd h87 (by decide)
            · skip
              exact absurd h70 (by decide)
        · skip
          exact absurd h56 (by decide)
      · skip
        exact absurd h44 (by decide)
    · skip
      exact absurd h35 (by decide)

set_option maxHeartbeats 4000000 in
set_option maxRecDepth 100000 in
theorem c_L_way_6_3 (l : Launch) (D : va_G) (ka : Nat → ClassId) (kb : Nat → Nat)   : zI l D ka kb yL_way cL_way 8 .int 0 0 [.int (6 : Int32), .int (3 : Int32)] ([]) (fun (r : Int32) (_ : Unit) => r = (zways.getD 27 0)) (fun (_ : Unit) => []) := by
  refine zI.mk RL (by decide +kernel) rfl (Nat.le_of_ble_eq_true rfl) ?_
  intro p e s m below meth c A ls args Q hQ hx hb hF hB hl
  replace hl : lv_has ls 8 [(0, .int (6 : Int32)), (1, .int (3 : Int32))] := hl
  refine lv_iload_n hx hb dL_way_0 rfl (lv_at hl 0 rfl) ?_
  refine lv_bipush (v := 6) hx hb dL_way_1 (by decide) ?_
  refine lv_irem hx hb dL_way_3 (by decide) ?_
  refine ztopi (y := (0 : Int32)) (by decide) ?_
  refine lv_istore_n (lv' := [(2, .int (0 : Int32)), (0, .int (6 : Int32)), (1, .int (3 : Int32))]) hx hb dL_way_4 rfl hl (by decide) rfl ?_
  clear hl
  clear ls
  intro ls hl
  refine lv_iload_n hx hb dL_way_5 rfl (lv_at hl 0 rfl) ?_
  refine lv_if_ne (tgt := 13) hx hb dL_way_6 (by decide) (fun h6 => ?_) (fun h6 => ?_)
  · skip
    exact absurd (by decide) h6
  · skip
    refine lv_iconst (v := 2) hx hb dL_way_9 (by decide) ?_
    refine lv_goto (tgt := 32) hx hb dL_way_10 (by decide) ?_
    refine lv_istore_n (lv' := [(3, .int (2 : Int32)), (2, .int (0 : Int32)), (0, .int (6 : Int32)), (1, .int (3 : Int32))]) hx hb dL_way_32 rfl hl (by decide) rfl ?_
    clear hl
    clear ls
    intro ls hl
    refine lv_iload_n hx hb dL_way_33 rfl (lv_at hl 1 rfl) ?_
    refine lv_iconst (v := 1) hx hb dL_way_34 (by decide) ?_
    refine lv_icmp_ne (tgt := 42) hx hb dL_way_35 (by decide) (fun h35 => ?_) (fun h35 => ?_)
    · skip
      refine lv_iload_n hx hb dL_way_42 rfl (lv_at hl 1 rfl) ?_
      refine lv_iconst (v := 5) hx hb dL_way_43 (by decide) ?_
      refine lv_icmp_ne (tgt := 51) hx hb dL_way_44 (by decide) (fun h44 => ?_) (fun h44 => ?_)
      · skip
        refine lv_iconst (v := 0) hx hb dL_way_51 (by decide) ?_
        refine lv_istore (lv' := [(4, .int (0 : Int32)), (3, .int (2 : Int32)), (2, .int (0 : Int32)), (0, .int (6 : Int32)), (1, .int (3 : Int32))]) hx hb dL_way_52 hl (by decide) rfl ?_
        clear hl
        clear ls
        intro ls hl
        refine lv_iload_n hx hb dL_way_54 rfl (lv_at hl 2 rfl) ?_
        refine lv_iconst (v := 3) hx hb dL_way_55 (by decide) ?_
        refine lv_icmp_ne (tgt := 63) hx hb dL_way_56 (by decide) (fun h56 => ?_) (fun h56 => ?_)
        · skip
          refine lv_iload_n hx hb dL_way_63 rfl (lv_at hl 2 rfl) ?_
          refine lv_iconst (v := 1) hx hb dL_way_64 (by decide) ?_
          refine lv_icmp_eq (tgt := 73) hx hb dL_way_65 (by decide) (fun h65 => ?_) (fun h65 => ?_)
          · skip
            exact absurd h65 (by decide)
          · skip
            refine lv_iload_n hx hb dL_way_68 rfl (lv_at hl 2 rfl) ?_
            refine lv_iconst (v := 5) hx hb dL_way_69 (by decide) ?_
            refine lv_icmp_ne (tgt := 77) hx hb dL_way_70 (by decide) (fun h70 => ?_) (fun h70 => ?_)
            · skip
              refine lv_iconst (v := 0) hx hb dL_way_77 (by decide) ?_
              refine lv_istore (lv' := [(5, .int (0 : Int32)), (4, .int (0 : Int32)), (3, .int (2 : Int32)), (2, .int (0 : Int32)), (0, .int (6 : Int32)), (1, .int (3 : Int32))]) hx hb dL_way_78 hl (by decide) rfl ?_
              clear hl
              clear ls
              intro ls hl
              refine lv_iload_n hx hb dL_way_80 rfl (lv_at hl 3 rfl) ?_
              refine lv_iconst (v := 2) hx hb dL_way_81 (by decide) ?_
              refine lv_icmp_eq (tgt := 90) hx hb dL_way_82 (by decide) (fun h82 => ?_) (fun h82 => ?_)
              · skip
                exact absurd h82 (by decide)
              · skip
                refine lv_iload_n hx hb dL_way_85 rfl (lv_at hl 3 rfl) ?_
                refine lv_iconst (v := 4) hx hb dL_way_86 (by decide) ?_
                refine lv_icmp_ne (tgt := 94) hx hb dL_way_87 (by decide) (fun h87 => ?_) (fun h87 => ?_)
                · skip
                  refine lv_iconst (v := 0) hx hb dL_way_94 (by decide) ?_
                  refine lv_istore (lv' := [(6, .int (0 : Int32)), (5, .int (0 : Int32)), (4, .int (0 : Int32)), (3, .int (2 : Int32)), (2, .int (0 : Int32)), (0, .int (6 : Int32)), (1, .int (3 : Int32))]) hx hb dL_way_95 hl (by decide) rfl ?_
                  clear hl
                  clear ls
                  intro ls hl
                  refine lv_iload_n hx hb dL_way_97 rfl (lv_at hl 6 rfl) ?_
                  refine lv_if_ne (tgt := 105) hx hb dL_way_98 (by decide) (fun h98 => ?_) (fun h98 => ?_)
                  · skip
                    refine lv_iload_n hx hb dL_way_105 rfl (lv_at hl 6 rfl) ?_
                    refine lv_iconst (v := 1) hx hb dL_way_106 (by decide) ?_
                    refine lv_icmp_ne (tgt := 115) hx hb dL_way_107 (by decide) (fun h107 => ?_) (fun h107 => ?_)
                    · skip
                      refine lv_iload_n hx hb dL_way_115 rfl (lv_at hl 6 rfl) ?_
                      refine lv_iconst (v := 2) hx hb dL_way_116 (by decide) ?_
                      refine lv_icmp_ne (tgt := 125) hx hb dL_way_117 (by decide) (fun h117 => ?_) (fun h117 => ?_)
                      · skip
                        refine lv_iload hx hb dL_way_125 (lv_at hl 0 rfl) ?_
                        refine lv_istore (lv' := [(7, .int (0 : Int32)), (6, .int (0 : Int32)), (5, .int (0 : Int32)), (4, .int (0 : Int32)), (3, .int (2 : Int32)), (2, .int (0 : Int32)), (0, .int (6 : Int32)), (1, .int (3 : Int32))]) hx hb dL_way_127 hl (by decide) rfl ?_
                        clear hl
                        clear ls
                        intro ls hl
                        refine lv_iload_n hx hb dL_way_129 rfl (lv_at hl 6 rfl) ?_
                        refine lv_bipush (v := 6) hx hb dL_way_130 (by decide) ?_
                        refine lv_icmp_ge (tgt := 140) hx hb dL_way_132 (by decide) (fun h132 => ?_) (fun h132 => ?_)
                        · skip
                          refine lv_iload hx hb dL_way_140 (lv_at hl 0 rfl) ?_
                          refine lv_ineg hx hb dL_way_142 ?_
                          exact zreti hF hB () (rfl) (rfl) (rfl) dL_way_143 hQ
                        · skip
                          exact absurd (by decide) h132
                      · skip
                        exact absurd h117 (by decide)
                    · skip
                      exact absurd h107 (by decide)
                  · skip
                    exact absurd h98 (by decide)
                · skip
                  exact absurd h87 (by decide)
            · skip
              exact absurd h70 (by decide)
        · skip
          exact absurd h56 (by decide)
      · skip
        exact absurd h44 (by decide)
    · skip
      exact absurd h35 (by decide)

set_option maxHeartbeats 4000000 in
set_option maxRecDepth 100000 in
theorem c_L_way_7_0 (l : Launch) (D : va_G) (ka : Nat → ClassId) (kb : Nat → Nat)   : zI l D ka kb yL_way cL_way 8 .int 0 0 [.int (7 : Int32), .int (0 : Int32)] ([]) (fun (r : Int32) (_ : Unit) => r = (zways.getD 28 0)) (fun (_ : Unit) => []) := by
  refine zI.mk RL (by decide +kernel) rfl (Nat.le_of_ble_eq_true rfl) ?_
  intro p e s m below meth c A ls args Q hQ hx hb hF hB hl
  replace hl : lv_has ls 8 [(0, .int (7 : Int32)), (1, .int (0 : Int32))] := hl
  refine lv_iload_n hx hb dL_way_0 rfl (lv_at hl 0 rfl) ?_
  refine lv_bipush (v := 6) hx hb dL_way_1 (by decide) ?_
  refine lv_irem hx hb dL_way_3 (by decide) ?_
  refine ztopi (y := (1 : Int32)) (by decide) ?_
  refine lv_istore_n (lv' := [(2, .int (1 : Int32)), (0, .int (7 : Int32)), (1, .int (0 : Int32))]) hx hb dL_way_4 rfl hl (by decide) rfl ?_
  clear hl
  clear ls
  intro ls hl
  refine lv_iload_n hx hb dL_way_5 rfl (lv_at hl 0 rfl) ?_
  refine lv_if_ne (tgt := 13) hx hb dL_way_6 (by decide) (fun h6 => ?_) (fun h6 => ?_)
  · skip
    refine lv_iload_n hx hb dL_way_13 rfl (lv_at hl 0 rfl) ?_
    refine lv_iconst (v := 2) hx hb dL_way_14 (by decide) ?_
    refine lv_icmp_ne (tgt := 22) hx hb dL_way_15 (by decide) (fun h15 => ?_) (fun h15 => ?_)
    · skip
      refine lv_iload_n hx hb dL_way_22 rfl (lv_at hl 0 rfl) ?_
      refine lv_iconst (v := 4) hx hb dL_way_23 (by decide) ?_
      refine lv_icmp_ne (tgt := 31) hx hb dL_way_24 (by decide) (fun h24 => ?_) (fun h24 => ?_)
      · skip
        refine lv_iconst (v := 0) hx hb dL_way_31 (by decide) ?_
        refine lv_istore_n (lv' := [(3, .int (0 : Int32)), (2, .int (1 : Int32)), (0, .int (7 : Int32)), (1, .int (0 : Int32))]) hx hb dL_way_32 rfl hl (by decide) rfl ?_
        clear hl
        clear ls
        intro ls hl
        refine lv_iload_n hx hb dL_way_33 rfl (lv_at hl 1 rfl) ?_
        refine lv_iconst (v := 1) hx hb dL_way_34 (by decide) ?_
        refine lv_icmp_ne (tgt := 42) hx hb dL_way_35 (by decide) (fun h35 => ?_) (fun h35 => ?_)
        · skip
          exact absurd rfl h35
        · skip
          refine lv_iconst (v := 1) hx hb dL_way_38 (by decide) ?_
          refine lv_goto (tgt := 52) hx hb dL_way_39 (by decide) ?_
          refine lv_istore (lv' := [(4, .int (1 : Int32)), (3, .int (0 : Int32)), (2, .int (1 : Int32)), (0, .int (7 : Int32)), (1, .int (0 : Int32))]) hx hb dL_way_52 hl (by decide) rfl ?_
          clear hl
          clear ls
          intro ls hl
          refine lv_iload_n hx hb dL_way_54 rfl (lv_at hl 2 rfl) ?_
          refine lv_iconst (v := 3) hx hb dL_way_55 (by decide) ?_
          refine lv_icmp_ne (tgt := 63) hx hb dL_way_56 (by decide) (fun h56 => ?_) (fun h56 => ?_)
          · skip
            refine lv_iload_n hx hb dL_way_63 rfl (lv_at hl 2 rfl) ?_
            refine lv_iconst (v := 1) hx hb dL_way_64 (by decide) ?_
            refine lv_icmp_eq (tgt := 73) hx hb dL_way_65 (by decide) (fun h65 => ?_) (fun h65 => ?_)
            · skip
              refine lv_iconst (v := 1) hx hb dL_way_73 (by decide) ?_
              refine lv_goto (tgt := 78) hx hb dL_way_74 (by decide) ?_
              refine lv_istore (lv' := [(5, .int (1 : Int32)), (4, .int (1 : Int32)), (3, .int (0 : Int32)), (2, .int (1 : Int32)), (0, .int (7 : Int32)), (1, .int (0 : Int32))]) hx hb dL_way_78 hl (by decide) rfl ?_
              clear hl
              clear ls
              intro ls hl
              refine lv_iload_n hx hb dL_way_80 rfl (lv_at hl 3 rfl) ?_
              refine lv_iconst (v := 2) hx hb dL_way_81 (by decide) ?_
              refine lv_icmp_eq (tgt := 90) hx hb dL_way_82 (by decide) (fun h82 => ?_) (fun h82 => ?_)
              · skip
                exact absurd h82 (by decide)
              · skip
                refine lv_iload_n hx hb dL_way_85 rfl (lv_at hl 3 rfl) ?_
                refine lv_iconst (v := 4) hx hb dL_way_86 (by decide) ?_
                refine lv_icmp_ne (tgt := 94) hx hb dL_way_87 (by decide) (fun h87 => ?_) (fun h87 => ?_)
                · skip
                  refine lv_iconst (v := 0) hx hb dL_way_94 (by decide) ?_
                  refine lv_istore (lv' := [(6, .int (0 : Int32)), (5, .int (1 : Int32)), (4, .int (1 : Int32)), (3, .int (0 : Int32)), (2, .int (1 : Int32)), (0, .int (7 : Int32)), (1, .int (0 : Int32))]) hx hb dL_way_95 hl (by decide) rfl ?_
                  clear hl
                  clear ls
                  intro ls hl
                  refine lv_iload_n hx hb dL_way_97 rfl (lv_at hl 6 rfl) ?_
                  refine lv_if_ne (tgt := 105) hx hb dL_way_98 (by decide) (fun h98 => ?_) (fun h98 => ?_)
                  · skip
                    exact absurd (by decide) h98
                  · skip
                    refine lv_iload_n hx hb dL_way_101 rfl (lv_at hl 3 rfl) ?_
                    refine lv_goto (tgt := 127) hx hb dL_way_102 (by decide) ?_
                    refine lv_istore (lv' := [(7, .int (0 : Int32)), (6, .int (0 : Int32)), (5, .int (1 : Int32)), (4, .int (1 : Int32)), (3, .int (0 : Int32)), (2, .int (1 : Int32)), (0, .int (7 : Int32)), (1, .int (0 : Int32))]) hx hb dL_way_127 hl (by decide) rfl ?_
                    clear hl
                    clear ls
                    intro ls hl
                    refine lv_iload_n hx hb dL_way_129 rfl (lv_at hl 6 rfl) ?_
                    refine lv_bipush (v := 6) hx hb dL_way_130 (by decide) ?_
                    refine lv_icmp_ge (tgt := 140) hx hb dL_way_132 (by decide) (fun h132 => ?_) (fun h132 => ?_)
                    · skip
                      refine lv_iload hx hb dL_way_140 (lv_at hl 0 rfl) ?_
                      refine lv_ineg hx hb dL_way_142 ?_
                      exact zreti hF hB () (rfl) (rfl) (rfl) dL_way_143 hQ
                    · skip
                      exact absurd (by decide) h132
                · skip
                  exact absurd h87 (by decide)
            · skip
              exact absurd (by decide) h65
          · skip
            exact absurd h56 (by decide)
      · skip
        exact absurd h24 (by decide)
    · skip
      exact absurd h15 (by decide)
  · skip
    exact absurd h6 (by decide)

set_option maxHeartbeats 4000000 in
set_option maxRecDepth 100000 in
theorem c_L_way_7_1 (l : Launch) (D : va_G) (ka : Nat → ClassId) (kb : Nat → Nat)   : zI l D ka kb yL_way cL_way 8 .int 0 0 [.int (7 : Int32), .int (1 : Int32)] ([]) (fun (r : Int32) (_ : Unit) => r = (zways.getD 29 0)) (fun (_ : Unit) => []) := by
  refine zI.mk RL (by decide +kernel) rfl (Nat.le_of_ble_eq_true rfl) ?_
  intro p e s m below meth c A ls args Q hQ hx hb hF hB hl
  replace hl : lv_has ls 8 [(0, .int (7 : Int32)), (1, .int (1 : Int32))] := hl
  refine lv_iload_n hx hb dL_way_0 rfl (lv_at hl 0 rfl) ?_
  refine lv_bipush (v := 6) hx hb dL_way_1 (by decide) ?_
  refine lv_irem hx hb dL_way_3 (by decide) ?_
  refine ztopi (y := (1 : Int32)) (by decide) ?_
  refine lv_istore_n (lv' := [(2, .int (1 : Int32)), (0, .int (7 : Int32)), (1, .int (1 : Int32))]) hx hb dL_way_4 rfl hl (by decide) rfl ?_
  clear hl
  clear ls
  intro ls hl
  refine lv_iload_n hx hb dL_way_5 rfl (lv_at hl 0 rfl) ?_
  refine lv_if_ne (tgt := 13) hx hb dL_way_6 (by decide) (fun h6 => ?_) (fun h6 => ?_)
  · skip
    refine lv_iload_n hx hb dL_way_13 rfl (lv_at hl 0 rfl) ?_
    refine lv_iconst (v := 2) hx hb dL_way_14 (by decide) ?_
    refine lv_icmp_ne (tgt := 22) hx hb dL_way_15 (by decide) (fun h15 => ?_) (fun h15 => ?_)
    · skip
      refine lv_iload_n hx hb dL_way_22 rfl (lv_at hl 0 rfl) ?_
      refine lv_iconst (v := 4) hx hb dL_way_23 (by decide) ?_
      refine lv_icmp_ne (tgt := 31) hx hb dL_way_24 (by decide) (fun h24 => ?_) (fun h24 => ?_)
      · skip
        refine lv_iconst (v := 0) hx hb dL_way_31 (by decide) ?_
        refine lv_istore_n (lv' := [(3, .int (0 : Int32)), (2, .int (1 : Int32)), (0, .int (7 : Int32)), (1, .int (1 : Int32))]) hx hb dL_way_32 rfl hl (by decide) rfl ?_
        clear hl
        clear ls
        intro ls hl
        refine lv_iload_n hx hb dL_way_33 rfl (lv_at hl 1 rfl) ?_
        refine lv_iconst (v := 1) hx hb dL_way_34 (by decide) ?_
        refine lv_icmp_ne (tgt := 42) hx hb dL_way_35 (by decide) (fun h35 => ?_) (fun h35 => ?_)
        · skip
          exact absurd rfl h35
        · skip
          refine lv_iconst (v := 1) hx hb dL_way_38 (by decide) ?_
          refine lv_goto (tgt := 52) hx hb dL_way_39 (by decide) ?_
          refine lv_istore (lv' := [(4, .int (1 : Int32)), (3, .int (0 : Int32)), (2, .int (1 : Int32)), (0, .int (7 : Int32)), (1, .int (1 : Int32))]) hx hb dL_way_52 hl (by decide) rfl ?_
          clear hl
          clear ls
          intro ls hl
          refine lv_iload_n hx hb dL_way_54 rfl (lv_at hl 2 rfl) ?_
          refine lv_iconst (v := 3) hx hb dL_way_55 (by decide) ?_
          refine lv_icmp_ne (tgt := 63) hx hb dL_way_56 (by decide) (fun h56 => ?_) (fun h56 => ?_)
          · skip
            refine lv_iload_n hx hb dL_way_63 rfl (lv_at hl 2 rfl) ?_
            refine lv_iconst (v := 1) hx hb dL_way_64 (by decide) ?_
            refine lv_icmp_eq (tgt := 73) hx hb dL_way_65 (by decide) (fun h65 => ?_) (fun h65 => ?_)
            · skip
              refine lv_iconst (v := 1) hx hb dL_way_73 (by decide) ?_
              refine lv_goto (tgt := 78) hx hb dL_way_74 (by decide) ?_
              refine lv_istore (lv' := [(5, .int (1 : Int32)), (4, .int (1 : Int32)), (3, .int (0 : Int32)), (2, .int (1 : Int32)), (0, .int (7 : Int32)), (1, .int (1 : Int32))]) hx hb dL_way_78 hl (by decide) rfl ?_
              clear hl
              clear ls
              intro ls hl
              refine lv_iload_n hx hb dL_way_80 rfl (lv_at hl 3 rfl) ?_
              refine lv_iconst (v := 2) hx hb dL_way_81 (by decide) ?_
              refine lv_icmp_eq (tgt := 90) hx hb dL_way_82 (by decide) (fun h82 => ?_) (fun h82 => ?_)
              · skip
                exact absurd h82 (by decide)
              · skip
                refine lv_iload_n hx hb dL_way_85 rfl (lv_at hl 3 rfl) ?_
                refine lv_iconst (v := 4) hx hb dL_way_86 (by decide) ?_
                refine lv_icmp_ne (tgt := 94) hx hb dL_way_87 (by decide) (fun h87 => ?_) (fun h87 => ?_)
                · skip
                  refine lv_iconst (v := 0) hx hb dL_way_94 (by decide) ?_
                  refine lv_istore (lv' := [(6, .int (0 : Int32)), (5, .int (1 : Int32)), (4, .int (1 : Int32)), (3, .int (0 : Int32)), (2, .int (1 : Int32)), (0, .int (7 : Int32)), (1, .int (1 : Int32))]) hx hb dL_way_95 hl (by decide) rfl ?_
                  clear hl
                  clear ls
                  intro ls hl
                  refine lv_iload_n hx hb dL_way_97 rfl (lv_at hl 6 rfl) ?_
                  refine lv_if_ne (tgt := 105) hx hb dL_way_98 (by decide) (fun h98 => ?_) (fun h98 => ?_)
                  · skip
                    refine lv_iload_n hx hb dL_way_105 rfl (lv_at hl 6 rfl) ?_
                    refine lv_iconst (v := 1) hx hb dL_way_106 (by decide) ?_
                    refine lv_icmp_ne (tgt := 115) hx hb dL_way_107 (by decide) (fun h107 => ?_) (fun h107 => ?_)
                    · skip
                      exact absurd rfl h107
                    · skip
                      refine lv_iload hx hb dL_way_110 (lv_at hl 2 rfl) ?_
                      refine lv_goto (tgt := 127) hx hb dL_way_112 (by decide) ?_
                      refine lv_istore (lv' := [(7, .int (1 : Int32)), (6, .int (0 : Int32)), (5, .int (1 : Int32)), (4, .int (1 : Int32)), (3, .int (0 : Int32)), (2, .int (1 : Int32)), (0, .int (7 : Int32)), (1, .int (1 : Int32))]) hx hb dL_way_127 hl (by decide) rfl ?_
                      clear hl
                      clear ls
                      intro ls hl
                      refine lv_iload_n hx hb dL_way_129 rfl (lv_at hl 6 rfl) ?_
                      refine lv_bipush (v := 6) hx hb dL_way_130 (by decide) ?_
                      refine lv_icmp_ge (tgt := 140) hx hb dL_way_132 (by decide) (fun h132 => ?_) (fun h132 => ?_)
                      · skip
                        refine lv_iload hx hb dL_way_140 (lv_at hl 0 rfl) ?_
                        refine lv_ineg hx hb dL_way_142 ?_
                        exact zreti hF hB () (rfl) (rfl) (rfl) dL_way_143 hQ
                      · skip
                        exact absurd (by decide) h132
                  · skip
                    exact absurd h98 (by decide)
                · skip
                  exact absurd h87 (by decide)
            · skip
              exact absurd (by decide) h65
          · skip
            exact absurd h56 (by decide)
      · skip
        exact absurd h24 (by decide)
    · skip
      exact absurd h15 (by decide)
  · skip
    exact absurd h6 (by decide)

set_option maxHeartbeats 4000000 in
set_option maxRecDepth 100000 in
theorem c_L_way_7_2 (l : Launch) (D : va_G) (ka : Nat → ClassId) (kb : Nat → Nat)   : zI l D ka kb yL_way cL_way 8 .int 0 0 [.int (7 : Int32), .int (2 : Int32)] ([]) (fun (r : Int32) (_ : Unit) => r = (zways.getD 30 0)) (fun (_ : Unit) => []) := by
  refine zI.mk RL (by decide +kernel) rfl (Nat.le_of_ble_eq_true rfl) ?_
  intro p e s m below meth c A ls args Q hQ hx hb hF hB hl
  replace hl : lv_has ls 8 [(0, .int (7 : Int32)), (1, .int (2 : Int32))] := hl
  refine lv_iload_n hx hb dL_way_0 rfl (lv_at hl 0 rfl) ?_
  refine lv_bipush (v := 6) hx hb dL_way_1 (by decide) ?_
  refine lv_irem hx hb dL_way_3 (by decide) ?_
  refine ztopi (y := (1 : Int32)) (by decide) ?_
  refine lv_istore_n (lv' := [(2, .int (1 : Int32)), (0, .int (7 : Int32)), (1, .int (2 : Int32))]) hx hb dL_way_4 rfl hl (by decide) rfl ?_
  clear hl
  clear ls
  intro ls hl
  refine lv_iload_n hx hb dL_way_5 rfl (lv_at hl 0 rfl) ?_
  refine lv_if_ne (tgt := 13) hx hb dL_way_6 (by decide) (fun h6 => ?_) (fun h6 => ?_)
  · skip
    refine lv_iload_n hx hb dL_way_13 rfl (lv_at hl 0 rfl) ?_
    refine lv_iconst (v := 2) hx hb dL_way_14 (by decide) ?_
    refine lv_icmp_ne (tgt := 22) hx hb dL_way_15 (by decide) (fun h15 => ?_) (fun h15 => ?_)
    · skip
      refine lv_iload_n hx hb dL_way_22 rfl (lv_at hl 0 rfl) ?_
      refine lv_iconst (v := 4) hx hb dL_way_23 (by decide) ?_
      refine lv_icmp_ne (tgt := 31) hx hb dL_way_24 (by decide) (fun h24 => ?_) (fun h24 => ?_)
      · skip
        refine lv_iconst (v := 0) hx hb dL_way_31 (by decide) ?_
        refine lv_istore_n (lv' := [(3, .int (0 : Int32)), (2, .int (1 : Int32)), (0, .int (7 : Int32)), (1, .int (2 : Int32))]) hx hb dL_way_32 rfl hl (by decide) rfl ?_
        clear hl
        clear ls
        intro ls hl
        refine lv_iload_n hx hb dL_way_33 rfl (lv_at hl 1 rfl) ?_
        refine lv_iconst (v := 1) hx hb dL_way_34 (by decide) ?_
        refine lv_icmp_ne (tgt := 42) hx hb dL_way_35 (by decide) (fun h35 => ?_) (fun h35 => ?_)
        · skip
          exact absurd rfl h35
        · skip
          refine lv_iconst (v := 1) hx hb dL_way_38 (by decide) ?_
          refine lv_goto (tgt := 52) hx hb dL_way_39 (by decide) ?_
          refine lv_istore (lv' := [(4, .int (1 : Int32)), (3, .int (0 : Int32)), (2, .int (1 : Int32)), (0, .int (7 : Int32)), (1, .int (2 : Int32))]) hx hb dL_way_52 hl (by decide) rfl ?_
          clear hl
          clear ls
          intro ls hl
          refine lv_iload_n hx hb dL_way_54 rfl (lv_at hl 2 rfl) ?_
          refine lv_iconst (v := 3) hx hb dL_way_55 (by decide) ?_
          refine lv_icmp_ne (tgt := 63) hx hb dL_way_56 (by decide) (fun h56 => ?_) (fun h56 => ?_)
          · skip
            refine lv_iload_n hx hb dL_way_63 rfl (lv_at hl 2 rfl) ?_
            refine lv_iconst (v := 1) hx hb dL_way_64 (by decide) ?_
            refine lv_icmp_eq (tgt := 73) hx hb dL_way_65 (by decide) (fun h65 => ?_) (fun h65 => ?_)
            · skip
              refine lv_iconst (v := 1) hx hb dL_way_73 (by decide) ?_
              refine lv_goto (tgt := 78) hx hb dL_way_74 (by decide) ?_
              refine lv_istore (lv' := [(5, .int (1 : Int32)), (4, .int (1 : Int32)), (3, .int (0 : Int32)), (2, .int (1 : Int32)), (0, .int (7 : Int32)), (1, .int (2 : Int32))]) hx hb dL_way_78 hl (by decide) rfl ?_
              clear hl
              clear ls
              intro ls hl
              refine lv_iload_n hx hb dL_way_80 rfl (lv_at hl 3 rfl) ?_
              refine lv_iconst (v := 2) hx hb dL_way_81 (by decide) ?_
              refine lv_icmp_eq (tgt := 90) hx hb dL_way_82 (by decide) (fun h82 => ?_) (fun h82 => ?_)
              · skip
                exact absurd h82 (by decide)
              · skip
                refine lv_iload_n hx hb dL_way_85 rfl (lv_at hl 3 rfl) ?_
                refine lv_iconst (v := 4) hx hb dL_way_86 (by decide) ?_
                refine lv_icmp_ne (tgt := 94) hx hb dL_way_87 (by decide) (fun h87 => ?_) (fun h87 => ?_)
                · skip
                  refine lv_iconst (v := 0) hx hb dL_way_94 (by decide) ?_
                  refine lv_istore (lv' := [(6, .int (0 : Int32)), (5, .int (1 : Int32)), (4, .int (1 : Int32)), (3, .int (0 : Int32)), (2, .int (1 : Int32)), (0, .int (7 : Int32)), (1, .int (2 : Int32))]) hx hb dL_way_95 hl (by decide) rfl ?_
                  clear hl
                  clear ls
                  intro ls hl
                  refine lv_iload_n hx hb dL_way_97 rfl (lv_at hl 6 rfl) ?_
                  refine lv_if_ne (tgt := 105) hx hb dL_way_98 (by decide) (fun h98 => ?_) (fun h98 => ?_)
                  · skip
                    refine lv_iload_n hx hb dL_way_105 rfl (lv_at hl 6 rfl) ?_
                    refine lv_iconst (v := 1) hx hb dL_way_106 (by decide) ?_
                    refine lv_icmp_ne (tgt := 115) hx hb dL_way_107 (by decide) (fun h107 => ?_) (fun h107 => ?_)
                    · skip
                      refine lv_iload_n hx hb dL_way_115 rfl (lv_at hl 6 rfl) ?_
                      refine lv_iconst (v := 2) hx hb dL_way_116 (by decide) ?_
                      refine lv_icmp_ne (tgt := 125) hx hb dL_way_117 (by decide) (fun h117 => ?_) (fun h117 => ?_)
                      · skip
                        exact absurd rfl h117
                      · skip
                        refine lv_iload hx hb dL_way_120 (lv_at hl 1 rfl) ?_
                        refine lv_goto (tgt := 127) hx hb dL_way_122 (by decide) ?_
                        refine lv_istore (lv' := [(7, .int (1 : Int32)), (6, .int (0 : Int32)), (5, .int (1 : Int32)), (4, .int (1 : Int32)), (3, .int (0 : Int32)), (2, .int (1 : Int32)), (0, .int (7 : Int32)), (1, .int (2 : Int32))]) hx hb dL_way_127 hl (by decide) rfl ?_
                        clear hl
                        clear ls
                        intro ls hl
                        refine lv_iload_n hx hb dL_way_129 rfl (lv_at hl 6 rfl) ?_
                        refine lv_bipush (v := 6) hx hb dL_way_130 (by decide) ?_
                        refine lv_icmp_ge (tgt := 140) hx hb dL_way_132 (by decide) (fun h132 => ?_) (fun h132 => ?_)
                        · skip
                          refine lv_iload hx hb dL_way_140 (lv_at hl 0 rfl) ?_
                          refine lv_ineg hx hb dL_way_142 ?_
                          exact zreti hF hB () (rfl) (rfl) (rfl) dL_way_143 hQ
                        · skip
                          exact absurd (by decide) h132
                    · skip
                      exact absurd h107 (by decide)
                  · skip
                    exact absurd h98 (by decide)
                · skip
                  exact absurd h87 (by decide)
            · skip
              exact absurd (by decide) h65
          · skip
            exact absurd h56 (by decide)
      · skip
        exact absurd h24 (by decide)
    · skip
      exact absurd h15 (by decide)
  · skip
    exact absurd h6 (by decide)

set_option maxHeartbeats 4000000 in
set_option maxRecDepth 100000 in
theorem c_L_way_7_3 (l : Launch) (D : va_G) (ka : Nat → ClassId) (kb : Nat → Nat)   : zI l D ka kb yL_way cL_way 8 .int 0 0 [.int (7 : Int32), .int (3 : Int32)] ([]) (fun (r : Int32) (_ : Unit) => r = (zways.getD 31 0)) (fun (_ : Unit) => []) := by
  refine zI.mk RL (by decide +kernel) rfl (Nat.le_of_ble_eq_true rfl) ?_
  intro p e s m below meth c A ls args Q hQ hx hb hF hB hl
  replace hl : lv_has ls 8 [(0, .int (7 : Int32)), (1, .int (3 : Int32))] := hl
  refine lv_iload_n hx hb dL_way_0 rfl (lv_at hl 0 rfl) ?_
  refine lv_bipush (v := 6) hx hb dL_way_1 (by decide) ?_
  refine lv_irem hx hb dL_way_3 (by decide) ?_
  refine ztopi (y := (1 : Int32)) (by decide) ?_
  refine lv_istore_n (lv' := [(2, .int (1 : Int32)), (0, .int (7 : Int32)), (1, .int (3 : Int32))]) hx hb dL_way_4 rfl hl (by decide) rfl ?_
  clear hl
  clear ls
  intro ls hl
  refine lv_iload_n hx hb dL_way_5 rfl (lv_at hl 0 rfl) ?_
  refine lv_if_ne (tgt := 13) hx hb dL_way_6 (by decide) (fun h6 => ?_) (fun h6 => ?_)
  · skip
    refine lv_iload_n hx hb dL_way_13 rfl (lv_at hl 0 rfl) ?_
    refine lv_iconst (v := 2) hx hb dL_way_14 (by decide) ?_
    refine lv_icmp_ne (tgt := 22) hx hb dL_way_15 (by decide) (fun h15 => ?_) (fun h15 => ?_)
    · skip
      refine lv_iload_n hx hb dL_way_22 rfl (lv_at hl 0 rfl) ?_
      refine lv_iconst (v := 4) hx hb dL_way_23 (by decide) ?_
      refine lv_icmp_ne (tgt := 31) hx hb dL_way_24 (by decide) (fun h24 => ?_) (fun h24 => ?_)
      · skip
        refine lv_iconst (v := 0) hx hb dL_way_31 (by decide) ?_
        refine lv_istore_n (lv' := [(3, .int (0 : Int32)), (2, .int (1 : Int32)), (0, .int (7 : Int32)), (1, .int (3 : Int32))]) hx hb dL_way_32 rfl hl (by decide) rfl ?_
        clear hl
        clear ls
        intro ls hl
        refine lv_iload_n hx hb dL_way_33 rfl (lv_at hl 1 rfl) ?_
        refine lv_iconst (v := 1) hx hb dL_way_34 (by decide) ?_
        refine lv_icmp_ne (tgt := 42) hx hb dL_way_35 (by decide) (fun h35 => ?_) (fun h35 => ?_)
        · skip
          exact absurd rfl h35
        · skip
          refine lv_iconst (v := 1) hx hb dL_way_38 (by decide) ?_
          refine lv_goto (tgt := 52) hx hb dL_way_39 (by decide) ?_
          refine lv_istore (lv' := [(4, .int (1 : Int32)), (3, .int (0 : Int32)), (2, .int (1 : Int32)), (0, .int (7 : Int32)), (1, .int (3 : Int32))]) hx hb dL_way_52 hl (by decide) rfl ?_
          clear hl
          clear ls
          intro ls hl
          refine lv_iload_n hx hb dL_way_54 rfl (lv_at hl 2 rfl) ?_
          refine lv_iconst (v := 3) hx hb dL_way_55 (by decide) ?_
          refine lv_icmp_ne (tgt := 63) hx hb dL_way_56 (by decide) (fun h56 => ?_) (fun h56 => ?_)
          · skip
            refine lv_iload_n hx hb dL_way_63 rfl (lv_at hl 2 rfl) ?_
            refine lv_iconst (v := 1) hx hb dL_way_64 (by decide) ?_
            refine lv_icmp_eq (tgt := 73) hx hb dL_way_65 (by decide) (fun h65 => ?_) (fun h65 => ?_)
            · skip
              refine lv_iconst (v := 1) hx hb dL_way_73 (by decide) ?_
              refine lv_goto (tgt := 78) hx hb dL_way_74 (by decide) ?_
              refine lv_istore (lv' := [(5, .int (1 : Int32)), (4, .int (1 : Int32)), (3, .int (0 : Int32)), (2, .int (1 : Int32)), (0, .int (7 : Int32)), (1, .int (3 : Int32))]) hx hb dL_way_78 hl (by decide) rfl ?_
              clear hl
              clear ls
              intro ls hl
              refine lv_iload_n hx hb dL_way_80 rfl (lv_at hl 3 rfl) ?_
              refine lv_iconst (v := 2) hx hb dL_way_81 (by decide) ?_
              refine lv_icmp_eq (tgt := 90) hx hb dL_way_82 (by decide) (fun h82 => ?_) (fun h82 => ?_)
              · skip
                exact absurd h82 (by decide)
              · skip
                refine lv_iload_n hx hb dL_way_85 rfl (lv_at hl 3 rfl) ?_
                refine lv_iconst (v := 4) hx hb dL_way_86 (by decide) ?_
                refine lv_icmp_ne (tgt := 94) hx hb dL_way_87 (by decide) (fun h87 => ?_) (fun h87 => ?_)
                · skip
                  refine lv_iconst (v := 0) hx hb dL_way_94 (by decide) ?_
                  refine lv_istore (lv' := [(6, .int (0 : Int32)), (5, .int (1 : Int32)), (4, .int (1 : Int32)), (3, .int (0 : Int32)), (2, .int (1 : Int32)), (0, .int (7 : Int32)), (1, .int (3 : Int32))]) hx hb dL_way_95 hl (by decide) rfl ?_
                  clear hl
                  clear ls
                  intro ls hl
                  refine lv_iload_n hx hb dL_way_97 rfl (lv_at hl 6 rfl) ?_
                  refine lv_if_ne (tgt := 105) hx hb dL_way_98 (by decide) (fun h98 => ?_) (fun h98 => ?_)
                  · skip
                    refine lv_iload_n hx hb dL_way_105 rfl (lv_at hl 6 rfl) ?_
                    refine lv_iconst (v := 1) hx hb dL_way_106 (by decide) ?_
                    refine lv_icmp_ne (tgt := 115) hx hb dL_way_107 (by decide) (fun h107 => ?_) (fun h107 => ?_)
                    · skip
                      refine lv_iload_n hx hb dL_way_115 rfl (lv_at hl 6 rfl) ?_
                      refine lv_iconst (v := 2) hx hb dL_way_116 (by decide) ?_
                      refine lv_icmp_ne (tgt := 125) hx hb dL_way_117 (by decide) (fun h117 => ?_) (fun h117 => ?_)
                      · skip
                        refine lv_iload hx hb dL_way_125 (lv_at hl 0 rfl) ?_
                        refine lv_istore (lv' := [(7, .int (0 : Int32)), (6, .int (0 : Int32)), (5, .int (1 : Int32)), (4, .int (1 : Int32)), (3, .int (0 : Int32)), (2, .int (1 : Int32)), (0, .int (7 : Int32)), (1, .int (3 : Int32))]) hx hb dL_way_127 hl (by decide) rfl ?_
                        clear hl
                        clear ls
                        intro ls hl
                        refine lv_iload_n hx hb dL_way_129 rfl (lv_at hl 6 rfl) ?_
                        refine lv_bipush (v := 6) hx hb dL_way_130 (by decide) ?_
                        refine lv_icmp_ge (tgt := 140) hx hb dL_way_132 (by decide) (fun h132 => ?_) (fun h132 => ?_)
                        · skip
                          refine lv_iload hx hb dL_way_140 (lv_at hl 0 rfl) ?_
                          refine lv_ineg hx hb dL_way_142 ?_
                          exact zreti hF hB () (rfl) (rfl) (rfl) dL_way_143 hQ
                        · skip
                          exact absurd (by decide) h132
                      · skip
                        exact absurd h117 (by decide)
                    · skip
                      exact absurd h107 (by decide)
                  · skip
                    exact absurd h98 (by decide)
                · skip
                  exact absurd h87 (by decide)
            · skip
              exact absurd (by decide) h65
          · skip
            exact absurd h56 (by decide)
      · skip
        exact absurd h24 (by decide)
    · skip
      exact absurd h15 (by decide)
  · skip
    exact absurd h6 (by decide)

set_option maxHeartbeats 4000000 in
set_option maxRecDepth 100000 in
theorem c_L_way_8_0 (l : Launch) (D : va_G) (ka : Nat → ClassId) (kb : Nat → Nat)   : zI l D ka kb yL_way cL_way 8 .int 0 0 [.int (8 : Int32), .int (0 : Int32)] ([]) (fun (r : Int32) (_ : Unit) => r = (zways.getD 32 0)) (fun (_ : Unit) => []) := by
  refine zI.mk RL (by decide +kernel) rfl (Nat.le_of_ble_eq_true rfl) ?_
  intro p e s m below meth c A ls args Q hQ hx hb hF hB hl
  replace hl : lv_has ls 8 [(0, .int (8 : Int32)), (1, .int (0 : Int32))] := hl
  refine lv_iload_n hx hb dL_way_0 rfl (lv_at hl 0 rfl) ?_
  refine lv_bipush (v := 6) hx hb dL_way_1 (by decide) ?_
  refine lv_irem hx hb dL_way_3 (by decide) ?_
  refine ztopi (y := (2 : Int32)) (by decide) ?_
  refine lv_istore_n (lv' := [(2, .int (2 : Int32)), (0, .int (8 : Int32)), (1, .int (0 : Int32))]) hx hb dL_way_4 rfl hl (by decide) rfl ?_
  clear hl
  clear ls
  intro ls hl
  refine lv_iload_n hx hb dL_way_5 rfl (lv_at hl 0 rfl) ?_
  refine lv_if_ne (tgt := 13) hx hb dL_way_6 (by decide) (fun h6 => ?_) (fun h6 => ?_)
  · skip
    refine lv_iload_n hx hb dL_way_13 rfl (lv_at hl 0 rfl) ?_
    refine lv_iconst (v := 2) hx hb dL_way_14 (by decide) ?_
    refine lv_icmp_ne (tgt := 22) hx hb dL_way_15 (by decide) (fun h15 => ?_) (fun h15 => ?_)
    · skip
      exact absurd rfl h15
    · skip
      refine lv_iconst (v := 1) hx hb dL_way_18 (by decide) ?_
      refine lv_goto (tgt := 32) hx hb dL_way_19 (by decide) ?_
      refine lv_istore_n (lv' := [(3, .int (1 : Int32)), (2, .int (2 : Int32)), (0, .int (8 : Int32)), (1, .int (0 : Int32))]) hx hb dL_way_32 rfl hl (by decide) rfl ?_
      clear hl
      clear ls
      intro ls hl
      refine lv_iload_n hx hb dL_way_33 rfl (lv_at hl 1 rfl) ?_
      refine lv_iconst (v := 1) hx hb dL_way_34 (by decide) ?_
      refine lv_icmp_ne (tgt := 42) hx hb dL_way_35 (by decide) (fun h35 => ?_) (fun h35 => ?_)
      · skip
        refine lv_iload_n hx hb dL_way_42 rfl (lv_at hl 1 rfl) ?_
        refine lv_iconst (v := 5) hx hb dL_way_43 (by decide) ?_
        refine lv_icmp_ne (tgt := 51) hx hb dL_way_44 (by decide) (fun h44 => ?_) (fun h44 => ?_)
        · skip
          refine lv_iconst (v := 0) hx hb dL_way_51 (by decide) ?_
          refine lv_istore (lv' := [(4, .int (0 : Int32)), (3, .int (1 : Int32)), (2, .int (2 : Int32)), (0, .int (8 : Int32)), (1, .int (0 : Int32))]) hx hb dL_way_52 hl (by decide) rfl ?_
          clear hl
          clear ls
          intro ls hl
          refine lv_iload_n hx hb dL_way_54 rfl (lv_at hl 2 rfl) ?_
          refine lv_iconst (v := 3) hx hb dL_way_55 (by decide) ?_
          refine lv_icmp_ne (tgt := 63) hx hb dL_way_56 (by decide) (fun h56 => ?_) (fun h56 => ?_)
          · skip
            refine lv_iload_n hx hb dL_way_63 rfl (lv_at hl 2 rfl) ?_
            refine lv_iconst (v := 1) hx hb dL_way_64 (by decide) ?_
            refine lv_icmp_eq (tgt := 73) hx hb dL_way_65 (by decide) (fun h65 => ?_) (fun h65 => ?_)
            · skip
              exact absurd h65 (by decide)
            · skip
              refine lv_iload_n hx hb dL_way_68 rfl (lv_at hl 2 rfl) ?_
              refine lv_iconst (v := 5) hx hb dL_way_69 (by decide) ?_
              refine lv_icmp_ne (tgt := 77) hx hb dL_way_70 (by decide) (fun h70 => ?_) (fun h70 => ?_)
              · skip
                refine lv_iconst (v := 0) hx hb dL_way_77 (by decide) ?_
                refine lv_istore (lv' := [(5, .int (0 : Int32)), (4, .int (0 : Int32)), (3, .int (1 : Int32)), (2, .int (2 : Int32)), (0, .int (8 : Int32)), (1, .int (0 : Int32))]) hx hb dL_way_78 hl (by decide) rfl ?_
                clear hl
                clear ls
                intro ls hl
                refine lv_iload_n hx hb dL_way_80 rfl (lv_at hl 3 rfl) ?_
                refine lv_iconst (v := 2) hx hb dL_way_81 (by decide) ?_
                refine lv_icmp_eq (tgt := 90) hx hb dL_way_82 (by decide) (fun h82 => ?_) (fun h82 => ?_)
                · skip
                  refine lv_iconst (v := 1) hx hb dL_way_90 (by decide) ?_
                  refine lv_goto (tgt := 95) hx hb dL_way_91 (by decide) ?_
                  refine lv_istore (lv' := [(6, .int (1 : Int32)), (5, .int (0 : Int32)), (4, .int (0 : Int32)), (3, .int (1 : Int32)), (2, .int (2 : Int32)), (0, .int (8 : Int32)), (1, .int (0 : Int32))]) hx hb dL_way_95 hl (by decide) rfl ?_
                  clear hl
                  clear ls
                  intro ls hl
                  refine lv_iload_n hx hb dL_way_97 rfl (lv_at hl 6 rfl) ?_
                  refine lv_if_ne (tgt := 105) hx hb dL_way_98 (by decide) (fun h98 => ?_) (fun h98 => ?_)
                  · skip
                    exact absurd (by decide) h98
                  · skip
                    refine lv_iload_n hx hb dL_way_101 rfl (lv_at hl 3 rfl) ?_
                    refine lv_goto (tgt := 127) hx hb dL_way_102 (by decide) ?_
                    refine lv_istore (lv' := [(7, .int (1 : Int32)), (6, .int (1 : Int32)), (5, .int (0 : Int32)), (4, .int (0 : Int32)), (3, .int (1 : Int32)), (2, .int (2 : Int32)), (0, .int (8 : Int32)), (1, .int (0 : Int32))]) hx hb dL_way_127 hl (by decide) rfl ?_
                    clear hl
                    clear ls
                    intro ls hl
                    refine lv_iload_n hx hb dL_way_129 rfl (lv_at hl 6 rfl) ?_
                    refine lv_bipush (v := 6) hx hb dL_way_130 (by decide) ?_
                    refine lv_icmp_ge (tgt := 140) hx hb dL_way_132 (by decide) (fun h132 => ?_) (fun h132 => ?_)
                    · skip
                      refine lv_iload hx hb dL_way_140 (lv_at hl 0 rfl) ?_
                      refine lv_ineg hx hb dL_way_142 ?_
                      exact zreti hF hB () (rfl) (rfl) (rfl) dL_way_143 hQ
                    · skip
                      exact absurd (by decide) h132
                · skip
                  exact absurd (by decide) h82
              · skip
                exact absurd h70 (by decide)
          · skip
            exact absurd h56 (by decide)
        · skip
          exact absurd h44 (by decide)
      · skip
        exact absurd h35 (by decide)
  · skip
    exact absurd h6 (by decide)

set_option maxHeartbeats 4000000 in
set_option maxRecDepth 100000 in
theorem c_L_way_8_1 (l : Launch) (D : va_G) (ka : Nat → ClassId) (kb : Nat → Nat)   : zI l D ka kb yL_way cL_way 8 .int 0 0 [.int (8 : Int32), .int (1 : Int32)] ([]) (fun (r : Int32) (_ : Unit) => r = (zways.getD 33 0)) (fun (_ : Unit) => []) := by
  refine zI.mk RL (by decide +kernel) rfl (Nat.le_of_ble_eq_true rfl) ?_
  intro p e s m below meth c A ls args Q hQ hx hb hF hB hl
  replace hl : lv_has ls 8 [(0, .int (8 : Int32)), (1, .int (1 : Int32))] := hl
  refine lv_iload_n hx hb dL_way_0 rfl (lv_at hl 0 rfl) ?_
  refine lv_bipush (v := 6) hx hb dL_way_1 (by decide) ?_
  refine lv_irem hx hb dL_way_3 (by decide) ?_
  refine ztopi (y := (2 : Int32)) (by decide) ?_
  refine lv_istore_n (lv' := [(2, .int (2 : Int32)), (0, .int (8 : Int32)), (1, .int (1 : Int32))]) hx hb dL_way_4 rfl hl (by decide) rfl ?_
  clear hl
  clear ls
  intro ls hl
  refine lv_iload_n hx hb dL_way_5 rfl (lv_at hl 0 rfl) ?_
  refine lv_if_ne (tgt := 13) hx hb dL_way_6 (by decide) (fun h6 => ?_) (fun h6 => ?_)
  · skip
    refine lv_iload_n hx hb dL_way_13 rfl (lv_at hl 0 rfl) ?_
    refine lv_iconst (v := 2) hx hb dL_way_14 (by decide) ?_
    refine lv_icmp_ne (tgt := 22) hx hb dL_way_15 (by decide) (fun h15 => ?_) (fun h15 => ?_)
    · skip
      exact absurd rfl h15
    · skip
      refine lv_iconst (v := 1) hx hb dL_way_18 (by decide) ?_
      refine lv_goto (tgt := 32) hx hb dL_way_19 (by decide) ?_
      refine lv_istore_n (lv' := [(3, .int (1 : Int32)), (2, .int (2 : Int32)), (0, .int (8 : Int32)), (1, .int (1 : Int32))]) hx hb dL_way_32 rfl hl (by decide) rfl ?_
      clear hl
      clear ls
      intro ls hl
      refine lv_iload_n hx hb dL_way_33 rfl (lv_at hl 1 rfl) ?_
      refine lv_iconst (v := 1) hx hb dL_way_34 (by decide) ?_
      refine lv_icmp_ne (tgt := 42) hx hb dL_way_35 (by decide) (fun h35 => ?_) (fun h35 => ?_)
      · skip
        refine lv_iload_n hx hb dL_way_42 rfl (lv_at hl 1 rfl) ?_
        refine lv_iconst (v := 5) hx hb dL_way_43 (by decide) ?_
        refine lv_icmp_ne (tgt := 51) hx hb dL_way_44 (by decide) (fun h44 => ?_) (fun h44 => ?_)
        · skip
          refine lv_iconst (v := 0) hx hb dL_way_51 (by decide) ?_
          refine lv_istore (lv' := [(4, .int (0 : Int32)), (3, .int (1 : Int32)), (2, .int (2 : Int32)), (0, .int (8 : Int32)), (1, .int (1 : Int32))]) hx hb dL_way_52 hl (by decide) rfl ?_
          clear hl
          clear ls
          intro ls hl
          refine lv_iload_n hx hb dL_way_54 rfl (lv_at hl 2 rfl) ?_
          refine lv_iconst (v := 3) hx hb dL_way_55 (by decide) ?_
          refine lv_icmp_ne (tgt := 63) hx hb dL_way_56 (by decide) (fun h56 => ?_) (fun h56 => ?_)
          · skip
            refine lv_iload_n hx hb dL_way_63 rfl (lv_at hl 2 rfl) ?_
            refine lv_iconst (v := 1) hx hb dL_way_64 (by decide) ?_
            refine lv_icmp_eq (tgt := 73) hx hb dL_way_65 (by decide) (fun h65 => ?_) (fun h65 => ?_)
            · skip
              exact absurd h65 (by decide)
            · skip
              refine lv_iload_n hx hb dL_way_68 rfl (lv_at hl 2 rfl) ?_
              refine lv_iconst (v := 5) hx hb dL_way_69 (by decide) ?_
              refine lv_icmp_ne (tgt := 77) hx hb dL_way_70 (by decide) (fun h70 => ?_) (fun h70 => ?_)
              · skip
                refine lv_iconst (v := 0) hx hb dL_way_77 (by decide) ?_
                refine lv_istore (lv' := [(5, .int (0 : Int32)), (4, .int (0 : Int32)), (3, .int (1 : Int32)), (2, .int (2 : Int32)), (0, .int (8 : Int32)), (1, .int (1 : Int32))]) hx hb dL_way_78 hl (by decide) rfl ?_
                clear hl
                clear ls
                intro ls hl
                refine lv_iload_n hx hb dL_way_80 rfl (lv_at hl 3 rfl) ?_
                refine lv_iconst (v := 2) hx hb dL_way_81 (by decide) ?_
                refine lv_icmp_eq (tgt := 90) hx hb dL_way_82 (by decide) (fun h82 => ?_) (fun h82 => ?_)
                · skip
                  refine lv_iconst (v := 1) hx hb dL_way_90 (by decide) ?_
                  refine lv_goto (tgt := 95) hx hb dL_way_91 (by decide) ?_
                  refine lv_istore (lv' := [(6, .int (1 : Int32)), (5, .int (0 : Int32)), (4, .int (0 : Int32)), (3, .int (1 : Int32)), (2, .int (2 : Int32)), (0, .int (8 : Int32)), (1, .int (1 : Int32))]) hx hb dL_way_95 hl (by decide) rfl ?_
                  clear hl
                  clear ls
                  intro ls hl
                  refine lv_iload_n hx hb dL_way_97 rfl (lv_at hl 6 rfl) ?_
                  refine lv_if_ne (tgt := 105) hx hb dL_way_98 (by decide) (fun h98 => ?_) (fun h98 => ?_)
                  · skip
                    refine lv_iload_n hx hb dL_way_105 rfl (lv_at hl 6 rfl) ?_
                    refine lv_iconst (v := 1) hx hb dL_way_106 (by decide) ?_
                    refine lv_icmp_ne (tgt := 115) hx hb dL_way_107 (by decide) (fun h107 => ?_) (fun h107 => ?_)
                    · skip
                      exact absurd rfl h107
                    · skip
                      refine lv_iload hx hb dL_way_110 (lv_at hl 2 rfl) ?_
                      refine lv_goto (tgt := 127) hx hb dL_way_112 (by decide) ?_
                      refine lv_istore (lv' := [(7, .int (0 : Int32)), (6, .int (1 : Int32)), (5, .int (0 : Int32)), (4, .int (0 : Int32)), (3, .int (1 : Int32)), (2, .int (2 : Int32)), (0, .int (8 : Int32)), (1, .int (1 : Int32))]) hx hb dL_way_127 hl (by decide) rfl ?_
                      clear hl
                      clear ls
                      intro ls hl
                      refine lv_iload_n hx hb dL_way_129 rfl (lv_at hl 6 rfl) ?_
                      refine lv_bipush (v := 6) hx hb dL_way_130 (by decide) ?_
                      refine lv_icmp_ge (tgt := 140) hx hb dL_way_132 (by decide) (fun h132 => ?_) (fun h132 => ?_)
                      · skip
                        refine lv_iload hx hb dL_way_140 (lv_at hl 0 rfl) ?_
                        refine lv_ineg hx hb dL_way_142 ?_
                        exact zreti hF hB () (rfl) (rfl) (rfl) dL_way_143 hQ
                      · skip
                        exact absurd (by decide) h132
                  · skip
                    exact absurd h98 (by decide)
                · skip
                  exact absurd (by decide) h82
              · skip
                exact absurd h70 (by decide)
          · skip
            exact absurd h56 (by decide)
        · skip
          exact absurd h44 (by decide)
      · skip
        exact absurd h35 (by decide)
  · skip
    exact absurd h6 (by decide)

set_option maxHeartbeats 4000000 in
set_option maxRecDepth 100000 in
theorem c_L_way_8_2 (l : Launch) (D : va_G) (ka : Nat → ClassId) (kb : Nat → Nat)   : zI l D ka kb yL_way cL_way 8 .int 0 0 [.int (8 : Int32), .int (2 : Int32)] ([]) (fun (r : Int32) (_ : Unit) => r = (zways.getD 34 0)) (fun (_ : Unit) => []) := by
  refine zI.mk RL (by decide +kernel) rfl (Nat.le_of_ble_eq_true rfl) ?_
  intro p e s m below meth c A ls args Q hQ hx hb hF hB hl
  replace hl : lv_has ls 8 [(0, .int (8 : Int32)), (1, .int (2 : Int32))] := hl
  refine lv_iload_n hx hb dL_way_0 rfl (lv_at hl 0 rfl) ?_
  refine lv_bipush (v := 6) hx hb dL_way_1 (by decide) ?_
  refine lv_irem hx hb dL_way_3 (by decide) ?_
  refine ztopi (y := (2 : Int32)) (by decide) ?_
  refine lv_istore_n (lv' := [(2, .int (2 : Int32)), (0, .int (8 : Int32)), (1, .int (2 : Int32))]) hx hb dL_way_4 rfl hl (by decide) rfl ?_
  clear hl
  clear ls
  intro ls hl
  refine lv_iload_n hx hb dL_way_5 rfl (lv_at hl 0 rfl) ?_
  refine lv_if_ne (tgt := 13) hx hb dL_way_6 (by decide) (fun h6 => ?_) (fun h6 => ?_)
  · skip
    refine lv_iload_n hx hb dL_way_13 rfl (lv_at hl 0 rfl) ?_
    refine lv_iconst (v := 2) hx hb dL_way_14 (by decide) ?_
    refine lv_icmp_ne (tgt := 22) hx hb dL_way_15 (by decide) (fun h15 => ?_) (fun h15 => ?_)
    · skip
      exact absurd rfl h15
    · skip
      refine lv_iconst (v := 1) hx hb dL_way_18 (by decide) ?_
      refine lv_goto (tgt := 32) hx hb dL_way_19 (by decide) ?_
      refine lv_istore_n (lv' := [(3, .int (1 : Int32)), (2, .int (2 : Int32)), (0, .int (8 : Int32)), (1, .int (2 : Int32))]) hx hb dL_way_32 rfl hl (by decide) rfl ?_
      clear hl
      clear ls
      intro ls hl
      refine lv_iload_n hx hb dL_way_33 rfl (lv_at hl 1 rfl) ?_
      refine lv_iconst (v := 1) hx hb dL_way_34 (by decide) ?_
      refine lv_icmp_ne (tgt := 42) hx hb dL_way_35 (by decide) (fun h35 => ?_) (fun h35 => ?_)
      · skip
        refine lv_iload_n hx hb dL_way_42 rfl (lv_at hl 1 rfl) ?_
        refine lv_iconst (v := 5) hx hb dL_way_43 (by decide) ?_
        refine lv_icmp_ne (tgt := 51) hx hb dL_way_44 (by decide) (fun h44 => ?_) (fun h44 => ?_)
        · skip
          refine lv_iconst (v := 0) hx hb dL_way_51 (by decide) ?_
          refine lv_istore (lv' := [(4, .int (0 : Int32)), (3, .int (1 : Int32)), (2, .int (2 : Int32)), (0, .int (8 : Int32)), (1, .int (2 : Int32))]) hx hb dL_way_52 hl (by decide) rfl ?_
          clear hl
          clear ls
          intro ls hl
          refine lv_iload_n hx hb dL_way_54 rfl (lv_at hl 2 rfl) ?_
          refine lv_iconst (v := 3) hx hb dL_way_55 (by decide) ?_
          refine lv_icmp_ne (tgt := 63) hx hb dL_way_56 (by decide) (fun h56 => ?_) (fun h56 => ?_)
          · skip
            refine lv_iload_n hx hb dL_way_63 rfl (lv_at hl 2 rfl) ?_
            refine lv_iconst (v := 1) hx hb dL_way_64 (by decide) ?_
            refine lv_icmp_eq (tgt := 73) hx hb dL_way_65 (by decide) (fun h65 => ?_) (fun h65 => ?_)
            · skip
              exact absurd h65 (by decide)
            · skip
              refine lv_iload_n hx hb dL_way_68 rfl (lv_at hl 2 rfl) ?_
              refine lv_iconst (v := 5) hx hb dL_way_69 (by decide) ?_
              refine lv_icmp_ne (tgt := 77) hx hb dL_way_70 (by decide) (fun h70 => ?_) (fun h70 => ?_)
              · skip
                refine lv_iconst (v := 0) hx hb dL_way_77 (by decide) ?_
                refine lv_istore (lv' := [(5, .int (0 : Int32)), (4, .int (0 : Int32)), (3, .int (1 : Int32)), (2, .int (2 : Int32)), (0, .int (8 : Int32)), (1, .int (2 : Int32))]) hx hb dL_way_78 hl (by decide) rfl ?_
                clear hl
                clear ls
                intro ls hl
                refine lv_iload_n hx hb dL_way_80 rfl (lv_at hl 3 rfl) ?_
                refine lv_iconst (v := 2) hx hb dL_way_81 (by decide) ?_
                refine lv_icmp_eq (tgt := 90) hx hb dL_way_82 (by decide) (fun h82 => ?_) (fun h82 => ?_)
                · skip
                  refine lv_iconst (v := 1) hx hb dL_way_90 (by decide) ?_
                  refine lv_goto (tgt := 95) hx hb dL_way_91 (by decide) ?_
                  refine lv_istore (lv' := [(6, .int (1 : Int32)), (5, .int (0 : Int32)), (4, .int (0 : Int32)), (3, .int (1 : Int32)), (2, .int (2 : Int32)), (0, .int (8 : Int32)), (1, .int (2 : Int32))]) hx hb dL_way_95 hl (by decide) rfl ?_
                  clear hl
                  clear ls
                  intro ls hl
                  refine lv_iload_n hx hb dL_way_97 rfl (lv_at hl 6 rfl) ?_
                  refine lv_if_ne (tgt := 105) hx hb dL_way_98 (by decide) (fun h98 => ?_) (fun h98 => ?_)
                  · skip
                    refine lv_iload_n hx hb dL_way_105 rfl (lv_at hl 6 rfl) ?_
                    refine lv_iconst (v := 1) hx hb dL_way_106 (by decide) ?_
                    refine lv_icmp_ne (tgt := 115) hx hb dL_way_107 (by decide) (fun h107 => ?_) (fun h107 => ?_)
                    · skip
                      refine lv_iload_n hx hb dL_way_115 rfl (lv_at hl 6 rfl) ?_
                      refine lv_iconst (v := 2) hx hb dL_way_116 (by decide) ?_
                      refine lv_icmp_ne (tgt := 125) hx hb dL_way_117 (by decide) (fun h117 => ?_) (fun h117 => ?_)
                      · skip
                        exact absurd rfl h117
                      · skip
                        refine lv_iload hx hb dL_way_120 (lv_at hl 1 rfl) ?_
                        refine lv_goto (tgt := 127) hx hb dL_way_122 (by decide) ?_
                        refine lv_istore (lv' := [(7, .int (0 : Int32)), (6, .int (1 : Int32)), (5, .int (0 : Int32)), (4, .int (0 : Int32)), (3, .int (1 : Int32)), (2, .int (2 : Int32)), (0, .int (8 : Int32)), (1, .int (2 : Int32))]) hx hb dL_way_127 hl (by decide) rfl ?_
                        clear hl
                        clear ls
                        intro ls hl
                        refine lv_iload_n hx hb dL_way_129 rfl (lv_at hl 6 rfl) ?_
                        refine lv_bipush (v := 6) hx hb dL_way_130 (by decide) ?_
                        refine lv_icmp_ge (tgt := 140) hx hb dL_way_132 (by decide) (fun h132 => ?_) (fun h132 => ?_)
                        · skip
                          refine lv_iload hx hb dL_way_140 (lv_at hl 0 rfl) ?_
                          refine lv_ineg hx hb dL_way_142 ?_
                          exact zreti hF hB () (rfl) (rfl) (rfl) dL_way_143 hQ
                        · skip
                          exact absurd (by decide) h132
                    · skip
                      exact absurd h107 (by decide)
                  · skip
                    exact absurd h98 (by decide)
                · skip
                  exact absurd (by decide) h82
              · skip
                exact absurd h70 (by decide)
          · skip
            exact absurd h56 (by decide)
        · skip
          exact absurd h44 (by decide)
      · skip
        exact absurd h35 (by decide)
  · skip
    exact absurd h6 (by decide)

set_option maxHeartbeats 4000000 in
set_option maxRecDepth 100000 in
theorem c_L_way_8_3 (l : Launch) (D : va_G) (ka : Nat → ClassId) (kb : Nat → Nat)   : zI l D ka kb yL_way cL_way 8 .int 0 0 [.int (8 : Int32), .int (3 : Int32)] ([]) (fun (r : Int32) (_ : Unit) => r = (zways.getD 35 0)) (fun (_ : Unit) => []) := by
  refine zI.mk RL (by decide +kernel) rfl (Nat.le_of_ble_eq_true rfl) ?_
  intro p e s m below meth c A ls args Q hQ hx hb hF hB hl
  replace hl : lv_has ls 8 [(0, .int (8 : Int32)), (1, .int (3 : Int32))] := hl
  refine lv_iload_n hx hb dL_way_0 rfl (lv_at hl 0 rfl) ?_
  refine lv_bipush (v := 6) hx hb dL_way_1 (by decide) ?_
  refine lv_irem hx hb dL_way_3 (by decide) ?_
  refine ztopi (y := (2 : Int32)) (by decide) ?_
  refine lv_istore_n (lv' := [(2, .int (2 : Int32)), (0, .int (8 : Int32)), (1, .int (3 : Int32))]) hx hb dL_way_4 rfl hl (by decide) rfl ?_
  clear hl
  clear ls
  intro ls hl
  refine lv_iload_n hx hb dL_way_5 rfl (lv_at hl 0 rfl) ?_
  refine lv_if_ne (tgt := 13) hx hb dL_way_6 (by decide) (fun h6 => ?_) (fun h6 => ?_)
  · skip
    refine lv_iload_n hx hb dL_way_13 rfl (lv_at hl 0 rfl) ?_
    refine lv_iconst (v := 2) hx hb dL_way_14 (by decide) ?_
    refine lv_icmp_ne (tgt := 22) hx hb dL_way_15 (by decide) (fun h15 => ?_) (fun h15 => ?_)
    · skip
      exact absurd rfl h15
    · skip
      refine lv_iconst (v := 1) hx hb dL_way_18 (by decide) ?_
      refine lv_goto (tgt := 32) hx hb dL_way_19 (by decide) ?_
      refine lv_istore_n (lv' := [(3, .int (1 : Int32)), (2, .int (2 : Int32)), (0, .int (8 : Int32)), (1, .int (3 : Int32))]) hx hb dL_way_32 rfl hl (by decide) rfl ?_
      clear hl
      clear ls
      intro ls hl
      refine lv_iload_n hx hb dL_way_33 rfl (lv_at hl 1 rfl) ?_
      refine lv_iconst (v := 1) hx hb dL_way_34 (by decide) ?_
      refine lv_icmp_ne (tgt := 42) hx hb dL_way_35 (by decide) (fun h35 => ?_) (fun h35 => ?_)
      · skip
        refine lv_iload_n hx hb dL_way_42 rfl (lv_at hl 1 rfl) ?_
        refine lv_iconst (v := 5) hx hb dL_way_43 (by decide) ?_
        refine lv_icmp_ne (tgt := 51) hx hb dL_way_44 (by decide) (fun h44 => ?_) (fun h44 => ?_)
        · skip
          refine lv_iconst (v := 0) hx hb dL_way_51 (by decide) ?_
          refine lv_istore (lv' := [(4, .int (0 : Int32)), (3, .int (1 : Int32)), (2, .int (2 : Int32)), (0, .int (8 : Int32)), (1, .int (3 : Int32))]) hx hb dL_way_52 hl (by decide) rfl ?_
          clear hl
          clear ls
          intro ls hl
          refine lv_iload_n hx hb dL_way_54 rfl (lv_at hl 2 rfl) ?_
          refine lv_iconst (v := 3) hx hb dL_way_55 (by decide) ?_
          refine lv_icmp_ne (tgt := 63) hx hb dL_way_56 (by decide) (fun h56 => ?_) (fun h56 => ?_)
          · skip
            refine lv_iload_n hx hb dL_way_63 rfl (lv_at hl 2 rfl) ?_
            refine lv_iconst (v := 1) hx hb dL_way_64 (by decide) ?_
            refine lv_icmp_eq (tgt := 73) hx hb dL_way_65 (by decide) (fun h65 => ?_) (fun h65 => ?_)
            · skip
              exact absurd h65 (by decide)
            · skip
              refine lv_iload_n hx hb dL_way_68 rfl (lv_at hl 2 rfl) ?_
              refine lv_iconst (v := 5) hx hb dL_way_69 (by decide) ?_
              refine lv_icmp_ne (tgt := 77) hx hb dL_way_70 (by decide) (fun h70 => ?_) (fun h70 => ?_)
              · skip
                refine lv_iconst (v := 0) hx hb dL_way_77 (by decide) ?_
                refine lv_istore (lv' := [(5, .int (0 : Int32)), (4, .int (0 : Int32)), (3, .int (1 : Int32)), (2, .int (2 : Int32)), (0, .int (8 : Int32)), (1, .int (3 : Int32))]) hx hb dL_way_78 hl (by decide) rfl ?_
                clear hl
                clear ls
                intro ls hl
                refine lv_iload_n hx hb dL_way_80 rfl (lv_at hl 3 rfl) ?_
                refine lv_iconst (v := 2) hx hb dL_way_81 (by decide) ?_
                refine lv_icmp_eq (tgt := 90) hx hb dL_way_82 (by decide) (fun h82 => ?_) (fun h82 => ?_)
                · skip
                  refine lv_iconst (v := 1) hx hb dL_way_90 (by decide) ?_
                  refine lv_goto (tgt := 95) hx hb dL_way_91 (by decide) ?_
                  refine lv_istore (lv' := [(6, .int (1 : Int32)), (5, .int (0 : Int32)), (4, .int (0 : Int32)), (3, .int (1 : Int32)), (2, .int (2 : Int32)), (0, .int (8 : Int32)), (1, .int (3 : Int32))]) hx hb dL_way_95 hl (by decide) rfl ?_
                  clear hl
                  clear ls
                  intro ls hl
                  refine lv_iload_n hx hb dL_way_97 rfl (lv_at hl 6 rfl) ?_
                  refine lv_if_ne (tgt := 105) hx hb dL_way_98 (by decide) (fun h98 => ?_) (fun h98 => ?_)
                  · skip
                    refine lv_iload_n hx hb dL_way_105 rfl (lv_at hl 6 rfl) ?_
                    refine lv_iconst (v := 1) hx hb dL_way_106 (by decide) ?_
                    refine lv_icmp_ne (tgt := 115) hx hb dL_way_107 (by decide) (fun h107 => ?_) (fun h107 => ?_)
                    · skip
                      refine lv_iload_n hx hb dL_way_115 rfl (lv_at hl 6 rfl) ?_
                      refine lv_iconst (v := 2) hx hb dL_way_116 (by decide) ?_
                      refine lv_icmp_ne (tgt := 125) hx hb dL_way_117 (by decide) (fun h117 => ?_) (fun h117 => ?_)
                      · skip
                        refine lv_iload hx hb dL_way_125 (lv_at hl 0 rfl) ?_
                        refine lv_istore (lv' := [(7, .int (1 : Int32)), (6, .int (1 : Int32)), (5, .int (0 : Int32)), (4, .int (0 : Int32)), (3, .int (1 : Int32)), (2, .int (2 : Int32)), (0, .int (8 : Int32)), (1, .int (3 : Int32))]) hx hb dL_way_127 hl (by decide) rfl ?_
                        clear hl
                        clear ls
                        intro ls hl
                        refine lv_iload_n hx hb dL_way_129 rfl (lv_at hl 6 rfl) ?_
                        refine lv_bipush (v := 6) hx hb dL_way_130 (by decide) ?_
                        refine lv_icmp_ge (tgt := 140) hx hb dL_way_132 (by decide) (fun h132 => ?_) (fun h132 => ?_)
                        · skip
                          refine lv_iload hx hb dL_way_140 (lv_at hl 0 rfl) ?_
                          refine lv_ineg hx hb dL_way_142 ?_
                          exact zreti hF hB () (rfl) (rfl) (rfl) dL_way_143 hQ
                        · skip
                          exact absurd (by decide) h132
                      · skip
                        exact absurd h117 (by decide)
                    · skip
                      exact absurd h107 (by decide)
                  · skip
                    exact absurd h98 (by decide)
                · skip
                  exact absurd (by decide) h82
              · skip
                exact absurd h70 (by decide)
          · skip
            exact absurd h56 (by decide)
        · skip
          exact absurd h44 (by decide)
      · skip
        exact absurd h35 (by decide)
  · skip
    exact absurd h6 (by decide)

set_option maxHeartbeats 4000000 in
set_option maxRecDepth 100000 in
theorem c_L_way_9_0 (l : Launch) (D : va_G) (ka : Nat → ClassId) (kb : Nat → Nat)   : zI l D ka kb yL_way cL_way 8 .int 0 0 [.int (9 : Int32), .int (0 : Int32)] ([]) (fun (r : Int32) (_ : Unit) => r = (zways.getD 36 0)) (fun (_ : Unit) => []) := by
  refine zI.mk RL (by decide +kernel) rfl (Nat.le_of_ble_eq_true rfl) ?_
  intro p e s m below meth c A ls args Q hQ hx hb hF hB hl
  replace hl : lv_has ls 8 [(0, .int (9 : Int32)), (1, .int (0 : Int32))] := hl
  refine lv_iload_n hx hb dL_way_0 rfl (lv_at hl 0 rfl) ?_
  refine lv_bipush (v := 6) hx hb dL_way_1 (by decide) ?_
  refine lv_irem hx hb dL_way_3 (by decide) ?_
  refine ztopi (y := (3 : Int32)) (by decide) ?_
  refine lv_istore_n (lv' := [(2, .int (3 : Int32)), (0, .int (9 : Int32)), (1, .int (0 : Int32))]) hx hb dL_way_4 rfl hl (by decide) rfl ?_
  clear hl
  clear ls
  intro ls hl
  refine lv_iload_n hx hb dL_way_5 rfl (lv_at hl 0 rfl) ?_
  refine lv_if_ne (tgt := 13) hx hb dL_way_6 (by decide) (fun h6 => ?_) (fun h6 => ?_)
  · skip
    refine lv_iload_n hx hb dL_way_13 rfl (lv_at hl 0 rfl) ?_
    refine lv_iconst (v := 2) hx hb dL_way_14 (by decide) ?_
    refine lv_icmp_ne (tgt := 22) hx hb dL_way_15 (by decide) (fun h15 => ?_) (fun h15 => ?_)
    · skip
      refine lv_iload_n hx hb dL_way_22 rfl (lv_at hl 0 rfl) ?_
      refine lv_iconst (v := 4) hx hb dL_way_23 (by decide) ?_
      refine lv_icmp_ne (tgt := 31) hx hb dL_way_24 (by decide) (fun h24 => ?_) (fun h24 => ?_)
      · skip
        refine lv_iconst (v := 0) hx hb dL_way_31 (by decide) ?_
        refine lv_istore_n (lv' := [(3, .int (0 : Int32)), (2, .int (3 : Int32)), (0, .int (9 : Int32)), (1, .int (0 : Int32))]) hx hb dL_way_32 rfl hl (by decide) rfl ?_
        clear hl
        clear ls
        intro ls hl
        refine lv_iload_n hx hb dL_way_33 rfl (lv_at hl 1 rfl) ?_
        refine lv_iconst (v := 1) hx hb dL_way_34 (by decide) ?_
        refine lv_icmp_ne (tgt := 42) hx hb dL_way_35 (by decide) (fun h35 => ?_) (fun h35 => ?_)
        · skip
          refine lv_iload_n hx hb dL_way_42 rfl (lv_at hl 1 rfl) ?_
          refine lv_iconst (v := 5) hx hb dL_way_43 (by decide) ?_
          refine lv_icmp_ne (tgt := 51) hx hb dL_way_44 (by decide) (fun h44 => ?_) (fun h44 => ?_)
          · skip
            refine lv_iconst (v := 0) hx hb dL_way_51 (by decide) ?_
            refine lv_istore (lv' := [(4, .int (0 : Int32)), (3, .int (0 : Int32)), (2, .int (3 : Int32)), (0, .int (9 : Int32)), (1, .int (0 : Int32))]) hx hb dL_way_52 hl (by decide) rfl ?_
            clear hl
            clear ls
            intro ls hl
            refine lv_iload_n hx hb dL_way_54 rfl (lv_at hl 2 rfl) ?_
            refine lv_iconst (v := 3) hx hb dL_way_55 (by decide) ?_
            refine lv_icmp_ne (tgt := 63) hx hb dL_way_56 (by decide) (fun h56 => ?_) (fun h56 => ?_)
            · skip
              exact absurd rfl h56
            · skip
              refine lv_iconst (v := 2) hx hb dL_way_59 (by decide) ?_
              refine lv_goto (tgt := 78) hx hb dL_way_60 (by decide) ?_
              refine lv_istore (lv' := [(5, .int (2 : Int32)), (4, .int (0 : Int32)), (3, .int (0 : Int32)), (2, .int (3 : Int32)), (0, .int (9 : Int32)), (1, .int (0 : Int32))]) hx hb dL_way_78 hl (by decide) rfl ?_
              clear hl
              clear ls
              intro ls hl
              refine lv_iload_n hx hb dL_way_80 rfl (lv_at hl 3 rfl) ?_
              refine lv_iconst (v := 2) hx hb dL_way_81 (by decide) ?_
              refine lv_icmp_eq (tgt := 90) hx hb dL_way_82 (by decide) (fun h82 => ?_) (fun h82 => ?_)
              · skip
                exact absurd h82 (by decide)
              · skip
                refine lv_iload_n hx hb dL_way_85 rfl (lv_at hl 3 rfl) ?_
                refine lv_iconst (v := 4) hx hb dL_way_86 (by decide) ?_
                refine lv_icmp_ne (tgt := 94) hx hb dL_way_87 (by decide) (fun h87 => ?_) (fun h87 => ?_)
                · skip
                  refine lv_iconst (v := 0) hx hb dL_way_94 (by decide) ?_
                  refine lv_istore (lv' := [(6, .int (0 : Int32)), (5, .int (2 : Int32)), (4, .int (0 : Int32)), (3, .int (0 : Int32)), (2, .int (3 : Int32)), (0, .int (9 : Int32)), (1, .int (0 : Int32))]) hx hb dL_way_95 hl (by decide) rfl ?_
                  clear hl
                  clear ls
                  intro ls hl
                  refine lv_iload_n hx hb dL_way_97 rfl (lv_at hl 6 rfl) ?_
                  refine lv_if_ne (tgt := 105) hx hb dL_way_98 (by decide) (fun h98 => ?_) (fun h98 => ?_)
                  · skip
                    exact absurd (by decide) h98
                  · skip
                    refine lv_iload_n hx hb dL_way_101 rfl (lv_at hl 3 rfl) ?_
                    refine lv_goto (tgt := 127) hx hb dL_way_102 (by decide) ?_
                    refine lv_istore (lv' := [(7, .int (0 : Int32)), (6, .int (0 : Int32)), (5, .int (2 : Int32)), (4, .int (0 : Int32)), (3, .int (0 : Int32)), (2, .int (3 : Int32)), (0, .int (9 : Int32)), (1, .int (0 : Int32))]) hx hb dL_way_127 hl (by decide) rfl ?_
                    clear hl
                    clear ls
                    intro ls hl
                    refine lv_iload_n hx hb dL_way_129 rfl (lv_at hl 6 rfl) ?_
                    refine lv_bipush (v := 6) hx hb dL_way_130 (by decide) ?_
                    refine lv_icmp_ge (tgt := 140) hx hb dL_way_132 (by decide) (fun h132 => ?_) (fun h132 => ?_)
                    · skip
                      refine lv_iload hx hb dL_way_140 (lv_at hl 0 rfl) ?_
                      refine lv_ineg hx hb dL_way_142 ?_
                      exact zreti hF hB () (rfl) (rfl) (rfl) dL_way_143 hQ
                    · skip
                      exact absurd (by decide) h132
                · skip
                  exact absurd h87 (by decide)
          · skip
            exact absurd h44 (by decide)
        · skip
          exact absurd h35 (by decide)
      · skip
        exact absurd h24 (by decide)
    · skip
      exact absurd h15 (by decide)
  · skip
    exact absurd h6 (by decide)

set_option maxHeartbeats 4000000 in
set_option maxRecDepth 100000 in
theorem c_L_way_9_1 (l : Launch) (D : va_G) (ka : Nat → ClassId) (kb : Nat → Nat)   : zI l D ka kb yL_way cL_way 8 .int 0 0 [.int (9 : Int32), .int (1 : Int32)] ([]) (fun (r : Int32) (_ : Unit) => r = (zways.getD 37 0)) (fun (_ : Unit) => []) := by
  refine zI.mk RL (by decide +kernel) rfl (Nat.le_of_ble_eq_true rfl) ?_
  intro p e s m below meth c A ls args Q hQ hx hb hF hB hl
  replace hl : lv_has ls 8 [(0, .int (9 : Int32)), (1, .int (1 : Int32))] := hl
  refine lv_iload_n hx hb dL_way_0 rfl (lv_at hl 0 rfl) ?_
  refine lv_bipush (v := 6) hx hb dL_way_1 (by decide) ?_
  refine lv_irem hx hb dL_way_3 (by decide) ?_
  refine ztopi (y := (3 : Int32)) (by decide) ?_
  refine lv_istore_n (lv' := [(2, .int (3 : Int32)), (0, .int (9 : Int32)), (1, .int (1 : Int32))]) hx hb dL_way_4 rfl hl (by decide) rfl ?_
  clear hl
  clear ls
  intro ls hl
  refine lv_iload_n hx hb dL_way_5 rfl (lv_at hl 0 rfl) ?_
  refine lv_if_ne (tgt := 13) hx hb dL_way_6 (by decide) (fun h6 => ?_) (fun h6 => ?_)
  · skip
    refine lv_iload_n hx hb dL_way_13 rfl (lv_at hl 0 rfl) ?_
    refine lv_iconst (v := 2) hx hb dL_way_14 (by decide) ?_
    refine lv_icmp_ne (tgt := 22) hx hb dL_way_15 (by decide) (fun h15 => ?_) (fun h15 => ?_)
    · skip
      refine lv_iload_n hx hb dL_way_22 rfl (lv_at hl 0 rfl) ?_
      refine lv_iconst (v := 4) hx hb dL_way_23 (by decide) ?_
      refine lv_icmp_ne (tgt := 31) hx hb dL_way_24 (by decide) (fun h24 => ?_) (fun h24 => ?_)
      · skip
        refine lv_iconst (v := 0) hx hb dL_way_31 (by decide) ?_
        refine lv_istore_n (lv' := [(3, .int (0 : Int32)), (2, .int (3 : Int32)), (0, .int (9 : Int32)), (1, .int (1 : Int32))]) hx hb dL_way_32 rfl hl (by decide) rfl ?_
        clear hl
        clear ls
        intro ls hl
        refine lv_iload_n hx hb dL_way_33 rfl (lv_at hl 1 rfl) ?_
        refine lv_iconst (v := 1) hx hb dL_way_34 (by decide) ?_
        refine lv_icmp_ne (tgt := 42) hx hb dL_way_35 (by decide) (fun h35 => ?_) (fun h35 => ?_)
        · skip
          refine lv_iload_n hx hb dL_way_42 rfl (lv_at hl 1 rfl) ?_
          refine lv_iconst (v := 5) hx hb dL_way_43 (by decide) ?_
          refine lv_icmp_ne (tgt := 51) hx hb dL_way_44 (by decide) (fun h44 => ?_) (fun h44 => ?_)
          · skip
            refine lv_iconst (v := 0) hx hb dL_way_51 (by decide) ?_
            refine lv_istore (lv' := [(4, .int (0 : Int32)), (3, .int (0 : Int32)), (2, .int (3 : Int32)), (0, .int (9 : Int32)), (1, .int (1 : Int32))]) hx hb dL_way_52 hl (by decide) rfl ?_
            clear hl
            clear ls
            intro ls hl
            refine lv_iload_n hx hb dL_way_54 rfl (lv_at hl 2 rfl) ?_
            refine lv_iconst (v := 3) hx hb dL_way_55 (by decide) ?_
            refine lv_icmp_ne (tgt := 63) hx hb dL_way_56 (by decide) (fun h56 => ?_) (fun h56 => ?_)
            · skip
              exact absurd rfl h56
            · skip
              refine lv_iconst (v := 2) hx hb dL_way_59 (by decide) ?_
              refine lv_goto (tgt := 78) hx hb dL_way_60 (by decide) ?_
              refine lv_istore (lv' := [(5, .int (2 : Int32)), (4, .int (0 : Int32)), (3, .int (0 : Int32)), (2, .int (3 : Int32)), (0, .int (9 : Int32)), (1, .int (1 : Int32))]) hx hb dL_way_78 hl (by decide) rfl ?_
              clear hl
              clear ls
              intro ls hl
              refine lv_iload_n hx hb dL_way_80 rfl (lv_at hl 3 rfl) ?_
              refine lv_iconst (v := 2) hx hb dL_way_81 (by decide) ?_
              refine lv_icmp_eq (tgt := 90) hx hb dL_way_82 (by decide) (fun h82 => ?_) (fun h82 => ?_)
              · skip
                exact absurd h82 (by decide)
              · skip
                refine lv_iload_n hx hb dL_way_85 rfl (lv_at hl 3 rfl) ?_
                refine lv_iconst (v := 4) hx hb dL_way_86 (by decide) ?_
                refine lv_icmp_ne (tgt := 94) hx hb dL_way_87 (by decide) (fun h87 => ?_) (fun h87 => ?_)
                · skip
                  refine lv_iconst (v := 0) hx hb dL_way_94 (by decide) ?_
                  refine lv_istore (lv' := [(6, .int (0 : Int32)), (5, .int (2 : Int32)), (4, .int (0 : Int32)), (3, .int (0 : Int32)), (2, .int (3 : Int32)), (0, .int (9 : Int32)), (1, .int (1 : Int32))]) hx hb dL_way_95 hl (by decide) rfl ?_
                  clear hl
                  clear ls
                  intro ls hl
                  refine lv_iload_n hx hb dL_way_97 rfl (lv_at hl 6 rfl) ?_
                  refine lv_if_ne (tgt := 105) hx hb dL_way_98 (by decide) (fun h98 => ?_) (fun h98 => ?_)
                  · skip
                    refine lv_iload_n hx hb dL_way_105 rfl (lv_at hl 6 rfl) ?_
                    refine lv_iconst (v := 1) hx hb dL_way_106 (by decide) ?_
                    refine lv_icmp_ne (tgt := 115) hx hb dL_way_107 (by decide) (fun h107 => ?_) (fun h107 => ?_)
                    · skip
                      exact absurd rfl h107
                    · skip
                      refine lv_iload hx hb dL_way_110 (lv_at hl 2 rfl) ?_
                      refine lv_goto (tgt := 127) hx hb dL_way_112 (by decide) ?_
                      refine lv_istore (lv' := [(7, .int (0 : Int32)), (6, .int (0 : Int32)), (5, .int (2 : Int32)), (4, .int (0 : Int32)), (3, .int (0 : Int32)), (2, .int (3 : Int32)), (0, .int (9 : Int32)), (1, .int (1 : Int32))]) hx hb dL_way_127 hl (by decide) rfl ?_
                      clear hl
                      clear ls
                      intro ls hl
                      refine lv_iload_n hx hb dL_way_129 rfl (lv_at hl 6 rfl) ?_
                      refine lv_bipush (v := 6) hx hb dL_way_130 (by decide) ?_
                      refine lv_icmp_ge (tgt := 140) hx hb dL_way_132 (by decide) (fun h132 => ?_) (fun h132 => ?_)
                      · skip
                        refine lv_iload hx hb dL_way_140 (lv_at hl 0 rfl) ?_
                        refine lv_ineg hx hb dL_way_142 ?_
                        exact zreti hF hB () (rfl) (rfl) (rfl) dL_way_143 hQ
                      · skip
                        exact absurd (by decide) h132
                  · skip
                    exact absurd h98 (by decide)
                · skip
                  exact absurd h87 (by decide)
          · skip
            exact absurd h44 (by decide)
        · skip
          exact absurd h35 (by decide)
      · skip
        exact absurd h24 (by decide)
    · skip
      exact absurd h15 (by decide)
  · skip
    exact absurd h6 (by decide)

set_option maxHeartbeats 4000000 in
set_option maxRecDepth 100000 in
theorem c_L_way_9_2 (l : Launch) (D : va_G) (ka : Nat → ClassId) (kb : Nat → Nat)   : zI l D ka kb yL_way cL_way 8 .int 0 0 [.int (9 : Int32), .int (2 : Int32)] ([]) (fun (r : Int32) (_ : Unit) => r = (zways.getD 38 0)) (fun (_ : Unit) => []) := by
  refine zI.mk RL (by decide +kernel) rfl (Nat.le_of_ble_eq_true rfl) ?_
  intro p e s m below meth c A ls args Q hQ hx hb hF hB hl
  replace hl : lv_has ls 8 [(0, .int (9 : Int32)), (1, .int (2 : Int32))] := hl
  refine lv_iload_n hx hb dL_way_0 rfl (lv_at hl 0 rfl) ?_
  refine lv_bipush (v := 6) hx hb dL_way_1 (by decide) ?_
  refine lv_irem hx hb dL_way_3 (by decide) ?_
  refine ztopi (y := (3 : Int32)) (by decide) ?_
  refine lv_istore_n (lv' := [(2, .int (3 : Int32)), (0, .int (9 : Int32)), (1, .int (2 : Int32))]) hx hb dL_way_4 rfl hl (by decide) rfl ?_
  clear hl
  clear ls
  intro ls hl
  refine lv_iload_n hx hb dL_way_5 rfl (lv_at hl 0 rfl) ?_
  refine lv_if_ne (tgt := 13) hx hb dL_way_6 (by decide) (fun h6 => ?_) (fun h6 => ?_)
  · skip
    refine lv_iload_n hx hb dL_way_13 rfl (lv_at hl 0 rfl) ?_
    refine lv_iconst (v := 2) hx hb dL_way_14 (by decide) ?_
    refine lv_icmp_ne (tgt := 22) hx hb dL_way_15 (by decide) (fun h15 => ?_) (fun h15 => ?_)
    · skip
      refine lv_iload_n hx hb dL_way_22 rfl (lv_at hl 0 rfl) ?_
      refine lv_iconst (v := 4) hx hb dL_way_23 (by decide) ?_
      refine lv_icmp_ne (tgt := 31) hx hb dL_way_24 (by decide) (fun h24 => ?_) (fun h24 => ?_)
      · skip
        refine lv_iconst (v := 0) hx hb dL_way_31 (by decide) ?_
        refine lv_istore_n (lv' := [(3, .int (0 : Int32)), (2, .int (3 : Int32)), (0, .int (9 : Int32)), (1, .int (2 : Int32))]) hx hb dL_way_32 rfl hl (by decide) rfl ?_
        clear hl
        clear ls
        intro ls hl
        refine lv_iload_n hx hb dL_way_33 rfl (lv_at hl 1 rfl) ?_
        refine lv_iconst (v := 1) hx hb dL_way_34 (by decide) ?_
        refine lv_icmp_ne (tgt := 42) hx hb dL_way_35 (by decide) (fun h35 => ?_) (fun h35 => ?_)
        · skip
          refine lv_iload_n hx hb dL_way_42 rfl (lv_at hl 1 rfl) ?_
          refine lv_iconst (v := 5) hx hb dL_way_43 (by decide) ?_
          refine lv_icmp_ne (tgt := 51) hx hb dL_way_44 (by decide) (fun h44 => ?_) (fun h44 => ?_)
          · skip
            refine lv_iconst (v := 0) hx hb dL_way_51 (by decide) ?_
            refine lv_istore (lv' := [(4, .int (0 : Int32)), (3, .int (0 : Int32)), (2, .int (3 : Int32)), (0, .int (9 : Int32)), (1, .int (2 : Int32))]) hx hb dL_way_52 hl (by decide) rfl ?_
            clear hl
            clear ls
            intro ls hl
            refine lv_iload_n hx hb dL_way_54 rfl (lv_at hl 2 rfl) ?_
            refine lv_iconst (v := 3) hx hb dL_way_55 (by decide) ?_
            refine lv_icmp_ne (tgt := 63) hx hb dL_way_56 (by decide) (fun h56 => ?_) (fun h56 => ?_)
            · skip
              exact absurd rfl h56
            · skip
              refine lv_iconst (v := 2) hx hb dL_way_59 (by decide) ?_
              refine lv_goto (tgt := 78) hx hb dL_way_60 (by decide) ?_
              refine lv_istore (lv' := [(5, .int (2 : Int32)), (4, .int (0 : Int32)), (3, .int (0 : Int32)), (2, .int (3 : Int32)), (0, .int (9 : Int32)), (1, .int (2 : Int32))]) hx hb dL_way_78 hl (by decide) rfl ?_
              clear hl
              clear ls
              intro ls hl
              refine lv_iload_n hx hb dL_way_80 rfl (lv_at hl 3 rfl) ?_
              refine lv_iconst (v := 2) hx hb dL_way_81 (by decide) ?_
              refine lv_icmp_eq (tgt := 90) hx hb dL_way_82 (by decide) (fun h82 => ?_) (fun h82 => ?_)
              · skip
                exact absurd h82 (by decide)
              · skip
                refine lv_iload_n hx hb dL_way_85 rfl (lv_at hl 3 rfl) ?_
                refine lv_iconst (v := 4) hx hb dL_way_86 (by decide) ?_
                refine lv_icmp_ne (tgt := 94) hx hb dL_way_87 (by decide) (fun h87 => ?_) (fun h87 => ?_)
                · skip
                  refine lv_iconst (v := 0) hx hb dL_way_94 (by decide) ?_
                  refine lv_istore (lv' := [(6, .int (0 : Int32)), (5, .int (2 : Int32)), (4, .int (0 : Int32)), (3, .int (0 : Int32)), (2, .int (3 : Int32)), (0, .int (9 : Int32)), (1, .int (2 : Int32))]) hx hb dL_way_95 hl (by decide) rfl ?_
                  clear hl
                  clear ls
                  intro ls hl
                  refine lv_iload_n hx hb dL_way_97 rfl (lv_at hl 6 rfl) ?_
                  refine lv_if_ne (tgt := 105) hx hb dL_way_98 (by decide) (fun h98 => ?_) (fun h98 => ?_)
                  · skip
                    refine lv_iload_n hx hb dL_way_105 rfl (lv_at hl 6 rfl) ?_
                    refine lv_iconst (v := 1) hx hb dL_way_106 (by decide) ?_
                    refine lv_icmp_ne (tgt := 115) hx hb dL_way_107 (by decide) (fun h107 => ?_) (fun h107 => ?_)
                    · skip
                      refine lv_iload_n hx hb dL_way_115 rfl (lv_at hl 6 rfl) ?_
                      refine lv_iconst (v := 2) hx hb dL_way_116 (by decide) ?_
                      refine lv_icmp_ne (tgt := 125) hx hb dL_way_117 (by decide) (fun h117 => ?_) (fun h117 => ?_)
                      · skip
                        exact absurd rfl h117
                      · skip
                        refine lv_iload hx hb dL_way_120 (lv_at hl 1 rfl) ?_
                        refine lv_goto (tgt := 127) hx hb dL_way_122 (by decide) ?_
                        refine lv_istore (lv' := [(7, .int (2 : Int32)), (6, .int (0 : Int32)), (5, .int (2 : Int32)), (4, .int (0 : Int32)), (3, .int (0 : Int32)), (2, .int (3 : Int32)), (0, .int (9 : Int32)), (1, .int (2 : Int32))]) hx hb dL_way_127 hl (by decide) rfl ?_
                        clear hl
                        clear ls
                        intro ls hl
                        refine lv_iload_n hx hb dL_way_129 rfl (lv_at hl 6 rfl) ?_
                        refine lv_bipush (v := 6) hx hb dL_way_130 (by decide) ?_
                        refine lv_icmp_ge (tgt := 140) hx hb dL_way_132 (by decide) (fun h132 => ?_) (fun h132 => ?_)
                        · skip
                          refine lv_iload hx hb dL_way_140 (lv_at hl 0 rfl) ?_
                          refine lv_ineg hx hb dL_way_142 ?_
                          exact zreti hF hB () (rfl) (rfl) (rfl) dL_way_143 hQ
                        · skip
                          exact absurd (by decide) h132
                    · skip
                      exact absurd h107 (by decide)
                  · skip
                    exact absurd h98 (by decide)
                · skip
                  exact absurd h87 (by decide)
          · skip
            exact absurd h44 (by decide)
        · skip
          exact absurd h35 (by decide)
      · skip
        exact absurd h24 (by decide)
    · skip
      exact absurd h15 (by decide)
  · skip
    exact absurd h6 (by decide)

set_option maxHeartbeats 4000000 in
set_option maxRecDepth 100000 in
theorem c_L_way_9_3 (l : Launch) (D : va_G) (ka : Nat → ClassId) (kb : Nat → Nat)   : zI l D ka kb yL_way cL_way 8 .int 0 0 [.int (9 : Int32), .int (3 : Int32)] ([]) (fun (r : Int32) (_ : Unit) => r = (zways.getD 39 0)) (fun (_ : Unit) => []) := by
  refine zI.mk RL (by decide +kernel) rfl (Nat.le_of_ble_eq_true rfl) ?_
  intro p e s m below meth c A ls args Q hQ hx hb hF hB hl
  replace hl : lv_has ls 8 [(0, .int (9 : Int32)), (1, .int (3 : Int32))] := hl
  refine lv_iload_n hx hb dL_way_0 rfl (lv_at hl 0 rfl) ?_
  refine lv_bipush (v := 6) hx hb dL_way_1 (by decide) ?_
  refine lv_irem hx hb dL_way_3 (by decide) ?_
  refine ztopi (y := (3 : Int32)) (by decide) ?_
  refine lv_istore_n (lv' := [(2, .int (3 : Int32)), (0, .int (9 : Int32)), (1, .int (3 : Int32))]) hx hb dL_way_4 rfl hl (by decide) rfl ?_
  clear hl
  clear ls
  intro ls hl
  refine lv_iload_n hx hb dL_way_5 rfl (lv_at hl 0 rfl) ?_
  refine lv_if_ne (tgt := 13) hx hb dL_way_6 (by decide) (fun h6 => ?_) (fun h6 => ?_)
  · skip
    refine lv_iload_n hx hb dL_way_13 rfl (lv_at hl 0 rfl) ?_
    refine lv_iconst (v := 2) hx hb dL_way_14 (by decide) ?_
    refine lv_icmp_ne (tgt := 22) hx hb dL_way_15 (by decide) (fun h15 => ?_) (fun h15 => ?_)
    · skip
      refine lv_iload_n hx hb dL_way_22 rfl (lv_at hl 0 rfl) ?_
      refine lv_iconst (v := 4) hx hb dL_way_23 (by decide) ?_
      refine lv_icmp_ne (tgt := 31) hx hb dL_way_24 (by decide) (fun h24 => ?_) (fun h24 => ?_)
      · skip
        refine lv_iconst (v := 0) hx hb dL_way_31 (by decide) ?_
        refine lv_istore_n (lv' := [(3, .int (0 : Int32)), (2, .int (3 : Int32)), (0, .int (9 : Int32)), (1, .int (3 : Int32))]) hx hb dL_way_32 rfl hl (by decide) rfl ?_
        clear hl
        clear ls
        intro ls hl
        refine lv_iload_n hx hb dL_way_33 rfl (lv_at hl 1 rfl) ?_
        refine lv_iconst (v := 1) hx hb dL_way_34 (by decide) ?_
        refine lv_icmp_ne (tgt := 42) hx hb dL_way_35 (by decide) (fun h35 => ?_) (fun h35 => ?_)
        · skip
          refine lv_iload_n hx hb dL_way_42 rfl (lv_at hl 1 rfl) ?_
          refine lv_iconst (v := 5) hx hb dL_way_43 (by decide) ?_
          refine lv_icmp_ne (tgt := 51) hx hb dL_way_44 (by decide) (fun h44 => ?_) (fun h44 => ?_)
          · skip
            refine lv_iconst (v := 0) hx hb dL_way_51 (by decide) ?_
            refine lv_istore (lv' := [(4, .int (0 : Int32)), (3, .int (0 : Int32)), (2, .int (3 : Int32)), (0, .int (9 : Int32)), (1, .int (3 : Int32))]) hx hb dL_way_52 hl (by decide) rfl ?_
            clear hl
            clear ls
            intro ls hl
            refine lv_iload_n hx hb dL_way_54 rfl (lv_at hl 2 rfl) ?_
            refine lv_iconst (v := 3) hx hb dL_way_55 (by decide) ?_
            refine lv_icmp_ne (tgt := 63) hx hb dL_way_56 (by decide) (fun h56 => ?_) (fun h56 => ?_)
            · skip
              exact absurd rfl h56
            · skip
              refine lv_iconst (v := 2) hx hb dL_way_59 (by decide) ?_
              refine lv_goto (tgt := 78) hx hb dL_way_60 (by decide) ?_
              refine lv_istore (lv' := [(5, .int (2 : Int32)), (4, .int (0 : Int32)), (3, .int (0 : Int32)), (2, .int (3 : Int32)), (0, .int (9 : Int32)), (1, .int (3 : Int32))]) hx hb dL_way_78 hl (by decide) rfl ?_
              clear hl
              clear ls
              intro ls hl
              refine lv_iload_n hx hb dL_way_80 rfl (lv_at hl 3 rfl) ?_
              refine lv_iconst (v := 2) hx hb dL_way_81 (by decide) ?_
              refine lv_icmp_eq (tgt := 90) hx hb dL_way_82 (by decide) (fun h82 => ?_) (fun h82 => ?_)
              · skip
                exact absurd h82 (by decide)
              · skip
                refine lv_iload_n hx hb dL_way_85 rfl (lv_at hl 3 rfl) ?_
                refine lv_iconst (v := 4) hx hb dL_way_86 (by decide) ?_
                refine lv_icmp_ne (tgt := 94) hx hb dL_way_87 (by decide) (fun h87 => ?_) (fun h87 => ?_)
                · skip
                  refine lv_iconst (v := 0) hx hb dL_way_94 (by decide) ?_
                  refine lv_istore (lv' := [(6, .int (0 : Int32)), (5, .int (2 : Int32)), (4, .int (0 : Int32)), (3, .int (0 : Int32)), (2, .int (3 : Int32)), (0, .int (9 : Int32)), (1, .int (3 : Int32))]) hx hb dL_way_95 hl (by decide) rfl ?_
                  clear hl
                  clear ls
                  intro ls hl
                  refine lv_iload_n hx hb dL_way_97 rfl (lv_at hl 6 rfl) ?_
                  refine lv_if_ne (tgt := 105) hx hb dL_way_98 (by decide) (fun h98 => ?_) (fun h98 => ?_)
                  · skip
                    refine lv_iload_n hx hb dL_way_105 rfl (lv_at hl 6 rfl) ?_
                    refine lv_iconst (v := 1) hx hb dL_way_106 (by decide) ?_
                    refine lv_icmp_ne (tgt := 115) hx hb dL_way_107 (by decide) (fun h107 => ?_) (fun h107 => ?_)
                    · skip
                      refine lv_iload_n hx hb dL_way_115 rfl (lv_at hl 6 rfl) ?_
                      refine lv_iconst (v := 2) hx hb dL_way_116 (by decide) ?_
                      refine lv_icmp_ne (tgt := 125) hx hb dL_way_117 (by decide) (fun h117 => ?_) (fun h117 => ?_)
                      · skip
                        refine lv_iload hx hb dL_way_125 (lv_at hl 0 rfl) ?_
                        refine lv_istore (lv' := [(7, .int (0 : Int32)), (6, .int (0 : Int32)), (5, .int (2 : Int32)), (4, .int (0 : Int32)), (3, .int (0 : Int32)), (2, .int (3 : Int32)), (0, .int (9 : Int32)), (1, .int (3 : Int32))]) hx hb dL_way_127 hl (by decide) rfl ?_
                        clear hl
                        clear ls
                        intro ls hl
                        refine lv_iload_n hx hb dL_way_129 rfl (lv_at hl 6 rfl) ?_
                        refine lv_bipush (v := 6) hx hb dL_way_130 (by decide) ?_
                        refine lv_icmp_ge (tgt := 140) hx hb dL_way_132 (by decide) (fun h132 => ?_) (fun h132 => ?_)
                        · skip
                          refine lv_iload hx hb dL_way_140 (lv_at hl 0 rfl) ?_
                          refine lv_ineg hx hb dL_way_142 ?_
                          exact zreti hF hB () (rfl) (rfl) (rfl) dL_way_143 hQ
                        · skip
                          exact absurd (by decide) h132
                      · skip
                        exact absurd h117 (by decide)
                    · skip
                      exact absurd h107 (by decide)
                  · skip
                    exact absurd h98 (by decide)
                · skip
                  exact absurd h87 (by decide)
          · skip
            exact absurd h44 (by decide)
        · skip
          exact absurd h35 (by decide)
      · skip
        exact absurd h24 (by decide)
    · skip
      exact absurd h15 (by decide)
  · skip
    exact absurd h6 (by decide)

set_option maxHeartbeats 4000000 in
set_option maxRecDepth 100000 in
theorem c_L_way_10_0 (l : Launch) (D : va_G) (ka : Nat → ClassId) (kb : Nat → Nat)   : zI l D ka kb yL_way cL_way 8 .int 0 0 [.int (10 : Int32), .int (0 : Int32)] ([]) (fun (r : Int32) (_ : Unit) => r = (zways.getD 40 0)) (fun (_ : Unit) => []) := by
  refine zI.mk RL (by decide +kernel) rfl (Nat.le_of_ble_eq_true rfl) ?_
  intro p e s m below meth c A ls args Q hQ hx hb hF hB hl
  replace hl : lv_has ls 8 [(0, .int (10 : Int32)), (1, .int (0 : Int32))] := hl
  refine lv_iload_n hx hb dL_way_0 rfl (lv_at hl 0 rfl) ?_
  refine lv_bipush (v := 6) hx hb dL_way_1 (by decide) ?_
  refine lv_irem hx hb dL_way_3 (by decide) ?_
  refine ztopi (y := (4 : Int32)) (by decide) ?_
  refine lv_istore_n (lv' := [(2, .int (4 : Int32)), (0, .int (10 : Int32)), (1, .int (0 : Int32))]) hx hb dL_way_4 rfl hl (by decide) rfl ?_
  clear hl
  clear ls
  intro ls hl
  refine lv_iload_n hx hb dL_way_5 rfl (lv_at hl 0 rfl) ?_
  refine lv_if_ne (tgt := 13) hx hb dL_way_6 (by decide) (fun h6 => ?_) (fun h6 => ?_)
  · skip
    refine lv_iload_n hx hb dL_way_13 rfl (lv_at hl 0 rfl) ?_
    refine lv_iconst (v := 2) hx hb dL_way_14 (by decide) ?_
    refine lv_icmp_ne (tgt := 22) hx hb dL_way_15 (by decide) (fun h15 => ?_) (fun h15 => ?_)
    · skip
      refine lv_iload_n hx hb dL_way_22 rfl (lv_at hl 0 rfl) ?_
      refine lv_iconst (v := 4) hx hb dL_way_23 (by decide) ?_
      refine lv_icmp_ne (tgt := 31) hx hb dL_way_24 (by decide) (fun h24 => ?_) (fun h24 => ?_)
      · skip
        exact absurd rfl h24
      · skip
        refine lv_iconst (v := -1) hx hb dL_way_27 (by decide) ?_
        refine lv_goto (tgt := 32) hx hb dL_way_28 (by decide) ?_
        refine lv_istore_n (lv' := [(3, .int (-1 : Int32)), (2, .int (4 : Int32)), (0, .int (10 : Int32)), (1, .int (0 : Int32))]) hx hb dL_way_32 rfl hl (by decide) rfl ?_
        clear hl
        clear ls
        intro ls hl
        refine lv_iload_n hx hb dL_way_33 rfl (lv_at hl 1 rfl) ?_
        refine lv_iconst (v := 1) hx hb dL_way_34 (by decide) ?_
        refine lv_icmp_ne (tgt := 42) hx hb dL_way_35 (by decide) (fun h35 => ?_) (fun h35 => ?_)
        · skip
          refine lv_iload_n hx hb dL_way_42 rfl (lv_at hl 1 rfl) ?_
          refine lv_iconst (v := 5) hx hb dL_way_43 (by decide) ?_
          refine lv_icmp_ne (tgt := 51) hx hb dL_way_44 (by decide) (fun h44 => ?_) (fun h44 => ?_)
          · skip
            refine lv_iconst (v := 0) hx hb dL_way_51 (by decide) ?_
            refine lv_istore (lv' := [(4, .int (0 : Int32)), (3, .int (-1 : Int32)), (2, .int (4 : Int32)), (0, .int (10 : Int32)), (1, .int (0 : Int32))]) hx hb dL_way_52 hl (by decide) rfl ?_
            clear hl
            clear ls
            intro ls hl
            refine lv_iload_n hx hb dL_way_54 rfl (lv_at hl 2 rfl) ?_
            refine lv_iconst (v := 3) hx hb dL_way_55 (by decide) ?_
            refine lv_icmp_ne (tgt := 63) hx hb dL_way_56 (by decide) (fun h56 => ?_) (fun h56 => ?_)
            · skip
              refine lv_iload_n hx hb dL_way_63 rfl (lv_at hl 2 rfl) ?_
              refine lv_iconst (v := 1) hx hb dL_way_64 (by decide) ?_
              refine lv_icmp_eq (tgt := 73) hx hb dL_way_65 (by decide) (fun h65 => ?_) (fun h65 => ?_)
              · skip
                exact absurd h65 (by decide)
              · skip
                refine lv_iload_n hx hb dL_way_68 rfl (lv_at hl 2 rfl) ?_
                refine lv_iconst (v := 5) hx hb dL_way_69 (by decide) ?_
                refine lv_icmp_ne (tgt := 77) hx hb dL_way_70 (by decide) (fun h70 => ?_) (fun h70 => ?_)
                · skip
                  refine lv_iconst (v := 0) hx hb dL_way_77 (by decide) ?_
                  refine lv_istore (lv' := [(5, .int (0 : Int32)), (4, .int (0 : Int32)), (3, .int (-1 : Int32)), (2, .int (4 : Int32)), (0, .int (10 : Int32)), (1, .int (0 : Int32))]) hx hb dL_way_78 hl (by decide) rfl ?_
                  clear hl
                  clear ls
                  intro ls hl
                  refine lv_iload_n hx hb dL_way_80 rfl (lv_at hl 3 rfl) ?_
                  refine lv_iconst (v := 2) hx hb dL_way_81 (by decide) ?_
                  refine lv_icmp_eq (tgt := 90) hx hb dL_way_82 (by decide) (fun h82 => ?_) (fun h82 => ?_)
                  · skip
                    exact absurd h82 (by decide)
                  · skip
                    refine lv_iload_n hx hb dL_way_85 rfl (lv_at hl 3 rfl) ?_
                    refine lv_iconst (v := 4) hx hb dL_way_86 (by decide) ?_
                    refine lv_icmp_ne (tgt := 94) hx hb dL_way_87 (by decide) (fun h87 => ?_) (fun h87 => ?_)
                    · skip
                      exact absurd rfl h87
                    · skip
                      refine lv_iconst (v := 1) hx hb dL_way_90 (by decide) ?_
                      refine lv_goto (tgt := 95) hx hb dL_way_91 (by decide) ?_
                      refine lv_istore (lv' := [(6, .int (1 : Int32)), (5, .int (0 : Int32)), (4, .int (0 : Int32)), (3, .int (-1 : Int32)), (2, .int (4 : Int32)), (0, .int (10 : Int32)), (1, .int (0 : Int32))]) hx hb dL_way_95 hl (by decide) rfl ?_
                      clear hl
                      clear ls
                      intro ls hl
                      refine lv_iload_n hx hb dL_way_97 rfl (lv_at hl 6 rfl) ?_
                      refine lv_if_ne (tgt := 105) hx hb dL_way_98 (by decide) (fun h98 => ?_) (fun h98 => ?_)
                      · skip
                        exact absurd (by decide) h98
                      · skip
                        refine lv_iload_n hx hb dL_way_101 rfl (lv_at hl 3 rfl) ?_
                        refine lv_goto (tgt := 127) hx hb dL_way_102 (by decide) ?_
                        refine lv_istore (lv' := [(7, .int (-1 : Int32)), (6, .int (1 : Int32)), (5, .int (0 : Int32)), (4, .int (0 : Int32)), (3, .int (-1 : Int32)), (2, .int (4 : Int32)), (0, .int (10 : Int32)), (1, .int (0 : Int32))]) hx hb dL_way_127 hl (by decide) rfl ?_
                        clear hl
                        clear ls
                        intro ls hl
                        refine lv_iload_n hx hb dL_way_129 rfl (lv_at hl 6 rfl) ?_
                        refine lv_bipush (v := 6) hx hb dL_way_130 (by decide) ?_
                        refine lv_icmp_ge (tgt := 140) hx hb dL_way_132 (by decide) (fun h132 => ?_) (fun h132 => ?_)
                        · skip
                          refine lv_iload hx hb dL_way_140 (lv_at hl 0 rfl) ?_
                          refine lv_ineg hx hb dL_way_142 ?_
                          exact zreti hF hB () (rfl) (rfl) (rfl) dL_way_143 hQ
                        · skip
                          exact absurd (by decide) h132
                · skip
                  exact absurd h70 (by decide)
            · skip
              exact absurd h56 (by decide)
          · skip
            exact absurd h44 (by decide)
        · skip
          exact absurd h35 (by decide)
    · skip
      exact absurd h15 (by decide)
  · skip
    exact absurd h6 (by decide)

set_option maxHeartbeats 4000000 in
set_option maxRecDepth 100000 in
theorem c_L_way_10_1 (l : Launch) (D : va_G) (ka : Nat → ClassId) (kb : Nat → Nat)   : zI l D ka kb yL_way cL_way 8 .int 0 0 [.int (10 : Int32), .int (1 : Int32)] ([]) (fun (r : Int32) (_ : Unit) => r = (zways.getD 41 0)) (fun (_ : Unit) => []) := by
  refine zI.mk RL (by decide +kernel) rfl (Nat.le_of_ble_eq_true rfl) ?_
  intro p e s m below meth c A ls args Q hQ hx hb hF hB hl
  replace hl : lv_has ls 8 [(0, .int (10 : Int32)), (1, .int (1 : Int32))] := hl
  refine lv_iload_n hx hb dL_way_0 rfl (lv_at hl 0 rfl) ?_
  refine lv_bipush (v := 6) hx hb dL_way_1 (by decide) ?_
  refine lv_irem hx hb dL_way_3 (by decide) ?_
  refine ztopi (y := (4 : Int32)) (by decide) ?_
  refine lv_istore_n (lv' := [(2, .int (4 : Int32)), (0, .int (10 : Int32)), (1, .int (1 : Int32))]) hx hb dL_way_4 rfl hl (by decide) rfl ?_
  clear hl
  clear ls
  intro ls hl
  refine lv_iload_n hx hb dL_way_5 rfl (lv_at hl 0 rfl) ?_
  refine lv_if_ne (tgt := 13) hx hb dL_way_6 (by decide) (fun h6 => ?_) (fun h6 => ?_)
  · skip
    refine lv_iload_n hx hb dL_way_13 rfl (lv_at hl 0 rfl) ?_
    refine lv_iconst (v := 2) hx hb dL_way_14 (by decide) ?_
    refine lv_icmp_ne (tgt := 22) hx hb dL_way_15 (by decide) (fun h15 => ?_) (fun h15 => ?_)
    · skip
      refine lv_iload_n hx hb dL_way_22 rfl (lv_at hl 0 rfl) ?_
      refine lv_iconst (v := 4) hx hb dL_way_23 (by decide) ?_
      refine lv_icmp_ne (tgt := 31) hx hb dL_way_24 (by decide) (fun h24 => ?_) (fun h24 => ?_)
      · skip
        exact absurd rfl h24
      · skip
        refine lv_iconst (v := -1) hx hb dL_way_27 (by decide) ?_
        refine lv_goto (tgt := 32) hx hb dL_way_28 (by decide) ?_
        refine lv_istore_n (lv' := [(3, .int (-1 : Int32)), (2, .int (4 : Int32)), (0, .int (10 : Int32)), (1, .int (1 : Int32))]) hx hb dL_way_32 rfl hl (by decide) rfl ?_
        clear hl
        clear ls
        intro ls hl
        refine lv_iload_n hx hb dL_way_33 rfl (lv_at hl 1 rfl) ?_
        refine lv_iconst (v := 1) hx hb dL_way_34 (by decide) ?_
        refine lv_icmp_ne (tgt := 42) hx hb dL_way_35 (by decide) (fun h35 => ?_) (fun h35 => ?_)
        · skip
          refine lv_iload_n hx hb dL_way_42 rfl (lv_at hl 1 rfl) ?_
          refine lv_iconst (v := 5) hx hb dL_way_43 (by decide) ?_
          refine lv_icmp_ne (tgt := 51) hx hb dL_way_44 (by decide) (fun h44 => ?_) (fun h44 => ?_)
          · skip
            refine lv_iconst (v := 0) hx hb dL_way_51 (by decide) ?_
            refine lv_istore (lv' := [(4, .int (0 : Int32)), (3, .int (-1 : Int32)), (2, .int (4 : Int32)), (0, .int (10 : Int32)), (1, .int (1 : Int32))]) hx hb dL_way_52 hl (by decide) rfl ?_
            clear hl
            clear ls
            intro ls hl
            refine lv_iload_n hx hb dL_way_54 rfl (lv_at hl 2 rfl) ?_
            refine lv_iconst (v := 3) hx hb dL_way_55 (by decide) ?_
            refine lv_icmp_ne (tgt := 63) hx hb dL_way_56 (by decide) (fun h56 => ?_) (fun h56 => ?_)
            · skip
              refine lv_iload_n hx hb dL_way_63 rfl (lv_at hl 2 rfl) ?_
              refine lv_iconst (v := 1) hx hb dL_way_64 (by decide) ?_
              refine lv_icmp_eq (tgt := 73) hx hb dL_way_65 (by decide) (fun h65 => ?_) (fun h65 => ?_)
              · skip
                exact absurd h65 (by decide)
              · skip
                refine lv_iload_n hx hb dL_way_68 rfl (lv_at hl 2 rfl) ?_
                refine lv_iconst (v := 5) hx hb dL_way_69 (by decide) ?_
                refine lv_icmp_ne (tgt := 77) hx hb dL_way_70 (by decide) (fun h70 => ?_) (fun h70 => ?_)
                · skip
                  refine lv_iconst (v := 0) hx hb dL_way_77 (by decide) ?_
                  refine lv_istore (lv' := [(5, .int (0 : Int32)), (4, .int (0 : Int32)), (3, .int (-1 : Int32)), (2, .int (4 : Int32)), (0, .int (10 : Int32)), (1, .int (1 : Int32))]) hx hb dL_way_78 hl (by decide) rfl ?_
                  clear hl
                  clear ls
                  intro ls hl
                  refine lv_iload_n hx hb dL_way_80 rfl (lv_at hl 3 rfl) ?_
                  refine lv_iconst (v := 2) hx hb dL_way_81 (by decide) ?_
                  refine lv_icmp_eq (tgt := 90) hx hb dL_way_82 (by decide) (fun h82 => ?_) (fun h82 => ?_)
                  · skip
                    exact absurd h82 (by decide)
                  · skip
                    refine lv_iload_n hx hb dL_way_85 rfl (lv_at hl 3 rfl) ?_
                    refine lv_iconst (v := 4) hx hb dL_way_86 (by decide) ?_
                    refine lv_icmp_ne (tgt := 94) hx hb dL_way_87 (by decide) (fun h87 => ?_) (fun h87 => ?_)
                    · skip
                      exact absurd rfl h87
                    · skip
                      refine lv_iconst (v := 1) hx hb dL_way_90 (by decide) ?_
                      refine lv_goto (tgt := 95) hx hb dL_way_91 (by decide) ?_
                      refine lv_istore (lv' := [(6, .int (1 : Int32)), (5, .int (0 : Int32)), (4, .int (0 : Int32)), (3, .int (-1 : Int32)), (2, .int (4 : Int32)), (0, .int (10 : Int32)), (1, .int (1 : Int32))]) hx hb dL_way_95 hl (by decide) rfl ?_
                      clear hl
                      clear ls
                      intro ls hl
                      refine lv_iload_n hx hb dL_way_97 rfl (lv_at hl 6 rfl) ?_
                      refine lv_if_ne (tgt := 105) hx hb dL_way_98 (by decide) (fun h98 => ?_) (fun h98 => ?_)
                      · skip
                        refine lv_iload_n hx hb dL_way_105 rfl (lv_at hl 6 rfl) ?_
                        refine lv_iconst (v := 1) hx hb dL_way_106 (by decide) ?_
                        refine lv_icmp_ne (tgt := 115) hx hb dL_way_107 (by decide) (fun h107 => ?_) (fun h107 => ?_)
                        · skip
                          exact absurd rfl h107
                        · skip
                          refine lv_iload hx hb dL_way_110 (lv_at hl 2 rfl) ?_
                          refine lv_goto (tgt := 127) hx hb dL_way_112 (by decide) ?_
                          refine lv_istore (lv' := [(7, .int (0 : Int32)), (6, .int (1 : Int32)), (5, .int (0 : Int32)), (4, .int (0 : Int32)), (3, .int (-1 : Int32)), (2, .int (4 : Int32)), (0, .int (10 : Int32)), (1, .int (1 : Int32))]) hx hb dL_way_127 hl (by decide) rfl ?_
                          clear hl
                          clear ls
                          intro ls hl
                          refine lv_iload_n hx hb dL_way_129 rfl (lv_at hl 6 rfl) ?_
                          refine lv_bipush (v := 6) hx hb dL_way_130 (by decide) ?_
                          refine lv_icmp_ge (tgt := 140) hx hb dL_way_132 (by decide) (fun h132 => ?_) (fun h132 => ?_)
                          · skip
                            refine lv_iload hx hb dL_way_140 (lv_at hl 0 rfl) ?_
                            refine lv_ineg hx hb dL_way_142 ?_
                            exact zreti hF hB () (rfl) (rfl) (rfl) dL_way_143 hQ
                          · skip
                            exact absurd (by decide) h132
                      · skip
                        exact absurd h98 (by decide)
                · skip
                  exact absurd h70 (by decide)
            · skip
              exact absurd h56 (by decide)
          · skip
            exact absurd h44 (by decide)
        · skip
          exact absurd h35 (by decide)
    · skip
      exact absurd h15 (by decide)
  · skip
    exact absurd h6 (by decide)

set_option maxHeartbeats 4000000 in
set_option maxRecDepth 100000 in
theorem c_L_way_10_2 (l : Launch) (D : va_G) (ka : Nat → ClassId) (kb : Nat → Nat)   : zI l D ka kb yL_way cL_way 8 .int 0 0 [.int (10 : Int32), .int (2 : Int32)] ([]) (fun (r : Int32) (_ : Unit) => r = (zways.getD 42 0)) (fun (_ : Unit) => []) := by
  refine zI.mk RL (by decide +kernel) rfl (Nat.le_of_ble_eq_true rfl) ?_
  intro p e s m below meth c A ls args Q hQ hx hb hF hB hl
  replace hl : lv_has ls 8 [(0, .int (10 : Int32)), (1, .int (2 : Int32))] := hl
  refine lv_iload_n hx hb dL_way_0 rfl (lv_at hl 0 rfl) ?_
  refine lv_bipush (v := 6) hx hb dL_way_1 (by decide) ?_
  refine lv_irem hx hb dL_way_3 (by decide) ?_
  refine ztopi (y := (4 : Int32)) (by decide) ?_
  refine lv_istore_n (lv' := [(2, .int (4 : Int32)), (0, .int (10 : Int32)), (1, .int (2 : Int32))]) hx hb dL_way_4 rfl hl (by decide) rfl ?_
  clear hl
  clear ls
  intro ls hl
  refine lv_iload_n hx hb dL_way_5 rfl (lv_at hl 0 rfl) ?_
  refine lv_if_ne (tgt := 13) hx hb dL_way_6 (by decide) (fun h6 => ?_) (fun h6 => ?_)
  · skip
    refine lv_iload_n hx hb dL_way_13 rfl (lv_at hl 0 rfl) ?_
    refine lv_iconst (v := 2) hx hb dL_way_14 (by decide) ?_
    refine lv_icmp_ne (tgt := 22) hx hb dL_way_15 (by decide) (fun h15 => ?_) (fun h15 => ?_)
    · skip
      refine lv_iload_n hx hb dL_way_22 rfl (lv_at hl 0 rfl) ?_
      refine lv_iconst (v := 4) hx hb dL_way_23 (by decide) ?_
      refine lv_icmp_ne (tgt := 31) hx hb dL_way_24 (by decide) (fun h24 => ?_) (fun h24 => ?_)
      · skip
        exact absurd rfl h24
      · skip
        refine lv_iconst (v := -1) hx hb dL_way_27 (by decide) ?_
        refine lv_goto (tgt := 32) hx hb dL_way_28 (by decide) ?_
        refine lv_istore_n (lv' := [(3, .int (-1 : Int32)), (2, .int (4 : Int32)), (0, .int (10 : Int32)), (1, .int (2 : Int32))]) hx hb dL_way_32 rfl hl (by decide) rfl ?_
        clear hl
        clear ls
        intro ls hl
        refine lv_iload_n hx hb dL_way_33 rfl (lv_at hl 1 rfl) ?_
        refine lv_iconst (v := 1) hx hb dL_way_34 (by decide) ?_
        refine lv_icmp_ne (tgt := 42) hx hb dL_way_35 (by decide) (fun h35 => ?_) (fun h35 => ?_)
        · skip
          refine lv_iload_n hx hb dL_way_42 rfl (lv_at hl 1 rfl) ?_
          refine lv_iconst (v := 5) hx hb dL_way_43 (by decide) ?_
          refine lv_icmp_ne (tgt := 51) hx hb dL_way_44 (by decide) (fun h44 => ?_) (fun h44 => ?_)
          · skip
            refine lv_iconst (v := 0) hx hb dL_way_51 (by decide) ?_
            refine lv_istore (lv' := [(4, .int (0 : Int32)), (3, .int (-1 : Int32)), (2, .int (4 : Int32)), (0, .int (10 : Int32)), (1, .int (2 : Int32))]) hx hb dL_way_52 hl (by decide) rfl ?_
            clear hl
            clear ls
            intro ls hl
            refine lv_iload_n hx hb dL_way_54 rfl (lv_at hl 2 rfl) ?_
            refine lv_iconst (v := 3) hx hb dL_way_55 (by decide) ?_
            refine lv_icmp_ne (tgt := 63) hx hb dL_way_56 (by decide) (fun h56 => ?_) (fun h56 => ?_)
            · skip
              refine lv_iload_n hx hb dL_way_63 rfl (lv_at hl 2 rfl) ?_
              refine lv_iconst (v := 1) hx hb dL_way_64 (by decide) ?_
              refine lv_icmp_eq (tgt := 73) hx hb dL_way_65 (by decide) (fun h65 => ?_) (fun h65 => ?_)
              · skip
                exact absurd h65 (by decide)
              · skip
                refine lv_iload_n hx hb dL_way_68 rfl (lv_at hl 2 rfl) ?_
                refine lv_iconst (v := 5) hx hb dL_way_69 (by decide) ?_
                refine lv_icmp_ne (tgt := 77) hx hb dL_way_70 (by decide) (fun h70 => ?_) (fun h70 => ?_)
                · skip
                  refine lv_iconst (v := 0) hx hb dL_way_77 (by decide) ?_
                  refine lv_istore (lv' := [(5, .int (0 : Int32)), (4, .int (0 : Int32)), (3, .int (-1 : Int32)), (2, .int (4 : Int32)), (0, .int (10 : Int32)), (1, .int (2 : Int32))]) hx hb dL_way_78 hl (by decide) rfl ?_
                  clear hl
                  clear ls
                  intro ls hl
                  refine lv_iload_n hx hb dL_way_80 rfl (lv_at hl 3 rfl) ?_
                  refine lv_iconst (v := 2) hx hb dL_way_81 (by decide) ?_
                  refine lv_icmp_eq (tgt := 90) hx hb dL_way_82 (by decide) (fun h82 => ?_) (fun h82 => ?_)
                  · skip
                    exact absurd h82 (by decide)
                  · skip
                    refine lv_iload_n hx hb dL_way_85 rfl (lv_at hl 3 rfl) ?_
                    refine lv_iconst (v := 4) hx hb dL_way_86 (by decide) ?_
                    refine lv_icmp_ne (tgt := 94) hx hb dL_way_87 (by decide) (fun h87 => ?_) (fun h87 => ?_)
                    · skip
                      exact absurd rfl h87
                    · skip
                      refine lv_iconst (v := 1) hx hb dL_way_90 (by decide) ?_
                      refine lv_goto (tgt := 95) hx hb dL_way_91 (by decide) ?_
                      refine lv_istore (lv' := [(6, .int (1 : Int32)), (5, .int (0 : Int32)), (4, .int (0 : Int32)), (3, .int (-1 : Int32)), (2, .int (4 : Int32)), (0, .int (10 : Int32)), (1, .int (2 : Int32))]) hx hb dL_way_95 hl (by decide) rfl ?_
                      clear hl
                      clear ls
                      intro ls hl
                      refine lv_iload_n hx hb dL_way_97 rfl (lv_at hl 6 rfl) ?_
                      refine lv_if_ne (tgt := 105) hx hb dL_way_98 (by decide) (fun h98 => ?_) (fun h98 => ?_)
                      · skip
                        refine lv_iload_n hx hb dL_way_105 rfl (lv_at hl 6 rfl) ?_
                        refine lv_iconst (v := 1) hx hb dL_way_106 (by decide) ?_
                        refine lv_icmp_ne (tgt := 115) hx hb dL_way_107 (by decide) (fun h107 => ?_) (fun h107 => ?_)
                        · skip
                          refine lv_iload_n hx hb dL_way_115 rfl (lv_at hl 6 rfl) ?_
                          refine lv_iconst (v := 2) hx hb dL_way_116 (by decide) ?_
                          refine lv_icmp_ne (tgt := 125) hx hb dL_way_117 (by decide) (fun h117 => ?_) (fun h117 => ?_)
                          · skip
                            exact absurd rfl h117
                          · skip
                            refine lv_iload hx hb dL_way_120 (lv_at hl 1 rfl) ?_
                            refine lv_goto (tgt := 127) hx hb dL_way_122 (by decide) ?_
                            refine lv_istore (lv' := [(7, .int (0 : Int32)), (6, .int (1 : Int32)), (5, .int (0 : Int32)), (4, .int (0 : Int32)), (3, .int (-1 : Int32)), (2, .int (4 : Int32)), (0, .int (10 : Int32)), (1, .int (2 : Int32))]) hx hb dL_way_127 hl (by decide) rfl ?_
                            clear hl
                            clear ls
                            intro ls hl
                            refine lv_iload_n hx hb dL_way_129 rfl (lv_at hl 6 rfl) ?_
                            refine lv_bipush (v := 6) hx hb dL_way_130 (by decide) ?_
                            refine lv_icmp_ge (tgt := 140) hx hb dL_way_132 (by decide) (fun h132 => ?_) (fun h132 => ?_)
                            · skip
                              refine lv_iload hx hb dL_way_140 (lv_at hl 0 rfl) ?_
                              refine lv_ineg hx hb dL_way_142 ?_
                              exact zreti hF hB () (rfl) (rfl) (rfl) dL_way_143 hQ
                            · skip
                              exact absurd (by decide) h132
                        · skip
                          exact absurd h107 (by decide)
                      · skip
                        exact absurd h98 (by decide)
                · skip
                  exact absurd h70 (by decide)
            · skip
              exact absurd h56 (by decide)
          · skip
            exact absurd h44 (by decide)
        · skip
          exact absurd h35 (by decide)
    · skip
      exact absurd h15 (by decide)
  · skip
    exact absurd h6 (by decide)

set_option maxHeartbeats 4000000 in
set_option maxRecDepth 100000 in
theorem c_L_way_10_3 (l : Launch) (D : va_G) (ka : Nat → ClassId) (kb : Nat → Nat)   : zI l D ka kb yL_way cL_way 8 .int 0 0 [.int (10 : Int32), .int (3 : Int32)] ([]) (fun (r : Int32) (_ : Unit) => r = (zways.getD 43 0)) (fun (_ : Unit) => []) := by
  refine zI.mk RL (by decide +kernel) rfl (Nat.le_of_ble_eq_true rfl) ?_
  intro p e s m below meth c A ls args Q hQ hx hb hF hB hl
  replace hl : lv_has ls 8 [(0, .int (10 : Int32)), (1, .int (3 : Int32))] := hl
  refine lv_iload_n hx hb dL_way_0 rfl (lv_at hl 0 rfl) ?_
  refine lv_bipush (v := 6) hx hb dL_way_1 (by decide) ?_
  refine lv_irem hx hb dL_way_3 (by decide) ?_
  refine ztopi (y := (4 : Int32)) (by decide) ?_
  refine lv_istore_n (lv' := [(2, .int (4 : Int32)), (0, .int (10 : Int32)), (1, .int (3 : Int32))]) hx hb dL_way_4 rfl hl (by decide) rfl ?_
  clear hl
  clear ls
  intro ls hl
  refine lv_iload_n hx hb dL_way_5 rfl (lv_at hl 0 rfl) ?_
  refine lv_if_ne (tgt := 13) hx hb dL_way_6 (by decide) (fun h6 => ?_) (fun h6 => ?_)
  · skip
    refine lv_iload_n hx hb dL_way_13 rfl (lv_at hl 0 rfl) ?_
    refine lv_iconst (v := 2) hx hb dL_way_14 (by decide) ?_
    refine lv_icmp_ne (tgt := 22) hx hb dL_way_15 (by decide) (fun h15 => ?_) (fun h15 => ?_)
    · skip
      refine lv_iload_n hx hb dL_way_22 rfl (lv_at hl 0 rfl) ?_
      refine lv_iconst (v := 4) hx hb dL_way_23 (by decide) ?_
      refine lv_icmp_ne (tgt := 31) hx hb dL_way_24 (by decide) (fun h24 => ?_) (fun h24 => ?_)
      · skip
        exact absurd rfl h24
      · skip
        refine lv_iconst (v := -1) hx hb dL_way_27 (by decide) ?_
        refine lv_goto (tgt := 32) hx hb dL_way_28 (by decide) ?_
        refine lv_istore_n (lv' := [(3, .int (-1 : Int32)), (2, .int (4 : Int32)), (0, .int (10 : Int32)), (1, .int (3 : Int32))]) hx hb dL_way_32 rfl hl (by decide) rfl ?_
        clear hl
        clear ls
        intro ls hl
        refine lv_iload_n hx hb dL_way_33 rfl (lv_at hl 1 rfl) ?_
        refine lv_iconst (v := 1) hx hb dL_way_34 (by decide) ?_
        refine lv_icmp_ne (tgt := 42) hx hb dL_way_35 (by decide) (fun h35 => ?_) (fun h35 => ?_)
        · skip
          refine lv_iload_n hx hb dL_way_42 rfl (lv_at hl 1 rfl) ?_
          refine lv_iconst (v := 5) hx hb dL_way_43 (by decide) ?_
          refine lv_icmp_ne (tgt := 51) hx hb dL_way_44 (by decide) (fun h44 => ?_) (fun h44 => ?_)
          · skip
            refine lv_iconst (v := 0) hx hb dL_way_51 (by decide) ?_
            refine lv_istore (lv' := [(4, .int (0 : Int32)), (3, .int (-1 : Int32)), (2, .int (4 : Int32)), (0, .int (10 : Int32)), (1, .int (3 : Int32))]) hx hb dL_way_52 hl (by decide) rfl ?_
            clear hl
            clear ls
            intro ls hl
            refine lv_iload_n hx hb dL_way_54 rfl (lv_at hl 2 rfl) ?_
            refine lv_iconst (v := 3) hx hb dL_way_55 (by decide) ?_
            refine lv_icmp_ne (tgt := 63) hx hb dL_way_56 (by decide) (fun h56 => ?_) (fun h56 => ?_)
            · skip
              refine lv_iload_n hx hb dL_way_63 rfl (lv_at hl 2 rfl) ?_
              refine lv_iconst (v := 1) hx hb dL_way_64 (by decide) ?_
              refine lv_icmp_eq (tgt := 73) hx hb dL_way_65 (by decide) (fun h65 => ?_) (fun h65 => ?_)
              · skip
                exact absurd h65 (by decide)
              · skip
                refine lv_iload_n hx hb dL_way_68 rfl (lv_at hl 2 rfl) ?_
                refine lv_iconst (v := 5) hx hb dL_way_69 (by decide) ?_
                refine lv_icmp_ne (tgt := 77) hx hb dL_way_70 (by decide) (fun h70 => ?_) (fun h70 => ?_)
                · skip
                  refine lv_iconst (v := 0) hx hb dL_way_77 (by decide) ?_
                  refine lv_istore (lv' := [(5, .int (0 : Int32)), (4, .int (0 : Int32)), (3, .int (-1 : Int32)), (2, .int (4 : Int32)), (0, .int (10 : Int32)), (1, .int (3 : Int32))]) hx hb dL_way_78 hl (by decide) rfl ?_
                  clear hl
                  clear ls
                  intro ls hl
                  refine lv_iload_n hx hb dL_way_80 rfl (lv_at hl 3 rfl) ?_
                  refine lv_iconst (v := 2) hx hb dL_way_81 (by decide) ?_
                  refine lv_icmp_eq (tgt := 90) hx hb dL_way_82 (by decide) (fun h82 => ?_) (fun h82 => ?_)
                  · skip
                    exact absurd h82 (by decide)
                  · skip
                    refine lv_iload_n hx hb dL_way_85 rfl (lv_at hl 3 rfl) ?_
                    refine lv_iconst (v := 4) hx hb dL_way_86 (by decide) ?_
                    refine lv_icmp_ne (tgt := 94) hx hb dL_way_87 (by decide) (fun h87 => ?_) (fun h87 => ?_)
                    · skip
                      exact absurd rfl h87
                    · skip
                      refine lv_iconst (v := 1) hx hb dL_way_90 (by decide) ?_
                      refine lv_goto (tgt := 95) hx hb dL_way_91 (by decide) ?_
                      refine lv_istore (lv' := [(6, .int (1 : Int32)), (5, .int (0 : Int32)), (4, .int (0 : Int32)), (3, .int (-1 : Int32)), (2, .int (4 : Int32)), (0, .int (10 : Int32)), (1, .int (3 : Int32))]) hx hb dL_way_95 hl (by decide) rfl ?_
                      clear hl
                      clear ls
                      intro ls hl
                      refine lv_iload_n hx hb dL_way_97 rfl (lv_at hl 6 rfl) ?_
                      refine lv_if_ne (tgt := 105) hx hb dL_way_98 (by decide) (fun h98 => ?_) (fun h98 => ?_)
                      · skip
                        refine lv_iload_n hx hb dL_way_105 rfl (lv_at hl 6 rfl) ?_
                        refine lv_iconst (v := 1) hx hb dL_way_106 (by decide) ?_
                        refine lv_icmp_ne (tgt := 115) hx hb dL_way_107 (by decide) (fun h107 => ?_) (fun h107 => ?_)
                        · skip
                          refine lv_iload_n hx hb dL_way_115 rfl (lv_at hl 6 rfl) ?_
                          refine lv_iconst (v := 2) hx hb dL_way_116 (by decide) ?_
                          refine lv_icmp_ne (tgt := 125) hx hb dL_way_117 (by decide) (fun h117 => ?_) (fun h117 => ?_)
                          · skip
                            refine lv_iload hx hb dL_way_125 (lv_at hl 0 rfl) ?_
                            refine lv_istore (lv' := [(7, .int (1 : Int32)), (6, .int (1 : Int32)), (5, .int (0 : Int32)), (4, .int (0 : Int32)), (3, .int (-1 : Int32)), (2, .int (4 : Int32)), (0, .int (10 : Int32)), (1, .int (3 : Int32))]) hx hb dL_way_127 hl (by decide) rfl ?_
                            clear hl
                            clear ls
                            intro ls hl
                            refine lv_iload_n hx hb dL_way_129 rfl (lv_at hl 6 rfl) ?_
                            refine lv_bipush (v := 6) hx hb dL_way_130 (by decide) ?_
                            refine lv_icmp_ge (tgt := 140) hx hb dL_way_132 (by decide) (fun h132 => ?_) (fun h132 => ?_)
                            · skip
                              refine lv_iload hx hb dL_way_140 (lv_at hl 0 rfl) ?_
                              refine lv_ineg hx hb dL_way_142 ?_
                              exact zreti hF hB () (rfl) (rfl) (rfl) dL_way_143 hQ
                            · skip
                              exact absurd (by decide) h132
                          · skip
                            exact absurd h117 (by decide)
                        · skip
                          exact absurd h107 (by decide)
                      · skip
                        exact absurd h98 (by decide)
                · skip
                  exact absurd h70 (by decide)
            · skip
              exact absurd h56 (by decide)
          · skip
            exact absurd h44 (by decide)
        · skip
          exact absurd h35 (by decide)
    · skip
      exact absurd h15 (by decide)
  · skip
    exact absurd h6 (by decide)

set_option maxHeartbeats 4000000 in
set_option maxRecDepth 100000 in
theorem c_L_way_11_0 (l : Launch) (D : va_G) (ka : Nat → ClassId) (kb : Nat → Nat)   : zI l D ka kb yL_way cL_way 8 .int 0 0 [.int (11 : Int32), .int (0 : Int32)] ([]) (fun (r : Int32) (_ : Unit) => r = (zways.getD 44 0)) (fun (_ : Unit) => []) := by
  refine zI.mk RL (by decide +kernel) rfl (Nat.le_of_ble_eq_true rfl) ?_
  intro p e s m below meth c A ls args Q hQ hx hb hF hB hl
  replace hl : lv_has ls 8 [(0, .int (11 : Int32)), (1, .int (0 : Int32))] := hl
  refine lv_iload_n hx hb dL_way_0 rfl (lv_at hl 0 rfl) ?_
  refine lv_bipush (v := 6) hx hb dL_way_1 (by decide) ?_
  refine lv_irem hx hb dL_way_3 (by decide) ?_
  refine ztopi (y := (5 : Int32)) (by decide) ?_
  refine lv_istore_n (lv' := [(2, .int (5 : Int32)), (0, .int (11 : Int32)), (1, .int (0 : Int32))]) hx hb dL_way_4 rfl hl (by decide) rfl ?_
  clear hl
  clear ls
  intro ls hl
  refine lv_iload_n hx hb dL_way_5 rfl (lv_at hl 0 rfl) ?_
  refine lv_if_ne (tgt := 13) hx hb dL_way_6 (by decide) (fun h6 => ?_) (fun h6 => ?_)
  · skip
    refine lv_iload_n hx hb dL_way_13 rfl (lv_at hl 0 rfl) ?_
    refine lv_iconst (v := 2) hx hb dL_way_14 (by decide) ?_
    refine lv_icmp_ne (tgt := 22) hx hb dL_way_15 (by decide) (fun h15 => ?_) (fun h15 => ?_)
    · skip
      refine lv_iload_n hx hb dL_way_22 rfl (lv_at hl 0 rfl) ?_
      refine lv_iconst (v := 4) hx hb dL_way_23 (by decide) ?_
      refine lv_icmp_ne (tgt := 31) hx hb dL_way_24 (by decide) (fun h24 => ?_) (fun h24 => ?_)
      · skip
        refine lv_iconst (v := 0) hx hb dL_way_31 (by decide) ?_
        refine lv_istore_n (lv' := [(3, .int (0 : Int32)), (2, .int (5 : Int32)), (0, .int (11 : Int32)), (1, .int (0 : Int32))]) hx hb dL_way_32 rfl hl (by decide) rfl ?_
        clear hl
        clear ls
        intro ls hl
        refine lv_iload_n hx hb dL_way_33 rfl (lv_at hl 1 rfl) ?_
        refine lv_iconst (v := 1) hx hb dL_way_34 (by decide) ?_
        refine lv_icmp_ne (tgt := 42) hx hb dL_way_35 (by decide) (fun h35 => ?_) (fun h35 => ?_)
        · skip
          refine lv_iload_n hx hb dL_way_42 rfl (lv_at hl 1 rfl) ?_
          refine lv_iconst (v := 5) hx hb dL_way_43 (by decide) ?_
          refine lv_icmp_ne (tgt := 51) hx hb dL_way_44 (by decide) (fun h44 => ?_) (fun h44 => ?_)
          · skip
            exact absurd rfl h44
          · skip
            refine lv_iconst (v := -1) hx hb dL_way_47 (by decide) ?_
            refine lv_goto (tgt := 52) hx hb dL_way_48 (by decide) ?_
            refine lv_istore (lv' := [(4, .int (-1 : Int32)), (3, .int (0 : Int32)), (2, .int (5 : Int32)), (0, .int (11 : Int32)), (1, .int (0 : Int32))]) hx hb dL_way_52 hl (by decide) rfl ?_
            clear hl
            clear ls
            intro ls hl
            refine lv_iload_n hx hb dL_way_54 rfl (lv_at hl 2 rfl) ?_
            refine lv_iconst (v := 3) hx hb dL_way_55 (by decide) ?_
            refine lv_icmp_ne (tgt := 63) hx hb dL_way_56 (by decide) (fun h56 => ?_) (fun h56 => ?_)
            · skip
              refine lv_iload_n hx hb dL_way_63 rfl (lv_at hl 2 rfl) ?_
              refine lv_iconst (v := 1) hx hb dL_way_64 (by decide) ?_
              refine lv_icmp_eq (tgt := 73) hx hb dL_way_65 (by decide) (fun h65 => ?_) (fun h65 => ?_)
              · skip
                exact absurd h65 (by decide)
              · skip
                refine lv_iload_n hx hb dL_way_68 rfl (lv_at hl 2 rfl) ?_
                refine lv_iconst (v := 5) hx hb dL_way_69 (by decide) ?_
                refine lv_icmp_ne (tgt := 77) hx hb dL_way_70 (by decide) (fun h70 => ?_) (fun h70 => ?_)
                · skip
                  exact absurd rfl h70
                · skip
                  refine lv_iconst (v := 1) hx hb dL_way_73 (by decide) ?_
                  refine lv_goto (tgt := 78) hx hb dL_way_74 (by decide) ?_
                  refine lv_istore (lv' := [(5, .int (1 : Int32)), (4, .int (-1 : Int32)), (3, .int (0 : Int32)), (2, .int (5 : Int32)), (0, .int (11 : Int32)), (1, .int (0 : Int32))]) hx hb dL_way_78 hl (by decide) rfl ?_
                  clear hl
                  clear ls
                  intro ls hl
                  refine lv_iload_n hx hb dL_way_80 rfl (lv_at hl 3 rfl) ?_
                  refine lv_iconst (v := 2) hx hb dL_way_81 (by decide) ?_
                  refine lv_icmp_eq (tgt := 90) hx hb dL_way_82 (by decide) (fun h82 => ?_) (fun h82 => ?_)
                  · skip
                    exact absurd h82 (by decide)
                  · skip
                    refine lv_iload_n hx hb dL_way_85 rfl (lv_at hl 3 rfl) ?_
                    refine lv_iconst (v := 4) hx hb dL_way_86 (by decide) ?_
                    refine lv_icmp_ne (tgt := 94) hx hb dL_way_87 (by decide) (fun h87 => ?_) (fun h87 => ?_)
                    · skip
                      refine lv_iconst (v := 0) hx hb dL_way_94 (by decide) ?_
                      refine lv_istore (lv' := [(6, .int (0 : Int32)), (5, .int (1 : Int32)), (4, .int (-1 : Int32)), (3, .int (0 : Int32)), (2, .int (5 : Int32)), (0, .int (11 : Int32)), (1, .int (0 : Int32))]) hx hb dL_way_95 hl (by decide) rfl ?_
                      clear hl
                      clear ls
                      intro ls hl
                      refine lv_iload_n hx hb dL_way_97 rfl (lv_at hl 6 rfl) ?_
                      refine lv_if_ne (tgt := 105) hx hb dL_way_98 (by decide) (fun h98 => ?_) (fun h98 => ?_)
                      · skip
                        exact absurd (by decide) h98
                      · skip
                        refine lv_iload_n hx hb dL_way_101 rfl (lv_at hl 3 rfl) ?_
                        refine lv_goto (tgt := 127) hx hb dL_way_102 (by decide) ?_
                        refine lv_istore (lv' := [(7, .int (0 : Int32)), (6, .int (0 : Int32)), (5, .int (1 : Int32)), (4, .int (-1 : Int32)), (3, .int (0 : Int32)), (2, .int (5 : Int32)), (0, .int (11 : Int32)), (1, .int (0 : Int32))]) hx hb dL_way_127 hl (by decide) rfl ?_
                        clear hl
                        clear ls
                        intro ls hl
                        refine lv_iload_n hx hb dL_way_129 rfl (lv_at hl 6 rfl) ?_
                        refine lv_bipush (v := 6) hx hb dL_way_130 (by decide) ?_
                        refine lv_icmp_ge (tgt := 140) hx hb dL_way_132 (by decide) (fun h132 => ?_) (fun h132 => ?_)
                        · skip
                          refine lv_iload hx hb dL_way_140 (lv_at hl 0 rfl) ?_
                          refine lv_ineg hx hb dL_way_142 ?_
                          exact zreti hF hB () (rfl) (rfl) (rfl) dL_way_143 hQ
                        · skip
                          exact absurd (by decide) h132
                    · skip
                      exact absurd h87 (by decide)
            · skip
              exact absurd h56 (by decide)
        · skip
          exact absurd h35 (by decide)
      · skip
        exact absurd h24 (by decide)
    · skip
      exact absurd h15 (by decide)
  · skip
    exact absurd h6 (by decide)

set_option maxHeartbeats 4000000 in
set_option maxRecDepth 100000 in
theorem c_L_way_11_1 (l : Launch) (D : va_G) (ka : Nat → ClassId) (kb : Nat → Nat)   : zI l D ka kb yL_way cL_way 8 .int 0 0 [.int (11 : Int32), .int (1 : Int32)] ([]) (fun (r : Int32) (_ : Unit) => r = (zways.getD 45 0)) (fun (_ : Unit) => []) := by
  refine zI.mk RL (by decide +kernel) rfl (Nat.le_of_ble_eq_true rfl) ?_
  intro p e s m below meth c A ls args Q hQ hx hb hF hB hl
  replace hl : lv_has ls 8 [(0, .int (11 : Int32)), (1, .int (1 : Int32))] := hl
  refine lv_iload_n hx hb dL_way_0 rfl (lv_at hl 0 rfl) ?_
  refine lv_bipush (v := 6) hx hb dL_way_1 (by decide) ?_
  refine lv_irem hx hb dL_way_3 (by decide) ?_
  refine ztopi (y := (5 : Int32)) (by decide) ?_
  refine lv_istore_n (lv' := [(2, .int (5 : Int32)), (0, .int (11 : Int32)), (1, .int (1 : Int32))]) hx hb dL_way_4 rfl hl (by decide) rfl ?_
  clear hl
  clear ls
  intro ls hl
  refine lv_iload_n hx hb dL_way_5 rfl (lv_at hl 0 rfl) ?_
  refine lv_if_ne (tgt := 13) hx hb dL_way_6 (by decide) (fun h6 => ?_) (fun h6 => ?_)
  · skip
    refine lv_iload_n hx hb dL_way_13 rfl (lv_at hl 0 rfl) ?_
    refine lv_iconst (v := 2) hx hb dL_way_14 (by decide) ?_
    refine lv_icmp_ne (tgt := 22) hx hb dL_way_15 (by decide) (fun h15 => ?_) (fun h15 => ?_)
    · skip
      refine lv_iload_n hx hb dL_way_22 rfl (lv_at hl 0 rfl) ?_
      refine lv_iconst (v := 4) hx hb dL_way_23 (by decide) ?_
      refine lv_icmp_ne (tgt := 31) hx hb dL_way_24 (by decide) (fun h24 => ?_) (fun h24 => ?_)
      · skip
        refine lv_iconst (v := 0) hx hb dL_way_31 (by decide) ?_
        refine lv_istore_n (lv' := [(3, .int (0 : Int32)), (2, .int (5 : Int32)), (0, .int (11 : Int32)), (1, .int (1 : Int32))]) hx hb dL_way_32 rfl hl (by decide) rfl ?_
        clear hl
        clear ls
        intro ls hl
        refine lv_iload_n hx hb dL_way_33 rfl (lv_at hl 1 rfl) ?_
        refine lv_iconst (v := 1) hx hb dL_way_34 (by decide) ?_
        refine lv_icmp_ne (tgt := 42) hx hb dL_way_35 (by decide) (fun h35 => ?_) (fun h35 => ?_)
        · skip
          refine lv_iload_n hx hb dL_way_42 rfl (lv_at hl 1 rfl) ?_
          refine lv_iconst (v := 5) hx hb dL_way_43 (by decide) ?_
          refine lv_icmp_ne (tgt := 51) hx hb dL_way_44 (by decide) (fun h44 => ?_) (fun h44 => ?_)
          · skip
            exact absurd rfl h44
          · skip
            refine lv_iconst (v := -1) hx hb dL_way_47 (by decide) ?_
            refine lv_goto (tgt := 52) hx hb dL_way_48 (by decide) ?_
            refine lv_istore (lv' := [(4, .int (-1 : Int32)), (3, .int (0 : Int32)), (2, .int (5 : Int32)), (0, .int (11 : Int32)), (1, .int (1 : Int32))]) hx hb dL_way_52 hl (by decide) rfl ?_
            clear hl
            clear ls
            intro ls hl
            refine lv_iload_n hx hb dL_way_54 rfl (lv_at hl 2 rfl) ?_
            refine lv_iconst (v := 3) hx hb dL_way_55 (by decide) ?_
            refine lv_icmp_ne (tgt := 63) hx hb dL_way_56 (by decide) (fun h56 => ?_) (fun h56 => ?_)
            · skip
              refine lv_iload_n hx hb dL_way_63 rfl (lv_at hl 2 rfl) ?_
              refine lv_iconst (v := 1) hx hb dL_way_64 (by decide) ?_
              refine lv_icmp_eq (tgt := 73) hx hb dL_way_65 (by decide) (fun h65 => ?_) (fun h65 => ?_)
              · skip
                exact absurd h65 (by decide)
              · skip
                refine lv_iload_n hx hb dL_way_68 rfl (lv_at hl 2 rfl) ?_
                refine lv_iconst (v := 5) hx hb dL_way_69 (by decide) ?_
                refine lv_icmp_ne (tgt := 77) hx hb dL_way_70 (by decide) (fun h70 => ?_) (fun h70 => ?_)
                · skip
                  exact absurd rfl h70
                · skip
                  refine lv_iconst (v := 1) hx hb dL_way_73 (by decide) ?_
                  refine lv_goto (tgt := 78) hx hb dL_way_74 (by decide) ?_
                  refine lv_istore (lv' := [(5, .int (1 : Int32)), (4, .int (-1 : Int32)), (3, .int (0 : Int32)), (2, .int (5 : Int32)), (0, .int (11 : Int32)), (1, .int (1 : Int32))]) hx hb dL_way_78 hl (by decide) rfl ?_
                  clear hl
                  clear ls
                  intro ls hl
                  refine lv_iload_n hx hb dL_way_80 rfl (lv_at hl 3 rfl) ?_
                  refine lv_iconst (v := 2) hx hb dL_way_81 (by decide) ?_
                  refine lv_icmp_eq (tgt := 90) hx hb dL_way_82 (by decide) (fun h82 => ?_) (fun h82 => ?_)
                  · skip
                    exact absurd h82 (by decide)
                  · skip
                    refine lv_iload_n hx hb dL_way_85 rfl (lv_at hl 3 rfl) ?_
                    refine lv_iconst (v := 4) hx hb dL_way_86 (by decide) ?_
                    refine lv_icmp_ne (tgt := 94) hx hb dL_way_87 (by decide) (fun h87 => ?_) (fun h87 => ?_)
                    · skip
                      refine lv_iconst (v := 0) hx hb dL_way_94 (by decide) ?_
                      refine lv_istore (lv' := [(6, .int (0 : Int32)), (5, .int (1 : Int32)), (4, .int (-1 : Int32)), (3, .int (0 : Int32)), (2, .int (5 : Int32)), (0, .int (11 : Int32)), (1, .int (1 : Int32))]) hx hb dL_way_95 hl (by decide) rfl ?_
                      clear hl
                      clear ls
                      intro ls hl
                      refine lv_iload_n hx hb dL_way_97 rfl (lv_at hl 6 rfl) ?_
                      refine lv_if_ne (tgt := 105) hx hb dL_way_98 (by decide) (fun h98 => ?_) (fun h98 => ?_)
                      · skip
                        refine lv_iload_n hx hb dL_way_105 rfl (lv_at hl 6 rfl) ?_
                        refine lv_iconst (v := 1) hx hb dL_way_106 (by decide) ?_
                        refine lv_icmp_ne (tgt := 115) hx hb dL_way_107 (by decide) (fun h107 => ?_) (fun h107 => ?_)
                        · skip
                          exact absurd rfl h107
                        · skip
                          refine lv_iload hx hb dL_way_110 (lv_at hl 2 rfl) ?_
                          refine lv_goto (tgt := 127) hx hb dL_way_112 (by decide) ?_
                          refine lv_istore (lv' := [(7, .int (-1 : Int32)), (6, .int (0 : Int32)), (5, .int (1 : Int32)), (4, .int (-1 : Int32)), (3, .int (0 : Int32)), (2, .int (5 : Int32)), (0, .int (11 : Int32)), (1, .int (1 : Int32))]) hx hb dL_way_127 hl (by decide) rfl ?_
                          clear hl
                          clear ls
                          intro ls hl
                          refine lv_iload_n hx hb dL_way_129 rfl (lv_at hl 6 rfl) ?_
                          refine lv_bipush (v := 6) hx hb dL_way_130 (by decide) ?_
                          refine lv_icmp_ge (tgt := 140) hx hb dL_way_132 (by decide) (fun h132 => ?_) (fun h132 => ?_)
                          · skip
                            refine lv_iload hx hb dL_way_140 (lv_at hl 0 rfl) ?_
                            refine lv_ineg hx hb dL_way_142 ?_
                            exact zreti hF hB () (rfl) (rfl) (rfl) dL_way_143 hQ
                          · skip
                            exact absurd (by decide) h132
                      · skip
                        exact absurd h98 (by decide)
                    · skip
                      exact absurd h87 (by decide)
            · skip
              exact absurd h56 (by decide)
        · skip
          exact absurd h35 (by decide)
      · skip
        exact absurd h24 (by decide)
    · skip
      exact absurd h15 (by decide)
  · skip
    exact absurd h6 (by decide)

set_option maxHeartbeats 4000000 in
set_option maxRecDepth 100000 in
theorem c_L_way_11_2 (l : Launch) (D : va_G) (ka : Nat → ClassId) (kb : Nat → Nat)   : zI l D ka kb yL_way cL_way 8 .int 0 0 [.int (11 : Int32), .int (2 : Int32)] ([]) (fun (r : Int32) (_ : Unit) => r = (zways.getD 46 0)) (fun (_ : Unit) => []) := by
  refine zI.mk RL (by decide +kernel) rfl (Nat.le_of_ble_eq_true rfl) ?_
  intro p e s m below meth c A ls args Q hQ hx hb hF hB hl
  replace hl : lv_has ls 8 [(0, .int (11 : Int32)), (1, .int (2 : Int32))] := hl
  refine lv_iload_n hx hb dL_way_0 rfl (lv_at hl 0 rfl) ?_
  refine lv_bipush (v := 6) hx hb dL_way_1 (by decide) ?_
  refine lv_irem hx hb dL_way_3 (by decide) ?_
  refine ztopi (y := (5 : Int32)) (by decide) ?_
  refine lv_istore_n (lv' := [(2, .int (5 : Int32)), (0, .int (11 : Int32)), (1, .int (2 : Int32))]) hx hb dL_way_4 rfl hl (by decide) rfl ?_
  clear hl
  clear ls
  intro ls hl
  refine lv_iload_n hx hb dL_way_5 rfl (lv_at hl 0 rfl) ?_
  refine lv_if_ne (tgt := 13) hx hb dL_way_6 (by decide) (fun h6 => ?_) (fun h6 => ?_)
  · skip
    refine lv_iload_n hx hb dL_way_13 rfl (lv_at hl 0 rfl) ?_
    refine lv_iconst (v := 2) hx hb dL_way_14 (by decide) ?_
    refine lv_icmp_ne (tgt := 22) hx hb dL_way_15 (by decide) (fun h15 => ?_) (fun h15 => ?_)
    · skip
      refine lv_iload_n hx hb dL_way_22 rfl (lv_at hl 0 rfl) ?_
      refine lv_iconst (v := 4) hx hb dL_way_23 (by decide) ?_
      refine lv_icmp_ne (tgt := 31) hx hb dL_way_24 (by decide) (fun h24 => ?_) (fun h24 => ?_)
      · skip
        refine lv_iconst (v := 0) hx hb dL_way_31 (by decide) ?_
        refine lv_istore_n (lv' := [(3, .int (0 : Int32)), (2, .int (5 : Int32)), (0, .int (11 : Int32)), (1, .int (2 : Int32))]) hx hb dL_way_32 rfl hl (by decide) rfl ?_
        clear hl
        clear ls
        intro ls hl
        refine lv_iload_n hx hb dL_way_33 rfl (lv_at hl 1 rfl) ?_
        refine lv_iconst (v := 1) hx hb dL_way_34 (by decide) ?_
        refine lv_icmp_ne (tgt := 42) hx hb dL_way_35 (by decide) (fun h35 => ?_) (fun h35 => ?_)
        · skip
          refine lv_iload_n hx hb dL_way_42 rfl (lv_at hl 1 rfl) ?_
          refine lv_iconst (v := 5) hx hb dL_way_43 (by decide) ?_
          refine lv_icmp_ne (tgt := 51) hx hb dL_way_44 (by decide) (fun h44 => ?_) (fun h44 => ?_)
          · skip
            exact absurd rfl h44
          · skip
            refine lv_iconst (v := -1) hx hb dL_way_47 (by decide) ?_
            refine lv_goto (tgt := 52) hx hb dL_way_48 (by decide) ?_
            refine lv_istore (lv' := [(4, .int (-1 : Int32)), (3, .int (0 : Int32)), (2, .int (5 : Int32)), (0, .int (11 : Int32)), (1, .int (2 : Int32))]) hx hb dL_way_52 hl (by decide) rfl ?_
            clear hl
            clear ls
            intro ls hl
            refine lv_iload_n hx hb dL_way_54 rfl (lv_at hl 2 rfl) ?_
            refine lv_iconst (v := 3) hx hb dL_way_55 (by decide) ?_
            refine lv_icmp_ne (tgt := 63) hx hb dL_way_56 (by decide) (fun h56 => ?_) (fun h56 => ?_)
            · skip
              refine lv_iload_n hx hb dL_way_63 rfl (lv_at hl 2 rfl) ?_
              refine lv_iconst (v := 1) hx hb dL_way_64 (by decide) ?_
              refine lv_icmp_eq (tgt := 73) hx hb dL_way_65 (by decide) (fun h65 => ?_) (fun h65 => ?_)
              · skip
                exact absurd h65 (by decide)
              · skip
                refine lv_iload_n hx hb dL_way_68 rfl (lv_at hl 2 rfl) ?_
                refine lv_iconst (v := 5) hx hb dL_way_69 (by decide) ?_
                refine lv_icmp_ne (tgt := 77) hx hb dL_way_70 (by decide) (fun h70 => ?_) (fun h70 => ?_)
                · skip
                  exact absurd rfl h70
                · skip
                  refine lv_iconst (v := 1) hx hb dL_way_73 (by decide) ?_
                  refine lv_goto (tgt := 78) hx hb dL_way_74 (by decide) ?_
                  refine lv_istore (lv' := [(5, .int (1 : Int32)), (4, .int (-1 : Int32)), (3, .int (0 : Int32)), (2, .int (5 : Int32)), (0, .int (11 : Int32)), (1, .int (2 : Int32))]) hx hb dL_way_78 hl (by decide) rfl ?_
                  clear hl
                  clear ls
                  intro ls hl
                  refine lv_iload_n hx hb dL_way_80 rfl (lv_at hl 3 rfl) ?_
                  refine lv_iconst (v := 2) hx hb dL_way_81 (by decide) ?_
                  refine lv_icmp_eq (tgt := 90) hx hb dL_way_82 (by decide) (fun h82 => ?_) (fun h82 => ?_)
                  · skip
                    exact absurd h82 (by decide)
                  · skip
                    refine lv_iload_n hx hb dL_way_85 rfl (lv_at hl 3 rfl) ?_
                    refine lv_iconst (v := 4) hx hb dL_way_86 (by decide) ?_
                    refine lv_icmp_ne (tgt := 94) hx hb dL_way_87 (by decide) (fun h87 => ?_) (fun h87 => ?_)
                    · skip
                      refine lv_iconst (v := 0) hx hb dL_way_94 (by decide) ?_
                      refine lv_istore (lv' := [(6, .int (0 : Int32)), (5, .int (1 : Int32)), (4, .int (-1 : Int32)), (3, .int (0 : Int32)), (2, .int (5 : Int32)), (0, .int (11 : Int32)), (1, .int (2 : Int32))]) hx hb dL_way_95 hl (by decide) rfl ?_
                      clear hl
                      clear ls
                      intro ls hl
                      refine lv_iload_n hx hb dL_way_97 rfl (lv_at hl 6 rfl) ?_
                      refine lv_if_ne (tgt := 105) hx hb dL_way_98 (by decide) (fun h98 => ?_) (fun h98 => ?_)
                      · skip
                        refine lv_iload_n hx hb dL_way_105 rfl (lv_at hl 6 rfl) ?_
                        refine lv_iconst (v := 1) hx hb dL_way_106 (by decide) ?_
                        refine lv_icmp_ne (tgt := 115) hx hb dL_way_107 (by decide) (fun h107 => ?_) (fun h107 => ?_)
                        · skip
                          refine lv_iload_n hx hb dL_way_115 rfl (lv_at hl 6 rfl) ?_
                          refine lv_iconst (v := 2) hx hb dL_way_116 (by decide) ?_
                          refine lv_icmp_ne (tgt := 125) hx hb dL_way_117 (by decide) (fun h117 => ?_) (fun h117 => ?_)
                          · skip
                            exact absurd rfl h117
                          · skip
                            refine lv_iload hx hb dL_way_120 (lv_at hl 1 rfl) ?_
                            refine lv_goto (tgt := 127) hx hb dL_way_122 (by decide) ?_
                            refine lv_istore (lv' := [(7, .int (1 : Int32)), (6, .int (0 : Int32)), (5, .int (1 : Int32)), (4, .int (-1 : Int32)), (3, .int (0 : Int32)), (2, .int (5 : Int32)), (0, .int (11 : Int32)), (1, .int (2 : Int32))]) hx hb dL_way_127 hl (by decide) rfl ?_
                            clear hl
                            clear ls
                            intro ls hl
                            refine lv_iload_n hx hb dL_way_129 rfl (lv_at hl 6 rfl) ?_
                            refine lv_bipush (v := 6) hx hb dL_way_130 (by decide) ?_
                            refine lv_icmp_ge (tgt := 140) hx hb dL_way_132 (by decide) (fun h132 => ?_) (fun h132 => ?_)
                            · skip
                              refine lv_iload hx hb dL_way_140 (lv_at hl 0 rfl) ?_
                              refine lv_ineg hx hb dL_way_142 ?_
                              exact zreti hF hB () (rfl) (rfl) (rfl) dL_way_143 hQ
                            · skip
                              exact absurd (by decide) h132
                        · skip
                          exact absurd h107 (by decide)
                      · skip
                        exact absurd h98 (by decide)
                    · skip
                      exact absurd h87 (by decide)
            · skip
              exact absurd h56 (by decide)
        · skip
          exact absurd h35 (by decide)
      · skip
        exact absurd h24 (by decide)
    · skip
      exact absurd h15 (by decide)
  · skip
    exact absurd h6 (by decide)

set_option maxHeartbeats 4000000 in
set_option maxRecDepth 100000 in
theorem c_L_way_11_3 (l : Launch) (D : va_G) (ka : Nat → ClassId) (kb : Nat → Nat)   : zI l D ka kb yL_way cL_way 8 .int 0 0 [.int (11 : Int32), .int (3 : Int32)] ([]) (fun (r : Int32) (_ : Unit) => r = (zways.getD 47 0)) (fun (_ : Unit) => []) := by
  refine zI.mk RL (by decide +kernel) rfl (Nat.le_of_ble_eq_true rfl) ?_
  intro p e s m below meth c A ls args Q hQ hx hb hF hB hl
  replace hl : lv_has ls 8 [(0, .int (11 : Int32)), (1, .int (3 : Int32))] := hl
  refine lv_iload_n hx hb dL_way_0 rfl (lv_at hl 0 rfl) ?_
  refine lv_bipush (v := 6) hx hb dL_way_1 (by decide) ?_
  refine lv_irem hx hb dL_way_3 (by decide) ?_
  refine ztopi (y := (5 : Int32)) (by decide) ?_
  refine lv_istore_n (lv' := [(2, .int (5 : Int32)), (0, .int (11 : Int32)), (1, .int (3 : Int32))]) hx hb dL_way_4 rfl hl (by decide) rfl ?_
  clear hl
  clear ls
  intro ls hl
  refine lv_iload_n hx hb dL_way_5 rfl (lv_at hl 0 rfl) ?_
  refine lv_if_ne (tgt := 13) hx hb dL_way_6 (by decide) (fun h6 => ?_) (fun h6 => ?_)
  · skip
    refine lv_iload_n hx hb dL_way_13 rfl (lv_at hl 0 rfl) ?_
    refine lv_iconst (v := 2) hx hb dL_way_14 (by decide) ?_
    refine lv_icmp_ne (tgt := 22) hx hb dL_way_15 (by decide) (fun h15 => ?_) (fun h15 => ?_)
    · skip
      refine lv_iload_n hx hb dL_way_22 rfl (lv_at hl 0 rfl) ?_
      refine lv_iconst (v := 4) hx hb dL_way_23 (by decide) ?_
      refine lv_icmp_ne (tgt := 31) hx hb dL_way_24 (by decide) (fun h24 => ?_) (fun h24 => ?_)
      · skip
        refine lv_iconst (v := 0) hx hb dL_way_31 (by decide) ?_
        refine lv_istore_n (lv' := [(3, .int (0 : Int32)), (2, .int (5 : Int32)), (0, .int (11 : Int32)), (1, .int (3 : Int32))]) hx hb dL_way_32 rfl hl (by decide) rfl ?_
        clear hl
        clear ls
        intro ls hl
        refine lv_iload_n hx hb dL_way_33 rfl (lv_at hl 1 rfl) ?_
        refine lv_iconst (v := 1) hx hb dL_way_34 (by decide) ?_
        refine lv_icmp_ne (tgt := 42) hx hb dL_way_35 (by decide) (fun h35 => ?_) (fun h35 => ?_)
        · skip
          refine lv_iload_n hx hb dL_way_42 rfl (lv_at hl 1 rfl) ?_
          refine lv_iconst (v := 5) hx hb dL_way_43 (by decide) ?_
          refine lv_icmp_ne (tgt := 51) hx hb dL_way_44 (by decide) (fun h44 => ?_) (fun h44 => ?_)
          · skip
            exact absurd rfl h44
          · skip
            refine lv_iconst (v := -1) hx hb dL_way_47 (by decide) ?_
            refine lv_goto (tgt := 52) hx hb dL_way_48 (by decide) ?_
            refine lv_istore (lv' := [(4, .int (-1 : Int32)), (3, .int (0 : Int32)), (2, .int (5 : Int32)), (0, .int (11 : Int32)), (1, .int (3 : Int32))]) hx hb dL_way_52 hl (by decide) rfl ?_
            clear hl
            clear ls
            intro ls hl
            refine lv_iload_n hx hb dL_way_54 rfl (lv_at hl 2 rfl) ?_
            refine lv_iconst (v := 3) hx hb dL_way_55 (by decide) ?_
            refine lv_icmp_ne (tgt := 63) hx hb dL_way_56 (by decide) (fun h56 => ?_) (fun h56 => ?_)
            · skip
              refine lv_iload_n hx hb dL_way_63 rfl (lv_at hl 2 rfl) ?_
              refine lv_iconst (v := 1) hx hb dL_way_64 (by decide) ?_
              refine lv_icmp_eq (tgt := 73) hx hb dL_way_65 (by decide) (fun h65 => ?_) (fun h65 => ?_)
              · skip
                exact absurd h65 (by decide)
              · skip
                refine lv_iload_n hx hb dL_way_68 rfl (lv_at hl 2 rfl) ?_
                refine lv_iconst (v := 5) hx hb dL_way_69 (by decide) ?_
                refine lv_icmp_ne (tgt := 77) hx hb dL_way_70 (by decide) (fun h70 => ?_) (fun h70 => ?_)
                · skip
                  exact absurd rfl h70
                · skip
                  refine lv_iconst (v := 1) hx hb dL_way_73 (by decide) ?_
                  refine lv_goto (tgt := 78) hx hb dL_way_74 (by decide) ?_
                  refine lv_istore (lv' := [(5, .int (1 : Int32)), (4, .int (-1 : Int32)), (3, .int (0 : Int32)), (2, .int (5 : Int32)), (0, .int (11 : Int32)), (1, .int (3 : Int32))]) hx hb dL_way_78 hl (by decide) rfl ?_
                  clear hl
                  clear ls
                  intro ls hl
                  refine lv_iload_n hx hb dL_way_80 rfl (lv_at hl 3 rfl) ?_
                  refine lv_iconst (v := 2) hx hb dL_way_81 (by decide) ?_
                  refine lv_icmp_eq (tgt := 90) hx hb dL_way_82 (by decide) (fun h82 => ?_) (fun h82 => ?_)
                  · skip
                    exact absurd h82 (by decide)
                  · skip
                    refine lv_iload_n hx hb dL_way_85 rfl (lv_at hl 3 rfl) ?_
                    refine lv_iconst (v := 4) hx hb dL_way_86 (by decide) ?_
                    refine lv_icmp_ne (tgt := 94) hx hb dL_way_87 (by decide) (fun h87 => ?_) (fun h87 => ?_)
                    · skip
                      refine lv_iconst (v := 0) hx hb dL_way_94 (by decide) ?_
                      refine lv_istore (lv' := [(6, .int (0 : Int32)), (5, .int (1 : Int32)), (4, .int (-1 : Int32)), (3, .int (0 : Int32)), (2, .int (5 : Int32)), (0, .int (11 : Int32)), (1, .int (3 : Int32))]) hx hb dL_way_95 hl (by decide) rfl ?_
                      clear hl
                      clear ls
                      intro ls hl
                      refine lv_iload_n hx hb dL_way_97 rfl (lv_at hl 6 rfl) ?_
                      refine lv_if_ne (tgt := 105) hx hb dL_way_98 (by decide) (fun h98 => ?_) (fun h98 => ?_)
                      · skip
                        refine lv_iload_n hx hb dL_way_105 rfl (lv_at hl 6 rfl) ?_
                        refine lv_iconst (v := 1) hx hb dL_way_106 (by decide) ?_
                        refine lv_icmp_ne (tgt := 115) hx hb dL_way_107 (by decide) (fun h107 => ?_) (fun h107 => ?_)
                        · skip
                          refine lv_iload_n hx hb dL_way_115 rfl (lv_at hl 6 rfl) ?_
                          refine lv_iconst (v := 2) hx hb dL_way_116 (by decide) ?_
                          refine lv_icmp_ne (tgt := 125) hx hb dL_way_117 (by decide) (fun h117 => ?_) (fun h117 => ?_)
                          · skip
                            refine lv_iload hx hb dL_way_125 (lv_at hl 0 rfl) ?_
                            refine lv_istore (lv' := [(7, .int (0 : Int32)), (6, .int (0 : Int32)), (5, .int (1 : Int32)), (4, .int (-1 : Int32)), (3, .int (0 : Int32)), (2, .int (5 : Int32)), (0, .int (11 : Int32)), (1, .int (3 : Int32))]) hx hb dL_way_127 hl (by decide) rfl ?_
                            clear hl
                            clear ls
                            intro ls hl
                            refine lv_iload_n hx hb dL_way_129 rfl (lv_at hl 6 rfl) ?_
                            refine lv_bipush (v := 6) hx hb dL_way_130 (by decide) ?_
                            refine lv_icmp_ge (tgt := 140) hx hb dL_way_132 (by decide) (fun h132 => ?_) (fun h132 => ?_)
                            · skip
                              refine lv_iload hx hb dL_way_140 (lv_at hl 0 rfl) ?_
                              refine lv_ineg hx hb dL_way_142 ?_
                              exact zreti hF hB () (rfl) (rfl) (rfl) dL_way_143 hQ
                            · skip
                              exact absurd (by decide) h132
                          · skip
                            exact absurd h117 (by decide)
                        · skip
                          exact absurd h107 (by decide)
                      · skip
                        exact absurd h98 (by decide)
                    · skip
                      exact absurd h87 (by decide)
            · skip
              exact absurd h56 (by decide)
        · skip
          exact absurd h35 (by decide)
      · skip
        exact absurd h24 (by decide)
    · skip
      exact absurd h15 (by decide)
  · skip
    exact absurd h6 (by decide)

theorem c_L_way (l : Launch) (D : va_G) (ka : Nat → ClassId) (kb : Nat → Nat) (a w : Nat) (ha : a < 12) (hw : w < 4) : zI l D ka kb yL_way cL_way 8 .int 0 0 [.int (nI a), .int (nI w)] [] (fun (r : Int32) (_ : Unit) => r = (zways.getD (4 * a + w) 0)) (fun (_ : Unit) => []) := by
  have h : ∀ a, a < 12 → ∀ w, w < 4 → zI l D ka kb yL_way cL_way 8 .int 0 0 [.int (nI a), .int (nI w)] [] (fun (r : Int32) (_ : Unit) => r = (zways.getD (4 * a + w) 0)) (fun (_ : Unit) => []) := by
    intro a ha w hw
    rcases (show a = 0 ∨ a = 1 ∨ a = 2 ∨ a = 3 ∨ a = 4 ∨ a = 5 ∨ a = 6 ∨ a = 7 ∨ a = 8 ∨ a = 9 ∨ a = 10 ∨ a = 11 by omega) with rfl | rfl | rfl | rfl | rfl | rfl | rfl | rfl | rfl | rfl | rfl | rfl <;> rcases (show w = 0 ∨ w = 1 ∨ w = 2 ∨ w = 3 by omega) with rfl | rfl | rfl | rfl
    · exact c_L_way_0_0 l D ka kb
    · exact c_L_way_0_1 l D ka kb
    · exact c_L_way_0_2 l D ka kb
    · exact c_L_way_0_3 l D ka kb
    · exact c_L_way_1_0 l D ka kb
    · exact c_L_way_1_1 l D ka kb
    · exact c_L_way_1_2 l D ka kb
    · exact c_L_way_1_3 l D ka kb
    · exact c_L_way_2_0 l D ka kb
    · exact c_L_way_2_1 l D ka kb
    · exact c_L_way_2_2 l D ka kb
    · exact c_L_way_2_3 l D ka kb
    · exact c_L_way_3_0 l D ka kb
    · exact c_L_way_3_1 l D ka kb
    · exact c_L_way_3_2 l D ka kb
    · exact c_L_way_3_3 l D ka kb
    · exact c_L_way_4_0 l D ka kb
    · exact c_L_way_4_1 l D ka kb
    · exact c_L_way_4_2 l D ka kb
    · exact c_L_way_4_3 l D ka kb
    · exact c_L_way_5_0 l D ka kb
    · exact c_L_way_5_1 l D ka kb
    · exact c_L_way_5_2 l D ka kb
    · exact c_L_way_5_3 l D ka kb
    · exact c_L_way_6_0 l D ka kb
    · exact c_L_way_6_1 l D ka kb
    · exact c_L_way_6_2 l D ka kb
    · exact c_L_way_6_3 l D ka kb
    · exact c_L_way_7_0 l D ka kb
    · exact c_L_way_7_1 l D ka kb
    · exact c_L_way_7_2 l D ka kb
    · exact c_L_way_7_3 l D ka kb
    · exact c_L_way_8_0 l D ka kb
    · exact c_L_way_8_1 l D ka kb
    · exact c_L_way_8_2 l D ka kb
    · exact c_L_way_8_3 l D ka kb
    · exact c_L_way_9_0 l D ka kb
    · exact c_L_way_9_1 l D ka kb
    · exact c_L_way_9_2 l D ka kb
    · exact c_L_way_9_3 l D ka kb
    · exact c_L_way_10_0 l D ka kb
    · exact c_L_way_10_1 l D ka kb
    · exact c_L_way_10_2 l D ka kb
    · exact c_L_way_10_3 l D ka kb
    · exact c_L_way_11_0 l D ka kb
    · exact c_L_way_11_1 l D ka kb
    · exact c_L_way_11_2 l D ka kb
    · exact c_L_way_11_3 l D ka kb
  exact h a ha w hw

set_option maxHeartbeats 4000000 in
set_option maxRecDepth 100000 in
theorem c_L_divisor (l : Launch) (D : va_G) (ka : Nat → ClassId) (kb : Nat → Nat) (a : Int64) (b : Int64) (ha : -4611686018427387904 ≤ a.toInt ∧ a.toInt ≤ 4611686018427387904) (hb9 : -4611686018427387904 ≤ b.toInt ∧ b.toInt ≤ 4611686018427387904) : zL l D ka kb yL_divisor cL_divisor 10 0 0 [.long a, .long b] ([]) (fun (r : Int64) (_ : Unit) => r = lN (Nat.gcd a.toInt.natAbs b.toInt.natAbs)) (fun (_ : Unit) => []) := by
  refine zL.mk RL (by decide +kernel) rfl (Nat.le_of_ble_eq_true rfl) ?_
  intro p e s m below meth c A ls args Q hQ hx hb hF hB hl
  replace hl : lv_has ls 10 [(0, .long a), (2, .long b)] := hl
  refine lv_lload_n hx hb dL_divisor_0 rfl (lv_at hl 0 rfl) ?_
  refine lv_lconst (v := 0) hx hb dL_divisor_1 (by decide) ?_
  refine W.lcmp hx hb dL_divisor_2 ?_
  refine lv_if_ge (tgt := 11) hx hb dL_divisor_3 (by decide) (fun h3 => ?_) (fun h3 => ?_)
  · skip
    replace h3 := (lg_cmp_ge _ _).mp h3
    refine lv_lload_n hx hb dL_divisor_11 rfl (lv_at hl 0 rfl) ?_
    refine ztopl (y := lN a.toInt.natAbs) (lN_of (by have e7 := h3; rw [Int64.le_iff_toInt_le] at e7; exact e7)) ?_
    refine lv_lstore (lv' := [(4, .long (lN a.toInt.natAbs)), (0, .long a), (2, .long b)]) hx hb dL_divisor_12 hl (by decide) rfl ?_
    clear hl
    clear ls
    intro ls hl
    refine lv_lload_n hx hb dL_divisor_14 rfl (lv_at hl 2 rfl) ?_
    refine lv_lconst (v := 0) hx hb dL_divisor_15 (by decide) ?_
    refine W.lcmp hx hb dL_divisor_16 ?_
    refine lv_if_ge (tgt := 25) hx hb dL_divisor_17 (by decide) (fun h17 => ?_) (fun h17 => ?_)
    · skip
      replace h17 := (lg_cmp_ge _ _).mp h17
      refine lv_lload_n hx hb dL_divisor_25 rfl (lv_at hl 2 rfl) ?_
      refine ztopl (y := lN b.toInt.natAbs) (lN_of (by have e7 := h17; rw [Int64.le_iff_toInt_le] at e7; exact e7)) ?_
      refine lv_lstore (lv' := [(6, .long (lN b.toInt.natAbs)), (4, .long (lN a.toInt.natAbs)), (0, .long a), (2, .long b)]) hx hb dL_divisor_26 hl (by decide) rfl ?_
      clear hl
      clear ls
      intro ls hl
      have lp28 : ∀ (fl : Nat) (u9 : Nat) (v9 : Nat), (hu9 : u9 < 2 ^ 63) → (hv : v9 < 2 ^ 63) → (hg : Nat.gcd u9 v9 = Nat.gcd a.toInt.natAbs b.toInt.natAbs) → v9 < fl → ∀ (H : Heap) (locs : List Loc), zB D A s ([]) H locs → ∀ ls : Array Slot, lv_has ls 10 [(6, .long (lN v9)), (4, .long (lN u9))] → W p l e (zRm 0 0 0 0) s m args below meth c H locs 0 0 Q (F0 m 28 ls []) := by
        intro fl
        induction fl with
        | zero => intro u9 v9 hu9 hv hg hfl; exact absurd hfl (Nat.not_lt_zero _)
        | succ fl ih28 =>
          intro u9 v9 hu9 hv hg hfl28 H locs hB ls hl
          refine lv_lload hx hb dL_divisor_28 (lv_at hl 0 rfl) ?_
          refine lv_lconst (v := 0) hx hb dL_divisor_30 (by decide) ?_
          refine W.lcmp hx hb dL_divisor_31 ?_
          refine lv_if_le (tgt := 53) hx hb dL_divisor_32 (by decide) (fun h32 => ?_) (fun h32 => ?_)
          · skip
            replace h32 := (lg_cmp_le _ _).mp h32
            have hv0 : v9 = 0 := Nat.eq_zero_of_not_pos (fun e8 => absurd ((lN_pos hv).mpr e8) (Int64.not_lt.mpr h32))
            refine lv_lload hx hb dL_divisor_53 (lv_at hl 1 rfl) ?_
            exact zretl hF hB () (by subst hv0; rw [← hg, Nat.gcd_zero_right]) (rfl) dL_divisor_55 hQ
          · skip
            replace h32 := (fun e9 => h32 ((lg_cmp_le _ _).mpr e9))
            have hv0 : 0 < v9 := (lN_pos hv).mp (Int64.not_le.mp h32)
            refine lv_lload hx hb dL_divisor_35 (lv_at hl 1 rfl) ?_
            refine lv_lload hx hb dL_divisor_37 (lv_at hl 0 rfl) ?_
            refine lv_lrem hx hb dL_divisor_39 (lN_ne0 hv hv0) ?_
            refine ztopl (y := lN (u9 % v9)) (lN_rem hu9 hv hv0) ?_
            refine lv_lstore (lv' := [(8, .long (lN (u9 % v9))), (6, .long (lN v9)), (4, .long (lN u9))]) hx hb dL_divisor_40 hl (by decide) rfl ?_
            clear hl
            clear ls
            intro ls hl
            refine lv_lload hx hb dL_divisor_42 (lv_at hl 1 rfl) ?_
            refine lv_lstore (lv' := [(4, .long (lN v9)), (8, .long (lN (u9 % v9))), (6, .long (lN v9))]) hx hb dL_divisor_44 hl (by decide) rfl ?_
            clear hl
            clear ls
            intro ls hl
            refine lv_lload hx hb dL_divisor_46 (lv_at hl 1 rfl) ?_
            refine lv_lstore (lv' := [(6, .long (lN (u9 % v9))), (4, .long (lN v9)), (8, .long (lN (u9 % v9)))]) hx hb dL_divisor_48 hl (by decide) rfl ?_
            clear hl
            clear ls
            intro ls hl
            refine lv_goto (tgt := 28) hx hb dL_divisor_50 (by decide) ?_
            exact ih28 v9 (u9 % v9) (hv) (Nat.lt_of_le_of_lt (Nat.mod_le u9 v9) hu9) (by rw [← hg, Nat.gcd_comm u9 v9, Nat.gcd_rec v9 u9, Nat.gcd_comm]) (by have := Nat.mod_lt u9 hv0; omega) _ _ (hB) _ (lv_sub hl [0, 1] rfl)
      exact lp28 (b.toInt.natAbs + 1) a.toInt.natAbs b.toInt.natAbs (by omega) (by omega) (rfl) (by omega) _ _ (hB) _ (lv_sub hl [0, 1] rfl)
    · skip
      replace h17 := (fun e9 => h17 ((lg_cmp_ge _ _).mpr e9))
      refine lv_lload_n hx hb dL_divisor_20 rfl (lv_at hl 2 rfl) ?_
      refine lv_lneg hx hb dL_divisor_21 ?_
      refine ztopl (y := lN b.toInt.natAbs) (neg_abs (Int64.not_le.mp h17) hb9.1) ?_
      refine lv_goto (tgt := 26) hx hb dL_divisor_22 (by decide) ?_
      refine lv_lstore (lv' := [(6, .long (lN b.toInt.natAbs)), (4, .long (lN a.toInt.natAbs)), (0, .long a), (2, .long b)]) hx hb dL_divisor_26 hl (by decide) rfl ?_
      clear hl
      clear ls
      intro ls hl
      have lp28 : ∀ (fl : Nat) (u9 : Nat) (v9 : Nat), (hu9 : u9 < 2 ^ 63) → (hv : v9 < 2 ^ 63) → (hg : Nat.gcd u9 v9 = Nat.gcd a.toInt.natAbs b.toInt.natAbs) → v9 < fl → ∀ (H : Heap) (locs : List Loc), zB D A s ([]) H locs → ∀ ls : Array Slot, lv_has ls 10 [(6, .long (lN v9)), (4, .long (lN u9))] → W p l e (zRm 0 0 0 0) s m args below meth c H locs 0 0 Q (F0 m 28 ls []) := by
        intro fl
        induction fl with
        | zero => intro u9 v9 hu9 hv hg hfl; exact absurd hfl (Nat.not_lt_zero _)
        | succ fl ih28 =>
          intro u9 v9 hu9 hv hg hfl28 H locs hB ls hl
          refine lv_lload hx hb dL_divisor_28 (lv_at hl 0 rfl) ?_
          refine lv_lconst (v := 0) hx hb dL_divisor_30 (by decide) ?_
          refine W.lcmp hx hb dL_divisor_31 ?_
          refine lv_if_le (tgt := 53) hx hb dL_divisor_32 (by decide) (fun h32 => ?_) (fun h32 => ?_)
          · skip
            replace h32 := (lg_cmp_le _ _).mp h32
            have hv0 : v9 = 0 := Nat.eq_zero_of_not_pos (fun e8 => absurd ((lN_pos hv).mpr e8) (Int64.not_lt.mpr h32))
            refine lv_lload hx hb dL_divisor_53 (lv_at hl 1 rfl) ?_
            exact zretl hF hB () (by subst hv0; rw [← hg, Nat.gcd_zero_right]) (rfl) dL_divisor_55 hQ
          · skip
            replace h32 := (fun e9 => h32 ((lg_cmp_le _ _).mpr e9))
            have hv0 : 0 < v9 := (lN_pos hv).mp (Int64.not_le.mp h32)
            refine lv_lload hx hb dL_divisor_35 (lv_at hl 1 rfl) ?_
            refine lv_lload hx hb dL_divisor_37 (lv_at hl 0 rfl) ?_
            refine lv_lrem hx hb dL_divisor_39 (lN_ne0 hv hv0) ?_
            refine ztopl (y := lN (u9 % v9)) (lN_rem hu9 hv hv0) ?_
            refine lv_lstore (lv' := [(8, .long (lN (u9 % v9))), (6, .long (lN v9)), (4, .long (lN u9))]) hx hb dL_divisor_40 hl (by decide) rfl ?_
            clear hl
            clear ls
            intro ls hl
            refine lv_lload hx hb dL_divisor_42 (lv_at hl 1 rfl) ?_
            refine lv_lstore (lv' := [(4, .long (lN v9)), (8, .long (lN (u9 % v9))), (6, .long (lN v9))]) hx hb dL_divisor_44 hl (by decide) rfl ?_
            clear hl
            clear ls
            intro ls hl
            refine lv_lload hx hb dL_divisor_46 (lv_at hl 1 rfl) ?_
            refine lv_lstore (lv' := [(6, .long (lN (u9 % v9))), (4, .long (lN v9)), (8, .long (lN (u9 % v9)))]) hx hb dL_divisor_48 hl (by decide) rfl ?_
            clear hl
            clear ls
            intro ls hl
            refine lv_goto (tgt := 28) hx hb dL_divisor_50 (by decide) ?_
            exact ih28 v9 (u9 % v9) (hv) (Nat.lt_of_le_of_lt (Nat.mod_le u9 v9) hu9) (by rw [← hg, Nat.gcd_comm u9 v9, Nat.gcd_rec v9 u9, Nat.gcd_comm]) (by have := Nat.mod_lt u9 hv0; omega) _ _ (hB) _ (lv_sub hl [0, 1] rfl)
      exact lp28 (b.toInt.natAbs + 1) a.toInt.natAbs b.toInt.natAbs (by omega) (by omega) (rfl) (by omega) _ _ (hB) _ (lv_sub hl [0, 1] rfl)
  · skip
    replace h3 := (fun e9 => h3 ((lg_cmp_ge _ _).mpr e9))
    refine lv_lload_n hx hb dL_divisor_6 rfl (lv_at hl 0 rfl) ?_
    refine lv_lneg hx hb dL_divisor_7 ?_
    refine ztopl (y := lN a.toInt.natAbs) (neg_abs (Int64.not_le.mp h3) ha.1) ?_
    refine lv_goto (tgt := 12) hx hb dL_divisor_8 (by decide) ?_
    refine lv_lstore (lv' := [(4, .long (lN a.toInt.natAbs)), (0, .long a), (2, .long b)]) hx hb dL_divisor_12 hl (by decide) rfl ?_
    clear hl
    clear ls
    intro ls hl
    refine lv_lload_n hx hb dL_divisor_14 rfl (lv_at hl 2 rfl) ?_
    refine lv_lconst (v := 0) hx hb dL_divisor_15 (by decide) ?_
    refine W.lcmp hx hb dL_divisor_16 ?_
    refine lv_if_ge (tgt := 25) hx hb dL_divisor_17 (by decide) (fun h17 => ?_) (fun h17 => ?_)
    · skip
      replace h17 := (lg_cmp_ge _ _).mp h17
      refine lv_lload_n hx hb dL_divisor_25 rfl (lv_at hl 2 rfl) ?_
      refine ztopl (y := lN b.toInt.natAbs) (lN_of (by have e7 := h17; rw [Int64.le_iff_toInt_le] at e7; exact e7)) ?_
      refine lv_lstore (lv' := [(6, .long (lN b.toInt.natAbs)), (4, .long (lN a.toInt.natAbs)), (0, .long a), (2, .long b)]) hx hb dL_divisor_26 hl (by decide) rfl ?_
      clear hl
      clear ls
      intro ls hl
      have lp28 : ∀ (fl : Nat) (u9 : Nat) (v9 : Nat), (hu9 : u9 < 2 ^ 63) → (hv : v9 < 2 ^ 63) → (hg : Nat.gcd u9 v9 = Nat.gcd a.toInt.natAbs b.toInt.natAbs) → v9 < fl → ∀ (H : Heap) (locs : List Loc), zB D A s ([]) H locs → ∀ ls : Array Slot, lv_has ls 10 [(6, .long (lN v9)), (4, .long (lN u9))] → W p l e (zRm 0 0 0 0) s m args below meth c H locs 0 0 Q (F0 m 28 ls []) := by
        intro fl
        induction fl with
        | zero => intro u9 v9 hu9 hv hg hfl; exact absurd hfl (Nat.not_lt_zero _)
        | succ fl ih28 =>
          intro u9 v9 hu9 hv hg hfl28 H locs hB ls hl
          refine lv_lload hx hb dL_divisor_28 (lv_at hl 0 rfl) ?_
          refine lv_lconst (v := 0) hx hb dL_divisor_30 (by decide) ?_
          refine W.lcmp hx hb dL_divisor_31 ?_
          refine lv_if_le (tgt := 53) hx hb dL_divisor_32 (by decide) (fun h32 => ?_) (fun h32 => ?_)
          · skip
            replace h32 := (lg_cmp_le _ _).mp h32
            have hv0 : v9 = 0 := Nat.eq_zero_of_not_pos (fun e8 => absurd ((lN_pos hv).mpr e8) (Int64.not_lt.mpr h32))
            refine lv_lload hx hb dL_divisor_53 (lv_at hl 1 rfl) ?_
            exact zretl hF hB () (by subst hv0; rw [← hg, Nat.gcd_zero_right]) (rfl) dL_divisor_55 hQ
          · skip
            replace h32 := (fun e9 => h32 ((lg_cmp_le _ _).mpr e9))
            have hv0 : 0 < v9 := (lN_pos hv).mp (Int64.not_le.mp h32)
            refine lv_lload hx hb dL_divisor_35 (lv_at hl 1 rfl) ?_
            refine lv_lload hx hb dL_divisor_37 (lv_at hl 0 rfl) ?_
            refine lv_lrem hx hb dL_divisor_39 (lN_ne0 hv hv0) ?_
            refine ztopl (y := lN (u9 % v9)) (lN_rem hu9 hv hv0) ?_
            refine lv_lstore (lv' := [(8, .long (lN (u9 % v9))), (6, .long (lN v9)), (4, .long (lN u9))]) hx hb dL_divisor_40 hl (by decide) rfl ?_
            clear hl
            clear ls
            intro ls hl
            refine lv_lload hx hb dL_divisor_42 (lv_at hl 1 rfl) ?_
            refine lv_lstore (lv' := [(4, .long (lN v9)), (8, .long (lN (u9 % v9))), (6, .long (lN v9))]) hx hb dL_divisor_44 hl (by decide) rfl ?_
            clear hl
            clear ls
            intro ls hl
            refine lv_lload hx hb dL_divisor_46 (lv_at hl 1 rfl) ?_
            refine lv_lstore (lv' := [(6, .long (lN (u9 % v9))), (4, .long (lN v9)), (8, .long (lN (u9 % v9)))]) hx hb dL_divisor_48 hl (by decide) rfl ?_
            clear hl
            clear ls
            intro ls hl
            refine lv_goto (tgt := 28) hx hb dL_divisor_50 (by decide) ?_
            exact ih28 v9 (u9 % v9) (hv) (Nat.lt_of_le_of_lt (Nat.mod_le u9 v9) hu9) (by rw [← hg, Nat.gcd_comm u9 v9, Nat.gcd_rec v9 u9, Nat.gcd_comm]) (by have := Nat.mod_lt u9 hv0; omega) _ _ (hB) _ (lv_sub hl [0, 1] rfl)
      exact lp28 (b.toInt.natAbs + 1) a.toInt.natAbs b.toInt.natAbs (by omega) (by omega) (rfl) (by omega) _ _ (hB) _ (lv_sub hl [0, 1] rfl)
    · skip
      replace h17 := (fun e9 => h17 ((lg_cmp_ge _ _).mpr e9))
      refine lv_lload_n hx hb dL_divisor_20 rfl (lv_at hl 2 rfl) ?_
      refine lv_lneg hx hb dL_divisor_21 ?_
      refine ztopl (y := lN b.toInt.natAbs) (neg_abs (Int64.not_le.mp h17) hb9.1) ?_
      refine lv_goto (tgt := 26) hx hb dL_divisor_22 (by decide) ?_
      refine lv_lstore (lv' := [(6, .long (lN b.toInt.natAbs)), (4, .long (lN a.toInt.natAbs)), (0, .long a), (2, .long b)]) hx hb dL_divisor_26 hl (by decide) rfl ?_
      clear hl
      clear ls
      intro ls hl
      have lp28 : ∀ (fl : Nat) (u9 : Nat) (v9 : Nat), (hu9 : u9 < 2 ^ 63) → (hv : v9 < 2 ^ 63) → (hg : Nat.gcd u9 v9 = Nat.gcd a.toInt.natAbs b.toInt.natAbs) → v9 < fl → ∀ (H : Heap) (locs : List Loc), zB D A s ([]) H locs → ∀ ls : Array Slot, lv_has ls 10 [(6, .long (lN v9)), (4, .long (lN u9))] → W p l e (zRm 0 0 0 0) s m args below meth c H locs 0 0 Q (F0 m 28 ls []) := by
        intro fl
        induction fl with
        | zero => intro u9 v9 hu9 hv hg hfl; exact absurd hfl (Nat.not_lt_zero _)
        | succ fl ih28 =>
          intro u9 v9 hu9 hv hg hfl28 H locs hB ls hl
          refine lv_lload hx hb dL_divisor_28 (lv_at hl 0 rfl) ?_
          refine lv_lconst (v := 0) hx hb dL_divisor_30 (by decide) ?_
          refine W.lcmp hx hb dL_divisor_31 ?_
          refine lv_if_le (tgt := 53) hx hb dL_divisor_32 (by decide) (fun h32 => ?_) (fun h32 => ?_)
          · skip
            replace h32 := (lg_cmp_le _ _).mp h32
            have hv0 : v9 = 0 := Nat.eq_zero_of_not_pos (fun e8 => absurd ((lN_pos hv).mpr e8) (Int64.not_lt.mpr h32))
            refine lv_lload hx hb dL_divisor_53 (lv_at hl 1 rfl) ?_
            exact zretl hF hB () (by subst hv0; rw [← hg, Nat.gcd_zero_right]) (rfl) dL_divisor_55 hQ
          · skip
            replace h32 := (fun e9 => h32 ((lg_cmp_le _ _).mpr e9))
            have hv0 : 0 < v9 := (lN_pos hv).mp (Int64.not_le.mp h32)
            refine lv_lload hx hb dL_divisor_35 (lv_at hl 1 rfl) ?_
            refine lv_lload hx hb dL_divisor_37 (lv_at hl 0 rfl) ?_
            refine lv_lrem hx hb dL_divisor_39 (lN_ne0 hv hv0) ?_
            refine ztopl (y := lN (u9 % v9)) (lN_rem hu9 hv hv0) ?_
            refine lv_lstore (lv' := [(8, .long (lN (u9 % v9))), (6, .long (lN v9)), (4, .long (lN u9))]) hx hb dL_divisor_40 hl (by decide) rfl ?_
            clear hl
            clear ls
            intro ls hl
            refine lv_lload hx hb dL_divisor_42 (lv_at hl 1 rfl) ?_
            refine lv_lstore (lv' := [(4, .long (lN v9)), (8, .long (lN (u9 % v9))), (6, .long (lN v9))]) hx hb dL_divisor_44 hl (by decide) rfl ?_
            clear hl
            clear ls
            intro ls hl
            refine lv_lload hx hb dL_divisor_46 (lv_at hl 1 rfl) ?_
            refine lv_lstore (lv' := [(6, .long (lN (u9 % v9))), (4, .long (lN v9)), (8, .long (lN (u9 % v9)))]) hx hb dL_divisor_48 hl (by decide) rfl ?_
            clear hl
            clear ls
            intro ls hl
            refine lv_goto (tgt := 28) hx hb dL_divisor_50 (by decide) ?_
            exact ih28 v9 (u9 % v9) (hv) (Nat.lt_of_le_of_lt (Nat.mod_le u9 v9) hu9) (by rw [← hg, Nat.gcd_comm u9 v9, Nat.gcd_rec v9 u9, Nat.gcd_comm]) (by have := Nat.mod_lt u9 hv0; omega) _ _ (hB) _ (lv_sub hl [0, 1] rfl)
      exact lp28 (b.toInt.natAbs + 1) a.toInt.natAbs b.toInt.natAbs (by omega) (by omega) (rfl) (by omega) _ _ (hB) _ (lv_sub hl [0, 1] rfl)
