def dA (e : Int) (k : Nat) : Int := if e - 240 * (k : Int) < 0 then 0 - (e - 240 * (k : Int)) else e - 240 * (k : Int)
/-- how far the k-th angle is from e eighths -/
def dK (e : Int) (k : Nat) : Int := if 2880 - dA e k < dA e k then 2880 - dA e k else dA e k
/-- the eighths of a degree that v is -/
def nrE (v : Int32) : Int := if (fvI v).tmod 2880 < 0 then (fvI v).tmod 2880 + 2880 else (fvI v).tmod 2880
/-- the nearest lawful angle of the first k, and how far -/
def nrS (m : Int32) (e : Int) : Nat → Int32 × Int
  | 0 => (-1, 0)
  | k + 1 => if lgX m k = 1 ∧ ((nrS m e k).1 = -1 ∨ dK e k < (nrS m e k).2) then (nI k, dK e k) else nrS m e k
theorem nrS_s {m : Int32} {e : Int} {k : Nat} : nrS m e (k + 1) = if lgX m k = 1 ∧ ((nrS m e k).1 = -1 ∨ dK e k < (nrS m e k).2) then (nI k, dK e k) else nrS m e k := rfl
theorem nr_tm (v : Int32) : -2880 < (fvI v).tmod 2880 ∧ (fvI v).tmod 2880 < 2880 := ⟨Int.lt_tmod_of_pos _ (by decide), Int.tmod_lt_of_pos _ (by decide)⟩
theorem nrE_b (v : Int32) : 0 ≤ nrE v ∧ nrE v < 2880 := by
  have := nr_tm v
  unfold nrE
  split <;> omega
set_option maxHeartbeats 4000000 in
set_option maxRecDepth 100000 in
theorem c_X8_nearestBy (l : Launch) (D : va_G) (ka : Nat → ClassId) (kb : Nat → Nat) (q : Nat) (ad : Nat → Nat) (o : Bool) (z : mZ) (le : Nat → Int32) (p9 : Nat) (v : Int32) (hp9 : p9 < 2) : zI l D ka kb yX8_nearestBy cX8_nearestBy 9 .int 0 0 [.ref q, .int (nI p9), .int v] ([(q, .inr (8, mO ad o z)), ((ad 8), .inl (ka 0, 2, .inl le))]) (fun (r : Int32) (_ : Unit) => r = (nrS (le p9) (nrE v) 12).1) (fun (_ : Unit) => [(q, .inr (8, mO ad o z)), ((ad 8), .inl (ka 0, 2, .inl le))]) := by
  refine zI.mk RX8 (by decide +kernel) rfl (Nat.le_of_ble_eq_true rfl) ?_
  intro p e s m below meth c A ls args Q hQ hx hb hF hB hl
  replace hl : lv_has ls 9 [(0, .ref q), (1, .int (nI p9)), (2, .int v)] := hl
  refine lv_iload_n hx hb dX8_nearestBy_0 rfl (lv_at hl 2 rfl) ?_
  refine lv_i2f hx hb dX8_nearestBy_1 ?_
  refine zldcfw (v := (1090519040 : UInt32)) ww_39_19 hF dX8_nearestBy_2 ?_
  refine zfdiv (K := fvI v) (E8_div (fvI_int v)) hx hb dX8_nearestBy_5 (fun fr1 hfr1 => ?_)
  refine zldcfw (v := (1135869952 : UInt32)) ww_39_20 hF dX8_nearestBy_6 ?_
  refine zfrem (K := (fvI v).tmod 2880) (E8_rem hfr1) hx hb dX8_nearestBy_9 (fun fr2 hfr2 => ?_)
  refine lv_fstore_n (lv' := [(3, .float fr2), (0, .ref q), (1, .int (nI p9)), (2, .int v)]) hx hb dX8_nearestBy_10 rfl hl (by decide) rfl ?_
  clear hl
  clear ls
  intro ls hl
  refine lv_fload_n hx hb dX8_nearestBy_11 rfl (lv_at hl 0 rfl) ?_
  refine lv_fconst0 hx hb dX8_nearestBy_12 ?_
  refine zfcmpg hfr2 E8_0 hx hb dX8_nearestBy_13 (fun cr3 hcr3 => ?_)
  refine lv_if_ge (tgt := 23) hx hb dX8_nearestBy_14 (by decide) (fun h14 => ?_) (fun h14 => ?_)
  · skip
    replace h14 := hcr3.mp h14
    refine lv_iconst (v := -1) hx hb dX8_nearestBy_23 (by decide) ?_
    refine lv_istore (lv' := [(4, .int (-1 : Int32)), (3, .float fr2), (0, .ref q), (1, .int (nI p9)), (2, .int v)]) hx hb dX8_nearestBy_24 hl (by decide) rfl ?_
    clear hl
    clear ls
    intro ls hl
    refine lv_fconst0 hx hb dX8_nearestBy_26 ?_
    refine lv_fstore (lv' := [(5, .float FP.fconst0), (4, .int (-1 : Int32)), (3, .float fr2), (0, .ref q), (1, .int (nI p9)), (2, .int v)]) hx hb dX8_nearestBy_27 hl (by decide) rfl ?_
    clear hl
    clear ls
    intro ls hl
    refine lv_iconst (v := 0) hx hb dX8_nearestBy_29 (by decide) ?_
    refine lv_istore (lv' := [(6, .int (0 : Int32)), (5, .float FP.fconst0), (4, .int (-1 : Int32)), (3, .float fr2), (0, .ref q), (1, .int (nI p9)), (2, .int v)]) hx hb dX8_nearestBy_30 hl (by decide) rfl ?_
    clear hl
    clear ls
    intro ls hl
    have lp32 : ∀ (fl : Nat) (i : Nat) (f3 : UInt32) (f5 : UInt32) (b4 : Int32), (hi : i ≤ 12) → (hb4 : b4 = (nrS (le p9) (nrE v) i).1) → (hf3 : E8 (nrE v) f3) → (hf5 : E8 (nrS (le p9) (nrE v) i).2 f5) → 12 - i < fl → ∀ (H : Heap) (locs : List Loc), zB D A s ([(q, .inr (8, mO ad o z)), ((ad 8), .inl (ka 0, 2, .inl le))]) H locs → ∀ ls : Array Slot, lv_has ls 9 [(3, .float f3), (4, .int b4), (5, .float f5), (6, .int (nI i)), (0, .ref q), (1, .int (nI p9))] → W p l e (zRm 0 0 0 0) s m args below meth c H locs 0 0 Q (F0 m 32 ls []) := by
      intro fl
      induction fl with
      | zero => intro i f3 f5 b4 hi hb4 hf3 hf5 hfl; exact absurd hfl (Nat.not_lt_zero _)
      | succ fl ih32 =>
        intro i f3 f5 b4 hi hb4 hf3 hf5 hfl32 H locs hB ls hl
        refine lv_iload hx hb dX8_nearestBy_32 (lv_at hl 3 rfl) ?_
        refine lv_bipush (v := 12) hx hb dX8_nearestBy_34 (by decide) ?_
        refine lv_icmp_ge (tgt := 136) hx hb dX8_nearestBy_36 (by decide) (fun h36 => ?_) (fun h36 => ?_)
        · skip
          have hi12 : i = 12 := by have := (nI_leI (a := 12) (b := i) (by decide) (by omega)).mp h36; omega
          subst hi12
          refine lv_iload hx hb dX8_nearestBy_136 (lv_at hl 1 rfl) ?_
          exact zreti hF hB () (hb4) (rfl) (rfl) dX8_nearestBy_138 hQ
        · skip
          have hi12 : i < 12 := Nat.not_le.mp (fun e8 => h36 ((nI_leI (a := 12) (b := i) (by decide) (by omega)).mpr e8))
          have hne := nrE_b v
          refine lv_fload_n hx hb dX8_nearestBy_39 rfl (lv_at hl 0 rfl) ?_
          refine zldcfw (v := (1106247680 : UInt32)) ww_39_21 hF dX8_nearestBy_40 ?_
          refine lv_iload hx hb dX8_nearestBy_43 (lv_at hl 3 rfl) ?_
          refine lv_i2f hx hb dX8_nearestBy_45 ?_
          refine zfmul (K := 240 * (i : Int)) (E8_30 hi12) hx hb dX8_nearestBy_46 (fun fr4 hfr4 => ?_)
          refine zfsub (K := (nrE v - 240 * (i : Int))) (E8_sub hf3 hfr4 (by omega)) hx hb dX8_nearestBy_47 (fun fr5 hfr5 => ?_)
          refine lv_fstore (lv' := [(7, .float fr5), (3, .float f3), (4, .int b4), (5, .float f5), (6, .int (nI i)), (0, .ref q), (1, .int (nI p9))]) hx hb dX8_nearestBy_48 hl (by decide) rfl ?_
          clear hl
          clear ls
          intro ls hl
          refine lv_fload hx hb dX8_nearestBy_50 (lv_at hl 0 rfl) ?_
          refine lv_fconst0 hx hb dX8_nearestBy_52 ?_
          refine zfcmpg hfr5 E8_0 hx hb dX8_nearestBy_53 (fun cr6 hcr6 => ?_)
          refine lv_if_ge (tgt := 64) hx hb dX8_nearestBy_54 (by decide) (fun h54 => ?_) (fun h54 => ?_)
          · skip
            replace h54 := hcr6.mp h54
            refine lv_fload hx hb dX8_nearestBy_64 (lv_at hl 0 rfl) ?_
            refine lv_fstore (lv' := [(7, .float fr5), (3, .float f3), (4, .int b4), (5, .float f5), (6, .int (nI i)), (0, .ref q), (1, .int (nI p9))]) hx hb dX8_nearestBy_66 hl (by decide) rfl ?_
            clear hl
            clear ls
            intro ls hl
            refine zldcfw (v := (1135869952 : UInt32)) ww_39_20 hF dX8_nearestBy_68 ?_
            refine lv_fload hx hb dX8_nearestBy_71 (lv_at hl 0 rfl) ?_
            refine zfsub (K := (2880 - (nrE v - 240 * (i : Int)))) (E8_sub E8_360 hfr5 (by omega)) hx hb dX8_nearestBy_73 (fun fr7 hfr7 => ?_)
            refine lv_fstore (lv' := [(8, .float fr7), (7, .float fr5), (3, .float f3), (4, .int b4), (5, .float f5), (6, .int (nI i)), (0, .ref q), (1, .int (nI p9))]) hx hb dX8_nearestBy_74 hl (by decide) rfl ?_
            clear hl
            clear ls
            intro ls hl
            refine lv_fload hx hb dX8_nearestBy_76 (lv_at hl 0 rfl) ?_
            refine lv_fload hx hb dX8_nearestBy_78 (lv_at hl 1 rfl) ?_
            refine zfcmpg hfr7 hfr5 hx hb dX8_nearestBy_80 (fun cr8 hcr8 => ?_)
            refine lv_if_ge (tgt := 89) hx hb dX8_nearestBy_81 (by decide) (fun h81 => ?_) (fun h81 => ?_)
            · skip
              replace h81 := hcr8.mp h81
              refine lv_fload hx hb dX8_nearestBy_89 (lv_at hl 1 rfl) ?_
              refine lv_topf (fun fd hfd => ?_)
              have hd91 : E8 (dK (nrE v) i) fd := by rw [hfd]; exact (by rw [dK, dA, if_neg h54, if_neg h81]; exact hfr5)
              refine lv_fstore (lv' := [(7, .float fd), (8, .float fr7), (3, .float f3), (4, .int b4), (5, .float f5), (6, .int (nI i)), (0, .ref q), (1, .int (nI p9))]) hx hb dX8_nearestBy_91 hl (by decide) rfl ?_
              clear hl
              clear ls
              intro ls hl
              refine lv_aload_n hx hb dX8_nearestBy_93 rfl (lv_at hl 6 rfl) ?_
              refine zget zf_X8_35 hF hB 0 rfl rfl dX8_nearestBy_94 ?_
              refine lv_iload_n hx hb dX8_nearestBy_97 rfl (lv_at hl 7 rfl) ?_
              refine ziald hF hB 1 rfl p9 (rfl) (by omega) (by decide) (v := (le p9)) (rfl) dX8_nearestBy_98 ?_
              refine lv_iload hx hb dX8_nearestBy_99 (lv_at hl 5 rfl) ?_
              refine lv_ishr hx hb dX8_nearestBy_101 ?_
              refine lv_iconst (v := 1) hx hb dX8_nearestBy_102 (by decide) ?_
              refine lv_iand hx hb dX8_nearestBy_103 ?_
              refine ztopi (y := lgX (le p9) i) (rfl) ?_
              refine lv_iconst (v := 1) hx hb dX8_nearestBy_104 (by decide) ?_
              refine lv_icmp_ne (tgt := 130) hx hb dX8_nearestBy_105 (by decide) (fun h105 => ?_) (fun h105 => ?_)
              · skip
                refine lv_iinc (v := nI (i + 1)) (lv' := [(6, .int (nI (i + 1))), (7, .float fd), (8, .float fr7), (3, .float f3), (4, .int b4), (5, .float f5), (0, .ref q), (1, .int (nI p9))]) hx hb dX8_nearestBy_130 hl (k := 5) rfl (nI_1 _) (by decide) rfl ?_
                clear hl
                clear ls
                intro ls hl
                refine lv_goto (tgt := 32) hx hb dX8_nearestBy_133 (by decide) ?_
                exact ih32 (i + 1) f3 f5 b4 (by omega) (by rw [nrS_s, if_neg (fun e8 => h105 e8.1)]; exact hb4) (hf3) (by rw [nrS_s, if_neg (fun e8 => h105 e8.1)]; exact hf5) (by omega) _ _ (hB) _ (lv_sub hl [3, 4, 5, 0, 6, 7] rfl)
              · skip
                refine lv_iload hx hb dX8_nearestBy_108 (lv_at hl 3 rfl) ?_
                refine lv_iconst (v := -1) hx hb dX8_nearestBy_110 (by decide) ?_
                refine lv_icmp_eq (tgt := 122) hx hb dX8_nearestBy_111 (by decide) (fun h111 => ?_) (fun h111 => ?_)
                · skip
                  refine lv_iload hx hb dX8_nearestBy_122 (lv_at hl 5 rfl) ?_
                  refine lv_istore (lv' := [(4, .int (nI i)), (7, .float fd), (8, .float fr7), (3, .float f3), (5, .float f5), (6, .int (nI i)), (0, .ref q), (1, .int (nI p9))]) hx hb dX8_nearestBy_124 hl (by decide) rfl ?_
                  clear hl
                  clear ls
                  intro ls hl
                  refine lv_fload hx hb dX8_nearestBy_126 (lv_at hl 1 rfl) ?_
                  refine lv_fstore (lv' := [(5, .float fd), (4, .int (nI i)), (7, .float fd), (8, .float fr7), (3, .float f3), (6, .int (nI i)), (0, .ref q), (1, .int (nI p9))]) hx hb dX8_nearestBy_128 hl (by decide) rfl ?_
                  clear hl
                  clear ls
                  intro ls hl
                  refine lv_iinc (v := nI (i + 1)) (lv' := [(6, .int (nI (i + 1))), (5, .float fd), (4, .int (nI i)), (7, .float fd), (8, .float fr7), (3, .float f3), (0, .ref q), (1, .int (nI p9))]) hx hb dX8_nearestBy_130 hl (k := 5) rfl (nI_1 _) (by decide) rfl ?_
                  clear hl
                  clear ls
                  intro ls hl
                  refine lv_goto (tgt := 32) hx hb dX8_nearestBy_133 (by decide) ?_
                  exact ih32 (i + 1) f3 fd (nI i) (by omega) (by rw [nrS_s, if_pos ⟨h105, Or.inl (hb4.symm.trans h111)⟩]) (hf3) (by rw [nrS_s, if_pos ⟨h105, Or.inl (hb4.symm.trans h111)⟩]; exact hd91) (by omega) _ _ (hB) _ (lv_sub hl [5, 2, 1, 0, 6, 7] rfl)
                · skip
                  refine lv_fload hx hb dX8_nearestBy_114 (lv_at hl 0 rfl) ?_
                  refine lv_fload hx hb dX8_nearestBy_116 (lv_at hl 4 rfl) ?_
                  refine zfcmpg hd91 hf5 hx hb dX8_nearestBy_118 (fun cr9 hcr9 => ?_)
                  refine lv_if_ge (tgt := 130) hx hb dX8_nearestBy_119 (by decide) (fun h119 => ?_) (fun h119 => ?_)
                  · skip
                    replace h119 := hcr9.mp h119
                    refine lv_iinc (v := nI (i + 1)) (lv' := [(6, .int (nI (i + 1))), (7, .float fd), (8, .float fr7), (3, .float f3), (4, .int b4), (5, .float f5), (0, .ref q), (1, .int (nI p9))]) hx hb dX8_nearestBy_130 hl (k := 5) rfl (nI_1 _) (by decide) rfl ?_
                    clear hl
                    clear ls
                    intro ls hl
                    refine lv_goto (tgt := 32) hx hb dX8_nearestBy_133 (by decide) ?_
                    exact ih32 (i + 1) f3 f5 b4 (by omega) (by rw [nrS_s, if_neg (fun e8 => e8.2.elim (fun e7 => h111 (hb4.trans e7)) h119)]; exact hb4) (hf3) (by rw [nrS_s, if_neg (fun e8 => e8.2.elim (fun e7 => h111 (hb4.trans e7)) h119)]; exact hf5) (by omega) _ _ (hB) _ (lv_sub hl [3, 4, 5, 0, 6, 7] rfl)
                  · skip
                    replace h119 := (Decidable.of_not_not (fun e9 => h119 (hcr9.mpr e9)))
                    refine lv_iload hx hb dX8_nearestBy_122 (lv_at hl 5 rfl) ?_
                    refine lv_istore (lv' := [(4, .int (nI i)), (7, .float fd), (8, .float fr7), (3, .float f3), (5, .float f5), (6, .int (nI i)), (0, .ref q), (1, .int (nI p9))]) hx hb dX8_nearestBy_124 hl (by decide) rfl ?_
                    clear hl
                    clear ls
                    intro ls hl
                    refine lv_fload hx hb dX8_nearestBy_126 (lv_at hl 1 rfl) ?_
                    refine lv_fstore (lv' := [(5, .float fd), (4, .int (nI i)), (7, .float fd), (8, .float fr7), (3, .float f3), (6, .int (nI i)), (0, .ref q), (1, .int (nI p9))]) hx hb dX8_nearestBy_128 hl (by decide) rfl ?_
                    clear hl
                    clear ls
                    intro ls hl
                    refine lv_iinc (v := nI (i + 1)) (lv' := [(6, .int (nI (i + 1))), (5, .float fd), (4, .int (nI i)), (7, .float fd), (8, .float fr7), (3, .float f3), (0, .ref q), (1, .int (nI p9))]) hx hb dX8_nearestBy_130 hl (k := 5) rfl (nI_1 _) (by decide) rfl ?_
                    clear hl
                    clear ls
                    intro ls hl
                    refine lv_goto (tgt := 32) hx hb dX8_nearestBy_133 (by decide) ?_
                    exact ih32 (i + 1) f3 fd (nI i) (by omega) (by rw [nrS_s, if_pos ⟨h105, Or.inr h119⟩]) (hf3) (by rw [nrS_s, if_pos ⟨h105, Or.inr h119⟩]; exact hd91) (by omega) _ _ (hB) _ (lv_sub hl [5, 2, 1, 0, 6, 7] rfl)
            · skip
              replace h81 := (Decidable.of_not_not (fun e9 => h81 (hcr8.mpr e9)))
              refine lv_fload hx hb dX8_nearestBy_84 (lv_at hl 0 rfl) ?_
              refine lv_goto (tgt := 91) hx hb dX8_nearestBy_86 (by decide) ?_
              refine lv_topf (fun fd hfd => ?_)
              have hd91 : E8 (dK (nrE v) i) fd := by rw [hfd]; exact (by rw [dK, dA, if_neg h54, if_pos h81]; exact hfr7)
              refine lv_fstore (lv' := [(7, .float fd), (8, .float fr7), (3, .float f3), (4, .int b4), (5, .float f5), (6, .int (nI i)), (0, .ref q), (1, .int (nI p9))]) hx hb dX8_nearestBy_91 hl (by decide) rfl ?_
              clear hl
              clear ls
              intro ls hl
              refine lv_aload_n hx hb dX8_nearestBy_93 rfl (lv_at hl 6 rfl) ?_
              refine zget zf_X8_35 hF hB 0 rfl rfl dX8_nearestBy_94 ?_
              refine lv_iload_n hx hb dX8_nearestBy_97 rfl (lv_at hl 7 rfl) ?_
              refine ziald hF hB 1 rfl p9 (rfl) (by omega) (by decide) (v := (le p9)) (rfl) dX8_nearestBy_98 ?_
              refine lv_iload hx hb dX8_nearestBy_99 (lv_at hl 5 rfl) ?_
              refine lv_ishr hx hb dX8_nearestBy_101 ?_
              refine lv_iconst (v := 1) hx hb dX8_nearestBy_102 (by decide) ?_
              refine lv_iand hx hb dX8_nearestBy_103 ?_
              refine ztopi (y := lgX (le p9) i) (rfl) ?_
              refine lv_iconst (v := 1) hx hb dX8_nearestBy_104 (by decide) ?_
              refine lv_icmp_ne (tgt := 130) hx hb dX8_nearestBy_105 (by decide) (fun h105 => ?_) (fun h105 => ?_)
              · skip
                refine lv_iinc (v := nI (i + 1)) (lv' := [(6, .int (nI (i + 1))), (7, .float fd), (8, .float fr7), (3, .float f3), (4, .int b4), (5, .float f5), (0, .ref q), (1, .int (nI p9))]) hx hb dX8_nearestBy_130 hl (k := 5) rfl (nI_1 _) (by decide) rfl ?_
                clear hl
                clear ls
                intro ls hl
                refine lv_goto (tgt := 32) hx hb dX8_nearestBy_133 (by decide) ?_
                exact ih32 (i + 1) f3 f5 b4 (by omega) (by rw [nrS_s, if_neg (fun e8 => h105 e8.1)]; exact hb4) (hf3) (by rw [nrS_s, if_neg (fun e8 => h105 e8.1)]; exact hf5) (by omega) _ _ (hB) _ (lv_sub hl [3, 4, 5, 0, 6, 7] rfl)
              · skip
                refine lv_iload hx hb dX8_nearestBy_108 (lv_at hl 3 rfl) ?_
                refine lv_iconst (v := -1) hx hb dX8_nearestBy_110 (by decide) ?_
                refine lv_icmp_eq (tgt := 122) hx hb dX8_nearestBy_111 (by decide) (fun h111 => ?_) (fun h111 => ?_)
                · skip
                  refine lv_iload hx hb dX8_nearestBy_122 (lv_at hl 5 rfl) ?_
                  refine lv_istore (lv' := [(4, .int (nI i)), (7, .float fd), (8, .float fr7), (3, .float f3), (5, .float f5), (6, .int (nI i)), (0, .ref q), (1, .int (nI p9))]) hx hb dX8_nearestBy_124 hl (by decide) rfl ?_
                  clear hl
                  clear ls
                  intro ls hl
                  refine lv_fload hx hb dX8_nearestBy_126 (lv_at hl 1 rfl) ?_
                  refine lv_fstore (lv' := [(5, .float fd), (4, .int (nI i)), (7, .float fd), (8, .float fr7), (3, .float f3), (6, .int (nI i)), (0, .ref q), (1, .int (nI p9))]) hx hb dX8_nearestBy_128 hl (by decide) rfl ?_
                  clear hl
                  clear ls
                  intro ls hl
                  refine lv_iinc (v := nI (i + 1)) (lv' := [(6, .int (nI (i + 1))), (5, .float fd), (4, .int (nI i)), (7, .float fd), (8, .float fr7), (3, .float f3), (0, .ref q), (1, .int (nI p9))]) hx hb dX8_nearestBy_130 hl (k := 5) rfl (nI_1 _) (by decide) rfl ?_
                  clear hl
                  clear ls
                  intro ls hl
                  refine lv_goto (tgt := 32) hx hb dX8_nearestBy_133 (by decide) ?_
                  exact ih32 (i + 1) f3 fd (nI i) (by omega) (by rw [nrS_s, if_pos ⟨h105, Or.inl (hb4.symm.trans h111)⟩]) (hf3) (by rw [nrS_s, if_pos ⟨h105, Or.inl (hb4.symm.trans h111)⟩]; exact hd91) (by omega) _ _ (hB) _ (lv_sub hl [5, 2, 1, 0, 6, 7] rfl)
                · skip
                  refine lv_fload hx hb dX8_nearestBy_114 (lv_at hl 0 rfl) ?_
                  refine lv_fload hx hb dX8_nearestBy_116 (lv_at hl 4 rfl) ?_
                  refine zfcmpg hd91 hf5 hx hb dX8_nearestBy_118 (fun cr10 hcr10 => ?_)
                  refine lv_if_ge (tgt := 130) hx hb dX8_nearestBy_119 (by decide) (fun h119 => ?_) (fun h119 => ?_)
                  · skip
                    replace h119 := hcr10.mp h119
                    refine lv_iinc (v := nI (i + 1)) (lv' := [(6, .int (nI (i + 1))), (7, .float fd), (8, .float fr7), (3, .float f3), (4, .int b4), (5, .float f5), (0, .ref q), (1, .int (nI p9))]) hx hb dX8_nearestBy_130 hl (k := 5) rfl (nI_1 _) (by decide) rfl ?_
                    clear hl
                    clear ls
                    intro ls hl
                    refine lv_goto (tgt := 32) hx hb dX8_nearestBy_133 (by decide) ?_
                    exact ih32 (i + 1) f3 f5 b4 (by omega) (by rw [nrS_s, if_neg (fun e8 => e8.2.elim (fun e7 => h111 (hb4.trans e7)) h119)]; exact hb4) (hf3) (by rw [nrS_s, if_neg (fun e8 => e8.2.elim (fun e7 => h111 (hb4.trans e7)) h119)]; exact hf5) (by omega) _ _ (hB) _ (lv_sub hl [3, 4, 5, 0, 6, 7] rfl)
                  · skip
                    replace h119 := (Decidable.of_not_not (fun e9 => h119 (hcr10.mpr e9)))
                    refine lv_iload hx hb dX8_nearestBy_122 (lv_at hl 5 rfl) ?_
                    refine lv_istore (lv' := [(4, .int (nI i)), (7, .float fd), (8, .float fr7), (3, .float f3), (5, .float f5), (6, .int (nI i)), (0, .ref q), (1, .int (nI p9))]) hx hb dX8_nearestBy_124 hl (by decide) rfl ?_
                    clear hl
                    clear ls
                    intro ls hl
                    refine lv_fload hx hb dX8_nearestBy_126 (lv_at hl 1 rfl) ?_
                    refine lv_fstore (lv' := [(5, .float fd), (4, .int (nI i)), (7, .float fd), (8, .float fr7), (3, .float f3), (6, .int (nI i)), (0, .ref q), (1, .int (nI p9))]) hx hb dX8_nearestBy_128 hl (by decide) rfl ?_
                    clear hl
                    clear ls
                    intro ls hl
                    refine lv_iinc (v := nI (i + 1)) (lv' := [(6, .int (nI (i + 1))), (5, .float fd), (4, .int (nI i)), (7, .float fd), (8, .float fr7), (3, .float f3), (0, .ref q), (1, .int (nI p9))]) hx hb dX8_nearestBy_130 hl (k := 5) rfl (nI_1 _) (by decide) rfl ?_
                    clear hl
                    clear ls
                    intro ls hl
                    refine lv_goto (tgt := 32) hx hb dX8_nearestBy_133 (by decide) ?_
                    exact ih32 (i + 1) f3 fd (nI i) (by omega) (by rw [nrS_s, if_pos ⟨h105, Or.inr h119⟩]) (hf3) (by rw [nrS_s, if_pos ⟨h105, Or.inr h119⟩]; exact hd91) (by omega) _ _ (hB) _ (lv_sub hl [5, 2, 1, 0, 6, 7] rfl)
          · skip
            replace h54 := (Decidable.of_not_not (fun e9 => h54 (hcr6.mpr e9)))
            refine lv_fconst0 hx hb dX8_nearestBy_57 ?_
            refine lv_fload hx hb dX8_nearestBy_58 (lv_at hl 0 rfl) ?_
            refine zfsub (K := (0 - (nrE v - 240 * (i : Int)))) (E8_sub E8_0 hfr5 (by omega)) hx hb dX8_nearestBy_60 (fun fr11 hfr11 => ?_)
            refine lv_goto (tgt := 66) hx hb dX8_nearestBy_61 (by decide) ?_
            refine lv_fstore (lv' := [(7, .float fr11), (3, .float f3), (4, .int b4), (5, .float f5), (6, .int (nI i)), (0, .ref q), (1, .int (nI p9))]) hx hb dX8_nearestBy_66 hl (by decide) rfl ?_
            clear hl
            clear ls
            intro ls hl
            refine zldcfw (v := (1135869952 : UInt32)) ww_39_20 hF dX8_nearestBy_68 ?_
            refine lv_fload hx hb dX8_nearestBy_71 (lv_at hl 0 rfl) ?_
            refine zfsub (K := (2880 - (0 - (nrE v - 240 * (i : Int))))) (E8_sub E8_360 hfr11 (by omega)) hx hb dX8_nearestBy_73 (fun fr12 hfr12 => ?_)
            refine lv_fstore (lv' := [(8, .float fr12), (7, .float fr11), (3, .float f3), (4, .int b4), (5, .float f5), (6, .int (nI i)), (0, .ref q), (1, .int (nI p9))]) hx hb dX8_nearestBy_74 hl (by decide) rfl ?_
            clear hl
            clear ls
            intro ls hl
            refine lv_fload hx hb dX8_nearestBy_76 (lv_at hl 0 rfl) ?_
            refine lv_fload hx hb dX8_nearestBy_78 (lv_at hl 1 rfl) ?_
            refine zfcmpg hfr12 hfr11 hx hb dX8_nearestBy_80 (fun cr13 hcr13 => ?_)
            refine lv_if_ge (tgt := 89) hx hb dX8_nearestBy_81 (by decide) (fun h81 => ?_) (fun h81 => ?_)
            · skip
              replace h81 := hcr13.mp h81
              refine lv_fload hx hb dX8_nearestBy_89 (lv_at hl 1 rfl) ?_
              refine lv_topf (fun fd hfd => ?_)
              have hd91 : E8 (dK (nrE v) i) fd := by rw [hfd]; exact (by rw [dK, dA, if_pos h54, if_neg h81]; exact hfr11)
              refine lv_fstore (lv' := [(7, .float fd), (8, .float fr12), (3, .float f3), (4, .int b4), (5, .float f5), (6, .int (nI i)), (0, .ref q), (1, .int (nI p9))]) hx hb dX8_nearestBy_91 hl (by decide) rfl ?_
              clear hl
              clear ls
              intro ls hl
              refine lv_aload_n hx hb dX8_nearestBy_93 rfl (lv_at hl 6 rfl) ?_
              refine zget zf_X8_35 hF hB 0 rfl rfl dX8_nearestBy_94 ?_
              refine lv_iload_n hx hb dX8_nearestBy_97 rfl (lv_at hl 7 rfl) ?_
              refine ziald hF hB 1 rfl p9 (rfl) (by omega) (by decide) (v := (le p9)) (rfl) dX8_nearestBy_98 ?_
              refine lv_iload hx hb dX8_nearestBy_99 (lv_at hl 5 rfl) ?_
              refine lv_ishr hx hb dX8_nearestBy_101 ?_
              refine lv_iconst (v := 1) hx hb dX8_nearestBy_102 (by decide) ?_
              refine lv_iand hx hb dX8_nearestBy_103 ?_
              refine ztopi (y := lgX (le p9) i) (rfl) ?_
              refine lv_iconst (v := 1) hx hb dX8_nearestBy_104 (by decide) ?_
              refine lv_icmp_ne (tgt := 130) hx hb dX8_nearestBy_105 (by decide) (fun h105 => ?_) (fun h105 => ?_)
              · skip
                refine lv_iinc (v := nI (i + 1)) (lv' := [(6, .int (nI (i + 1))), (7, .float fd), (8, .float fr12), (3, .float f3), (4, .int b4), (5, .float f5), (0, .ref q), (1, .int (nI p9))]) hx hb dX8_nearestBy_130 hl (k := 5) rfl (nI_1 _) (by decide) rfl ?_
                clear hl
                clear ls
                intro ls hl
                refine lv_goto (tgt := 32) hx hb dX8_nearestBy_133 (by decide) ?_
                exact ih32 (i + 1) f3 f5 b4 (by omega) (by rw [nrS_s, if_neg (fun e8 => h105 e8.1)]; exact hb4) (hf3) (by rw [nrS_s, if_neg (fun e8 => h105 e8.1)]; exact hf5) (by omega) _ _ (hB) _ (lv_sub hl [3, 4, 5, 0, 6, 7] rfl)
              · skip
                refine lv_iload hx hb dX8_nearestBy_108 (lv_at hl 3 rfl) ?_
                refine lv_iconst (v := -1) hx hb dX8_nearestBy_110 (by decide) ?_
                refine lv_icmp_eq (tgt := 122) hx hb dX8_nearestBy_111 (by decide) (fun h111 => ?_) (fun h111 => ?_)
                · skip
                  refine lv_iload hx hb dX8_nearestBy_122 (lv_at hl 5 rfl) ?_
                  refine lv_istore (lv' := [(4, .int (nI i)), (7, .float fd), (8, .float fr12), (3, .float f3), (5, .float f5), (6, .int (nI i)), (0, .ref q), (1, .int (nI p9))]) hx hb dX8_nearestBy_124 hl (by decide) rfl ?_
                  clear hl
                  clear ls
                  intro ls hl
                  refine lv_fload hx hb dX8_nearestBy_126 (lv_at hl 1 rfl) ?_
                  refine lv_fstore (lv' := [(5, .float fd), (4, .int (nI i)), (7, .float fd), (8, .float fr12), (3, .float f3), (6, .int (nI i)), (0, .ref q), (1, .int (nI p9))]) hx hb dX8_nearestBy_128 hl (by decide) rfl ?_
                  clear hl
                  clear ls
                  intro ls hl
                  refine lv_iinc (v := nI (i + 1)) (lv' := [(6, .int (nI (i + 1))), (5, .float fd), (4, .int (nI i)), (7, .float fd), (8, .float fr12), (3, .float f3), (0, .ref q), (1, .int (nI p9))]) hx hb dX8_nearestBy_130 hl (k := 5) rfl (nI_1 _) (by decide) rfl ?_
                  clear hl
                  clear ls
                  intro ls hl
                  refine lv_goto (tgt := 32) hx hb dX8_nearestBy_133 (by decide) ?_
                  exact ih32 (i + 1) f3 fd (nI i) (by omega) (by rw [nrS_s, if_pos ⟨h105, Or.inl (hb4.symm.trans h111)⟩]) (hf3) (by rw [nrS_s, if_pos ⟨h105, Or.inl (hb4.symm.trans h111)⟩]; exact hd91) (by omega) _ _ (hB) _ (lv_sub hl [5, 2, 1, 0, 6, 7] rfl)
                · skip
                  refine lv_fload hx hb dX8_nearestBy_114 (lv_at hl 0 rfl) ?_
                  refine lv_fload hx hb dX8_nearestBy_116 (lv_at hl 4 rfl) ?_
                  refine zfcmpg hd91 hf5 hx hb dX8_nearestBy_118 (fun cr14 hcr14 => ?_)
                  refine lv_if_ge (tgt := 130) hx hb dX8_nearestBy_119 (by decide) (fun h119 => ?_) (fun h119 => ?_)
                  · skip
                    replace h119 := hcr14.mp h119
                    refine lv_iinc (v := nI (i + 1)) (lv' := [(6, .int (nI (i + 1))), (7, .float fd), (8, .float fr12), (3, .float f3), (4, .int b4), (5, .float f5), (0, .ref q), (1, .int (nI p9))]) hx hb dX8_nearestBy_130 hl (k := 5) rfl (nI_1 _) (by decide) rfl ?_
                    clear hl
                    clear ls
                    intro ls hl
                    refine lv_goto (tgt := 32) hx hb dX8_nearestBy_133 (by decide) ?_
                    exact ih32 (i + 1) f3 f5 b4 (by omega) (by rw [nrS_s, if_neg (fun e8 => e8.2.elim (fun e7 => h111 (hb4.trans e7)) h119)]; exact hb4) (hf3) (by rw [nrS_s, if_neg (fun e8 => e8.2.elim (fun e7 => h111 (hb4.trans e7)) h119)]; exact hf5) (by omega) _ _ (hB) _ (lv_sub hl [3, 4, 5, 0, 6, 7] rfl)
                  · skip
                    replace h119 := (Decidable.of_not_not (fun e9 => h119 (hcr14.mpr e9)))
                    refine lv_iload hx hb dX8_nearestBy_122 (lv_at hl 5 rfl) ?_
                    refine lv_istore (lv' := [(4, .int (nI i)), (7, .float fd), (8, .float fr12), (3, .float f3), (5, .float f5), (6, .int (nI i)), (0, .ref q), (1, .int (nI p9))]) hx hb dX8_nearestBy_124 hl (by decide) rfl ?_
                    clear hl
                    clear ls
                    intro ls hl
                    refine lv_fload hx hb dX8_nearestBy_126 (lv_at hl 1 rfl) ?_
                    refine lv_fstore (lv' := [(5, .float fd), (4, .int (nI i)), (7, .float fd), (8, .float fr12), (3, .float f3), (6, .int (nI i)), (0, .ref q), (1, .int (nI p9))]) hx hb dX8_nearestBy_128 hl (by decide) rfl ?_
                    clear hl
                    clear ls
                    intro ls hl
                    refine lv_iinc (v := nI (i + 1)) (lv' := [(6, .int (nI (i + 1))), (5, .float fd), (4, .int (nI i)), (7, .float fd), (8, .float fr12), (3, .float f3), (0, .ref q), (1, .int (nI p9))]) hx hb dX8_nearestBy_130 hl (k := 5) rfl (nI_1 _) (by decide) rfl ?_
                    clear hl
                    clear ls
                    intro ls hl
                    refine lv_goto (tgt := 32) hx hb dX8_nearestBy_133 (by decide) ?_
                    exact ih32 (i + 1) f3 fd (nI i) (by omega) (by rw [nrS_s, if_pos ⟨h105, Or.inr h119⟩]) (hf3) (by rw [nrS_s, if_pos ⟨h105, Or.inr h119⟩]; exact hd91) (by omega) _ _ (hB) _ (lv_sub hl [5, 2, 1, 0, 6, 7] rfl)
            · skip
              replace h81 := (Decidable.of_not_not (fun e9 => h81 (hcr13.mpr e9)))
              refine lv_fload hx hb dX8_nearestBy_84 (lv_at hl 0 rfl) ?_
              refine lv_goto (tgt := 91) hx hb dX8_nearestBy_86 (by decide) ?_
              refine lv_topf (fun fd hfd => ?_)
              have hd91 : E8 (dK (nrE v) i) fd := by rw [hfd]; exact (by rw [dK, dA, if_pos h54, if_pos h81]; exact hfr12)
              refine lv_fstore (lv' := [(7, .float fd), (8, .float fr12), (3, .float f3), (4, .int b4), (5, .float f5), (6, .int (nI i)), (0, .ref q), (1, .int (nI p9))]) hx hb dX8_nearestBy_91 hl (by decide) rfl ?_
              clear hl
              clear ls
              intro ls hl
              refine lv_aload_n hx hb dX8_nearestBy_93 rfl (lv_at hl 6 rfl) ?_
              refine zget zf_X8_35 hF hB 0 rfl rfl dX8_nearestBy_94 ?_
              refine lv_iload_n hx hb dX8_nearestBy_97 rfl (lv_at hl 7 rfl) ?_
              refine ziald hF hB 1 rfl p9 (rfl) (by omega) (by decide) (v := (le p9)) (rfl) dX8_nearestBy_98 ?_
              refine lv_iload hx hb dX8_nearestBy_99 (lv_at hl 5 rfl) ?_
              refine lv_ishr hx hb dX8_nearestBy_101 ?_
              refine lv_iconst (v := 1) hx hb dX8_nearestBy_102 (by decide) ?_
              refine lv_iand hx hb dX8_nearestBy_103 ?_
              refine ztopi (y := lgX (le p9) i) (rfl) ?_
              refine lv_iconst (v := 1) hx hb dX8_nearestBy_104 (by decide) ?_
              refine lv_icmp_ne (tgt := 130) hx hb dX8_nearestBy_105 (by decide) (fun h105 => ?_) (fun h105 => ?_)
              · skip
                refine lv_iinc (v := nI (i + 1)) (lv' := [(6, .int (nI (i + 1))), (7, .float fd), (8, .float fr12), (3, .float f3), (4, .int b4), (5, .float f5), (0, .ref q), (1, .int (nI p9))]) hx hb dX8_nearestBy_130 hl (k := 5) rfl (nI_1 _) (by decide) rfl ?_
                clear hl
                clear ls
                intro ls hl
                refine lv_goto (tgt := 32) hx hb dX8_nearestBy_133 (by decide) ?_
                exact ih32 (i + 1) f3 f5 b4 (by omega) (by rw [nrS_s, if_neg (fun e8 => h105 e8.1)]; exact hb4) (hf3) (by rw [nrS_s, if_neg (fun e8 => h105 e8.1)]; exact hf5) (by omega) _ _ (hB) _ (lv_sub hl [3, 4, 5, 0, 6, 7] rfl)
              · skip
                refine lv_iload hx hb dX8_nearestBy_108 (lv_at hl 3 rfl) ?_
                refine lv_iconst (v := -1) hx hb dX8_nearestBy_110 (by decide) ?_
                refine lv_icmp_eq (tgt := 122) hx hb dX8_nearestBy_111 (by decide) (fun h111 => ?_) (fun h111 => ?_)
                · skip
                  refine lv_iload hx hb dX8_nearestBy_122 (lv_at hl 5 rfl) ?_
                  refine lv_istore (lv' := [(4, .int (nI i)), (7, .float fd), (8, .float fr12), (3, .float f3), (5, .float f5), (6, .int (nI i)), (0, .ref q), (1, .int (nI p9))]) hx hb dX8_nearestBy_124 hl (by decide) rfl ?_
                  clear hl
                  clear ls
                  intro ls hl
                  refine lv_fload hx hb dX8_nearestBy_126 (lv_at hl 1 rfl) ?_
                  refine lv_fstore (lv' := [(5, .float fd), (4, .int (nI i)), (7, .float fd), (8, .float fr12), (3, .float f3), (6, .int (nI i)), (0, .ref q), (1, .int (nI p9))]) hx hb dX8_nearestBy_128 hl (by decide) rfl ?_
                  clear hl
                  clear ls
                  intro ls hl
                  refine lv_iinc (v := nI (i + 1)) (lv' := [(6, .int (nI (i + 1))), (5, .float fd), (4, .int (nI i)), (7, .float fd), (8, .float fr12), (3, .float f3), (0, .ref q), (1, .int (nI p9))]) hx hb dX8_nearestBy_130 hl (k := 5) rfl (nI_1 _) (by decide) rfl ?_
                  clear hl
                  clear ls
                  intro ls hl
                  refine lv_goto (tgt := 32) hx hb dX8_nearestBy_133 (by decide) ?_
                  exact ih32 (i + 1) f3 fd (nI i) (by omega) (by rw [nrS_s, if_pos ⟨h105, Or.inl (hb4.symm.trans h111)⟩]) (hf3) (by rw [nrS_s, if_pos ⟨h105, Or.inl (hb4.symm.trans h111)⟩]; exact hd91) (by omega) _ _ (hB) _ (lv_sub hl [5, 2, 1, 0, 6, 7] rfl)
                · skip
                  refine lv_fload hx hb dX8_nearestBy_114 (lv_at hl 0 rfl) ?_
                  refine lv_fload hx hb dX8_nearestBy_116 (lv_at hl 4 rfl) ?_
                  refine zfcmpg hd91 hf5 hx hb dX8_nearestBy_118 (fun cr15 hcr15 => ?_)
                  refine lv_if_ge (tgt := 130) hx hb dX8_nearestBy_119 (by decide) (fun h119 => ?_) (fun h119 => ?_)
                  · skip
                    replace h119 := hcr15.mp h119
                    refine lv_iinc (v := nI (i + 1)) (lv' := [(6, .int (nI (i + 1))), (7, .float fd), (8, .float fr12), (3, .float f3), (4, .int b4), (5, .float f5), (0, .ref q), (1, .int (nI p9))]) hx hb dX8_nearestBy_130 hl (k := 5) rfl (nI_1 _) (by decide) rfl ?_
                    clear hl
                    clear ls
                    intro ls hl
                    refine lv_goto (tgt := 32) hx hb dX8_nearestBy_133 (by decide) ?_
                    exact ih32 (i + 1) f3 f5 b4 (by omega) (by rw [nrS_s, if_neg (fun e8 => e8.2.elim (fun e7 => h111 (hb4.trans e7)) h119)]; exact hb4) (hf3) (by rw [nrS_s, if_neg (fun e8 => e8.2.elim (fun e7 => h111 (hb4.trans e7)) h119)]; exact hf5) (by omega) _ _ (hB) _ (lv_sub hl [3, 4, 5, 0, 6, 7] rfl)
                  · skip
                    replace h119 := (Decidable.of_not_not (fun e9 => h119 (hcr15.mpr e9)))
                    refine lv_iload hx hb dX8_nearestBy_122 (lv_at hl 5 rfl) ?_
                    refine lv_istore (lv' := [(4, .int (nI i)), (7, .float fd), (8, .float fr12), (3, .float f3), (5, .float f5), (6, .int (nI i)), (0, .ref q), (1, .int (nI p9))]) hx hb dX8_nearestBy_124 hl (by decide) rfl ?_
                    clear hl
                    clear ls
                    intro ls hl
                    refine lv_fload hx hb dX8_nearestBy_126 (lv_at hl 1 rfl) ?_
                    refine lv_fstore (lv' := [(5, .float fd), (4, .int (nI i)), (7, .float fd), (8, .float fr12), (3, .float f3), (6, .int (nI i)), (0, .ref q), (1, .int (nI p9))]) hx hb dX8_nearestBy_128 hl (by decide) rfl ?_
                    clear hl
                    clear ls
                    intro ls hl
                    refine lv_iinc (v := nI (i + 1)) (lv' := [(6, .int (nI (i + 1))), (5, .float fd), (4, .int (nI i)), (7, .float fd), (8, .float fr12), (3, .float f3), (0, .ref q), (1, .int (nI p9))]) hx hb dX8_nearestBy_130 hl (k := 5) rfl (nI_1 _) (by decide) rfl ?_
                    clear hl
                    clear ls
                    intro ls hl
                    refine lv_goto (tgt := 32) hx hb dX8_nearestBy_133 (by decide) ?_
                    exact ih32 (i + 1) f3 fd (nI i) (by omega) (by rw [nrS_s, if_pos ⟨h105, Or.inr h119⟩]) (hf3) (by rw [nrS_s, if_pos ⟨h105, Or.inr h119⟩]; exact hd91) (by omega) _ _ (hB) _ (lv_sub hl [5, 2, 1, 0, 6, 7] rfl)
    exact lp32 (12 - 0 + 1) 0 fr2 FP.fconst0 (-1 : Int32) (by omega) (rfl) (by rw [nrE, if_neg h14]; exact hfr2) (E8_0) (by omega) _ _ (hB) _ (lv_sub hl [3, 2, 1, 0, 4, 5] rfl)
  · skip
    replace h14 := (Decidable.of_not_not (fun e9 => h14 (hcr3.mpr e9)))
    refine lv_fload_n hx hb dX8_nearestBy_17 rfl (lv_at hl 0 rfl) ?_
    refine zldcfw (v := (1135869952 : UInt32)) ww_39_20 hF dX8_nearestBy_18 ?_
    have htm := nr_tm v
    refine zfadd (K := ((fvI v).tmod 2880 + 2880)) (E8_add hfr2 E8_360 (by omega)) hx hb dX8_nearestBy_21 (fun fr16 hfr16 => ?_)
    refine lv_fstore_n (lv' := [(3, .float fr16), (0, .ref q), (1, .int (nI p9)), (2, .int v)]) hx hb dX8_nearestBy_22 rfl hl (by decide) rfl ?_
    clear hl
    clear ls
    intro ls hl
    refine lv_iconst (v := -1) hx hb dX8_nearestBy_23 (by decide) ?_
    refine lv_istore (lv' := [(4, .int (-1 : Int32)), (3, .float fr16), (0, .ref q), (1, .int (nI p9)), (2, .int v)]) hx hb dX8_nearestBy_24 hl (by decide) rfl ?_
    clear hl
    clear ls
    intro ls hl
    refine lv_fconst0 hx hb dX8_nearestBy_26 ?_
    refine lv_fstore (lv' := [(5, .float FP.fconst0), (4, .int (-1 : Int32)), (3, .float fr16), (0, .ref q), (1, .int (nI p9)), (2, .int v)]) hx hb dX8_nearestBy_27 hl (by decide) rfl ?_
    clear hl
    clear ls
    intro ls hl
    refine lv_iconst (v := 0) hx hb dX8_nearestBy_29 (by decide) ?_
    refine lv_istore (lv' := [(6, .int (0 : Int32)), (5, .float FP.fconst0), (4, .int (-1 : Int32)), (3, .float fr16), (0, .ref q), (1, .int (nI p9)), (2, .int v)]) hx hb dX8_nearestBy_30 hl (by decide) rfl ?_
    clear hl
    clear ls
    intro ls hl
    have lp32 : ∀ (fl : Nat) (i : Nat) (f3 : UInt32) (f5 : UInt32) (b4 : Int32), (hi : i ≤ 12) → (hb4 : b4 = (nrS (le p9) (nrE v) i).1) → (hf3 : E8 (nrE v) f3) → (hf5 : E8 (nrS (le p9) (nrE v) i).2 f5) → 12 - i < fl → ∀ (H : Heap) (locs : List Loc), zB D A s ([(q, .inr (8, mO ad o z)), ((ad 8), .inl (ka 0, 2, .inl le))]) H locs → ∀ ls : Array Slot, lv_has ls 9 [(3, .float f3), (4, .int b4), (5, .float f5), (6, .int (nI i)), (0, .ref q), (1, .int (nI p9))] → W p l e (zRm 0 0 0 0) s m args below meth c H locs 0 0 Q (F0 m 32 ls []) := by
      intro fl
      induction fl with
      | zero => intro i f3 f5 b4 hi hb4 hf3 hf5 hfl; exact absurd hfl (Nat.not_lt_zero _)
      | succ fl ih32 =>
        intro i f3 f5 b4 hi hb4 hf3 hf5 hfl32 H locs hB ls hl
        refine lv_iload hx hb dX8_nearestBy_32 (lv_at hl 3 rfl) ?_
        refine lv_bipush (v := 12) hx hb dX8_nearestBy_34 (by decide) ?_
        refine lv_icmp_ge (tgt := 136) hx hb dX8_nearestBy_36 (by decide) (fun h36 => ?_) (fun h36 => ?_)
        · skip
          have hi12 : i = 12 := by have := (nI_leI (a := 12) (b := i) (by decide) (by omega)).mp h36; omega
          subst hi12
          refine lv_iload hx hb dX8_nearestBy_136 (lv_at hl 1 rfl) ?_
          exact zreti hF hB () (hb4) (rfl) (rfl) dX8_nearestBy_138 hQ
        · skip
          have hi12 : i < 12 := Nat.not_le.mp (fun e8 => h36 ((nI_leI (a := 12) (b := i) (by decide) (by omega)).mpr e8))
          have hne := nrE_b v
          refine lv_fload_n hx hb dX8_nearestBy_39 rfl (lv_at hl 0 rfl) ?_
          refine zldcfw (v := (1106247680 : UInt32)) ww_39_21 hF dX8_nearestBy_40 ?_
          refine lv_iload hx hb dX8_nearestBy_43 (lv_at hl 3 rfl) ?_
          refine lv_i2f hx hb dX8_nearestBy_45 ?_
          refine zfmul (K := 240 * (i : Int)) (E8_30 hi12) hx hb dX8_nearestBy_46 (fun fr17 hfr17 => ?_)
          refine zfsub (K := (nrE v - 240 * (i : Int))) (E8_sub hf3 hfr17 (by omega)) hx hb dX8_nearestBy_47 (fun fr18 hfr18 => ?_)
          refine lv_fstore (lv' := [(7, .float fr18), (3, .float f3), (4, .int b4), (5, .float f5), (6, .int (nI i)), (0, .ref q), (1, .int (nI p9))]) hx hb dX8_nearestBy_48 hl (by decide) rfl ?_
          clear hl
          clear ls
          intro ls hl
          refine lv_fload hx hb dX8_nearestBy_50 (lv_at hl 0 rfl) ?_
          refine lv_fconst0 hx hb dX8_nearestBy_52 ?_
          refine zfcmpg hfr18 E8_0 hx hb dX8_nearestBy_53 (fun cr19 hcr19 => ?_)
          refine lv_if_ge (tgt := 64) hx hb dX8_nearestBy_54 (by decide) (fun h54 => ?_) (fun h54 => ?_)
          · skip
            replace h54 := hcr19.mp h54
            refine lv_fload hx hb dX8_nearestBy_64 (lv_at hl 0 rfl) ?_
            refine lv_fstore (lv' := [(7, .float fr18), (3, .float f3), (4, .int b4), (5, .float f5), (6, .int (nI i)), (0, .ref q), (1, .int (nI p9))]) hx hb dX8_nearestBy_66 hl (by decide) rfl ?_
            clear hl
            clear ls
            intro ls hl
            refine zldcfw (v := (1135869952 : UInt32)) ww_39_20 hF dX8_nearestBy_68 ?_
            refine lv_fload hx hb dX8_nearestBy_71 (lv_at hl 0 rfl) ?_
            refine zfsub (K := (2880 - (nrE v - 240 * (i : Int)))) (E8_sub E8_360 hfr18 (by omega)) hx hb dX8_nearestBy_73 (fun fr20 hfr20 => ?_)
            refine lv_fstore (lv' := [(8, .float fr20), (7, .float fr18), (3, .float f3), (4, .int b4), (5, .float f5), (6, .int (nI i)), (0, .ref q), (1, .int (nI p9))]) hx hb dX8_nearestBy_74 hl (by decide) rfl ?_
            clear hl
            clear ls
            intro ls hl
            refine lv_fload hx hb dX8_nearestBy_76 (lv_at hl 0 rfl) ?_
            refine lv_fload hx hb dX8_nearestBy_78 (lv_at hl 1 rfl) ?_
            refine zfcmpg hfr20 hfr18 hx hb dX8_nearestBy_80 (fun cr21 hcr21 => ?_)
            refine lv_if_ge (tgt := 89) hx hb dX8_nearestBy_81 (by decide) (fun h81 => ?_) (fun h81 => ?_)
            · skip
              replace h81 := hcr21.mp h81
              refine lv_fload hx hb dX8_nearestBy_89 (lv_at hl 1 rfl) ?_
              refine lv_topf (fun fd hfd => ?_)
              have hd91 : E8 (dK (nrE v) i) fd := by rw [hfd]; exact (by rw [dK, dA, if_neg h54, if_neg h81]; exact hfr18)
              refine lv_fstore (lv' := [(7, .float fd), (8, .float fr20), (3, .float f3), (4, .int b4), (5, .float f5), (6, .int (nI i)), (0, .ref q), (1, .int (nI p9))]) hx hb dX8_nearestBy_91 hl (by decide) rfl ?_
              clear hl
              clear ls
              intro ls hl
              refine lv_aload_n hx hb dX8_nearestBy_93 rfl (lv_at hl 6 rfl) ?_
              refine zget zf_X8_35 hF hB 0 rfl rfl dX8_nearestBy_94 ?_
              refine lv_iload_n hx hb dX8_nearestBy_97 rfl (lv_at hl 7 rfl) ?_
              refine ziald hF hB 1 rfl p9 (rfl) (by omega) (by decide) (v := (le p9)) (rfl) dX8_nearestBy_98 ?_
              refine lv_iload hx hb dX8_nearestBy_99 (lv_at hl 5 rfl) ?_
              refine lv_ishr hx hb dX8_nearestBy_101 ?_
              refine lv_iconst (v := 1) hx hb dX8_nearestBy_102 (by decide) ?_
              refine lv_iand hx hb dX8_nearestBy_103 ?_
              refine ztopi (y := lgX (le p9) i) (rfl) ?_
              refine lv_iconst (v := 1) hx hb dX8_nearestBy_104 (by decide) ?_
              refine lv_icmp_ne (tgt := 130) hx hb dX8_nearestBy_105 (by decide) (fun h105 => ?_) (fun h105 => ?_)
              · skip
                refine lv_iinc (v := nI (i + 1)) (lv' := [(6, .int (nI (i + 1))), (7, .float fd), (8, .float fr20), (3, .float f3), (4, .int b4), (5, .float f5), (0, .ref q), (1, .int (nI p9))]) hx hb dX8_nearestBy_130 hl (k := 5) rfl (nI_1 _) (by decide) rfl ?_
                clear hl
                clear ls
                intro ls hl
                refine lv_goto (tgt := 32) hx hb dX8_nearestBy_133 (by decide) ?_
                exact ih32 (i + 1) f3 f5 b4 (by omega) (by rw [nrS_s, if_neg (fun e8 => h105 e8.1)]; exact hb4) (hf3) (by rw [nrS_s, if_neg (fun e8 => h105 e8.1)]; exact hf5) (by omega) _ _ (hB) _ (lv_sub hl [3, 4, 5, 0, 6, 7] rfl)
              · skip
                refine lv_iload hx hb dX8_nearestBy_108 (lv_at hl 3 rfl) ?_
                refine lv_iconst (v := -1) hx hb dX8_nearestBy_110 (by decide) ?_
                refine lv_icmp_eq (tgt := 122) hx hb dX8_nearestBy_111 (by decide) (fun h111 => ?_) (fun h111 => ?_)
                · skip
                  refine lv_iload hx hb dX8_nearestBy_122 (lv_at hl 5 rfl) ?_
                  refine lv_istore (lv' := [(4, .int (nI i)), (7, .float fd), (8, .float fr20), (3, .float f3), (5, .float f5), (6, .int (nI i)), (0, .ref q), (1, .int (nI p9))]) hx hb dX8_nearestBy_124 hl (by decide) rfl ?_
                  clear hl
                  clear ls
                  intro ls hl
                  refine lv_fload hx hb dX8_nearestBy_126 (lv_at hl 1 rfl) ?_
                  refine lv_fstore (lv' := [(5, .float fd), (4, .int (nI i)), (7, .float fd), (8, .float fr20), (3, .float f3), (6, .int (nI i)), (0, .ref q), (1, .int (nI p9))]) hx hb dX8_nearestBy_128 hl (by decide) rfl ?_
                  clear hl
                  clear ls
                  intro ls hl
                  refine lv_iinc (v := nI (i + 1)) (lv' := [(6, .int (nI (i + 1))), (5, .float fd), (4, .int (nI i)), (7, .float fd), (8, .float fr20), (3, .float f3), (0, .ref q), (1, .int (nI p9))]) hx hb dX8_nearestBy_130 hl (k := 5) rfl (nI_1 _) (by decide) rfl ?_
                  clear hl
                  clear ls
                  intro ls hl
                  refine lv_goto (tgt := 32) hx hb dX8_nearestBy_133 (by decide) ?_
                  exact ih32 (i + 1) f3 fd (nI i) (by omega) (by rw [nrS_s, if_pos ⟨h105, Or.inl (hb4.symm.trans h111)⟩]) (hf3) (by rw [nrS_s, if_pos ⟨h105, Or.inl (hb4.symm.trans h111)⟩]; exact hd91) (by omega) _ _ (hB) _ (lv_sub hl [5, 2, 1, 0, 6, 7] rfl)
                · skip
                  refine lv_fload hx hb dX8_nearestBy_114 (lv_at hl 0 rfl) ?_
                  refine lv_fload hx hb dX8_nearestBy_116 (lv_at hl 4 rfl) ?_
                  refine zfcmpg hd91 hf5 hx hb dX8_nearestBy_118 (fun cr22 hcr22 => ?_)
                  refine lv_if_ge (tgt := 130) hx hb dX8_nearestBy_119 (by decide) (fun h119 => ?_) (fun h119 => ?_)
                  · skip
                    replace h119 := hcr22.mp h119
                    refine lv_iinc (v := nI (i + 1)) (lv' := [(6, .int (nI (i + 1))), (7, .float fd), (8, .float fr20), (3, .float f3), (4, .int b4), (5, .float f5), (0, .ref q), (1, .int (nI p9))]) hx hb dX8_nearestBy_130 hl (k := 5) rfl (nI_1 _) (by decide) rfl ?_
                    clear hl
                    clear ls
                    intro ls hl
                    refine lv_goto (tgt := 32) hx hb dX8_nearestBy_133 (by decide) ?_
                    exact ih32 (i + 1) f3 f5 b4 (by omega) (by rw [nrS_s, if_neg (fun e8 => e8.2.elim (fun e7 => h111 (hb4.trans e7)) h119)]; exact hb4) (hf3) (by rw [nrS_s, if_neg (fun e8 => e8.2.elim (fun e7 => h111 (hb4.trans e7)) h119)]; exact hf5) (by omega) _ _ (hB) _ (lv_sub hl [3, 4, 5, 0, 6, 7] rfl)
                  · skip
                    replace h119 := (Decidable.of_not_not (fun e9 => h119 (hcr22.mpr e9)))
                    refine lv_iload hx hb dX8_nearestBy_122 (lv_at hl 5 rfl) ?_
                    refine lv_istore (lv' := [(4, .int (nI i)), (7, .float fd), (8, .float fr20), (3, .float f3), (5, .float f5), (6, .int (nI i)), (0, .ref q), (1, .int (nI p9))]) hx hb dX8_nearestBy_124 hl (by decide) rfl ?_
                    clear hl
                    clear ls
                    intro ls hl
                    refine lv_fload hx hb dX8_nearestBy_126 (lv_at hl 1 rfl) ?_
                    refine lv_fstore (lv' := [(5, .float fd), (4, .int (nI i)), (7, .float fd), (8, .float fr20), (3, .float f3), (6, .int (nI i)), (0, .ref q), (1, .int (nI p9))]) hx hb dX8_nearestBy_128 hl (by decide) rfl ?_
                    clear hl
                    clear ls
                    intro ls hl
                    refine lv_iinc (v := nI (i + 1)) (lv' := [(6, .int (nI (i + 1))), (5, .float fd), (4, .int (nI i)), (7, .float fd), (8, .float fr20), (3, .float f3), (0, .ref q), (1, .int (nI p9))]) hx hb dX8_nearestBy_130 hl (k := 5) rfl (nI_1 _) (by decide) rfl ?_
                    clear hl
                    clear ls
                    intro ls hl
                    refine lv_goto (tgt := 32) hx hb dX8_nearestBy_133 (by decide) ?_
                    exact ih32 (i + 1) f3 fd (nI i) (by omega) (by rw [nrS_s, if_pos ⟨h105, Or.inr h119⟩]) (hf3) (by rw [nrS_s, if_pos ⟨h105, Or.inr h119⟩]; exact hd91) (by omega) _ _ (hB) _ (lv_sub hl [5, 2, 1, 0, 6, 7] rfl)
            · skip
              replace h81 := (Decidable.of_not_not (fun e9 => h81 (hcr21.mpr e9)))
              refine lv_fload hx hb dX8_nearestBy_84 (lv_at hl 0 rfl) ?_
              refine lv_goto (tgt := 91) hx hb dX8_nearestBy_86 (by decide) ?_
              refine lv_topf (fun fd hfd => ?_)
              have hd91 : E8 (dK (nrE v) i) fd := by rw [hfd]; exact (by rw [dK, dA, if_neg h54, if_pos h81]; exact hfr20)
              refine lv_fstore (lv' := [(7, .float fd), (8, .float fr20), (3, .float f3), (4, .int b4), (5, .float f5), (6, .int (nI i)), (0, .ref q), (1, .int (nI p9))]) hx hb dX8_nearestBy_91 hl (by decide) rfl ?_
              clear hl
              clear ls
              intro ls hl
              refine lv_aload_n hx hb dX8_nearestBy_93 rfl (lv_at hl 6 rfl) ?_
              refine zget zf_X8_35 hF hB 0 rfl rfl dX8_nearestBy_94 ?_
              refine lv_iload_n hx hb dX8_nearestBy_97 rfl (lv_at hl 7 rfl) ?_
              refine ziald hF hB 1 rfl p9 (rfl) (by omega) (by decide) (v := (le p9)) (rfl) dX8_nearestBy_98 ?_
              refine lv_iload hx hb dX8_nearestBy_99 (lv_at hl 5 rfl) ?_
              refine lv_ishr hx hb dX8_nearestBy_101 ?_
              refine lv_iconst (v := 1) hx hb dX8_nearestBy_102 (by decide) ?_
              refine lv_iand hx hb dX8_nearestBy_103 ?_
              refine ztopi (y := lgX (le p9) i) (rfl) ?_
              refine lv_iconst (v := 1) hx hb dX8_nearestBy_104 (by decide) ?_
              refine lv_icmp_ne (tgt := 130) hx hb dX8_nearestBy_105 (by decide) (fun h105 => ?_) (fun h105 => ?_)
              · skip
                refine lv_iinc (v := nI (i + 1)) (lv' := [(6, .int (nI (i + 1))), (7, .float fd), (8, .float fr20), (3, .float f3), (4, .int b4), (5, .float f5), (0, .ref q), (1, .int (nI p9))]) hx hb dX8_nearestBy_130 hl (k := 5) rfl (nI_1 _) (by decide) rfl ?_
                clear hl
                clear ls
                intro ls hl
                refine lv_goto (tgt := 32) hx hb dX8_nearestBy_133 (by decide) ?_
                exact ih32 (i + 1) f3 f5 b4 (by omega) (by rw [nrS_s, if_neg (fun e8 => h105 e8.1)]; exact hb4) (hf3) (by rw [nrS_s, if_neg (fun e8 => h105 e8.1)]; exact hf5) (by omega) _ _ (hB) _ (lv_sub hl [3, 4, 5, 0, 6, 7] rfl)
              · skip
                refine lv_iload hx hb dX8_nearestBy_108 (lv_at hl 3 rfl) ?_
                refine lv_iconst (v := -1) hx hb dX8_nearestBy_110 (by decide) ?_
                refine lv_icmp_eq (tgt := 122) hx hb dX8_nearestBy_111 (by decide) (fun h111 => ?_) (fun h111 => ?_)
                · skip
                  refine lv_iload hx hb dX8_nearestBy_122 (lv_at hl 5 rfl) ?_
                  refine lv_istore (lv' := [(4, .int (nI i)), (7, .float fd), (8, .float fr20), (3, .float f3), (5, .float f5), (6, .int (nI i)), (0, .ref q), (1, .int (nI p9))]) hx hb dX8_nearestBy_124 hl (by decide) rfl ?_
                  clear hl
                  clear ls
                  intro ls hl
                  refine lv_fload hx hb dX8_nearestBy_126 (lv_at hl 1 rfl) ?_
                  refine lv_fstore (lv' := [(5, .float fd), (4, .int (nI i)), (7, .float fd), (8, .float fr20), (3, .float f3), (6, .int (nI i)), (0, .ref q), (1, .int (nI p9))]) hx hb dX8_nearestBy_128 hl (by decide) rfl ?_
                  clear hl
                  clear ls
                  intro ls hl
                  refine lv_iinc (v := nI (i + 1)) (lv' := [(6, .int (nI (i + 1))), (5, .float fd), (4, .int (nI i)), (7, .float fd), (8, .float fr20), (3, .float f3), (0, .ref q), (1, .int (nI p9))]) hx hb dX8_nearestBy_130 hl (k := 5) rfl (nI_1 _) (by decide) rfl ?_
                  clear hl
                  clear ls
                  intro ls hl
                  refine lv_goto (tgt := 32) hx hb dX8_nearestBy_133 (by decide) ?_
                  exact ih32 (i + 1) f3 fd (nI i) (by omega) (by rw [nrS_s, if_pos ⟨h105, Or.inl (hb4.symm.trans h111)⟩]) (hf3) (by rw [nrS_s, if_pos ⟨h105, Or.inl (hb4.symm.trans h111)⟩]; exact hd91) (by omega) _ _ (hB) _ (lv_sub hl [5, 2, 1, 0, 6, 7] rfl)
                · skip
                  refine lv_fload hx hb dX8_nearestBy_114 (lv_at hl 0 rfl) ?_
                  refine lv_fload hx hb dX8_nearestBy_116 (lv_at hl 4 rfl) ?_
                  refine zfcmpg hd91 hf5 hx hb dX8_nearestBy_118 (fun cr23 hcr23 => ?_)
                  refine lv_if_ge (tgt := 130) hx hb dX8_nearestBy_119 (by decide) (fun h119 => ?_) (fun h119 => ?_)
                  · skip
                    replace h119 := hcr23.mp h119
                    refine lv_iinc (v := nI (i + 1)) (lv' := [(6, .int (nI (i + 1))), (7, .float fd), (8, .float fr20), (3, .float f3), (4, .int b4), (5, .float f5), (0, .ref q), (1, .int (nI p9))]) hx hb dX8_nearestBy_130 hl (k := 5) rfl (nI_1 _) (by decide) rfl ?_
                    clear hl
                    clear ls
                    intro ls hl
                    refine lv_goto (tgt := 32) hx hb dX8_nearestBy_133 (by decide) ?_
                    exact ih32 (i + 1) f3 f5 b4 (by omega) (by rw [nrS_s, if_neg (fun e8 => e8.2.elim (fun e7 => h111 (hb4.trans e7)) h119)]; exact hb4) (hf3) (by rw [nrS_s, if_neg (fun e8 => e8.2.elim (fun e7 => h111 (hb4.trans e7)) h119)]; exact hf5) (by omega) _ _ (hB) _ (lv_sub hl [3, 4, 5, 0, 6, 7] rfl)
                  · skip
                    replace h119 := (Decidable.of_not_not (fun e9 => h119 (hcr23.mpr e9)))
                    refine lv_iload hx hb dX8_nearestBy_122 (lv_at hl 5 rfl) ?_
                    refine lv_istore (lv' := [(4, .int (nI i)), (7, .float fd), (8, .float fr20), (3, .float f3), (5, .float f5), (6, .int (nI i)), (0, .ref q), (1, .int (nI p9))]) hx hb dX8_nearestBy_124 hl (by decide) rfl ?_
                    clear hl
                    clear ls
                    intro ls hl
                    refine lv_fload hx hb dX8_nearestBy_126 (lv_at hl 1 rfl) ?_
                    refine lv_fstore (lv' := [(5, .float fd), (4, .int (nI i)), (7, .float fd), (8, .float fr20), (3, .float f3), (6, .int (nI i)), (0, .ref q), (1, .int (nI p9))]) hx hb dX8_nearestBy_128 hl (by decide) rfl ?_
                    clear hl
                    clear ls
                    intro ls hl
                    refine lv_iinc (v := nI (i + 1)) (lv' := [(6, .int (nI (i + 1))), (5, .float fd), (4, .int (nI i)), (7, .float fd), (8, .float fr20), (3, .float f3), (0, .ref q), (1, .int (nI p9))]) hx hb dX8_nearestBy_130 hl (k := 5) rfl (nI_1 _) (by decide) rfl ?_
                    clear hl
                    clear ls
                    intro ls hl
                    refine lv_goto (tgt := 32) hx hb dX8_nearestBy_133 (by decide) ?_
                    exact ih32 (i + 1) f3 fd (nI i) (by omega) (by rw [nrS_s, if_pos ⟨h105, Or.inr h119⟩]) (hf3) (by rw [nrS_s, if_pos ⟨h105, Or.inr h119⟩]; exact hd91) (by omega) _ _ (hB) _ (lv_sub hl [5, 2, 1, 0, 6, 7] rfl)
          · skip
            replace h54 := (Decidable.of_not_not (fun e9 => h54 (hcr19.mpr e9)))
            refine lv_fconst0 hx hb dX8_nearestBy_57 ?_
            refine lv_fload hx hb dX8_nearestBy_58 (lv_at hl 0 rfl) ?_
            refine zfsub (K := (0 - (nrE v - 240 * (i : Int)))) (E8_sub E8_0 hfr18 (by omega)) hx hb dX8_nearestBy_60 (fun fr24 hfr24 => ?_)
            refine lv_goto (tgt := 66) hx hb dX8_nearestBy_61 (by decide) ?_
            refine lv_fstore (lv' := [(7, .float fr24), (3, .float f3), (4, .int b4), (5, .float f5), (6, .int (nI i)), (0, .ref q), (1, .int (nI p9))]) hx hb dX8_nearestBy_66 hl (by decide) rfl ?_
            clear hl
            clear ls
            intro ls hl
            refine zldcfw (v := (1135869952 : UInt32)) ww_39_20 hF dX8_nearestBy_68 ?_
            refine lv_fload hx hb dX8_nearestBy_71 (lv_at hl 0 rfl) ?_
            refine zfsub (K := (2880 - (0 - (nrE v - 240 * (i : Int))))) (E8_sub E8_360 hfr24 (by omega)) hx hb dX8_nearestBy_73 (fun fr25 hfr25 => ?_)
            refine lv_fstore (lv' := [(8, .float fr25), (7, .float fr24), (3, .float f3), (4, .int b4), (5, .float f5), (6, .int (nI i)), (0, .ref q), (1, .int (nI p9))]) hx hb dX8_nearestBy_74 hl (by decide) rfl ?_
            clear hl
            clear ls
            intro ls hl
            refine lv_fload hx hb dX8_nearestBy_76 (lv_at hl 0 rfl) ?_
            refine lv_fload hx hb dX8_nearestBy_78 (lv_at hl 1 rfl) ?_
            refine zfcmpg hfr25 hfr24 hx hb dX8_nearestBy_80 (fun cr26 hcr26 => ?_)
            refine lv_if_ge (tgt := 89) hx hb dX8_nearestBy_81 (by decide) (fun h81 => ?_) (fun h81 => ?_)
            · skip
              replace h81 := hcr26.mp h81
              refine lv_fload hx hb dX8_nearestBy_89 (lv_at hl 1 rfl) ?_
              refine lv_topf (fun fd hfd => ?_)
              have hd91 : E8 (dK (nrE v) i) fd := by rw [hfd]; exact (by rw [dK, dA, if_pos h54, if_neg h81]; exact hfr24)
              refine lv_fstore (lv' := [(7, .float fd), (8, .float fr25), (3, .float f3), (4, .int b4), (5, .float f5), (6, .int (nI i)), (0, .ref q), (1, .int (nI p9))]) hx hb dX8_nearestBy_91 hl (by decide) rfl ?_
              clear hl
              clear ls
              intro ls hl
              refine lv_aload_n hx hb dX8_nearestBy_93 rfl (lv_at hl 6 rfl) ?_
              refine zget zf_X8_35 hF hB 0 rfl rfl dX8_nearestBy_94 ?_
              refine lv_iload_n hx hb dX8_nearestBy_97 rfl (lv_at hl 7 rfl) ?_
              refine ziald hF hB 1 rfl p9 (rfl) (by omega) (by decide) (v := (le p9)) (rfl) dX8_nearestBy_98 ?_
              refine lv_iload hx hb dX8_nearestBy_99 (lv_at hl 5 rfl) ?_
              refine lv_ishr hx hb dX8_nearestBy_101 ?_
              refine lv_iconst (v := 1) hx hb dX8_nearestBy_102 (by decide) ?_
              refine lv_iand hx hb dX8_nearestBy_103 ?_
              refine ztopi (y := lgX (le p9) i) (rfl) ?_
              refine lv_iconst (v := 1) hx hb dX8_nearestBy_104 (by decide) ?_
              refine lv_icmp_ne (tgt := 130) hx hb dX8_nearestBy_105 (by decide) (fun h105 => ?_) (fun h105 => ?_)
              · skip
                refine lv_iinc (v := nI (i + 1)) (lv' := [(6, .int (nI (i + 1))), (7, .float fd), (8, .float fr25), (3, .float f3), (4, .int b4), (5, .float f5), (0, .ref q), (1, .int (nI p9))]) hx hb dX8_nearestBy_130 hl (k := 5) rfl (nI_1 _) (by decide) rfl ?_
                clear hl
                clear ls
                intro ls hl
                refine lv_goto (tgt := 32) hx hb dX8_nearestBy_133 (by decide) ?_
                exact ih32 (i + 1) f3 f5 b4 (by omega) (by rw [nrS_s, if_neg (fun e8 => h105 e8.1)]; exact hb4) (hf3) (by rw [nrS_s, if_neg (fun e8 => h105 e8.1)]; exact hf5) (by omega) _ _ (hB) _ (lv_sub hl [3, 4, 5, 0, 6, 7] rfl)
              · skip
                refine lv_iload hx hb dX8_nearestBy_108 (lv_at hl 3 rfl) ?_
                refine lv_iconst (v := -1) hx hb dX8_nearestBy_110 (by decide) ?_
                refine lv_icmp_eq (tgt := 122) hx hb dX8_nearestBy_111 (by decide) (fun h111 => ?_) (fun h111 => ?_)
                · skip
                  refine lv_iload hx hb dX8_nearestBy_122 (lv_at hl 5 rfl) ?_
                  refine lv_istore (lv' := [(4, .int (nI i)), (7, .float fd), (8, .float fr25), (3, .float f3), (5, .float f5), (6, .int (nI i)), (0, .ref q), (1, .int (nI p9))]) hx hb dX8_nearestBy_124 hl (by decide) rfl ?_
                  clear hl
                  clear ls
                  intro ls hl
                  refine lv_fload hx hb dX8_nearestBy_126 (lv_at hl 1 rfl) ?_
                  refine lv_fstore (lv' := [(5, .float fd), (4, .int (nI i)), (7, .float fd), (8, .float fr25), (3, .float f3), (6, .int (nI i)), (0, .ref q), (1, .int (nI p9))]) hx hb dX8_nearestBy_128 hl (by decide) rfl ?_
                  clear hl
                  clear ls
                  intro ls hl
                  refine lv_iinc (v := nI (i + 1)) (lv' := [(6, .int (nI (i + 1))), (5, .float fd), (4, .int (nI i)), (7, .float fd), (8, .float fr25), (3, .float f3), (0, .ref q), (1, .int (nI p9))]) hx hb dX8_nearestBy_130 hl (k := 5) rfl (nI_1 _) (by decide) rfl ?_
                  clear hl
                  clear ls
                  intro ls hl
                  refine lv_goto (tgt := 32) hx hb dX8_nearestBy_133 (by decide) ?_
                  exact ih32 (i + 1) f3 fd (nI i) (by omega) (by rw [nrS_s, if_pos ⟨h105, Or.inl (hb4.symm.trans h111)⟩]) (hf3) (by rw [nrS_s, if_pos ⟨h105, Or.inl (hb4.symm.trans h111)⟩]; exact hd91) (by omega) _ _ (hB) _ (lv_sub hl [5, 2, 1, 0, 6, 7] rfl)
                · skip
                  refine lv_fload hx hb dX8_nearestBy_114 (lv_at hl 0 rfl) ?_
                  refine lv_fload hx hb dX8_nearestBy_116 (lv_at hl 4 rfl) ?_
                  refine zfcmpg hd91 hf5 hx hb dX8_nearestBy_118 (fun cr27 hcr27 => ?_)
                  refine lv_if_ge (tgt := 130) hx hb dX8_nearestBy_119 (by decide) (fun h119 => ?_) (fun h119 => ?_)
                  · skip
                    replace h119 := hcr27.mp h119
                    refine lv_iinc (v := nI (i + 1)) (lv' := [(6, .int (nI (i + 1))), (7, .float fd), (8, .float fr25), (3, .float f3), (4, .int b4), (5, .float f5), (0, .ref q), (1, .int (nI p9))]) hx hb dX8_nearestBy_130 hl (k := 5) rfl (nI_1 _) (by decide) rfl ?_
                    clear hl
                    clear ls
                    intro ls hl
                    refine lv_goto (tgt := 32) hx hb dX8_nearestBy_133 (by decide) ?_
                    exact ih32 (i + 1) f3 f5 b4 (by omega) (by rw [nrS_s, if_neg (fun e8 => e8.2.elim (fun e7 => h111 (hb4.trans e7)) h119)]; exact hb4) (hf3) (by rw [nrS_s, if_neg (fun e8 => e8.2.elim (fun e7 => h111 (hb4.trans e7)) h119)]; exact hf5) (by omega) _ _ (hB) _ (lv_sub hl [3, 4, 5, 0, 6, 7] rfl)
                  · skip
                    replace h119 := (Decidable.of_not_not (fun e9 => h119 (hcr27.mpr e9)))
                    refine lv_iload hx hb dX8_nearestBy_122 (lv_at hl 5 rfl) ?_
                    refine lv_istore (lv' := [(4, .int (nI i)), (7, .float fd), (8, .float fr25), (3, .float f3), (5, .float f5), (6, .int (nI i)), (0, .ref q), (1, .int (nI p9))]) hx hb dX8_nearestBy_124 hl (by decide) rfl ?_
                    clear hl
                    clear ls
                    intro ls hl
                    refine lv_fload hx hb dX8_nearestBy_126 (lv_at hl 1 rfl) ?_
                    refine lv_fstore (lv' := [(5, .float fd), (4, .int (nI i)), (7, .float fd), (8, .float fr25), (3, .float f3), (6, .int (nI i)), (0, .ref q), (1, .int (nI p9))]) hx hb dX8_nearestBy_128 hl (by decide) rfl ?_
                    clear hl
                    clear ls
                    intro ls hl
                    refine lv_iinc (v := nI (i + 1)) (lv' := [(6, .int (nI (i + 1))), (5, .float fd), (4, .int (nI i)), (7, .float fd), (8, .float fr25), (3, .float f3), (0, .ref q), (1, .int (nI p9))]) hx hb dX8_nearestBy_130 hl (k := 5) rfl (nI_1 _) (by decide) rfl ?_
                    clear hl
                    clear ls
                    intro ls hl
                    refine lv_goto (tgt := 32) hx hb dX8_nearestBy_133 (by decide) ?_
                    exact ih32 (i + 1) f3 fd (nI i) (by omega) (by rw [nrS_s, if_pos ⟨h105, Or.inr h119⟩]) (hf3) (by rw [nrS_s, if_pos ⟨h105, Or.inr h119⟩]; exact hd91) (by omega) _ _ (hB) _ (lv_sub hl [5, 2, 1, 0, 6, 7] rfl)
            · skip
              replace h81 := (Decidable.of_not_not (fun e9 => h81 (hcr26.mpr e9)))
              refine lv_fload hx hb dX8_nearestBy_84 (lv_at hl 0 rfl) ?_
              refine lv_goto (tgt := 91) hx hb dX8_nearestBy_86 (by decide) ?_
              refine lv_topf (fun fd hfd => ?_)
              have hd91 : E8 (dK (nrE v) i) fd := by rw [hfd]; exact (by rw [dK, dA, if_pos h54, if_pos h81]; exact hfr25)
              refine lv_fstore (lv' := [(7, .float fd), (8, .float fr25), (3, .float f3), (4, .int b4), (5, .float f5), (6, .int (nI i)), (0, .ref q), (1, .int (nI p9))]) hx hb dX8_nearestBy_91 hl (by decide) rfl ?_
              clear hl
              clear ls
              intro ls hl
              refine lv_aload_n hx hb dX8_nearestBy_93 rfl (lv_at hl 6 rfl) ?_
              refine zget zf_X8_35 hF hB 0 rfl rfl dX8_nearestBy_94 ?_
              refine lv_iload_n hx hb dX8_nearestBy_97 rfl (lv_at hl 7 rfl) ?_
              refine ziald hF hB 1 rfl p9 (rfl) (by omega) (by decide) (v := (le p9)) (rfl) dX8_nearestBy_98 ?_
              refine lv_iload hx hb dX8_nearestBy_99 (lv_at hl 5 rfl) ?_
              refine lv_ishr hx hb dX8_nearestBy_101 ?_
              refine lv_iconst (v := 1) hx hb dX8_nearestBy_102 (by decide) ?_
              refine lv_iand hx hb dX8_nearestBy_103 ?_
              refine ztopi (y := lgX (le p9) i) (rfl) ?_
              refine lv_iconst (v := 1) hx hb dX8_nearestBy_104 (by decide) ?_
              refine lv_icmp_ne (tgt := 130) hx hb dX8_nearestBy_105 (by decide) (fun h105 => ?_) (fun h105 => ?_)
              · skip
                refine lv_iinc (v := nI (i + 1)) (lv' := [(6, .int (nI (i + 1))), (7, .float fd), (8, .float fr25), (3, .float f3), (4, .int b4), (5, .float f5), (0, .ref q), (1, .int (nI p9))]) hx hb dX8_nearestBy_130 hl (k := 5) rfl (nI_1 _) (by decide) rfl ?_
                clear hl
                clear ls
                intro ls hl
                refine lv_goto (tgt := 32) hx hb dX8_nearestBy_133 (by decide) ?_
                exact ih32 (i + 1) f3 f5 b4 (by omega) (by rw [nrS_s, if_neg (fun e8 => h105 e8.1)]; exact hb4) (hf3) (by rw [nrS_s, if_neg (fun e8 => h105 e8.1)]; exact hf5) (by omega) _ _ (hB) _ (lv_sub hl [3, 4, 5, 0, 6, 7] rfl)
              · skip
                refine lv_iload hx hb dX8_nearestBy_108 (lv_at hl 3 rfl) ?_
                refine lv_iconst (v := -1) hx hb dX8_nearestBy_110 (by decide) ?_
                refine lv_icmp_eq (tgt := 122) hx hb dX8_nearestBy_111 (by decide) (fun h111 => ?_) (fun h111 => ?_)
                · skip
                  refine lv_iload hx hb dX8_nearestBy_122 (lv_at hl 5 rfl) ?_
                  refine lv_istore (lv' := [(4, .int (nI i)), (7, .float fd), (8, .float fr25), (3, .float f3), (5, .float f5), (6, .int (nI i)), (0, .ref q), (1, .int (nI p9))]) hx hb dX8_nearestBy_124 hl (by decide) rfl ?_
                  clear hl
                  clear ls
                  intro ls hl
                  refine lv_fload hx hb dX8_nearestBy_126 (lv_at hl 1 rfl) ?_
                  refine lv_fstore (lv' := [(5, .float fd), (4, .int (nI i)), (7, .float fd), (8, .float fr25), (3, .float f3), (6, .int (nI i)), (0, .ref q), (1, .int (nI p9))]) hx hb dX8_nearestBy_128 hl (by decide) rfl ?_
                  clear hl
                  clear ls
                  intro ls hl
                  refine lv_iinc (v := nI (i + 1)) (lv' := [(6, .int (nI (i + 1))), (5, .float fd), (4, .int (nI i)), (7, .float fd), (8, .float fr25), (3, .float f3), (0, .ref q), (1, .int (nI p9))]) hx hb dX8_nearestBy_130 hl (k := 5) rfl (nI_1 _) (by decide) rfl ?_
                  clear hl
                  clear ls
                  intro ls hl
                  refine lv_goto (tgt := 32) hx hb dX8_nearestBy_133 (by decide) ?_
                  exact ih32 (i + 1) f3 fd (nI i) (by omega) (by rw [nrS_s, if_pos ⟨h105, Or.inl (hb4.symm.trans h111)⟩]) (hf3) (by rw [nrS_s, if_pos ⟨h105, Or.inl (hb4.symm.trans h111)⟩]; exact hd91) (by omega) _ _ (hB) _ (lv_sub hl [5, 2, 1, 0, 6, 7] rfl)
                · skip
                  refine lv_fload hx hb dX8_nearestBy_114 (lv_at hl 0 rfl) ?_
                  refine lv_fload hx hb dX8_nearestBy_116 (lv_at hl 4 rfl) ?_
                  refine zfcmpg hd91 hf5 hx hb dX8_nearestBy_118 (fun cr28 hcr28 => ?_)
                  refine lv_if_ge (tgt := 130) hx hb dX8_nearestBy_119 (by decide) (fun h119 => ?_) (fun h119 => ?_)
                  · skip
                    replace h119 := hcr28.mp h119
                    refine lv_iinc (v := nI (i + 1)) (lv' := [(6, .int (nI (i + 1))), (7, .float fd), (8, .float fr25), (3, .float f3), (4, .int b4), (5, .float f5), (0, .ref q), (1, .int (nI p9))]) hx hb dX8_nearestBy_130 hl (k := 5) rfl (nI_1 _) (by decide) rfl ?_
                    clear hl
                    clear ls
                    intro ls hl
                    refine lv_goto (tgt := 32) hx hb dX8_nearestBy_133 (by decide) ?_
                    exact ih32 (i + 1) f3 f5 b4 (by omega) (by rw [nrS_s, if_neg (fun e8 => e8.2.elim (fun e7 => h111 (hb4.trans e7)) h119)]; exact hb4) (hf3) (by rw [nrS_s, if_neg (fun e8 => e8.2.elim (fun e7 => h111 (hb4.trans e7)) h119)]; exact hf5) (by omega) _ _ (hB) _ (lv_sub hl [3, 4, 5, 0, 6, 7] rfl)
                  · skip
                    replace h119 := (Decidable.of_not_not (fun e9 => h119 (hcr28.mpr e9)))
                    refine lv_iload hx hb dX8_nearestBy_122 (lv_at hl 5 rfl) ?_
                    refine lv_istore (lv' := [(4, .int (nI i)), (7, .float fd), (8, .float fr25), (3, .float f3), (5, .float f5), (6, .int (nI i)), (0, .ref q), (1, .int (nI p9))]) hx hb dX8_nearestBy_124 hl (by decide) rfl ?_
                    clear hl
                    clear ls
                    intro ls hl
                    refine lv_fload hx hb dX8_nearestBy_126 (lv_at hl 1 rfl) ?_
                    refine lv_fstore (lv' := [(5, .float fd), (4, .int (nI i)), (7, .float fd), (8, .float fr25), (3, .float f3), (6, .int (nI i)), (0, .ref q), (1, .int (nI p9))]) hx hb dX8_nearestBy_128 hl (by decide) rfl ?_
                    clear hl
                    clear ls
                    intro ls hl
                    refine lv_iinc (v := nI (i + 1)) (lv' := [(6, .int (nI (i + 1))), (5, .float fd), (4, .int (nI i)), (7, .float fd), (8, .float fr25), (3, .float f3), (0, .ref q), (1, .int (nI p9))]) hx hb dX8_nearestBy_130 hl (k := 5) rfl (nI_1 _) (by decide) rfl ?_
                    clear hl
                    clear ls
                    intro ls hl
                    refine lv_goto (tgt := 32) hx hb dX8_nearestBy_133 (by decide) ?_
                    exact ih32 (i + 1) f3 fd (nI i) (by omega) (by rw [nrS_s, if_pos ⟨h105, Or.inr h119⟩]) (hf3) (by rw [nrS_s, if_pos ⟨h105, Or.inr h119⟩]; exact hd91) (by omega) _ _ (hB) _ (lv_sub hl [5, 2, 1, 0, 6, 7] rfl)
    exact lp32 (12 - 0 + 1) 0 fr16 FP.fconst0 (-1 : Int32) (by omega) (rfl) (by rw [nrE, if_pos h14]; exact hfr16) (E8_0) (by omega) _ _ (hB) _ (lv_sub hl [3, 2, 1, 0, 4, 5] rfl)
