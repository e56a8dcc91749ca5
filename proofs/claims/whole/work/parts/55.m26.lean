theorem faN_0 {m : Int32} {a : Nat} {up : Bool} : ∀ k, k ≤ 12 → faN m a up k ≤ 12 := by
  intro k
  induction k with
  | zero => intro _; exact Nat.le_refl _
  | succ k ih =>
    intro h
    rw [faM_s]
    split
    · omega
    · exact ih (by omega)
theorem faN_1 {m : Int32} {a : Nat} {up : Bool} : ∀ k, k ≤ 12 → 1 ≤ faN m a up k := by
  intro k
  induction k with
  | zero => intro _; show 1 ≤ 12; omega
  | succ k ih =>
    intro h
    rw [faM_s]
    split
    · omega
    · exact ih (by omega)
theorem faN_b {m : Int32} {a : Nat} {up : Bool} : 1 ≤ faN m a up 12 ∧ faN m a up 12 ≤ 12 := by
  exact ⟨faN_1 12 (by omega), faN_0 12 (by omega)⟩
theorem sp_i {a b : Nat} (h : b ≤ 12) : nI a - nI b + 12 = nI (a + 12 - b) := by
  have h9 : nI (a + 12 - b) + nI b = nI a + 12 := by rw [nI_add, show a + 12 - b + b = a + 12 by omega]; exact (nI_add a 12).symm
  rw [Int32.sub_eq_add_neg, Int32.add_assoc, Int32.add_comm (-nI b) 12, ← Int32.add_assoc, ← h9, ← Int32.sub_eq_add_neg, Int32.add_sub_cancel]
def spA (a : Nat) (mq : Int32) (cc : Nat) : Int32 := if nI cc = 0 then nI a else if nI cc = 4 then -1 else if nI cc = 1 then mq else if nI cc = 3 ∨ nI cc = 7 then 1 else 0
/-- what a split answers, and the numbers behind it -/
def spZ (m : Int32) (a : Nat) (mq : Int32) (cc : Nat) (nu : Nat → Int64) : Int32 × (Nat → Int64) :=
  if lgX m a = 1 then (spA a mq cc, nu)
  else if 6 ≤ faN m a false 12 + faN m a true 12 then (-3, nu)
  else if nI (cc % 4) = 0 then (if nI cc = 0 then (nI ((a + 12 - faN m a false 12) % 12), nu) else (nI ((a + faN m a true 12) % 12), nu))
  else if cc < 4 then ((shB (cc % 4 - 1) (getN (setN nu 29 (shN mq (faN m a true 12) (faN m a false 12 + faN m a true 12))) 29)).toInt32, setN nu 29 (shN mq (faN m a true 12) (faN m a false 12 + faN m a true 12)))
  else ((shB (cc % 4 - 1) (getN (setN nu 29 (shN mq (faN m a false 12) (faN m a false 12 + faN m a true 12))) 29)).toInt32, setN nu 29 (shN mq (faN m a false 12) (faN m a false 12 + faN m a true 12)))
set_option maxHeartbeats 4000000 in
set_option maxRecDepth 100000 in
theorem c_X8_splitBy (l : Launch) (D : va_G) (ka : Nat → ClassId) (kb : Nat → Nat) (q : Nat) (ad : Nat → Nat) (o : Bool) (z : mZ) (nu : Nat → Int64) (le : Nat → Int32) (p9 : Nat) (a : Nat) (mq : Int32) (cc : Nat) (hp9 : p9 < 2) (ha : a < 12) (hc : cc < 8) : zI l D ka kb yX8_splitBy cX8_splitBy 7 .int 3 90 [.ref q, .int (nI p9), .int (nI a), .int mq, .int (nI cc)] ([(q, .inr (8, mO ad o z)), ((ad 8), .inl (ka 0, 2, .inl le)), ((ad 3), .inl (ka 1, 200, .inr (.inl nu)))]) (fun (r : Int32) (_ : Unit) => r = (spZ (le p9) a mq cc nu).1) (fun (_ : Unit) => [(q, .inr (8, mO ad o z)), ((ad 8), .inl (ka 0, 2, .inl le)), ((ad 3), .inl (ka 1, 200, .inr (.inl ((spZ (le p9) a mq cc nu).2))))]) := by
  refine zI.mk RX8 (by decide +kernel) rfl (Nat.le_of_ble_eq_true rfl) ?_
  intro p e s m below meth c A ls args Q hQ hx hb hF hB hl
  replace hl : lv_has ls 7 [(0, .ref q), (1, .int (nI p9)), (2, .int (nI a)), (3, .int mq), (4, .int (nI cc))] := hl
  refine lv_aload_n hx hb dX8_splitBy_0 rfl (lv_at hl 0 rfl) ?_
  refine zget zf_X8_35 hF hB 0 rfl rfl dX8_splitBy_1 ?_
  refine lv_iload_n hx hb dX8_splitBy_4 rfl (lv_at hl 1 rfl) ?_
  refine ziald hF hB 1 rfl p9 (rfl) (by omega) (by decide) (v := (le p9)) (rfl) dX8_splitBy_5 ?_
  refine lv_iload_n hx hb dX8_splitBy_6 rfl (lv_at hl 2 rfl) ?_
  refine lv_ishr hx hb dX8_splitBy_7 ?_
  refine lv_iconst (v := 1) hx hb dX8_splitBy_8 (by decide) ?_
  refine lv_iand hx hb dX8_splitBy_9 ?_
  refine ztopi (y := lgX (le p9) a) (rfl) ?_
  refine lv_iconst (v := 1) hx hb dX8_splitBy_10 (by decide) ?_
  refine lv_icmp_ne (tgt := 62) hx hb dX8_splitBy_11 (by decide) (fun h11 => ?_) (fun h11 => ?_)
  · skip
    refine lv_aload_n hx hb dX8_splitBy_62 rfl (lv_at hl 0 rfl) ?_
    refine lv_iload_n hx hb dX8_splitBy_63 rfl (lv_at hl 1 rfl) ?_
    refine lv_iload_n hx hb dX8_splitBy_64 rfl (lv_at hl 2 rfl) ?_
    refine lv_iconst (v := -1) hx hb dX8_splitBy_65 (by decide) ?_
    refine zVi zm_X8_310 hF hB (c_X8_far l D ka kb q ad o z le p9 a false (hp9) (ha)) [0, 1] rfl (by decide) [q, (ad 8)] (fun _ => rfl) rfl 0 8 rfl rfl rfl ⟨Nat.le_of_ble_eq_true rfl, Nat.le_of_ble_eq_true rfl⟩ rfl hl.1 (Nat.le_of_ble_eq_true rfl) ⟨Nat.le_refl _, Nat.le_refl _⟩ dX8_splitBy_66 ?_
    clear hB
    try clear locs
    try clear H
    intro r1 u1 H locs hp hB
    obtain rfl : r1 = nI (faN (le p9) a false 12) := hp
    replace hB : zB D A s ([(q, .inr (8, mO ad o z)), ((ad 8), .inl (ka 0, 2, .inl le)), ((ad 3), .inl (ka 1, 200, .inr (.inl nu)))]) H locs := hB
    refine lv_istore (lv' := [(5, .int (nI (faN (le p9) a false 12))), (0, .ref q), (1, .int (nI p9)), (2, .int (nI a)), (3, .int mq), (4, .int (nI cc))]) hx hb dX8_splitBy_69 hl (by decide) rfl ?_
    clear hl
    clear ls
    intro ls hl
    refine lv_aload_n hx hb dX8_splitBy_71 rfl (lv_at hl 1 rfl) ?_
    refine lv_iload_n hx hb dX8_splitBy_72 rfl (lv_at hl 2 rfl) ?_
    refine lv_iload_n hx hb dX8_splitBy_73 rfl (lv_at hl 3 rfl) ?_
    refine lv_iconst (v := 1) hx hb dX8_splitBy_74 (by decide) ?_
    refine zVi zm_X8_310 hF hB (c_X8_far l D ka kb q ad o z le p9 a true (hp9) (ha)) [0, 1] rfl (by decide) [q, (ad 8)] (fun _ => rfl) rfl 0 8 rfl rfl rfl ⟨Nat.le_of_ble_eq_true rfl, Nat.le_of_ble_eq_true rfl⟩ rfl hl.1 (Nat.le_of_ble_eq_true rfl) ⟨Nat.le_refl _, Nat.le_refl _⟩ dX8_splitBy_75 ?_
    clear hB
    try clear locs
    try clear H
    intro r2 u2 H locs hp hB
    obtain rfl : r2 = nI (faN (le p9) a true 12) := hp
    replace hB : zB D A s ([(q, .inr (8, mO ad o z)), ((ad 8), .inl (ka 0, 2, .inl le)), ((ad 3), .inl (ka 1, 200, .inr (.inl nu)))]) H locs := hB
    refine lv_istore (lv' := [(6, .int (nI (faN (le p9) a true 12))), (5, .int (nI (faN (le p9) a false 12))), (0, .ref q), (1, .int (nI p9)), (2, .int (nI a)), (3, .int mq), (4, .int (nI cc))]) hx hb dX8_splitBy_78 hl (by decide) rfl ?_
    clear hl
    clear ls
    intro ls hl
    refine lv_iload hx hb dX8_splitBy_80 (lv_at hl 1 rfl) ?_
    refine lv_iload hx hb dX8_splitBy_82 (lv_at hl 0 rfl) ?_
    refine lv_iadd hx hb dX8_splitBy_84 ?_
    refine ztopi (y := nI ((faN (le p9) a false 12) + (faN (le p9) a true 12))) (nI_add (faN (le p9) a false 12) (faN (le p9) a true 12)) ?_
    refine lv_bipush (v := 6) hx hb dX8_splitBy_85 (by decide) ?_
    refine lv_icmp_lt (tgt := 93) hx hb dX8_splitBy_87 (by decide) (fun h87 => ?_) (fun h87 => ?_)
    · skip
      have hs : ¬ 6 ≤ faN (le p9) a false 12 + faN (le p9) a true 12 := fun e8 => absurd ((nI_leI (a := 6) (by decide) (by have := faN_b (m := le p9) (a := a) (up := true); have := faN_b (m := le p9) (a := a) (up := false); omega)).mpr e8) (Int32.not_le.mpr h87)
      refine lv_iload hx hb dX8_splitBy_93 (lv_at hl 6 rfl) ?_
      refine lv_iconst (v := 4) hx hb dX8_splitBy_95 (by decide) ?_
      refine lv_irem hx hb dX8_splitBy_96 (by decide) ?_
      refine ztopi (y := nI (cc % 4)) (pk_rem (a := cc) (d := 4) (by omega) (by decide) (by decide)) ?_
      refine lv_if_ne (tgt := 126) hx hb dX8_splitBy_97 (by decide) (fun h97 => ?_) (fun h97 => ?_)
      · skip
        refine lv_aload_n hx hb dX8_splitBy_126 rfl (lv_at hl 2 rfl) ?_
        refine lv_iload_n hx hb dX8_splitBy_127 rfl (lv_at hl 5 rfl) ?_
        refine lv_iload hx hb dX8_splitBy_128 (lv_at hl 6 rfl) ?_
        refine lv_iconst (v := 4) hx hb dX8_splitBy_130 (by decide) ?_
        refine lv_icmp_ge (tgt := 139) hx hb dX8_splitBy_131 (by decide) (fun h131 => ?_) (fun h131 => ?_)
        · skip
          have h4 : ¬ cc < 4 := Nat.not_lt.mpr ((nI_leI (a := 4) (by decide) (by omega)).mp h131)
          refine lv_iload hx hb dX8_splitBy_139 (lv_at hl 1 rfl) ?_
          refine lv_iload hx hb dX8_splitBy_141 (lv_at hl 1 rfl) ?_
          refine lv_iload hx hb dX8_splitBy_143 (lv_at hl 0 rfl) ?_
          refine lv_iadd hx hb dX8_splitBy_145 ?_
          refine ztopi (y := nI ((faN (le p9) a false 12) + (faN (le p9) a true 12))) (nI_add (faN (le p9) a false 12) (faN (le p9) a true 12)) ?_
          refine zVv zm_X8_313 hF hB (c_X8_shares l D ka kb q ad o z nu mq (faN (le p9) a false 12) ((faN (le p9) a false 12) + (faN (le p9) a true 12)) (by have := faN_b (m := le p9) (a := a) (up := true); have := faN_b (m := le p9) (a := a) (up := false); omega) (by have := faN_b (m := le p9) (a := a) (up := true); have := faN_b (m := le p9) (a := a) (up := false); omega)) [0, 2] rfl (by decide) [q, (ad 3)] (fun _ => rfl) rfl 0 8 rfl rfl rfl ⟨Nat.le_of_ble_eq_true rfl, Nat.le_of_ble_eq_true rfl⟩ rfl hl.1 (Nat.le_of_ble_eq_true rfl) ⟨Nat.le_refl _, Nat.le_refl _⟩ dX8_splitBy_146 ?_
          clear hB
          try clear locs
          try clear H
          intro u3 H locs hp hB
          replace hB : zB D A s ([(q, .inr (8, mO ad o z)), ((ad 8), .inl (ka 0, 2, .inl le)), ((ad 3), .inl (ka 1, 200, .inr (.inl (setN nu 29 (shN mq (faN (le p9) a false 12) ((faN (le p9) a false 12) + (faN (le p9) a true 12)))))))]) H locs := hB
          refine lv_aload_n hx hb dX8_splitBy_149 rfl (lv_at hl 2 rfl) ?_
          refine lv_iload hx hb dX8_splitBy_150 (lv_at hl 6 rfl) ?_
          refine lv_iconst (v := 4) hx hb dX8_splitBy_152 (by decide) ?_
          refine lv_irem hx hb dX8_splitBy_153 (by decide) ?_
          refine ztopi (y := nI (cc % 4)) (pk_rem (a := cc) (d := 4) (by omega) (by decide) (by decide)) ?_
          refine lv_iconst (v := 1) hx hb dX8_splitBy_154 (by decide) ?_
          refine lv_isub hx hb dX8_splitBy_155 ?_
          refine ztopi (y := nI (cc % 4 - 1)) (pk_sub (a := cc % 4) (b := 1) (by have : cc % 4 ≠ 0 := fun e8 => h97 (by rw [e8]; rfl); omega)) ?_
          refine zVi zm_X8_316 hF hB (c_X8_shareBy l D ka kb q ad o z (setN nu 29 (shN mq (faN (le p9) a false 12) ((faN (le p9) a false 12) + (faN (le p9) a true 12)))) (cc % 4 - 1) ) [0, 2] rfl (by decide) [q, (ad 3)] (fun _ => rfl) rfl 0 8 rfl rfl rfl ⟨Nat.le_of_ble_eq_true rfl, Nat.le_of_ble_eq_true rfl⟩ rfl hl.1 (Nat.le_of_ble_eq_true rfl) ⟨Nat.le_refl _, Nat.le_refl _⟩ dX8_splitBy_156 ?_
          clear hB
          try clear locs
          try clear H
          intro r4 u4 H locs hp hB
          obtain rfl : r4 = (shB (cc % 4 - 1) (getN (setN nu 29 (shN mq (faN (le p9) a false 12) ((faN (le p9) a false 12) + (faN (le p9) a true 12)))) 29)).toInt32 := hp
          replace hB : zB D A s ([(q, .inr (8, mO ad o z)), ((ad 8), .inl (ka 0, 2, .inl le)), ((ad 3), .inl (ka 1, 200, .inr (.inl (setN nu 29 (shN mq (faN (le p9) a false 12) ((faN (le p9) a false 12) + (faN (le p9) a true 12)))))))]) H locs := hB
          exact zreti hF hB () (by rw [spZ, if_neg h11, if_neg hs, if_neg h97, if_neg h4] <;> rfl) (by rw [spZ, if_neg h11, if_neg hs, if_neg h97, if_neg h4] <;> rfl) (rfl) dX8_splitBy_159 hQ
        · skip
          have h4 : cc < 4 := Nat.not_le.mp (fun e8 => h131 ((nI_leI (a := 4) (by decide) (by omega)).mpr e8))
          refine lv_iload hx hb dX8_splitBy_134 (lv_at hl 0 rfl) ?_
          refine lv_goto (tgt := 141) hx hb dX8_splitBy_136 (by decide) ?_
          refine lv_iload hx hb dX8_splitBy_141 (lv_at hl 1 rfl) ?_
          refine lv_iload hx hb dX8_splitBy_143 (lv_at hl 0 rfl) ?_
          refine lv_iadd hx hb dX8_splitBy_145 ?_
          refine ztopi (y := nI ((faN (le p9) a false 12) + (faN (le p9) a true 12))) (nI_add (faN (le p9) a false 12) (faN (le p9) a true 12)) ?_
          refine zVv zm_X8_313 hF hB (c_X8_shares l D ka kb q ad o z nu mq (faN (le p9) a true 12) ((faN (le p9) a false 12) + (faN (le p9) a true 12)) (by have := faN_b (m := le p9) (a := a) (up := true); have := faN_b (m := le p9) (a := a) (up := false); omega) (by have := faN_b (m := le p9) (a := a) (up := true); have := faN_b (m := le p9) (a := a) (up := false); omega)) [0, 2] rfl (by decide) [q, (ad 3)] (fun _ => rfl) rfl 0 8 rfl rfl rfl ⟨Nat.le_of_ble_eq_true rfl, Nat.le_of_ble_eq_true rfl⟩ rfl hl.1 (Nat.le_of_ble_eq_true rfl) ⟨Nat.le_refl _, Nat.le_refl _⟩ dX8_splitBy_146 ?_
          clear hB
          try clear locs
          try clear H
          intro u5 H locs hp hB
          replace hB : zB D A s ([(q, .inr (8, mO ad o z)), ((ad 8), .inl (ka 0, 2, .inl le)), ((ad 3), .inl (ka 1, 200, .inr (.inl (setN nu 29 (shN mq (faN (le p9) a true 12) ((faN (le p9) a false 12) + (faN (le p9) a true 12)))))))]) H locs := hB
          refine lv_aload_n hx hb dX8_splitBy_149 rfl (lv_at hl 2 rfl) ?_
          refine lv_iload hx hb dX8_splitBy_150 (lv_at hl 6 rfl) ?_
          refine lv_iconst (v := 4) hx hb dX8_splitBy_152 (by decide) ?_
          refine lv_irem hx hb dX8_splitBy_153 (by decide) ?_
          refine ztopi (y := nI (cc % 4)) (pk_rem (a := cc) (d := 4) (by omega) (by decide) (by decide)) ?_
          refine lv_iconst (v := 1) hx hb dX8_splitBy_154 (by decide) ?_
          refine lv_isub hx hb dX8_splitBy_155 ?_
          refine ztopi (y := nI (cc % 4 - 1)) (pk_sub (a := cc % 4) (b := 1) (by have : cc % 4 ≠ 0 := fun e8 => h97 (by rw [e8]; rfl); omega)) ?_
          refine zVi zm_X8_316 hF hB (c_X8_shareBy l D ka kb q ad o z (setN nu 29 (shN mq (faN (le p9) a true 12) ((faN (le p9) a false 12) + (faN (le p9) a true 12)))) (cc % 4 - 1) ) [0, 2] rfl (by decide) [q, (ad 3)] (fun _ => rfl) rfl 0 8 rfl rfl rfl ⟨Nat.le_of_ble_eq_true rfl, Nat.le_of_ble_eq_true rfl⟩ rfl hl.1 (Nat.le_of_ble_eq_true rfl) ⟨Nat.le_refl _, Nat.le_refl _⟩ dX8_splitBy_156 ?_
          clear hB
          try clear locs
          try clear H
          intro r6 u6 H locs hp hB
          obtain rfl : r6 = (shB (cc % 4 - 1) (getN (setN nu 29 (shN mq (faN (le p9) a true 12) ((faN (le p9) a false 12) + (faN (le p9) a true 12)))) 29)).toInt32 := hp
          replace hB : zB D A s ([(q, .inr (8, mO ad o z)), ((ad 8), .inl (ka 0, 2, .inl le)), ((ad 3), .inl (ka 1, 200, .inr (.inl (setN nu 29 (shN mq (faN (le p9) a true 12) ((faN (le p9) a false 12) + (faN (le p9) a true 12)))))))]) H locs := hB
          exact zreti hF hB () (by rw [spZ, if_neg h11, if_neg hs, if_neg h97, if_pos h4] <;> rfl) (by rw [spZ, if_neg h11, if_neg hs, if_neg h97, if_pos h4] <;> rfl) (rfl) dX8_splitBy_159 hQ
      · skip
        refine lv_iload hx hb dX8_splitBy_100 (lv_at hl 6 rfl) ?_
        refine lv_if_ne (tgt := 118) hx hb dX8_splitBy_102 (by decide) (fun h102 => ?_) (fun h102 => ?_)
        · skip
          refine lv_iload_n hx hb dX8_splitBy_118 rfl (lv_at hl 4 rfl) ?_
          refine lv_iload hx hb dX8_splitBy_119 (lv_at hl 0 rfl) ?_
          refine lv_iadd hx hb dX8_splitBy_121 ?_
          refine ztopi (y := nI (a + (faN (le p9) a true 12))) (nI_add a (faN (le p9) a true 12)) ?_
          refine lv_bipush (v := 12) hx hb dX8_splitBy_122 (by decide) ?_
          refine lv_irem hx hb dX8_splitBy_124 (by decide) ?_
          refine ztopi (y := nI ((a + faN (le p9) a true 12) % 12)) (pk_rem (d := 12) (by have := faN_b (m := le p9) (a := a) (up := true); omega) (by decide) (by decide)) ?_
          exact zreti hF hB () (by rw [spZ, if_neg h11, if_neg hs, if_pos h97, if_neg h102] <;> rfl) (by rw [spZ, if_neg h11, if_neg hs, if_pos h97, if_neg h102] <;> rfl) (rfl) dX8_splitBy_125 hQ
        · skip
          refine lv_iload_n hx hb dX8_splitBy_105 rfl (lv_at hl 4 rfl) ?_
          refine lv_iload hx hb dX8_splitBy_106 (lv_at hl 1 rfl) ?_
          refine lv_isub hx hb dX8_splitBy_108 ?_
          refine lv_bipush (v := 12) hx hb dX8_splitBy_109 (by decide) ?_
          refine lv_iadd hx hb dX8_splitBy_111 ?_
          refine ztopi (y := nI (a + 12 - faN (le p9) a false 12)) (sp_i (faN_b).2) ?_
          refine lv_bipush (v := 12) hx hb dX8_splitBy_112 (by decide) ?_
          refine lv_irem hx hb dX8_splitBy_114 (by decide) ?_
          refine ztopi (y := nI ((a + 12 - faN (le p9) a false 12) % 12)) (pk_rem (d := 12) (by omega) (by decide) (by decide)) ?_
          refine lv_goto (tgt := 125) hx hb dX8_splitBy_115 (by decide) ?_
          exact zreti hF hB () (by rw [spZ, if_neg h11, if_neg hs, if_pos h97, if_pos h102] <;> rfl) (by rw [spZ, if_neg h11, if_neg hs, if_pos h97, if_pos h102] <;> rfl) (rfl) dX8_splitBy_125 hQ
    · skip
      have hs : 6 ≤ faN (le p9) a false 12 + faN (le p9) a true 12 := (nI_leI (a := 6) (by decide) (by have := faN_b (m := le p9) (a := a) (up := true); have := faN_b (m := le p9) (a := a) (up := false); omega)).mp (Int32.not_lt.mp h87)
      refine lv_bipush (v := -3) hx hb dX8_splitBy_90 (by decide) ?_
      exact zreti hF hB () (by rw [spZ, if_neg h11, if_pos hs] <;> rfl) (by rw [spZ, if_neg h11, if_pos hs] <;> rfl) (rfl) dX8_splitBy_92 hQ
  · skip
    refine lv_iload hx hb dX8_splitBy_14 (lv_at hl 4 rfl) ?_
    refine lv_if_ne (tgt := 23) hx hb dX8_splitBy_16 (by decide) (fun h16 => ?_) (fun h16 => ?_)
    · skip
      refine lv_iload hx hb dX8_splitBy_23 (lv_at hl 4 rfl) ?_
      refine lv_iconst (v := 4) hx hb dX8_splitBy_25 (by decide) ?_
      refine lv_icmp_ne (tgt := 33) hx hb dX8_splitBy_26 (by decide) (fun h26 => ?_) (fun h26 => ?_)
      · skip
        refine lv_iload hx hb dX8_splitBy_33 (lv_at hl 4 rfl) ?_
        refine lv_iconst (v := 1) hx hb dX8_splitBy_35 (by decide) ?_
        refine lv_icmp_ne (tgt := 43) hx hb dX8_splitBy_36 (by decide) (fun h36 => ?_) (fun h36 => ?_)
        · skip
          refine lv_iload hx hb dX8_splitBy_43 (lv_at hl 4 rfl) ?_
          refine lv_iconst (v := 3) hx hb dX8_splitBy_45 (by decide) ?_
          refine lv_icmp_eq (tgt := 56) hx hb dX8_splitBy_46 (by decide) (fun h46 => ?_) (fun h46 => ?_)
          · skip
            refine lv_iconst (v := 1) hx hb dX8_splitBy_56 (by decide) ?_
            refine lv_goto (tgt := 61) hx hb dX8_splitBy_57 (by decide) ?_
            exact zreti hF hB () (by rw [spZ, if_pos h11, spA, if_neg h16, if_neg h26, if_neg h36, if_pos (Or.inl h46)] <;> rfl) (by rw [spZ, if_pos h11] <;> rfl) (rfl) dX8_splitBy_61 hQ
          · skip
            refine lv_iload hx hb dX8_splitBy_49 (lv_at hl 4 rfl) ?_
            refine lv_bipush (v := 7) hx hb dX8_splitBy_51 (by decide) ?_
            refine lv_icmp_ne (tgt := 60) hx hb dX8_splitBy_53 (by decide) (fun h53 => ?_) (fun h53 => ?_)
            · skip
              refine lv_iconst (v := 0) hx hb dX8_splitBy_60 (by decide) ?_
              exact zreti hF hB () (by rw [spZ, if_pos h11, spA, if_neg h16, if_neg h26, if_neg h36, if_neg (fun e8 => e8.elim h46 h53)] <;> rfl) (by rw [spZ, if_pos h11] <;> rfl) (rfl) dX8_splitBy_61 hQ
            · skip
              refine lv_iconst (v := 1) hx hb dX8_splitBy_56 (by decide) ?_
              refine lv_goto (tgt := 61) hx hb dX8_splitBy_57 (by decide) ?_
              exact zreti hF hB () (by rw [spZ, if_pos h11, spA, if_neg h16, if_neg h26, if_neg h36, if_pos (Or.inr h53)] <;> rfl) (by rw [spZ, if_pos h11] <;> rfl) (rfl) dX8_splitBy_61 hQ
        · skip
          refine lv_iload_n hx hb dX8_splitBy_39 rfl (lv_at hl 3 rfl) ?_
          refine lv_goto (tgt := 61) hx hb dX8_splitBy_40 (by decide) ?_
          exact zreti hF hB () (by rw [spZ, if_pos h11, spA, if_neg h16, if_neg h26, if_pos h36] <;> rfl) (by rw [spZ, if_pos h11] <;> rfl) (rfl) dX8_splitBy_61 hQ
      · skip
        refine lv_iconst (v := -1) hx hb dX8_splitBy_29 (by decide) ?_
        refine lv_goto (tgt := 61) hx hb dX8_splitBy_30 (by decide) ?_
        exact zreti hF hB () (by rw [spZ, if_pos h11, spA, if_neg h16, if_pos h26] <;> rfl) (by rw [spZ, if_pos h11] <;> rfl) (rfl) dX8_splitBy_61 hQ
    · skip
      refine lv_iload_n hx hb dX8_splitBy_19 rfl (lv_at hl 2 rfl) ?_
      refine lv_goto (tgt := 61) hx hb dX8_splitBy_20 (by decide) ?_
      exact zreti hF hB () (by rw [spZ, if_pos h11, spA, if_pos h16] <;> rfl) (by rw [spZ, if_pos h11] <;> rfl) (rfl) dX8_splitBy_61 hQ
