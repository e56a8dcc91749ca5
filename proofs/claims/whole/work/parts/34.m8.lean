set_option maxHeartbeats 4000000 in
set_option maxRecDepth 100000 in
theorem c_X8_way (l : Launch) (D : va_G) (ka : Nat → ClassId) (kb : Nat → Nat) (a : Nat) (k : Nat) (ha : a < 12) (hk : k < 4) : zI l D ka kb yX8_way cX8_way 4 .int 0 0 [.int (nI a), .int (nI k)] ([]) (fun (r : Int32) (_ : Unit) => r = zways.getD (4 * a + k) 0) (fun (_ : Unit) => []) := by
  refine zI.mk RX8 (by decide +kernel) rfl (Nat.le_of_ble_eq_true rfl) ?_
  intro p e s m below meth c A ls args Q hQ hx hb hF hB hl
  replace hl : lv_has ls 4 [(0, .int (nI a)), (1, .int (nI k))] := hl
  refine lv_iload_n hx hb dX8_way_0 rfl (lv_at hl 0 rfl) ?_
  refine lv_bipush (v := 6) hx hb dX8_way_1 (by decide) ?_
  refine lv_irem hx hb dX8_way_3 (by decide) ?_
  refine ztopi (y := nI (a % 6)) (pk_rem (a := a) (d := 6) (by omega) (by decide) (by decide)) ?_
  refine lv_istore_n (lv' := [(2, .int (nI (a % 6))), (0, .int (nI a)), (1, .int (nI k))]) hx hb dX8_way_4 rfl hl (by decide) rfl ?_
  clear hl
  clear ls
  intro ls hl
  refine lv_iload_n hx hb dX8_way_5 rfl (lv_at hl 0 rfl) ?_
  rcases zsw (nI (a % 6)) 0 4 with hsw | hsw
  · skip
    refine lv_tableOut (tgt := 126) hx hb dX8_way_6 hsw (by decide) ?_
    have hm6 : a = 5 ∨ a = 11 := by rw [nI_toInt (by omega)] at hsw; omega
    clear hsw
    refine lv_iload_n hx hb dX8_way_126 rfl (lv_at hl 2 rfl) ?_
    refine lv_iconst (v := 1) hx hb dX8_way_127 (by decide) ?_
    refine lv_icmp_ne (tgt := 135) hx hb dX8_way_128 (by decide) (fun h128 => ?_) (fun h128 => ?_)
    · skip
      refine lv_iload_n hx hb dX8_way_135 rfl (lv_at hl 2 rfl) ?_
      refine lv_iconst (v := 2) hx hb dX8_way_136 (by decide) ?_
      refine lv_icmp_ne (tgt := 144) hx hb dX8_way_137 (by decide) (fun h137 => ?_) (fun h137 => ?_)
      · skip
        refine lv_iconst (v := 0) hx hb dX8_way_144 (by decide) ?_
        refine lv_istore_n (lv' := [(3, .int (0 : Int32)), (2, .int (nI (a % 6))), (0, .int (nI a)), (1, .int (nI k))]) hx hb dX8_way_145 rfl hl (by decide) rfl ?_
        clear hl
        clear ls
        intro ls hl
        refine lv_iload_n hx hb dX8_way_146 rfl (lv_at hl 2 rfl) ?_
        refine lv_bipush (v := 6) hx hb dX8_way_147 (by decide) ?_
        refine lv_icmp_ge (tgt := 156) hx hb dX8_way_149 (by decide) (fun h149 => ?_) (fun h149 => ?_)
        · skip
          refine lv_iconst (v := 0) hx hb dX8_way_156 (by decide) ?_
          refine lv_iload_n hx hb dX8_way_157 rfl (lv_at hl 0 rfl) ?_
          refine lv_isub hx hb dX8_way_158 ?_
          refine ztopi (y := (0 : Int32)) (by decide) ?_
          exact zreti hF hB () (by
              rcases (show k = 0 ∨ k = 1 ∨ k = 2 ∨ k = 3 by omega) with rfl | rfl | rfl | rfl <;> rcases hm6 with rfl | rfl <;> first | rfl | (exfalso; revert h128 h137 h149; decide)) (rfl) (rfl) dX8_way_159 hQ
        · skip
          refine lv_iload_n hx hb dX8_way_152 rfl (lv_at hl 0 rfl) ?_
          refine lv_goto (tgt := 159) hx hb dX8_way_153 (by decide) ?_
          exact zreti hF hB () (by
              rcases (show k = 0 ∨ k = 1 ∨ k = 2 ∨ k = 3 by omega) with rfl | rfl | rfl | rfl <;> rcases hm6 with rfl | rfl <;> first | rfl | (exfalso; revert h128 h137 h149; decide)) (rfl) (rfl) dX8_way_159 hQ
      · skip
        refine lv_iconst (v := 1) hx hb dX8_way_140 (by decide) ?_
        refine lv_goto (tgt := 145) hx hb dX8_way_141 (by decide) ?_
        refine lv_istore_n (lv' := [(3, .int (1 : Int32)), (2, .int (nI (a % 6))), (0, .int (nI a)), (1, .int (nI k))]) hx hb dX8_way_145 rfl hl (by decide) rfl ?_
        clear hl
        clear ls
        intro ls hl
        refine lv_iload_n hx hb dX8_way_146 rfl (lv_at hl 2 rfl) ?_
        refine lv_bipush (v := 6) hx hb dX8_way_147 (by decide) ?_
        refine lv_icmp_ge (tgt := 156) hx hb dX8_way_149 (by decide) (fun h149 => ?_) (fun h149 => ?_)
        · skip
          refine lv_iconst (v := 0) hx hb dX8_way_156 (by decide) ?_
          refine lv_iload_n hx hb dX8_way_157 rfl (lv_at hl 0 rfl) ?_
          refine lv_isub hx hb dX8_way_158 ?_
          refine ztopi (y := (-1 : Int32)) (by decide) ?_
          exact zreti hF hB () (by
              rcases (show k = 0 ∨ k = 1 ∨ k = 2 ∨ k = 3 by omega) with rfl | rfl | rfl | rfl <;> rcases hm6 with rfl | rfl <;> first | rfl | (exfalso; revert h128 h137 h149; decide)) (rfl) (rfl) dX8_way_159 hQ
        · skip
          refine lv_iload_n hx hb dX8_way_152 rfl (lv_at hl 0 rfl) ?_
          refine lv_goto (tgt := 159) hx hb dX8_way_153 (by decide) ?_
          exact zreti hF hB () (by
              rcases (show k = 0 ∨ k = 1 ∨ k = 2 ∨ k = 3 by omega) with rfl | rfl | rfl | rfl <;> rcases hm6 with rfl | rfl <;> first | rfl | (exfalso; revert h128 h137 h149; decide)) (rfl) (rfl) dX8_way_159 hQ
    · skip
      refine lv_iconst (v := -1) hx hb dX8_way_131 (by decide) ?_
      refine lv_goto (tgt := 145) hx hb dX8_way_132 (by decide) ?_
      refine lv_istore_n (lv' := [(3, .int (-1 : Int32)), (2, .int (nI (a % 6))), (0, .int (nI a)), (1, .int (nI k))]) hx hb dX8_way_145 rfl hl (by decide) rfl ?_
      clear hl
      clear ls
      intro ls hl
      refine lv_iload_n hx hb dX8_way_146 rfl (lv_at hl 2 rfl) ?_
      refine lv_bipush (v := 6) hx hb dX8_way_147 (by decide) ?_
      refine lv_icmp_ge (tgt := 156) hx hb dX8_way_149 (by decide) (fun h149 => ?_) (fun h149 => ?_)
      · skip
        refine lv_iconst (v := 0) hx hb dX8_way_156 (by decide) ?_
        refine lv_iload_n hx hb dX8_way_157 rfl (lv_at hl 0 rfl) ?_
        refine lv_isub hx hb dX8_way_158 ?_
        refine ztopi (y := (1 : Int32)) (by decide) ?_
        exact zreti hF hB () (by
            rcases (show k = 0 ∨ k = 1 ∨ k = 2 ∨ k = 3 by omega) with rfl | rfl | rfl | rfl <;> rcases hm6 with rfl | rfl <;> first | rfl | (exfalso; revert h128 h149; decide)) (rfl) (rfl) dX8_way_159 hQ
      · skip
        refine lv_iload_n hx hb dX8_way_152 rfl (lv_at hl 0 rfl) ?_
        refine lv_goto (tgt := 159) hx hb dX8_way_153 (by decide) ?_
        exact zreti hF hB () (by
            rcases (show k = 0 ∨ k = 1 ∨ k = 2 ∨ k = 3 by omega) with rfl | rfl | rfl | rfl <;> rcases hm6 with rfl | rfl <;> first | rfl | (exfalso; revert h128 h149; decide)) (rfl) (rfl) dX8_way_159 hQ
  · skip
    rcases (show Int32.toInt (nI (a % 6)) = 0 ∨ Int32.toInt (nI (a % 6)) = 1 ∨ Int32.toInt (nI (a % 6)) = 2 ∨ Int32.toInt (nI (a % 6)) = 3 ∨ Int32.toInt (nI (a % 6)) = 4 by omega) with hc9 | hc9 | hc9 | hc9 | hc9
    · skip
      refine lv_tableIn (tgt := 40) hx hb dX8_way_6 (by omega) (by omega) (by rw [hc9]; rfl) (by decide) ?_
      have hm6 : a = 0 ∨ a = 6 := by rw [nI_toInt (by omega)] at hc9; omega
      clear hc9
      refine lv_iload_n hx hb dX8_way_40 rfl (lv_at hl 2 rfl) ?_
      refine lv_if_ne (tgt := 48) hx hb dX8_way_41 (by decide) (fun h41 => ?_) (fun h41 => ?_)
      · skip
        refine lv_iconst (v := 0) hx hb dX8_way_48 (by decide) ?_
        refine lv_istore_n (lv' := [(3, .int (0 : Int32)), (2, .int (nI (a % 6))), (0, .int (nI a)), (1, .int (nI k))]) hx hb dX8_way_49 rfl hl (by decide) rfl ?_
        clear hl
        clear ls
        intro ls hl
        refine lv_goto (tgt := 146) hx hb dX8_way_50 (by decide) ?_
        refine lv_iload_n hx hb dX8_way_146 rfl (lv_at hl 2 rfl) ?_
        refine lv_bipush (v := 6) hx hb dX8_way_147 (by decide) ?_
        refine lv_icmp_ge (tgt := 156) hx hb dX8_way_149 (by decide) (fun h149 => ?_) (fun h149 => ?_)
        · skip
          refine lv_iconst (v := 0) hx hb dX8_way_156 (by decide) ?_
          refine lv_iload_n hx hb dX8_way_157 rfl (lv_at hl 0 rfl) ?_
          refine lv_isub hx hb dX8_way_158 ?_
          refine ztopi (y := (0 : Int32)) (by decide) ?_
          exact zreti hF hB () (by
              rcases (show k = 0 ∨ k = 1 ∨ k = 2 ∨ k = 3 by omega) with rfl | rfl | rfl | rfl <;> rcases hm6 with rfl | rfl <;> first | rfl | (exfalso; revert h41 h149; decide)) (rfl) (rfl) dX8_way_159 hQ
        · skip
          refine lv_iload_n hx hb dX8_way_152 rfl (lv_at hl 0 rfl) ?_
          refine lv_goto (tgt := 159) hx hb dX8_way_153 (by decide) ?_
          exact zreti hF hB () (by
              rcases (show k = 0 ∨ k = 1 ∨ k = 2 ∨ k = 3 by omega) with rfl | rfl | rfl | rfl <;> rcases hm6 with rfl | rfl <;> first | rfl | (exfalso; revert h41 h149; decide)) (rfl) (rfl) dX8_way_159 hQ
      · skip
        refine lv_iconst (v := 2) hx hb dX8_way_44 (by decide) ?_
        refine lv_goto (tgt := 49) hx hb dX8_way_45 (by decide) ?_
        refine lv_istore_n (lv' := [(3, .int (2 : Int32)), (2, .int (nI (a % 6))), (0, .int (nI a)), (1, .int (nI k))]) hx hb dX8_way_49 rfl hl (by decide) rfl ?_
        clear hl
        clear ls
        intro ls hl
        refine lv_goto (tgt := 146) hx hb dX8_way_50 (by decide) ?_
        refine lv_iload_n hx hb dX8_way_146 rfl (lv_at hl 2 rfl) ?_
        refine lv_bipush (v := 6) hx hb dX8_way_147 (by decide) ?_
        refine lv_icmp_ge (tgt := 156) hx hb dX8_way_149 (by decide) (fun h149 => ?_) (fun h149 => ?_)
        · skip
          refine lv_iconst (v := 0) hx hb dX8_way_156 (by decide) ?_
          refine lv_iload_n hx hb dX8_way_157 rfl (lv_at hl 0 rfl) ?_
          refine lv_isub hx hb dX8_way_158 ?_
          refine ztopi (y := (-2 : Int32)) (by decide) ?_
          exact zreti hF hB () (by
              rcases (show k = 0 ∨ k = 1 ∨ k = 2 ∨ k = 3 by omega) with rfl | rfl | rfl | rfl <;> rcases hm6 with rfl | rfl <;> first | rfl | (exfalso; revert h41 h149; decide)) (rfl) (rfl) dX8_way_159 hQ
        · skip
          refine lv_iload_n hx hb dX8_way_152 rfl (lv_at hl 0 rfl) ?_
          refine lv_goto (tgt := 159) hx hb dX8_way_153 (by decide) ?_
          exact zreti hF hB () (by
              rcases (show k = 0 ∨ k = 1 ∨ k = 2 ∨ k = 3 by omega) with rfl | rfl | rfl | rfl <;> rcases hm6 with rfl | rfl <;> first | rfl | (exfalso; revert h41 h149; decide)) (rfl) (rfl) dX8_way_159 hQ
    · skip
      refine lv_tableIn (tgt := 53) hx hb dX8_way_6 (by omega) (by omega) (by rw [hc9]; rfl) (by decide) ?_
      have hm6 : a = 1 ∨ a = 7 := by rw [nI_toInt (by omega)] at hc9; omega
      clear hc9
      refine lv_iload_n hx hb dX8_way_53 rfl (lv_at hl 2 rfl) ?_
      refine lv_iconst (v := 1) hx hb dX8_way_54 (by decide) ?_
      refine lv_icmp_eq (tgt := 63) hx hb dX8_way_55 (by decide) (fun h55 => ?_) (fun h55 => ?_)
      · skip
        refine lv_iconst (v := 1) hx hb dX8_way_63 (by decide) ?_
        refine lv_goto (tgt := 68) hx hb dX8_way_64 (by decide) ?_
        refine lv_istore_n (lv' := [(3, .int (1 : Int32)), (2, .int (nI (a % 6))), (0, .int (nI a)), (1, .int (nI k))]) hx hb dX8_way_68 rfl hl (by decide) rfl ?_
        clear hl
        clear ls
        intro ls hl
        refine lv_goto (tgt := 146) hx hb dX8_way_69 (by decide) ?_
        refine lv_iload_n hx hb dX8_way_146 rfl (lv_at hl 2 rfl) ?_
        refine lv_bipush (v := 6) hx hb dX8_way_147 (by decide) ?_
        refine lv_icmp_ge (tgt := 156) hx hb dX8_way_149 (by decide) (fun h149 => ?_) (fun h149 => ?_)
        · skip
          refine lv_iconst (v := 0) hx hb dX8_way_156 (by decide) ?_
          refine lv_iload_n hx hb dX8_way_157 rfl (lv_at hl 0 rfl) ?_
          refine lv_isub hx hb dX8_way_158 ?_
          refine ztopi (y := (-1 : Int32)) (by decide) ?_
          exact zreti hF hB () (by
              rcases (show k = 0 ∨ k = 1 ∨ k = 2 ∨ k = 3 by omega) with rfl | rfl | rfl | rfl <;> rcases hm6 with rfl | rfl <;> first | rfl | (exfalso; revert h55 h149; decide)) (rfl) (rfl) dX8_way_159 hQ
        · skip
          refine lv_iload_n hx hb dX8_way_152 rfl (lv_at hl 0 rfl) ?_
          refine lv_goto (tgt := 159) hx hb dX8_way_153 (by decide) ?_
          exact zreti hF hB () (by
              rcases (show k = 0 ∨ k = 1 ∨ k = 2 ∨ k = 3 by omega) with rfl | rfl | rfl | rfl <;> rcases hm6 with rfl | rfl <;> first | rfl | (exfalso; revert h55 h149; decide)) (rfl) (rfl) dX8_way_159 hQ
      · skip
        refine lv_iload_n hx hb dX8_way_58 rfl (lv_at hl 2 rfl) ?_
        refine lv_iconst (v := 2) hx hb dX8_way_59 (by decide) ?_
        refine lv_icmp_ne (tgt := 67) hx hb dX8_way_60 (by decide) (fun h60 => ?_) (fun h60 => ?_)
        · skip
          refine lv_iconst (v := 0) hx hb dX8_way_67 (by decide) ?_
          refine lv_istore_n (lv' := [(3, .int (0 : Int32)), (2, .int (nI (a % 6))), (0, .int (nI a)), (1, .int (nI k))]) hx hb dX8_way_68 rfl hl (by decide) rfl ?_
          clear hl
          clear ls
          intro ls hl
          refine lv_goto (tgt := 146) hx hb dX8_way_69 (by decide) ?_
          refine lv_iload_n hx hb dX8_way_146 rfl (lv_at hl 2 rfl) ?_
          refine lv_bipush (v := 6) hx hb dX8_way_147 (by decide) ?_
          refine lv_icmp_ge (tgt := 156) hx hb dX8_way_149 (by decide) (fun h149 => ?_) (fun h149 => ?_)
          · skip
            refine lv_iconst (v := 0) hx hb dX8_way_156 (by decide) ?_
            refine lv_iload_n hx hb dX8_way_157 rfl (lv_at hl 0 rfl) ?_
            refine lv_isub hx hb dX8_way_158 ?_
            refine ztopi (y := (0 : Int32)) (by decide) ?_
            exact zreti hF hB () (by
                rcases (show k = 0 ∨ k = 1 ∨ k = 2 ∨ k = 3 by omega) with rfl | rfl | rfl | rfl <;> rcases hm6 with rfl | rfl <;> first | rfl | (exfalso; revert h55 h60 h149; decide)) (rfl) (rfl) dX8_way_159 hQ
          · skip
            refine lv_iload_n hx hb dX8_way_152 rfl (lv_at hl 0 rfl) ?_
            refine lv_goto (tgt := 159) hx hb dX8_way_153 (by decide) ?_
            exact zreti hF hB () (by
                rcases (show k = 0 ∨ k = 1 ∨ k = 2 ∨ k = 3 by omega) with rfl | rfl | rfl | rfl <;> rcases hm6 with rfl | rfl <;> first | rfl | (exfalso; revert h55 h60 h149; decide)) (rfl) (rfl) dX8_way_159 hQ
        · skip
          refine lv_iconst (v := 1) hx hb dX8_way_63 (by decide) ?_
          refine lv_goto (tgt := 68) hx hb dX8_way_64 (by decide) ?_
          refine lv_istore_n (lv' := [(3, .int (1 : Int32)), (2, .int (nI (a % 6))), (0, .int (nI a)), (1, .int (nI k))]) hx hb dX8_way_68 rfl hl (by decide) rfl ?_
          clear hl
          clear ls
          intro ls hl
          refine lv_goto (tgt := 146) hx hb dX8_way_69 (by decide) ?_
          refine lv_iload_n hx hb dX8_way_146 rfl (lv_at hl 2 rfl) ?_
          refine lv_bipush (v := 6) hx hb dX8_way_147 (by decide) ?_
          refine lv_icmp_ge (tgt := 156) hx hb dX8_way_149 (by decide) (fun h149 => ?_) (fun h149 => ?_)
          · skip
            refine lv_iconst (v := 0) hx hb dX8_way_156 (by decide) ?_
            refine lv_iload_n hx hb dX8_way_157 rfl (lv_at hl 0 rfl) ?_
            refine lv_isub hx hb dX8_way_158 ?_
            refine ztopi (y := (-1 : Int32)) (by decide) ?_
            exact zreti hF hB () (by
                rcases (show k = 0 ∨ k = 1 ∨ k = 2 ∨ k = 3 by omega) with rfl | rfl | rfl | rfl <;> rcases hm6 with rfl | rfl <;> first | rfl | (exfalso; revert h55 h60 h149; decide)) (rfl) (rfl) dX8_way_159 hQ
          · skip
            refine lv_iload_n hx hb dX8_way_152 rfl (lv_at hl 0 rfl) ?_
            refine lv_goto (tgt := 159) hx hb dX8_way_153 (by decide) ?_
            exact zreti hF hB () (by
                rcases (show k = 0 ∨ k = 1 ∨ k = 2 ∨ k = 3 by omega) with rfl | rfl | rfl | rfl <;> rcases hm6 with rfl | rfl <;> first | rfl | (exfalso; revert h55 h60 h149; decide)) (rfl) (rfl) dX8_way_159 hQ
    · skip
      refine lv_tableIn (tgt := 72) hx hb dX8_way_6 (by omega) (by omega) (by rw [hc9]; rfl) (by decide) ?_
      have hm6 : a = 2 ∨ a = 8 := by rw [nI_toInt (by omega)] at hc9; omega
      clear hc9
      refine lv_iload_n hx hb dX8_way_72 rfl (lv_at hl 2 rfl) ?_
      refine lv_if_eq (tgt := 81) hx hb dX8_way_73 (by decide) (fun h73 => ?_) (fun h73 => ?_)
      · skip
        refine lv_iconst (v := 1) hx hb dX8_way_81 (by decide) ?_
        refine lv_goto (tgt := 86) hx hb dX8_way_82 (by decide) ?_
        refine lv_istore_n (lv' := [(3, .int (1 : Int32)), (2, .int (nI (a % 6))), (0, .int (nI a)), (1, .int (nI k))]) hx hb dX8_way_86 rfl hl (by decide) rfl ?_
        clear hl
        clear ls
        intro ls hl
        refine lv_goto (tgt := 146) hx hb dX8_way_87 (by decide) ?_
        refine lv_iload_n hx hb dX8_way_146 rfl (lv_at hl 2 rfl) ?_
        refine lv_bipush (v := 6) hx hb dX8_way_147 (by decide) ?_
        refine lv_icmp_ge (tgt := 156) hx hb dX8_way_149 (by decide) (fun h149 => ?_) (fun h149 => ?_)
        · skip
          refine lv_iconst (v := 0) hx hb dX8_way_156 (by decide) ?_
          refine lv_iload_n hx hb dX8_way_157 rfl (lv_at hl 0 rfl) ?_
          refine lv_isub hx hb dX8_way_158 ?_
          refine ztopi (y := (-1 : Int32)) (by decide) ?_
          exact zreti hF hB () (by
              rcases (show k = 0 ∨ k = 1 ∨ k = 2 ∨ k = 3 by omega) with rfl | rfl | rfl | rfl <;> rcases hm6 with rfl | rfl <;> first | rfl | (exfalso; revert h73 h149; decide)) (rfl) (rfl) dX8_way_159 hQ
        · skip
          refine lv_iload_n hx hb dX8_way_152 rfl (lv_at hl 0 rfl) ?_
          refine lv_goto (tgt := 159) hx hb dX8_way_153 (by decide) ?_
          exact zreti hF hB () (by
              rcases (show k = 0 ∨ k = 1 ∨ k = 2 ∨ k = 3 by omega) with rfl | rfl | rfl | rfl <;> rcases hm6 with rfl | rfl <;> first | rfl | (exfalso; revert h73 h149; decide)) (rfl) (rfl) dX8_way_159 hQ
      · skip
        refine lv_iload_n hx hb dX8_way_76 rfl (lv_at hl 2 rfl) ?_
        refine lv_iconst (v := 3) hx hb dX8_way_77 (by decide) ?_
        refine lv_icmp_ne (tgt := 85) hx hb dX8_way_78 (by decide) (fun h78 => ?_) (fun h78 => ?_)
        · skip
          refine lv_iconst (v := 0) hx hb dX8_way_85 (by decide) ?_
          refine lv_istore_n (lv' := [(3, .int (0 : Int32)), (2, .int (nI (a % 6))), (0, .int (nI a)), (1, .int (nI k))]) hx hb dX8_way_86 rfl hl (by decide) rfl ?_
          clear hl
          clear ls
          intro ls hl
          refine lv_goto (tgt := 146) hx hb dX8_way_87 (by decide) ?_
          refine lv_iload_n hx hb dX8_way_146 rfl (lv_at hl 2 rfl) ?_
          refine lv_bipush (v := 6) hx hb dX8_way_147 (by decide) ?_
          refine lv_icmp_ge (tgt := 156) hx hb dX8_way_149 (by decide) (fun h149 => ?_) (fun h149 => ?_)
          · skip
            refine lv_iconst (v := 0) hx hb dX8_way_156 (by decide) ?_
            refine lv_iload_n hx hb dX8_way_157 rfl (lv_at hl 0 rfl) ?_
            refine lv_isub hx hb dX8_way_158 ?_
            refine ztopi (y := (0 : Int32)) (by decide) ?_
            exact zreti hF hB () (by
                rcases (show k = 0 ∨ k = 1 ∨ k = 2 ∨ k = 3 by omega) with rfl | rfl | rfl | rfl <;> rcases hm6 with rfl | rfl <;> first | rfl | (exfalso; revert h73 h78 h149; decide)) (rfl) (rfl) dX8_way_159 hQ
          · skip
            refine lv_iload_n hx hb dX8_way_152 rfl (lv_at hl 0 rfl) ?_
            refine lv_goto (tgt := 159) hx hb dX8_way_153 (by decide) ?_
            exact zreti hF hB () (by
                rcases (show k = 0 ∨ k = 1 ∨ k = 2 ∨ k = 3 by omega) with rfl | rfl | rfl | rfl <;> rcases hm6 with rfl | rfl <;> first | rfl | (exfalso; revert h73 h78 h149; decide)) (rfl) (rfl) dX8_way_159 hQ
        · skip
          refine lv_iconst (v := 1) hx hb dX8_way_81 (by decide) ?_
          refine lv_goto (tgt := 86) hx hb dX8_way_82 (by decide) ?_
          refine lv_istore_n (lv' := [(3, .int (1 : Int32)), (2, .int (nI (a % 6))), (0, .int (nI a)), (1, .int (nI k))]) hx hb dX8_way_86 rfl hl (by decide) rfl ?_
          clear hl
          clear ls
          intro ls hl
          refine lv_goto (tgt := 146) hx hb dX8_way_87 (by decide) ?_
          refine lv_iload_n hx hb dX8_way_146 rfl (lv_at hl 2 rfl) ?_
          refine lv_bipush (v := 6) hx hb dX8_way_147 (by decide) ?_
          refine lv_icmp_ge (tgt := 156) hx hb dX8_way_149 (by decide) (fun h149 => ?_) (fun h149 => ?_)
          · skip
            refine lv_iconst (v := 0) hx hb dX8_way_156 (by decide) ?_
            refine lv_iload_n hx hb dX8_way_157 rfl (lv_at hl 0 rfl) ?_
            refine lv_isub hx hb dX8_way_158 ?_
            refine ztopi (y := (-1 : Int32)) (by decide) ?_
            exact zreti hF hB () (by
                rcases (show k = 0 ∨ k = 1 ∨ k = 2 ∨ k = 3 by omega) with rfl | rfl | rfl | rfl <;> rcases hm6 with rfl | rfl <;> first | rfl | (exfalso; revert h73 h78 h149; decide)) (rfl) (rfl) dX8_way_159 hQ
          · skip
            refine lv_iload_n hx hb dX8_way_152 rfl (lv_at hl 0 rfl) ?_
            refine lv_goto (tgt := 159) hx hb dX8_way_153 (by decide) ?_
            exact zreti hF hB () (by
                rcases (show k = 0 ∨ k = 1 ∨ k = 2 ∨ k = 3 by omega) with rfl | rfl | rfl | rfl <;> rcases hm6 with rfl | rfl <;> first | rfl | (exfalso; revert h73 h78 h149; decide)) (rfl) (rfl) dX8_way_159 hQ
    · skip
      refine lv_tableIn (tgt := 90) hx hb dX8_way_6 (by omega) (by omega) (by rw [hc9]; rfl) (by decide) ?_
      have hm6 : a = 3 ∨ a = 9 := by rw [nI_toInt (by omega)] at hc9; omega
      clear hc9
      refine lv_iload_n hx hb dX8_way_90 rfl (lv_at hl 2 rfl) ?_
      refine lv_iconst (v := 2) hx hb dX8_way_91 (by decide) ?_
      refine lv_icmp_ne (tgt := 99) hx hb dX8_way_92 (by decide) (fun h92 => ?_) (fun h92 => ?_)
      · skip
        refine lv_iconst (v := 0) hx hb dX8_way_99 (by decide) ?_
        refine lv_istore_n (lv' := [(3, .int (0 : Int32)), (2, .int (nI (a % 6))), (0, .int (nI a)), (1, .int (nI k))]) hx hb dX8_way_100 rfl hl (by decide) rfl ?_
        clear hl
        clear ls
        intro ls hl
        refine lv_goto (tgt := 146) hx hb dX8_way_101 (by decide) ?_
        refine lv_iload_n hx hb dX8_way_146 rfl (lv_at hl 2 rfl) ?_
        refine lv_bipush (v := 6) hx hb dX8_way_147 (by decide) ?_
        refine lv_icmp_ge (tgt := 156) hx hb dX8_way_149 (by decide) (fun h149 => ?_) (fun h149 => ?_)
        · skip
          refine lv_iconst (v := 0) hx hb dX8_way_156 (by decide) ?_
          refine lv_iload_n hx hb dX8_way_157 rfl (lv_at hl 0 rfl) ?_
          refine lv_isub hx hb dX8_way_158 ?_
          refine ztopi (y := (0 : Int32)) (by decide) ?_
          exact zreti hF hB () (by
              rcases (show k = 0 ∨ k = 1 ∨ k = 2 ∨ k = 3 by omega) with rfl | rfl | rfl | rfl <;> rcases hm6 with rfl | rfl <;> first | rfl | (exfalso; revert h92 h149; decide)) (rfl) (rfl) dX8_way_159 hQ
        · skip
          refine lv_iload_n hx hb dX8_way_152 rfl (lv_at hl 0 rfl) ?_
          refine lv_goto (tgt := 159) hx hb dX8_way_153 (by decide) ?_
          exact zreti hF hB () (by
              rcases (show k = 0 ∨ k = 1 ∨ k = 2 ∨ k = 3 by omega) with rfl | rfl | rfl | rfl <;> rcases hm6 with rfl | rfl <;> first | rfl | (exfalso; revert h92 h149; decide)) (rfl) (rfl) dX8_way_159 hQ
      · skip
        refine lv_iconst (v := 2) hx hb dX8_way_95 (by decide) ?_
        refine lv_goto (tgt := 100) hx hb dX8_way_96 (by decide) ?_
        refine lv_istore_n (lv' := [(3, .int (2 : Int32)), (2, .int (nI (a % 6))), (0, .int (nI a)), (1, .int (nI k))]) hx hb dX8_way_100 rfl hl (by decide) rfl ?_
        clear hl
        clear ls
        intro ls hl
        refine lv_goto (tgt := 146) hx hb dX8_way_101 (by decide) ?_
        refine lv_iload_n hx hb dX8_way_146 rfl (lv_at hl 2 rfl) ?_
        refine lv_bipush (v := 6) hx hb dX8_way_147 (by decide) ?_
        refine lv_icmp_ge (tgt := 156) hx hb dX8_way_149 (by decide) (fun h149 => ?_) (fun h149 => ?_)
        · skip
          refine lv_iconst (v := 0) hx hb dX8_way_156 (by decide) ?_
          refine lv_iload_n hx hb dX8_way_157 rfl (lv_at hl 0 rfl) ?_
          refine lv_isub hx hb dX8_way_158 ?_
          refine ztopi (y := (-2 : Int32)) (by decide) ?_
          exact zreti hF hB () (by
              rcases (show k = 0 ∨ k = 1 ∨ k = 2 ∨ k = 3 by omega) with rfl | rfl | rfl | rfl <;> rcases hm6 with rfl | rfl <;> first | rfl | (exfalso; revert h92 h149; decide)) (rfl) (rfl) dX8_way_159 hQ
        · skip
          refine lv_iload_n hx hb dX8_way_152 rfl (lv_at hl 0 rfl) ?_
          refine lv_goto (tgt := 159) hx hb dX8_way_153 (by decide) ?_
          exact zreti hF hB () (by
              rcases (show k = 0 ∨ k = 1 ∨ k = 2 ∨ k = 3 by omega) with rfl | rfl | rfl | rfl <;> rcases hm6 with rfl | rfl <;> first | rfl | (exfalso; revert h92 h149; decide)) (rfl) (rfl) dX8_way_159 hQ
    · skip
      refine lv_tableIn (tgt := 104) hx hb dX8_way_6 (by omega) (by omega) (by rw [hc9]; rfl) (by decide) ?_
      have hm6 : a = 4 ∨ a = 10 := by rw [nI_toInt (by omega)] at hc9; omega
      clear hc9
      refine lv_iload_n hx hb dX8_way_104 rfl (lv_at hl 2 rfl) ?_
      refine lv_if_ne (tgt := 112) hx hb dX8_way_105 (by decide) (fun h105 => ?_) (fun h105 => ?_)
      · skip
        refine lv_iload_n hx hb dX8_way_112 rfl (lv_at hl 2 rfl) ?_
        refine lv_iconst (v := 3) hx hb dX8_way_113 (by decide) ?_
        refine lv_icmp_ne (tgt := 121) hx hb dX8_way_114 (by decide) (fun h114 => ?_) (fun h114 => ?_)
        · skip
          refine lv_iconst (v := 0) hx hb dX8_way_121 (by decide) ?_
          refine lv_istore_n (lv' := [(3, .int (0 : Int32)), (2, .int (nI (a % 6))), (0, .int (nI a)), (1, .int (nI k))]) hx hb dX8_way_122 rfl hl (by decide) rfl ?_
          clear hl
          clear ls
          intro ls hl
          refine lv_goto (tgt := 146) hx hb dX8_way_123 (by decide) ?_
          refine lv_iload_n hx hb dX8_way_146 rfl (lv_at hl 2 rfl) ?_
          refine lv_bipush (v := 6) hx hb dX8_way_147 (by decide) ?_
          refine lv_icmp_ge (tgt := 156) hx hb dX8_way_149 (by decide) (fun h149 => ?_) (fun h149 => ?_)
          · skip
            refine lv_iconst (v := 0) hx hb dX8_way_156 (by decide) ?_
            refine lv_iload_n hx hb dX8_way_157 rfl (lv_at hl 0 rfl) ?_
            refine lv_isub hx hb dX8_way_158 ?_
            refine ztopi (y := (0 : Int32)) (by decide) ?_
            exact zreti hF hB () (by
                rcases (show k = 0 ∨ k = 1 ∨ k = 2 ∨ k = 3 by omega) with rfl | rfl | rfl | rfl <;> rcases hm6 with rfl | rfl <;> first | rfl | (exfalso; revert h105 h114 h149; decide)) (rfl) (rfl) dX8_way_159 hQ
          · skip
            refine lv_iload_n hx hb dX8_way_152 rfl (lv_at hl 0 rfl) ?_
            refine lv_goto (tgt := 159) hx hb dX8_way_153 (by decide) ?_
            exact zreti hF hB () (by
                rcases (show k = 0 ∨ k = 1 ∨ k = 2 ∨ k = 3 by omega) with rfl | rfl | rfl | rfl <;> rcases hm6 with rfl | rfl <;> first | rfl | (exfalso; revert h105 h114 h149; decide)) (rfl) (rfl) dX8_way_159 hQ
        · skip
          refine lv_iconst (v := 1) hx hb dX8_way_117 (by decide) ?_
          refine lv_goto (tgt := 122) hx hb dX8_way_118 (by decide) ?_
          refine lv_istore_n (lv' := [(3, .int (1 : Int32)), (2, .int (nI (a % 6))), (0, .int (nI a)), (1, .int (nI k))]) hx hb dX8_way_122 rfl hl (by decide) rfl ?_
          clear hl
          clear ls
          intro ls hl
          refine lv_goto (tgt := 146) hx hb dX8_way_123 (by decide) ?_
          refine lv_iload_n hx hb dX8_way_146 rfl (lv_at hl 2 rfl) ?_
          refine lv_bipush (v := 6) hx hb dX8_way_147 (by decide) ?_
          refine lv_icmp_ge (tgt := 156) hx hb dX8_way_149 (by decide) (fun h149 => ?_) (fun h149 => ?_)
          · skip
            refine lv_iconst (v := 0) hx hb dX8_way_156 (by decide) ?_
            refine lv_iload_n hx hb dX8_way_157 rfl (lv_at hl 0 rfl) ?_
            refine lv_isub hx hb dX8_way_158 ?_
            refine ztopi (y := (-1 : Int32)) (by decide) ?_
            exact zreti hF hB () (by
                rcases (show k = 0 ∨ k = 1 ∨ k = 2 ∨ k = 3 by omega) with rfl | rfl | rfl | rfl <;> rcases hm6 with rfl | rfl <;> first | rfl | (exfalso; revert h105 h114 h149; decide)) (rfl) (rfl) dX8_way_159 hQ
          · skip
            refine lv_iload_n hx hb dX8_way_152 rfl (lv_at hl 0 rfl) ?_
            refine lv_goto (tgt := 159) hx hb dX8_way_153 (by decide) ?_
            exact zreti hF hB () (by
                rcases (show k = 0 ∨ k = 1 ∨ k = 2 ∨ k = 3 by omega) with rfl | rfl | rfl | rfl <;> rcases hm6 with rfl | rfl <;> first | rfl | (exfalso; revert h105 h114 h149; decide)) (rfl) (rfl) dX8_way_159 hQ
      · skip
        refine lv_iconst (v := -1) hx hb dX8_way_108 (by decide) ?_
        refine lv_goto (tgt := 122) hx hb dX8_way_109 (by decide) ?_
        refine lv_istore_n (lv' := [(3, .int (-1 : Int32)), (2, .int (nI (a % 6))), (0, .int (nI a)), (1, .int (nI k))]) hx hb dX8_way_122 rfl hl (by decide) rfl ?_
        clear hl
        clear ls
        intro ls hl
        refine lv_goto (tgt := 146) hx hb dX8_way_123 (by decide) ?_
        refine lv_iload_n hx hb dX8_way_146 rfl (lv_at hl 2 rfl) ?_
        refine lv_bipush (v := 6) hx hb dX8_way_147 (by decide) ?_
        refine lv_icmp_ge (tgt := 156) hx hb dX8_way_149 (by decide) (fun h149 => ?_) (fun h149 => ?_)
        · skip
          refine lv_iconst (v := 0) hx hb dX8_way_156 (by decide) ?_
          refine lv_iload_n hx hb dX8_way_157 rfl (lv_at hl 0 rfl) ?_
          refine lv_isub hx hb dX8_way_158 ?_
          refine ztopi (y := (1 : Int32)) (by decide) ?_
          exact zreti hF hB () (by
              rcases (show k = 0 ∨ k = 1 ∨ k = 2 ∨ k = 3 by omega) with rfl | rfl | rfl | rfl <;> rcases hm6 with rfl | rfl <;> first | rfl | (exfalso; revert h105 h149; decide)) (rfl) (rfl) dX8_way_159 hQ
        · skip
          refine lv_iload_n hx hb dX8_way_152 rfl (lv_at hl 0 rfl) ?_
          refine lv_goto (tgt := 159) hx hb dX8_way_153 (by decide) ?_
          exact zreti hF hB () (by
              rcases (show k = 0 ∨ k = 1 ∨ k = 2 ∨ k = 3 by omega) with rfl | rfl | rfl | rfl <;> rcases hm6 with rfl | rfl <;> first | rfl | (exfalso; revert h105 h149; decide)) (rfl) (rfl) dX8_way_159 hQ

set_option maxHeartbeats 4000000 in
set_option maxRecDepth 100000 in
theorem c_X8_adds (l : Launch) (D : va_G) (ka : Nat → ClassId) (kb : Nat → Nat) (q : Nat) (ad : Nat → Nat) (o : Bool) (z : mZ) (pu : Nat → Int64) (t : Int64) (a : Nat) (ha : a < 12) : zV l D ka kb yX8_adds cX8_adds 5 1 23 [.ref q, .long t, .int (nI a)] ([(q, .inr (8, mO ad o z)), ((ad 9), .inl (ka 1, 4, .inr (.inl pu)))]) (fun (_ : Unit) => True) (fun (_ : Unit) => [(q, .inr (8, mO ad o z)), ((ad 9), .inl (ka 1, 4, .inr (.inl (addW pu t a))))]) := by
  refine zV.mk RX8 (by decide +kernel) rfl (Nat.le_of_ble_eq_true rfl) ?_
  intro p e s m below meth c A ls args Q hQ hx hb hF hB hl
  replace hl : lv_has ls 5 [(0, .ref q), (1, .long t), (3, .int (nI a))] := hl
  refine lv_iconst (v := 0) hx hb dX8_adds_0 (by decide) ?_
  refine lv_istore (lv' := [(4, .int (0 : Int32)), (0, .ref q), (1, .long t), (3, .int (nI a))]) hx hb dX8_adds_1 hl (by decide) rfl ?_
  clear hl
  clear ls
  intro ls hl
  refine lv_iload hx hb dX8_adds_3 (lv_at hl 0 rfl) ?_
  refine lv_iconst (v := 4) hx hb dX8_adds_5 (by decide) ?_
  refine lv_icmp_ge (tgt := 34) hx hb dX8_adds_6 (by decide) (fun h6 => ?_) (fun h6 => ?_)
  · skip
    exact absurd h6 (by decide)
  · skip
    refine lv_aload_n hx hb dX8_adds_9 rfl (lv_at hl 1 rfl) ?_
    refine zget zf_X8_38 hF hB 0 rfl rfl dX8_adds_10 ?_
    refine lv_iload hx hb dX8_adds_13 (lv_at hl 0 rfl) ?_
    refine lv_dup2_11 hx hb dX8_adds_15 rfl rfl ?_
    refine zlald hF hB 1 rfl 0 (by decide) (by decide) (by decide) (v := (pu 0)) (rfl) dX8_adds_16 ?_
    refine lv_lload_n hx hb dX8_adds_17 rfl (lv_at hl 2 rfl) ?_
    refine lv_iload_n hx hb dX8_adds_18 rfl (lv_at hl 3 rfl) ?_
    refine lv_iload hx hb dX8_adds_19 (lv_at hl 0 rfl) ?_
    refine zSi zm_X8_189 hF hB (c_X8_way l D ka kb a 0 (ha) (by decide)) [] rfl (by decide) [] (fun _ => rfl) rfl rfl ⟨Nat.le_of_ble_eq_true rfl, Nat.le_of_ble_eq_true rfl⟩ rfl hl.1 (Nat.le_of_ble_eq_true rfl) ⟨Nat.le_refl _, Nat.le_refl _⟩ dX8_adds_21 ?_
    clear hB
    try clear locs
    try clear H
    intro r1 u1 H locs hp hB
    obtain rfl : r1 = zways.getD (4 * a + 0) 0 := hp
    replace hB : zB D A s ([(q, .inr (8, mO ad o z)), ((ad 9), .inl (ka 1, 4, .inr (.inl pu)))]) H locs := hB
    refine lv_i2l (v := (zways.getD (4 * a + 0) 0).toInt64) hx hb dX8_adds_24 rfl ?_
    refine lv_lmul hx hb dX8_adds_25 ?_
    refine lv_ladd hx hb dX8_adds_26 ?_
    refine zlast hF hB 1 rfl 0 (by decide) (by decide) (by decide) dX8_adds_27 ?_
    clear hB
    try clear locs
    try clear H
    intro H locs hB
    replace hB : zB D A s ([(q, .inr (8, mO ad o z)), ((ad 9), .inl (ka 1, 4, .inr (.inl (vp_updL pu 0 ((pu 0) + (t * (zways.getD (4 * a + 0) 0).toInt64))))))]) H locs := hB
    refine lv_iinc (v := (1 : Int32)) (lv' := [(4, .int (1 : Int32)), (0, .ref q), (1, .long t), (3, .int (nI a))]) hx hb dX8_adds_28 hl (k := 0) rfl (by decide) (by decide) rfl ?_
    clear hl
    clear ls
    intro ls hl
    refine lv_goto (tgt := 3) hx hb dX8_adds_31 (by decide) ?_
    refine lv_iload hx hb dX8_adds_3 (lv_at hl 0 rfl) ?_
    refine lv_iconst (v := 4) hx hb dX8_adds_5 (by decide) ?_
    refine lv_icmp_ge (tgt := 34) hx hb dX8_adds_6 (by decide) (fun h6 => ?_) (fun h6 => ?_)
    · skip
      exact absurd h6 (by decide)
    · skip
      refine lv_aload_n hx hb dX8_adds_9 rfl (lv_at hl 1 rfl) ?_
      refine zget zf_X8_38 hF hB 0 rfl rfl dX8_adds_10 ?_
      refine lv_iload hx hb dX8_adds_13 (lv_at hl 0 rfl) ?_
      refine lv_dup2_11 hx hb dX8_adds_15 rfl rfl ?_
      refine zlald hF hB 1 rfl 1 (by decide) (by decide) (by decide) (v := (pu 1)) (rfl) dX8_adds_16 ?_
      refine lv_lload_n hx hb dX8_adds_17 rfl (lv_at hl 2 rfl) ?_
      refine lv_iload_n hx hb dX8_adds_18 rfl (lv_at hl 3 rfl) ?_
      refine lv_iload hx hb dX8_adds_19 (lv_at hl 0 rfl) ?_
      refine zSi zm_X8_189 hF hB (c_X8_way l D ka kb a 1 (ha) (by decide)) [] rfl (by decide) [] (fun _ => rfl) rfl rfl ⟨Nat.le_of_ble_eq_true rfl, Nat.le_of_ble_eq_true rfl⟩ rfl hl.1 (Nat.le_of_ble_eq_true rfl) ⟨Nat.le_refl _, Nat.le_refl _⟩ dX8_adds_21 ?_
      clear hB
      try clear locs
      try clear H
      intro r2 u2 H locs hp hB
      obtain rfl : r2 = zways.getD (4 * a + 1) 0 := hp
      replace hB : zB D A s ([(q, .inr (8, mO ad o z)), ((ad 9), .inl (ka 1, 4, .inr (.inl (vp_updL pu 0 ((pu 0) + (t * (zways.getD (4 * a + 0) 0).toInt64))))))]) H locs := hB
      refine lv_i2l (v := (zways.getD (4 * a + 1) 0).toInt64) hx hb dX8_adds_24 rfl ?_
      refine lv_lmul hx hb dX8_adds_25 ?_
      refine lv_ladd hx hb dX8_adds_26 ?_
      refine zlast hF hB 1 rfl 1 (by decide) (by decide) (by decide) dX8_adds_27 ?_
      clear hB
      try clear locs
      try clear H
      intro H locs hB
      replace hB : zB D A s ([(q, .inr (8, mO ad o z)), ((ad 9), .inl (ka 1, 4, .inr (.inl (vp_updL (vp_updL pu 0 ((pu 0) + (t * (zways.getD (4 * a + 0) 0).toInt64))) 1 ((pu 1) + (t * (zways.getD (4 * a + 1) 0).toInt64))))))]) H locs := hB
      refine lv_iinc (v := (2 : Int32)) (lv' := [(4, .int (2 : Int32)), (0, .ref q), (1, .long t), (3, .int (nI a))]) hx hb dX8_adds_28 hl (k := 0) rfl (by decide) (by decide) rfl ?_
      clear hl
      clear ls
      intro ls hl
      refine lv_goto (tgt := 3) hx hb dX8_adds_31 (by decide) ?_
      refine lv_iload hx hb dX8_adds_3 (lv_at hl 0 rfl) ?_
      refine lv_iconst (v := 4) hx hb dX8_adds_5 (by decide) ?_
      refine lv_icmp_ge (tgt := 34) hx hb dX8_adds_6 (by decide) (fun h6 => ?_) (fun h6 => ?_)
      · skip
        exact absurd h6 (by decide)
      · skip
        refine lv_aload_n hx hb dX8_adds_9 rfl (lv_at hl 1 rfl) ?_
        refine zget zf_X8_38 hF hB 0 rfl rfl dX8_adds_10 ?_
        refine lv_iload hx hb dX8_adds_13 (lv_at hl 0 rfl) ?_
        refine lv_dup2_11 hx hb dX8_adds_15 rfl rfl ?_
        refine zlald hF hB 1 rfl 2 (by decide) (by decide) (by decide) (v := (pu 2)) (rfl) dX8_adds_16 ?_
        refine lv_lload_n hx hb dX8_adds_17 rfl (lv_at hl 2 rfl) ?_
        refine lv_iload_n hx hb dX8_adds_18 rfl (lv_at hl 3 rfl) ?_
        refine lv_iload hx hb dX8_adds_19 (lv_at hl 0 rfl) ?_
        refine zSi zm_X8_189 hF hB (c_X8_way l D ka kb a 2 (ha) (by decide)) [] rfl (by decide) [] (fun _ => rfl) rfl rfl ⟨Nat.le_of_ble_eq_true rfl, Nat.le_of_ble_eq_true rfl⟩ rfl hl.1 (Nat.le_of_ble_eq_true rfl) ⟨Nat.le_refl _, Nat.le_refl _⟩ dX8_adds_21 ?_
        clear hB
        try clear locs
        try clear H
        intro r3 u3 H locs hp hB
        obtain rfl : r3 = zways.getD (4 * a + 2) 0 := hp
        replace hB : zB D A s ([(q, .inr (8, mO ad o z)), ((ad 9), .inl (ka 1, 4, .inr (.inl (vp_updL (vp_updL pu 0 ((pu 0) + (t * (zways.getD (4 * a + 0) 0).toInt64))) 1 ((pu 1) + (t * (zways.getD (4 * a + 1) 0).toInt64))))))]) H locs := hB
        refine lv_i2l (v := (zways.getD (4 * a + 2) 0).toInt64) hx hb dX8_adds_24 rfl ?_
        refine lv_lmul hx hb dX8_adds_25 ?_
        refine lv_ladd hx hb dX8_adds_26 ?_
        refine zlast hF hB 1 rfl 2 (by decide) (by decide) (by decide) dX8_adds_27 ?_
        clear hB
        try clear locs
        try clear H
        intro H locs hB
        replace hB : zB D A s ([(q, .inr (8, mO ad o z)), ((ad 9), .inl (ka 1, 4, .inr (.inl (vp_updL (vp_updL (vp_updL pu 0 ((pu 0) + (t * (zways.getD (4 * a + 0) 0).toInt64))) 1 ((pu 1) + (t * (zways.getD (4 * a + 1) 0).toInt64))) 2 ((pu 2) + (t * (zways.getD (4 * a + 2) 0).toInt64))))))]) H locs := hB
        refine lv_iinc (v := (3 : Int32)) (lv' := [(4, .int (3 : Int32)), (0, .ref q), (1, .long t), (3, .int (nI a))]) hx hb dX8_adds_28 hl (k := 0) rfl (by decide) (by decide) rfl ?_
        clear hl
        clear ls
        intro ls hl
        refine lv_goto (tgt := 3) hx hb dX8_adds_31 (by decide) ?_
        refine lv_iload hx hb dX8_adds_3 (lv_at hl 0 rfl) ?_
        refine lv_iconst (v := 4) hx hb dX8_adds_5 (by decide) ?_
        refine lv_icmp_ge (tgt := 34) hx hb dX8_adds_6 (by decide) (fun h6 => ?_) (fun h6 => ?_)
        · skip
          exact absurd h6 (by decide)
        · skip
          refine lv_aload_n hx hb dX8_adds_9 rfl (lv_at hl 1 rfl) ?_
          refine zget zf_X8_38 hF hB 0 rfl rfl dX8_adds_10 ?_
          refine lv_iload hx hb dX8_adds_13 (lv_at hl 0 rfl) ?_
          refine lv_dup2_11 hx hb dX8_adds_15 rfl rfl ?_
          refine zlald hF hB 1 rfl 3 (by decide) (by decide) (by decide) (v := (pu 3)) (rfl) dX8_adds_16 ?_
          refine lv_lload_n hx hb dX8_adds_17 rfl (lv_at hl 2 rfl) ?_
          refine lv_iload_n hx hb dX8_adds_18 rfl (lv_at hl 3 rfl) ?_
          refine lv_iload hx hb dX8_adds_19 (lv_at hl 0 rfl) ?_
          refine zSi zm_X8_189 hF hB (c_X8_way l D ka kb a 3 (ha) (by decide)) [] rfl (by decide) [] (fun _ => rfl) rfl rfl ⟨Nat.le_of_ble_eq_true rfl, Nat.le_of_ble_eq_true rfl⟩ rfl hl.1 (Nat.le_of_ble_eq_true rfl) ⟨Nat.le_refl _, Nat.le_refl _⟩ dX8_adds_21 ?_
          clear hB
          try clear locs
          try clear H
          intro r4 u4 H locs hp hB
          obtain rfl : r4 = zways.getD (4 * a + 3) 0 := hp
          replace hB : zB D A s ([(q, .inr (8, mO ad o z)), ((ad 9), .inl (ka 1, 4, .inr (.inl (vp_updL (vp_updL (vp_updL pu 0 ((pu 0) + (t * (zways.getD (4 * a + 0) 0).toInt64))) 1 ((pu 1) + (t * (zways.getD (4 * a + 1) 0).toInt64))) 2 ((pu 2) + (t * (zways.getD (4 * a + 2) 0).toInt64))))))]) H locs := hB
          refine lv_i2l (v := (zways.getD (4 * a + 3) 0).toInt64) hx hb dX8_adds_24 rfl ?_
          refine lv_lmul hx hb dX8_adds_25 ?_
          refine lv_ladd hx hb dX8_adds_26 ?_
          refine zlast hF hB 1 rfl 3 (by decide) (by decide) (by decide) dX8_adds_27 ?_
          clear hB
          try clear locs
          try clear H
          intro H locs hB
          replace hB : zB D A s ([(q, .inr (8, mO ad o z)), ((ad 9), .inl (ka 1, 4, .inr (.inl (vp_updL (vp_updL (vp_updL (vp_updL pu 0 ((pu 0) + (t * (zways.getD (4 * a + 0) 0).toInt64))) 1 ((pu 1) + (t * (zways.getD (4 * a + 1) 0).toInt64))) 2 ((pu 2) + (t * (zways.getD (4 * a + 2) 0).toInt64))) 3 ((pu 3) + (t * (zways.getD (4 * a + 3) 0).toInt64))))))]) H locs := hB
          refine lv_iinc (v := (4 : Int32)) (lv' := [(4, .int (4 : Int32)), (0, .ref q), (1, .long t), (3, .int (nI a))]) hx hb dX8_adds_28 hl (k := 0) rfl (by decide) (by decide) rfl ?_
          clear hl
          clear ls
          intro ls hl
          refine lv_goto (tgt := 3) hx hb dX8_adds_31 (by decide) ?_
          refine lv_iload hx hb dX8_adds_3 (lv_at hl 0 rfl) ?_
          refine lv_iconst (v := 4) hx hb dX8_adds_5 (by decide) ?_
          refine lv_icmp_ge (tgt := 34) hx hb dX8_adds_6 (by decide) (fun h6 => ?_) (fun h6 => ?_)
          · skip
            exact zretv hF hB () (trivial) (rfl) dX8_adds_34 hQ
          · skip
            exact absurd (by decide) h6

set_option maxHeartbeats 4000000 in
set_option maxRecDepth 100000 in
theorem c_X8_pulls (l : Launch) (D : va_G) (ka : Nat → ClassId) (kb : Nat → Nat) (q : Nat) (ad : Nat → Nat) (o : Bool) (z : mZ) (pu : Nat → Int64) (p9 : Nat) (L : Nat) (mo : Nat → Int32) (an : Nat → Int32) (pl : Nat → Int32) (ho : Nat → Int32) (hp9 : p9 < 2) (hL : z.2.1 = nI L) (hok : okL L mo an pl) (hoh : okH ho) : zV l D ka kb yX8_pulls cX8_pulls 3 2 47 [.ref q, .int (nI p9)] ([(q, .inr (8, mO ad o z)), ((ad 9), .inl (ka 1, 4, .inr (.inl pu))), ((ad 4), .inl (ka 0, 8, .inl mo)), ((ad 5), .inl (ka 0, 8, .inl an)), ((ad 6), .inl (ka 0, 8, .inl pl)), ((ad 7), .inl (ka 0, 24, .inl ho))]) (fun (pu2 : Nat → Int64) => ∀ k, k < 4 → pu2 k = Int64.ofInt (pulI p9 L mo an pl ho k)) (fun (pu2 : Nat → Int64) => [(q, .inr (8, mO ad o z)), ((ad 9), .inl (ka 1, 4, .inr (.inl pu2))), ((ad 4), .inl (ka 0, 8, .inl mo)), ((ad 5), .inl (ka 0, 8, .inl an)), ((ad 6), .inl (ka 0, 8, .inl pl)), ((ad 7), .inl (ka 0, 24, .inl ho))]) := by
  refine zV.mk RX8 (by decide +kernel) rfl (Nat.le_of_ble_eq_true rfl) ?_
  intro p e s m below meth c A ls args Q hQ hx hb hF hB hl
  replace hl : lv_has ls 3 [(0, .ref q), (1, .int (nI p9))] := hl
  have hL8 := hok.1
  refine lv_iconst (v := 0) hx hb dX8_pulls_0 (by decide) ?_
  refine lv_istore_n (lv' := [(2, .int (0 : Int32)), (0, .ref q), (1, .int (nI p9))]) hx hb dX8_pulls_1 rfl hl (by decide) rfl ?_
  clear hl
  clear ls
  intro ls hl
  refine lv_iload_n hx hb dX8_pulls_2 rfl (lv_at hl 0 rfl) ?_
  refine lv_iconst (v := 4) hx hb dX8_pulls_3 (by decide) ?_
  refine lv_icmp_ge (tgt := 20) hx hb dX8_pulls_4 (by decide) (fun h4 => ?_) (fun h4 => ?_)
  · skip
    exact absurd h4 (by decide)
  · skip
    refine lv_aload_n hx hb dX8_pulls_7 rfl (lv_at hl 1 rfl) ?_
    refine zget zf_X8_38 hF hB 0 rfl rfl dX8_pulls_8 ?_
    refine lv_iload_n hx hb dX8_pulls_11 rfl (lv_at hl 0 rfl) ?_
    refine lv_lconst (v := 0) hx hb dX8_pulls_12 (by decide) ?_
    refine zlast hF hB 1 rfl 0 (by decide) (by decide) (by decide) dX8_pulls_13 ?_
    clear hB
    try clear locs
    try clear H
    intro H locs hB
    replace hB : zB D A s ([(q, .inr (8, mO ad o z)), ((ad 9), .inl (ka 1, 4, .inr (.inl (vp_updL pu 0 (0 : Int64))))), ((ad 4), .inl (ka 0, 8, .inl mo)), ((ad 5), .inl (ka 0, 8, .inl an)), ((ad 6), .inl (ka 0, 8, .inl pl)), ((ad 7), .inl (ka 0, 24, .inl ho))]) H locs := hB
    refine lv_iinc (v := (1 : Int32)) (lv' := [(2, .int (1 : Int32)), (0, .ref q), (1, .int (nI p9))]) hx hb dX8_pulls_14 hl (k := 0) rfl (by decide) (by decide) rfl ?_
    clear hl
    clear ls
    intro ls hl
    refine lv_goto (tgt := 2) hx hb dX8_pulls_17 (by decide) ?_
    refine lv_iload_n hx hb dX8_pulls_2 rfl (lv_at hl 0 rfl) ?_
    refine lv_iconst (v := 4) hx hb dX8_pulls_3 (by decide) ?_
    refine lv_icmp_ge (tgt := 20) hx hb dX8_pulls_4 (by decide) (fun h4 => ?_) (fun h4 => ?_)
    · skip
      exact absurd h4 (by decide)
    · skip
      refine lv_aload_n hx hb dX8_pulls_7 rfl (lv_at hl 1 rfl) ?_
      refine zget zf_X8_38 hF hB 0 rfl rfl dX8_pulls_8 ?_
      refine lv_iload_n hx hb dX8_pulls_11 rfl (lv_at hl 0 rfl) ?_
      refine lv_lconst (v := 0) hx hb dX8_pulls_12 (by decide) ?_
      refine zlast hF hB 1 rfl 1 (by decide) (by decide) (by decide) dX8_pulls_13 ?_
      clear hB
      try clear locs
      try clear H
      intro H locs hB
      replace hB : zB D A s ([(q, .inr (8, mO ad o z)), ((ad 9), .inl (ka 1, 4, .inr (.inl (vp_updL (vp_updL pu 0 (0 : Int64)) 1 (0 : Int64))))), ((ad 4), .inl (ka 0, 8, .inl mo)), ((ad 5), .inl (ka 0, 8, .inl an)), ((ad 6), .inl (ka 0, 8, .inl pl)), ((ad 7), .inl (ka 0, 24, .inl ho))]) H locs := hB
      refine lv_iinc (v := (2 : Int32)) (lv' := [(2, .int (2 : Int32)), (0, .ref q), (1, .int (nI p9))]) hx hb dX8_pulls_14 hl (k := 0) rfl (by decide) (by decide) rfl ?_
      clear hl
      clear ls
      intro ls hl
      refine lv_goto (tgt := 2) hx hb dX8_pulls_17 (by decide) ?_
      refine lv_iload_n hx hb dX8_pulls_2 rfl (lv_at hl 0 rfl) ?_
      refine lv_iconst (v := 4) hx hb dX8_pulls_3 (by decide) ?_
      refine lv_icmp_ge (tgt := 20) hx hb dX8_pulls_4 (by decide) (fun h4 => ?_) (fun h4 => ?_)
      · skip
        exact absurd h4 (by decide)
      · skip
        refine lv_aload_n hx hb dX8_pulls_7 rfl (lv_at hl 1 rfl) ?_
        refine zget zf_X8_38 hF hB 0 rfl rfl dX8_pulls_8 ?_
        refine lv_iload_n hx hb dX8_pulls_11 rfl (lv_at hl 0 rfl) ?_
        refine lv_lconst (v := 0) hx hb dX8_pulls_12 (by decide) ?_
        refine zlast hF hB 1 rfl 2 (by decide) (by decide) (by decide) dX8_pulls_13 ?_
        clear hB
        try clear locs
        try clear H
        intro H locs hB
        replace hB : zB D A s ([(q, .inr (8, mO ad o z)), ((ad 9), .inl (ka 1, 4, .inr (.inl (vp_updL (vp_updL (vp_updL pu 0 (0 : Int64)) 1 (0 : Int64)) 2 (0 : Int64))))), ((ad 4), .inl (ka 0, 8, .inl mo)), ((ad 5), .inl (ka 0, 8, .inl an)), ((ad 6), .inl (ka 0, 8, .inl pl)), ((ad 7), .inl (ka 0, 24, .inl ho))]) H locs := hB
        refine lv_iinc (v := (3 : Int32)) (lv' := [(2, .int (3 : Int32)), (0, .ref q), (1, .int (nI p9))]) hx hb dX8_pulls_14 hl (k := 0) rfl (by decide) (by decide) rfl ?_
        clear hl
        clear ls
        intro ls hl
        refine lv_goto (tgt := 2) hx hb dX8_pulls_17 (by decide) ?_
        refine lv_iload_n hx hb dX8_pulls_2 rfl (lv_at hl 0 rfl) ?_
        refine lv_iconst (v := 4) hx hb dX8_pulls_3 (by decide) ?_
        refine lv_icmp_ge (tgt := 20) hx hb dX8_pulls_4 (by decide) (fun h4 => ?_) (fun h4 => ?_)
        · skip
          exact absurd h4 (by decide)
        · skip
          refine lv_aload_n hx hb dX8_pulls_7 rfl (lv_at hl 1 rfl) ?_
          refine zget zf_X8_38 hF hB 0 rfl rfl dX8_pulls_8 ?_
          refine lv_iload_n hx hb dX8_pulls_11 rfl (lv_at hl 0 rfl) ?_
          refine lv_lconst (v := 0) hx hb dX8_pulls_12 (by decide) ?_
          refine zlast hF hB 1 rfl 3 (by decide) (by decide) (by decide) dX8_pulls_13 ?_
          clear hB
          try clear locs
          try clear H
          intro H locs hB
          replace hB : zB D A s ([(q, .inr (8, mO ad o z)), ((ad 9), .inl (ka 1, 4, .inr (.inl (vp_updL (vp_updL (vp_updL (vp_updL pu 0 (0 : Int64)) 1 (0 : Int64)) 2 (0 : Int64)) 3 (0 : Int64))))), ((ad 4), .inl (ka 0, 8, .inl mo)), ((ad 5), .inl (ka 0, 8, .inl an)), ((ad 6), .inl (ka 0, 8, .inl pl)), ((ad 7), .inl (ka 0, 24, .inl ho))]) H locs := hB
          refine lv_iinc (v := (4 : Int32)) (lv' := [(2, .int (4 : Int32)), (0, .ref q), (1, .int (nI p9))]) hx hb dX8_pulls_14 hl (k := 0) rfl (by decide) (by decide) rfl ?_
          clear hl
          clear ls
          intro ls hl
          refine lv_goto (tgt := 2) hx hb dX8_pulls_17 (by decide) ?_
          refine lv_iload_n hx hb dX8_pulls_2 rfl (lv_at hl 0 rfl) ?_
          refine lv_iconst (v := 4) hx hb dX8_pulls_3 (by decide) ?_
          refine lv_icmp_ge (tgt := 20) hx hb dX8_pulls_4 (by decide) (fun h4 => ?_) (fun h4 => ?_)
          · skip
            refine lv_iconst (v := 0) hx hb dX8_pulls_20 (by decide) ?_
            refine lv_istore_n (lv' := [(2, .int (0 : Int32)), (0, .ref q), (1, .int (nI p9))]) hx hb dX8_pulls_21 rfl hl (by decide) rfl ?_
            clear hl
            clear ls
            intro ls hl
            have lp22 : ∀ (fl : Nat) (i : Nat) (pv : Nat → Int64), (hi : i ≤ L) → (hpv : ∀ k, k < 4 → pv k = Int64.ofInt (lumpS p9 mo an pl k i)) → L - i < fl → ∀ (H : Heap) (locs : List Loc), zB D A s ([(q, .inr (8, mO ad o z)), ((ad 9), .inl (ka 1, 4, .inr (.inl pv))), ((ad 4), .inl (ka 0, 8, .inl mo)), ((ad 5), .inl (ka 0, 8, .inl an)), ((ad 6), .inl (ka 0, 8, .inl pl)), ((ad 7), .inl (ka 0, 24, .inl ho))]) H locs → ∀ ls : Array Slot, lv_has ls 3 [(2, .int (nI i)), (0, .ref q), (1, .int (nI p9))] → W p l e (zRm 2 47 0 0) s m args below meth c H locs 0 0 Q (F0 m 22 ls []) := by
              intro fl
              induction fl with
              | zero => intro i pv hi hpv hfl; exact absurd hfl (Nat.not_lt_zero _)
              | succ fl ih22 =>
                intro i pv hi hpv hfl22 H locs hB ls hl
                refine lv_iload_n hx hb dX8_pulls_22 rfl (lv_at hl 0 rfl) ?_
                refine lv_aload_n hx hb dX8_pulls_23 rfl (lv_at hl 1 rfl) ?_
                refine zget zf_X8_192 hF hB 0 rfl rfl dX8_pulls_24 ?_
                refine ztopi (y := nI L) (hL) ?_
                refine lv_icmp_ge (tgt := 77) hx hb dX8_pulls_27 (by decide) (fun h27 => ?_) (fun h27 => ?_)
                · skip
                  have hiL : i = L := by have := (nI_leI (by omega) (by omega)).mp h27; omega
                  refine lv_iconst (v := 0) hx hb dX8_pulls_77 (by decide) ?_
                  refine lv_istore_n (lv' := [(2, .int (0 : Int32)), (0, .ref q), (1, .int (nI p9))]) hx hb dX8_pulls_78 rfl hl (by decide) rfl ?_
                  clear hl
                  clear ls
                  intro ls hl
                  have lp79 : ∀ (fl : Nat) (j : Nat) (pv : Nat → Int64), (hj : j ≤ 12) → (hpv : ∀ k, k < 4 → pv k = Int64.ofInt (lumpS p9 mo an pl k L + holeS p9 ho k j)) → 12 - j < fl → ∀ (H : Heap) (locs : List Loc), zB D A s ([(q, .inr (8, mO ad o z)), ((ad 9), .inl (ka 1, 4, .inr (.inl pv))), ((ad 4), .inl (ka 0, 8, .inl mo)), ((ad 5), .inl (ka 0, 8, .inl an)), ((ad 6), .inl (ka 0, 8, .inl pl)), ((ad 7), .inl (ka 0, 24, .inl ho))]) H locs → ∀ ls : Array Slot, lv_has ls 3 [(2, .int (nI j)), (0, .ref q), (1, .int (nI p9))] → W p l e (zRm 2 47 0 0) s m args below meth c H locs 0 0 Q (F0 m 79 ls []) := by
                    intro fl
                    induction fl with
                    | zero => intro j pv hj hpv hfl; exact absurd hfl (Nat.not_lt_zero _)
                    | succ fl ih79 =>
                      intro j pv hj hpv hfl79 H locs hB ls hl
                      refine lv_iload_n hx hb dX8_pulls_79 rfl (lv_at hl 0 rfl) ?_
                      refine lv_bipush (v := 12) hx hb dX8_pulls_80 (by decide) ?_
                      refine lv_icmp_ge (tgt := 112) hx hb dX8_pulls_82 (by decide) (fun h82 => ?_) (fun h82 => ?_)
                      · skip
                        have hj12 : j = 12 := by have := (nI_leI (a := 12) (b := j) (by decide) (by omega)).mp h82; omega
                        exact zretv hF hB pv (fun k hk => by rw [hpv k hk, hj12] <;> rfl) (rfl) dX8_pulls_112 hQ
                      · skip
                        have hj12 : j < 12 := Nat.not_le.mp (fun e9 => h82 ((nI_leI (a := 12) (b := j) (by decide) (by omega)).mpr e9))
                        refine lv_aload_n hx hb dX8_pulls_85 rfl (lv_at hl 1 rfl) ?_
                        refine zldc2 (v := (-10 : Int64)) ww_25_18 hF dX8_pulls_86 ?_
                        refine lv_aload_n hx hb dX8_pulls_89 rfl (lv_at hl 1 rfl) ?_
                        refine zget zf_X8_32 hF hB 0 rfl rfl dX8_pulls_90 ?_
                        refine lv_bipush (v := 12) hx hb dX8_pulls_93 (by decide) ?_
                        refine lv_iload_n hx hb dX8_pulls_95 rfl (lv_at hl 2 rfl) ?_
                        refine lv_imul hx hb dX8_pulls_96 ?_
                        refine ztopi (y := nI (12 * p9)) (pk_mul 12 p9) ?_
                        refine lv_iload_n hx hb dX8_pulls_97 rfl (lv_at hl 0 rfl) ?_
                        refine lv_iadd hx hb dX8_pulls_98 ?_
                        refine ztopi (y := nI ((12 * p9) + j)) (nI_add (12 * p9) j) ?_
                        refine ziald hF hB 5 rfl ((12 * p9) + j) (rfl) (by omega) (by decide) (v := (ho ((12 * p9) + j))) (rfl) dX8_pulls_99 ?_
                        refine lv_i2l (v := (ho ((12 * p9) + j)).toInt64) hx hb dX8_pulls_100 rfl ?_
                        refine lv_lmul hx hb dX8_pulls_101 ?_
                        refine ztopl (y := Int64.ofInt (-10 * (ho (12 * p9 + j)).toInt)) (by rw [i64_w, show (-10 : Int64) = Int64.ofInt (-10) from rfl, ofI_mul]) ?_
                        refine lv_iload_n hx hb dX8_pulls_102 rfl (lv_at hl 0 rfl) ?_
                        refine zVv zm_X8_195 hF hB (c_X8_adds l D ka kb q ad o z pv (Int64.ofInt (-10 * (ho (12 * p9 + j)).toInt)) j (by first | assumption | omega | decide)) [0, 1] rfl (by decide) [q, (ad 9)] (fun _ => rfl) rfl 0 8 rfl rfl rfl ⟨Nat.le_of_ble_eq_true rfl, Nat.le_of_ble_eq_true rfl⟩ rfl hl.1 (Nat.le_of_ble_eq_true rfl) ⟨Nat.le_refl _, Nat.le_refl _⟩ dX8_pulls_103 ?_
                        clear hB
                        try clear locs
                        try clear H
                        intro u1 H locs hp hB
                        replace hB : zB D A s ([(q, .inr (8, mO ad o z)), ((ad 9), .inl (ka 1, 4, .inr (.inl (addW pv (Int64.ofInt (-10 * (ho (12 * p9 + j)).toInt)) j)))), ((ad 4), .inl (ka 0, 8, .inl mo)), ((ad 5), .inl (ka 0, 8, .inl an)), ((ad 6), .inl (ka 0, 8, .inl pl)), ((ad 7), .inl (ka 0, 24, .inl ho))]) H locs := hB
                        refine lv_iinc (v := nI (j + 1)) (lv' := [(2, .int (nI (j + 1))), (0, .ref q), (1, .int (nI p9))]) hx hb dX8_pulls_106 hl (k := 0) rfl (nI_1 _) (by decide) rfl ?_
                        clear hl
                        clear ls
                        intro ls hl
                        refine lv_goto (tgt := 79) hx hb dX8_pulls_109 (by decide) ?_
                        exact ih79 (j + 1) (addW pv (Int64.ofInt (-10 * (ho (12 * p9 + j)).toInt)) j) (by omega) (fun k hk => by rw [addW_I hk (hpv k hk) rfl, Int.add_assoc] <;> rfl) (by omega) _ _ (hB) _ (lv_sub hl [0, 1, 2] rfl)
                  exact lp79 (12 - 0 + 1) 0 pv (Nat.zero_le _) (fun k hk => by rw [hpv k hk, hiL, holeS, siN, Int.add_zero]) (by omega) _ _ (hB) _ (lv_sub hl [0, 1, 2] rfl)
                · skip
                  have hiL : i < L := Nat.not_le.mp (fun e9 => h27 ((nI_leI (by omega) (by omega)).mpr e9))
                  obtain ⟨a9, ha9, hae⟩ := (hok.2 i hiL).2.1
                  refine lv_aload_n hx hb dX8_pulls_30 rfl (lv_at hl 1 rfl) ?_
                  refine lv_aload_n hx hb dX8_pulls_31 rfl (lv_at hl 1 rfl) ?_
                  refine zget zf_X8_23 hF hB 0 rfl rfl dX8_pulls_32 ?_
                  refine lv_iload_n hx hb dX8_pulls_35 rfl (lv_at hl 0 rfl) ?_
                  refine ziald hF hB 2 rfl i (rfl) (by omega) (by decide) (v := (mo i)) (rfl) dX8_pulls_36 ?_
                  refine lv_i2l (v := (mo i).toInt64) hx hb dX8_pulls_37 rfl ?_
                  refine lv_iload_n hx hb dX8_pulls_38 rfl (lv_at hl 2 rfl) ?_
                  refine lv_if_ne (tgt := 54) hx hb dX8_pulls_39 (by decide) (fun h39 => ?_) (fun h39 => ?_)
                  · skip
                    have hpn : p9 ≠ 0 := fun e8 => h39 (by rw [e8]; rfl)
                    refine lv_aload_n hx hb dX8_pulls_54 rfl (lv_at hl 1 rfl) ?_
                    refine zget zf_X8_29 hF hB 0 rfl rfl dX8_pulls_55 ?_
                    refine lv_iload_n hx hb dX8_pulls_58 rfl (lv_at hl 0 rfl) ?_
                    refine ziald hF hB 4 rfl i (rfl) (by omega) (by decide) (v := (pl i)) (rfl) dX8_pulls_59 ?_
                    refine lv_i2l (v := (pl i).toInt64) hx hb dX8_pulls_60 rfl ?_
                    refine lv_lmul hx hb dX8_pulls_61 ?_
                    refine ztopl (y := Int64.ofInt (lumpT p9 mo pl i)) (lumpT_1 hpn) ?_
                    refine lv_aload_n hx hb dX8_pulls_62 rfl (lv_at hl 1 rfl) ?_
                    refine zget zf_X8_26 hF hB 0 rfl rfl dX8_pulls_63 ?_
                    refine lv_iload_n hx hb dX8_pulls_66 rfl (lv_at hl 0 rfl) ?_
                    refine ziald hF hB 3 rfl i (rfl) (by omega) (by decide) (v := (nI a9)) (hae) dX8_pulls_67 ?_
                    refine zVv zm_X8_195 hF hB (c_X8_adds l D ka kb q ad o z pv (Int64.ofInt (lumpT p9 mo pl i)) a9 (by first | assumption | omega | decide)) [0, 1] rfl (by decide) [q, (ad 9)] (fun _ => rfl) rfl 0 8 rfl rfl rfl ⟨Nat.le_of_ble_eq_true rfl, Nat.le_of_ble_eq_true rfl⟩ rfl hl.1 (Nat.le_of_ble_eq_true rfl) ⟨Nat.le_refl _, Nat.le_refl _⟩ dX8_pulls_68 ?_
                    clear hB
                    try clear locs
                    try clear H
                    intro u2 H locs hp hB
                    replace hB : zB D A s ([(q, .inr (8, mO ad o z)), ((ad 9), .inl (ka 1, 4, .inr (.inl (addW pv (Int64.ofInt (lumpT p9 mo pl i)) a9)))), ((ad 4), .inl (ka 0, 8, .inl mo)), ((ad 5), .inl (ka 0, 8, .inl an)), ((ad 6), .inl (ka 0, 8, .inl pl)), ((ad 7), .inl (ka 0, 24, .inl ho))]) H locs := hB
                    refine lv_iinc (v := nI (i + 1)) (lv' := [(2, .int (nI (i + 1))), (0, .ref q), (1, .int (nI p9))]) hx hb dX8_pulls_71 hl (k := 0) rfl (nI_1 _) (by decide) rfl ?_
                    clear hl
                    clear ls
                    intro ls hl
                    refine lv_goto (tgt := 22) hx hb dX8_pulls_74 (by decide) ?_
                    exact ih22 (i + 1) (addW pv (Int64.ofInt (lumpT p9 mo pl i)) a9) (by omega) (fun k hk => by rw [addW_I hk (hpv k hk) rfl, show lumpS p9 mo an pl k (i + 1) = lumpS p9 mo an pl k i + lumpT p9 mo pl i * wI (aN (an i)) k from rfl, hae, aN_nI ha9]) (by omega) _ _ (hB) _ (lv_sub hl [0, 1, 2] rfl)
                  · skip
                    have hpn : p9 = 0 := by
                      rcases (show p9 = 0 ∨ p9 = 1 by omega) with e8 | e8
                      · exact e8
                      · rw [e8] at h39; exact absurd h39 (by decide)
                    subst hpn
                    refine lv_bipush (v := 10) hx hb dX8_pulls_42 (by decide) ?_
                    refine lv_aload_n hx hb dX8_pulls_44 rfl (lv_at hl 1 rfl) ?_
                    refine zget zf_X8_29 hF hB 0 rfl rfl dX8_pulls_45 ?_
                    refine lv_iload_n hx hb dX8_pulls_48 rfl (lv_at hl 0 rfl) ?_
                    refine ziald hF hB 4 rfl i (rfl) (by omega) (by decide) (v := (pl i)) (rfl) dX8_pulls_49 ?_
                    refine lv_isub hx hb dX8_pulls_50 ?_
                    refine lv_goto (tgt := 60) hx hb dX8_pulls_51 (by decide) ?_
                    refine lv_i2l (v := ((10 : Int32) - (pl i)).toInt64) hx hb dX8_pulls_60 rfl ?_
                    refine lv_lmul hx hb dX8_pulls_61 ?_
                    refine ztopl (y := Int64.ofInt (lumpT 0 mo pl i)) (lumpT_0 (hok.2 i hiL).2.2) ?_
                    refine lv_aload_n hx hb dX8_pulls_62 rfl (lv_at hl 1 rfl) ?_
                    refine zget zf_X8_26 hF hB 0 rfl rfl dX8_pulls_63 ?_
                    refine lv_iload_n hx hb dX8_pulls_66 rfl (lv_at hl 0 rfl) ?_
                    refine ziald hF hB 3 rfl i (rfl) (by omega) (by decide) (v := (nI a9)) (hae) dX8_pulls_67 ?_
                    refine zVv zm_X8_195 hF hB (c_X8_adds l D ka kb q ad o z pv (Int64.ofInt (lumpT 0 mo pl i)) a9 (by first | assumption | omega | decide)) [0, 1] rfl (by decide) [q, (ad 9)] (fun _ => rfl) rfl 0 8 rfl rfl rfl ⟨Nat.le_of_ble_eq_true rfl, Nat.le_of_ble_eq_true rfl⟩ rfl hl.1 (Nat.le_of_ble_eq_true rfl) ⟨Nat.le_refl _, Nat.le_refl _⟩ dX8_pulls_68 ?_
                    clear hB
                    try clear locs
                    try clear H
                    intro u3 H locs hp hB
                    replace hB : zB D A s ([(q, .inr (8, mO ad o z)), ((ad 9), .inl (ka 1, 4, .inr (.inl (addW pv (Int64.ofInt (lumpT 0 mo pl i)) a9)))), ((ad 4), .inl (ka 0, 8, .inl mo)), ((ad 5), .inl (ka 0, 8, .inl an)), ((ad 6), .inl (ka 0, 8, .inl pl)), ((ad 7), .inl (ka 0, 24, .inl ho))]) H locs := hB
                    refine lv_iinc (v := nI (i + 1)) (lv' := [(2, .int (nI (i + 1))), (0, .ref q), (1, .int (nI 0))]) hx hb dX8_pulls_71 hl (k := 0) rfl (nI_1 _) (by decide) rfl ?_
                    clear hl
                    clear ls
                    intro ls hl
                    refine lv_goto (tgt := 22) hx hb dX8_pulls_74 (by decide) ?_
                    exact ih22 (i + 1) (addW pv (Int64.ofInt (lumpT 0 mo pl i)) a9) (by omega) (fun k hk => by rw [addW_I hk (hpv k hk) rfl, show lumpS 0 mo an pl k (i + 1) = lumpS 0 mo an pl k i + lumpT 0 mo pl i * wI (aN (an i)) k from rfl, hae, aN_nI ha9]) (by omega) _ _ (hB) _ (lv_sub hl [0, 1, 2] rfl)
            exact lp22 (L - 0 + 1) 0 (vp_updL (vp_updL (vp_updL (vp_updL pu 0 (0 : Int64)) 1 (0 : Int64)) 2 (0 : Int64)) 3 (0 : Int64)) (Nat.zero_le _) (fun k hk => by rcases (show k = 0 ∨ k = 1 ∨ k = 2 ∨ k = 3 by omega) with rfl | rfl | rfl | rfl <;> rfl) (by omega) _ _ (hB) _ (lv_sub hl [0, 1, 2] rfl)
          · skip
            exact absurd (by decide) h4
