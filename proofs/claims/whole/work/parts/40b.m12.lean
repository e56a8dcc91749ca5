set_option maxHeartbeats 4000000 in
set_option maxRecDepth 100000 in
theorem c_X8_trial_0 (l : Launch) (D : va_G) (ka : Nat → ClassId) (kb : Nat → Nat) (q : Nat) (ad : Nat → Nat) (o : Bool) (z : mZ) (pu : Nat → Int64) (L : Nat) (mo : Nat → Int32) (an : Nat → Int32) (pl : Nat → Int32) (ho : Nat → Int32) (nu : Nat → Int64) (ga : Nat → Int32) (lg : Nat → Int32) (pm : Nat → Int32) (pa : Nat → Int32) (mq : Int32) (aq : Int32) (hL : z.2.1 = nI L) (hok : okL L mo an pl) (hoh : okH ho) (hga : ∀ i, i < 4 → 0 ≤ (ga i).toInt ∧ (ga i).toInt ≤ 9) (hlg : ∀ i, i < 4 → ∃ l9, l9 < 12 ∧ lg i = nI l9) : zI l D ka kb yX8_trial cX8_trial 6 .int 4 112 [.ref q, .int (0 : Int32), .int mq, .int aq] ([(q, .inr (8, mO ad o z)), ((ad 9), .inl (ka 1, 4, .inr (.inl pu))), ((ad 4), .inl (ka 0, 8, .inl mo)), ((ad 5), .inl (ka 0, 8, .inl an)), ((ad 6), .inl (ka 0, 8, .inl pl)), ((ad 7), .inl (ka 0, 24, .inl ho)), ((ad 3), .inl (ka 1, 200, .inr (.inl nu))), ((ad 10), .inl (ka 0, 4, .inl ga)), ((ad 11), .inl (ka 0, 4, .inl lg)), ((ad 12), .inl (ka 0, 3, .inl pm)), ((ad 13), .inl (ka 0, 3, .inl pa))]) (fun (r : Int32) (u : Bool × (Nat → Int64) × (Nat → Int64)) => r = (if trK (nI 0) mq aq = true then bcnt (z.2.2.2.2.1 ||| ((1 : Int32) <<< ((nI 0) &&& 31))) 12 else -2) ∧ (trK (nI 0) mq aq = false → u.2.2 = nu) ∧ (trK (nI 0) mq aq = true → keepN [20, 21, 22, 23, 24, 25, 6 + 2 * aN (nI 0), 6 + 2 * aN (nI 0) + 1] nu u.2.2 ∧ getN u.2.2 (6 + 2 * aN (nI 0)) = rdT (nI 0) mq aq L mo an pl ho ga lg 0 ∧ getN u.2.2 (6 + 2 * aN (nI 0) + 1) = rdT (nI 0) mq aq L mo an pl ho ga lg 1)) (fun (u : Bool × (Nat → Int64) × (Nat → Int64)) => [(q, .inr (8, mX ad (bI u.1) z.1 z.2.1 z.2.2.1 z.2.2.2.1 (if trK (nI 0) mq aq = true then (z.2.2.2.2.1 ||| ((1 : Int32) <<< ((nI 0) &&& 31))) else z.2.2.2.2.1) z.2.2.2.2.2.1 z.2.2.2.2.2.2.1 z.2.2.2.2.2.2.2)), ((ad 9), .inl (ka 1, 4, .inr (.inl u.2.1))), ((ad 4), .inl (ka 0, 8, .inl mo)), ((ad 5), .inl (ka 0, 8, .inl an)), ((ad 6), .inl (ka 0, 8, .inl pl)), ((ad 7), .inl (ka 0, 24, .inl ho)), ((ad 3), .inl (ka 1, 200, .inr (.inl u.2.2))), ((ad 10), .inl (ka 0, 4, .inl ga)), ((ad 11), .inl (ka 0, 4, .inl lg)), ((ad 12), .inl (ka 0, 3, .inl (if trK (nI 0) mq aq = true then upd pm (aN (nI 0)) (if aN (nI 0) = 0 then 0 else mq) else pm))), ((ad 13), .inl (ka 0, 3, .inl (if trK (nI 0) mq aq = true then upd pa (aN (nI 0)) (if aN (nI 0) = 0 then 0 else aq) else pa)))]) := by
  refine zI.mk RX8 (by decide +kernel) rfl (Nat.le_of_ble_eq_true rfl) ?_
  intro p e s m below meth c A ls args Q hQ hx hb hF hB hl
  replace hl : lv_has ls 6 [(0, .ref q), (1, .int (0 : Int32)), (2, .int mq), (3, .int aq)] := hl
  have hs9 : inI (nI 0) 3 = true := inI_nI (by decide) (by decide)
  have hbd0 : bdP (pulI 0 L mo an pl ho) := pulI_bd (by decide) hok hoh
  have hbd1 : bdP (pulI 1 L mo an pl ho) := pulI_bd (by decide) hok hoh
  obtain ⟨l0, hl0, e0⟩ := hlg 0 (by decide)
  obtain ⟨l1, hl1, e1⟩ := hlg 1 (by decide)
  obtain ⟨l2, hl2, e2⟩ := hlg 2 (by decide)
  obtain ⟨l3, hl3, e3⟩ := hlg 3 (by decide)
  have rk0 : aN (nI 0) = 0 := rfl
  have hk9 : trK (nI 0) mq aq = true := dB_t.mpr ⟨inI_nI (by decide) (by decide), Or.inl rfl⟩
  refine lv_iload_n hx hb dX8_trial_0 rfl (lv_at hl 1 rfl) ?_
  refine lv_i2l (v := (0 : Int32).toInt64) hx hb dX8_trial_1 rfl ?_
  refine lv_lconst (v := 0) hx hb dX8_trial_2 (by decide) ?_
  refine zldc2 (v := (2 : Int64)) ww_26_6 hF dX8_trial_3 ?_
  refine zSi zm_X8_72 hF hB (c_X8_in l D ka kb ((0 : Int32).toInt64) (0 : Int64) (2 : Int64) ) [] rfl (by decide) [] (fun _ => rfl) rfl rfl ⟨Nat.le_of_ble_eq_true rfl, Nat.le_of_ble_eq_true rfl⟩ rfl hl.1 (Nat.le_of_ble_eq_true rfl) ⟨Nat.le_refl _, Nat.le_refl _⟩ dX8_trial_6 ?_
  clear hB
  try clear locs
  try clear H
  intro r1 u1 H locs hp hB
  obtain rfl : r1 = bI (zin ((0 : Int32).toInt64) (0 : Int64) (2 : Int64)) := hp
  replace hB : zB D A s ([(q, .inr (8, mO ad o z)), ((ad 9), .inl (ka 1, 4, .inr (.inl pu))), ((ad 4), .inl (ka 0, 8, .inl mo)), ((ad 5), .inl (ka 0, 8, .inl an)), ((ad 6), .inl (ka 0, 8, .inl pl)), ((ad 7), .inl (ka 0, 24, .inl ho)), ((ad 3), .inl (ka 1, 200, .inr (.inl nu))), ((ad 10), .inl (ka 0, 4, .inl ga)), ((ad 11), .inl (ka 0, 4, .inl lg)), ((ad 12), .inl (ka 0, 3, .inl pm)), ((ad 13), .inl (ka 0, 3, .inl pa))]) H locs := hB
  refine lv_if_eq (tgt := 35) hx hb dX8_trial_9 (by decide) (fun h9 => ?_) (fun h9 => ?_)
  · skip
    exact absurd ((zin_inI (nI 0) 3 (by decide) (by decide)).symm.trans (bI_eq0 h9)) (by rw [hs9]; decide)
  · skip
    refine lv_iload_n hx hb dX8_trial_12 rfl (lv_at hl 1 rfl) ?_
    refine lv_if_le (tgt := 38) hx hb dX8_trial_13 (by decide) (fun h13 => ?_) (fun h13 => ?_)
    · skip
      refine lv_aload_n hx hb dX8_trial_38 rfl (lv_at hl 0 rfl) ?_
      refine zget zf_X8_47 hF hB 0 rfl rfl dX8_trial_39 ?_
      refine lv_iload_n hx hb dX8_trial_42 rfl (lv_at hl 1 rfl) ?_
      refine lv_iload_n hx hb dX8_trial_43 rfl (lv_at hl 1 rfl) ?_
      refine lv_if_ne (tgt := 51) hx hb dX8_trial_44 (by decide) (fun h44 => ?_) (fun h44 => ?_)
      · skip
        exact absurd (by decide) h44
      · skip
        refine lv_iconst (v := 0) hx hb dX8_trial_47 (by decide) ?_
        refine lv_goto (tgt := 52) hx hb dX8_trial_48 (by decide) ?_
        refine ziast hF hB 9 rfl 0 (by decide) (by decide) (by decide) dX8_trial_52 ?_
        clear hB
        try clear locs
        try clear H
        intro H locs hB
        replace hB : zB D A s ([(q, .inr (8, mO ad o z)), ((ad 9), .inl (ka 1, 4, .inr (.inl pu))), ((ad 4), .inl (ka 0, 8, .inl mo)), ((ad 5), .inl (ka 0, 8, .inl an)), ((ad 6), .inl (ka 0, 8, .inl pl)), ((ad 7), .inl (ka 0, 24, .inl ho)), ((ad 3), .inl (ka 1, 200, .inr (.inl nu))), ((ad 10), .inl (ka 0, 4, .inl ga)), ((ad 11), .inl (ka 0, 4, .inl lg)), ((ad 12), .inl (ka 0, 3, .inl (upd pm 0 (0 : Int32)))), ((ad 13), .inl (ka 0, 3, .inl pa))]) H locs := hB
        refine lv_aload_n hx hb dX8_trial_53 rfl (lv_at hl 0 rfl) ?_
        refine zget zf_X8_50 hF hB 0 rfl rfl dX8_trial_54 ?_
        refine lv_iload_n hx hb dX8_trial_57 rfl (lv_at hl 1 rfl) ?_
        refine lv_iload_n hx hb dX8_trial_58 rfl (lv_at hl 1 rfl) ?_
        refine lv_if_ne (tgt := 66) hx hb dX8_trial_59 (by decide) (fun h59 => ?_) (fun h59 => ?_)
        · skip
          exact absurd (by decide) h59
        · skip
          refine lv_iconst (v := 0) hx hb dX8_trial_62 (by decide) ?_
          refine lv_goto (tgt := 67) hx hb dX8_trial_63 (by decide) ?_
          refine ziast hF hB 10 rfl 0 (by decide) (by decide) (by decide) dX8_trial_67 ?_
          clear hB
          try clear locs
          try clear H
          intro H locs hB
          replace hB : zB D A s ([(q, .inr (8, mO ad o z)), ((ad 9), .inl (ka 1, 4, .inr (.inl pu))), ((ad 4), .inl (ka 0, 8, .inl mo)), ((ad 5), .inl (ka 0, 8, .inl an)), ((ad 6), .inl (ka 0, 8, .inl pl)), ((ad 7), .inl (ka 0, 24, .inl ho)), ((ad 3), .inl (ka 1, 200, .inr (.inl nu))), ((ad 10), .inl (ka 0, 4, .inl ga)), ((ad 11), .inl (ka 0, 4, .inl lg)), ((ad 12), .inl (ka 0, 3, .inl (upd pm 0 (0 : Int32)))), ((ad 13), .inl (ka 0, 3, .inl (upd pa 0 (0 : Int32))))]) H locs := hB
          refine lv_aload_n hx hb dX8_trial_68 rfl (lv_at hl 0 rfl) ?_
          refine lv_iconst (v := 0) hx hb dX8_trial_69 (by decide) ?_
          refine zput_f zp_X8_105 hF hB 0 rfl (rfl) (rfl) (Nat.le_of_ble_eq_true rfl) dX8_trial_70 ?_
          clear hB
          try clear locs
          try clear H
          intro H locs hB
          replace hB : zB D A s ([(q, .inr (8, mX ad (0 : Int32) z.1 z.2.1 z.2.2.1 z.2.2.2.1 z.2.2.2.2.1 z.2.2.2.2.2.1 z.2.2.2.2.2.2.1 z.2.2.2.2.2.2.2)), ((ad 9), .inl (ka 1, 4, .inr (.inl pu))), ((ad 4), .inl (ka 0, 8, .inl mo)), ((ad 5), .inl (ka 0, 8, .inl an)), ((ad 6), .inl (ka 0, 8, .inl pl)), ((ad 7), .inl (ka 0, 24, .inl ho)), ((ad 3), .inl (ka 1, 200, .inr (.inl nu))), ((ad 10), .inl (ka 0, 4, .inl ga)), ((ad 11), .inl (ka 0, 4, .inl lg)), ((ad 12), .inl (ka 0, 3, .inl (upd pm 0 (0 : Int32)))), ((ad 13), .inl (ka 0, 3, .inl (upd pa 0 (0 : Int32))))]) H locs := hB
          refine lv_iconst (v := 0) hx hb dX8_trial_73 (by decide) ?_
          refine lv_istore (lv' := [(4, .int (0 : Int32)), (0, .ref q), (1, .int (0 : Int32)), (2, .int mq), (3, .int aq)]) hx hb dX8_trial_74 hl (by decide) rfl ?_
          clear hl
          clear ls
          intro ls hl
          refine lv_iload hx hb dX8_trial_76 (lv_at hl 0 rfl) ?_
          refine lv_iconst (v := 2) hx hb dX8_trial_78 (by decide) ?_
          refine lv_icmp_ge (tgt := 210) hx hb dX8_trial_79 (by decide) (fun h79 => ?_) (fun h79 => ?_)
          · skip
            exact absurd h79 (by decide)
          · skip
            refine lv_iconst (v := 0) hx hb dX8_trial_82 (by decide) ?_
            refine lv_istore (lv' := [(5, .int (0 : Int32)), (4, .int (0 : Int32)), (0, .ref q), (1, .int (0 : Int32)), (2, .int mq), (3, .int aq)]) hx hb dX8_trial_83 hl (by decide) rfl ?_
            clear hl
            clear ls
            intro ls hl
            refine lv_iload hx hb dX8_trial_85 (lv_at hl 0 rfl) ?_
            refine lv_iconst (v := 2) hx hb dX8_trial_87 (by decide) ?_
            refine lv_icmp_ge (tgt := 186) hx hb dX8_trial_88 (by decide) (fun h88 => ?_) (fun h88 => ?_)
            · skip
              exact absurd h88 (by decide)
            · skip
              refine lv_aload_n hx hb dX8_trial_91 rfl (lv_at hl 2 rfl) ?_
              refine lv_bipush (v := 20) hx hb dX8_trial_92 (by decide) ?_
              refine lv_iload hx hb dX8_trial_94 (lv_at hl 0 rfl) ?_
              refine zVv zm_X8_255 hF hB (c_X8_pullTo l D ka kb q ad false z pu 20 0 L mo an pl ho nu (by decide) (by decide) (hL) (hok) (hoh)) [0, 1, 2, 3, 4, 5, 6] rfl (by decide) [q, (ad 9), (ad 4), (ad 5), (ad 6), (ad 7), (ad 3)] (fun _ => rfl) rfl 0 8 rfl rfl rfl ⟨Nat.le_of_ble_eq_true rfl, Nat.le_of_ble_eq_true rfl⟩ rfl hl.1 (Nat.le_of_ble_eq_true rfl) ⟨Nat.le_refl _, Nat.le_refl _⟩ dX8_trial_96 ?_
              clear hB
              try clear locs
              try clear H
              intro u2 H locs hp hB
              obtain ⟨pu22, rfl⟩ : ∃ z, z = u2 := ⟨_, rfl⟩
              have hp2 : True := hp
              have HPP := hp2
              replace hB : zB D A s ([(q, .inr (8, mX ad (0 : Int32) z.1 z.2.1 z.2.2.1 z.2.2.2.1 z.2.2.2.2.1 z.2.2.2.2.2.1 z.2.2.2.2.2.2.1 z.2.2.2.2.2.2.2)), ((ad 9), .inl (ka 1, 4, .inr (.inl pu22))), ((ad 4), .inl (ka 0, 8, .inl mo)), ((ad 5), .inl (ka 0, 8, .inl an)), ((ad 6), .inl (ka 0, 8, .inl pl)), ((ad 7), .inl (ka 0, 24, .inl ho)), ((ad 3), .inl (ka 1, 200, .inr (.inl (setN nu 20 (plN (pulI 0 L mo an pl ho)))))), ((ad 10), .inl (ka 0, 4, .inl ga)), ((ad 11), .inl (ka 0, 4, .inl lg)), ((ad 12), .inl (ka 0, 3, .inl (upd pm 0 (0 : Int32)))), ((ad 13), .inl (ka 0, 3, .inl (upd pa 0 (0 : Int32))))]) H locs := hB
              generalize hnn1 : (setN nu 20 (plN (pulI 0 L mo an pl ho))) = nn1 at hB
              have KN1 : keepN [20, 21, 22, 23, 24, 25, 6, 7] nu nn1 := by rw [← hnn1]; exact keepN.set (keepN.rf) (by simp) _
              have f1_20 : getN nn1 20 = plN (pulI 0 L mo an pl ho) := by rw [← hnn1, getN_same]
              clear hnn1
              refine lv_aload_n hx hb dX8_trial_99 rfl (lv_at hl 2 rfl) ?_
              refine lv_bipush (v := 21) hx hb dX8_trial_100 (by decide) ?_
              refine lv_aload_n hx hb dX8_trial_102 rfl (lv_at hl 2 rfl) ?_
              refine zget zf_X8_50 hF hB 0 rfl rfl dX8_trial_103 ?_
              refine lv_iload_n hx hb dX8_trial_106 rfl (lv_at hl 3 rfl) ?_
              refine ziald hF hB 10 rfl 0 (by decide) (by decide) (by decide) (v := (nI 0)) (rfl) dX8_trial_107 ?_
              refine lv_iload_n hx hb dX8_trial_108 rfl (lv_at hl 3 rfl) ?_
              refine lv_iload hx hb dX8_trial_109 (lv_at hl 0 rfl) ?_
              refine lv_iconst (v := 1) hx hb dX8_trial_111 (by decide) ?_
              refine lv_iadd hx hb dX8_trial_112 ?_
              refine ztopi (y := (1 : Int32)) (by decide) ?_
              refine lv_icmp_ne (tgt := 121) hx hb dX8_trial_113 (by decide) (fun h113 => ?_) (fun h113 => ?_)
              · skip
                refine lv_lconst (v := 0) hx hb dX8_trial_121 (by decide) ?_
                refine ztopl (y := Int64.ofInt 0) (rfl) ?_
                refine zVv zm_X8_258 hF hB (c_X8_wayTo l D ka kb q ad false z nn1 21 0 0 (by decide) ((by decide))) [0, 6] rfl (by decide) [q, (ad 3)] (fun _ => rfl) rfl 0 8 rfl rfl rfl ⟨Nat.le_of_ble_eq_true rfl, Nat.le_of_ble_eq_true rfl⟩ rfl hl.1 (Nat.le_of_ble_eq_true rfl) ⟨Nat.le_refl _, Nat.le_refl _⟩ dX8_trial_122 ?_
                clear hB
                try clear locs
                try clear H
                intro u3 H locs hp hB
                replace hB : zB D A s ([(q, .inr (8, mX ad (0 : Int32) z.1 z.2.1 z.2.2.1 z.2.2.2.1 z.2.2.2.2.1 z.2.2.2.2.2.1 z.2.2.2.2.2.2.1 z.2.2.2.2.2.2.2)), ((ad 9), .inl (ka 1, 4, .inr (.inl pu22))), ((ad 4), .inl (ka 0, 8, .inl mo)), ((ad 5), .inl (ka 0, 8, .inl an)), ((ad 6), .inl (ka 0, 8, .inl pl)), ((ad 7), .inl (ka 0, 24, .inl ho)), ((ad 3), .inl (ka 1, 200, .inr (.inl (setN nn1 21 (wyN 0 0))))), ((ad 10), .inl (ka 0, 4, .inl ga)), ((ad 11), .inl (ka 0, 4, .inl lg)), ((ad 12), .inl (ka 0, 3, .inl (upd pm 0 (0 : Int32)))), ((ad 13), .inl (ka 0, 3, .inl (upd pa 0 (0 : Int32))))]) H locs := hB
                generalize hnn2 : (setN nn1 21 (wyN 0 0)) = nn2 at hB
                have KN2 : keepN [20, 21, 22, 23, 24, 25, 6, 7] nu nn2 := by rw [← hnn2]; exact keepN.set (KN1) (by simp) _
                have f2_20 : getN nn2 20 = plN (pulI 0 L mo an pl ho) := by rw [← hnn2, getN_ne _ _ _ _ (by decide)]; exact f1_20
                have f2_21 : getN nn2 21 = wyN 0 0 := by rw [← hnn2, getN_same]
                clear hnn2
                clear f1_20
                clear KN1
                clear nn1
                refine lv_aload_n hx hb dX8_trial_125 rfl (lv_at hl 2 rfl) ?_
                refine lv_bipush (v := 22) hx hb dX8_trial_126 (by decide) ?_
                refine lv_bipush (v := 20) hx hb dX8_trial_128 (by decide) ?_
                refine lv_bipush (v := 21) hx hb dX8_trial_130 (by decide) ?_
                refine lv_iconst (v := 0) hx hb dX8_trial_132 (by decide) ?_
                refine zVv zm_X8_170 hF hB (c_X8_sum l D ka kb q ad false z nn2 22 20 21 false (by decide) (by decide) (by decide) (by
                    have e9 := plN_bd hbd0
                    rw [show nn2 (5 * 20 + 4) = (plN (pulI 0 L mo an pl ho)).2.2.2.2 from congrArg (fun v : N5 => v.2.2.2.2) f2_20]
                    have e8 := e9.2.2.2.2
                    omega) (by
                    have e9 := wyN_bd (y := 0) (Y := 99) (a := 0) (by decide) (by omega) (by decide)
                    rw [show nn2 (5 * 21 + 4) = (wyN 0 0).2.2.2.2 from congrArg (fun v : N5 => v.2.2.2.2) f2_21]
                    have e8 := e9.2.2.2.2
                    omega)) [0, 6] rfl (by decide) [q, (ad 3)] (fun _ => rfl) rfl 0 8 rfl rfl rfl ⟨Nat.le_of_ble_eq_true rfl, Nat.le_of_ble_eq_true rfl⟩ rfl hl.1 (Nat.le_of_ble_eq_true rfl) ⟨Nat.le_refl _, Nat.le_refl _⟩ dX8_trial_133 ?_
                clear hB
                try clear locs
                try clear H
                intro u4 H locs hp hB
                replace hB : zB D A s ([(q, .inr (8, mO ad (false || sumO false (getN nn2 20) (getN nn2 21)) z)), ((ad 9), .inl (ka 1, 4, .inr (.inl pu22))), ((ad 4), .inl (ka 0, 8, .inl mo)), ((ad 5), .inl (ka 0, 8, .inl an)), ((ad 6), .inl (ka 0, 8, .inl pl)), ((ad 7), .inl (ka 0, 24, .inl ho)), ((ad 3), .inl (ka 1, 200, .inr (.inl (if (false || sumO false (getN nn2 20) (getN nn2 21)) = true then nn2 else setN nn2 22 (sumV false (getN nn2 20) (getN nn2 21)))))), ((ad 10), .inl (ka 0, 4, .inl ga)), ((ad 11), .inl (ka 0, 4, .inl lg)), ((ad 12), .inl (ka 0, 3, .inl (upd pm 0 (0 : Int32)))), ((ad 13), .inl (ka 0, 3, .inl (upd pa 0 (0 : Int32))))]) H locs := hB
                have ho9 : (false || sumO false (getN nn2 20) (getN nn2 21)) = false := by rw [f2_20, f2_21]; exact (rd1_o hbd0 (y := 0) (a := 0) (by decide) (by decide)).1
                rw [ho9, if_neg Bool.false_ne_true] at hB
                replace hB : zB D A s ([(q, .inr (8, mO ad false z)), ((ad 9), .inl (ka 1, 4, .inr (.inl pu22))), ((ad 4), .inl (ka 0, 8, .inl mo)), ((ad 5), .inl (ka 0, 8, .inl an)), ((ad 6), .inl (ka 0, 8, .inl pl)), ((ad 7), .inl (ka 0, 24, .inl ho)), ((ad 3), .inl (ka 1, 200, .inr (.inl (setN nn2 22 (sumV false (getN nn2 20) (getN nn2 21)))))), ((ad 10), .inl (ka 0, 4, .inl ga)), ((ad 11), .inl (ka 0, 4, .inl lg)), ((ad 12), .inl (ka 0, 3, .inl (upd pm 0 (0 : Int32)))), ((ad 13), .inl (ka 0, 3, .inl (upd pa 0 (0 : Int32))))]) H locs := hB
                clear ho9
                generalize hnn3 : (setN nn2 22 (sumV false (getN nn2 20) (getN nn2 21))) = nn3 at hB
                have KN3 : keepN [20, 21, 22, 23, 24, 25, 6, 7] nu nn3 := by rw [← hnn3]; exact keepN.set (KN2) (by simp) _
                have f3_20 : getN nn3 20 = plN (pulI 0 L mo an pl ho) := by rw [← hnn3, getN_ne _ _ _ _ (by decide)]; exact f2_20
                have f3_21 : getN nn3 21 = wyN 0 0 := by rw [← hnn3, getN_ne _ _ _ _ (by decide)]; exact f2_21
                have f3_22 : getN nn3 22 = rd1 (pulI 0 L mo an pl ho) 0 0 := by rw [← hnn3, getN_same]; exact by rw [f2_20, f2_21]; rfl
                clear hnn3
                clear f2_20
                clear f2_21
                clear KN2
                clear nn2
                refine lv_aload_n hx hb dX8_trial_136 rfl (lv_at hl 2 rfl) ?_
                refine lv_bipush (v := 23) hx hb dX8_trial_137 (by decide) ?_
                refine lv_aload_n hx hb dX8_trial_139 rfl (lv_at hl 2 rfl) ?_
                refine zget zf_X8_44 hF hB 0 rfl rfl dX8_trial_140 ?_
                refine lv_iconst (v := 2) hx hb dX8_trial_143 (by decide) ?_
                refine lv_iload hx hb dX8_trial_144 (lv_at hl 1 rfl) ?_
                refine lv_imul hx hb dX8_trial_146 ?_
                refine ztopi (y := (0 : Int32)) (by decide) ?_
                refine lv_iload hx hb dX8_trial_147 (lv_at hl 0 rfl) ?_
                refine lv_iadd hx hb dX8_trial_149 ?_
                refine ztopi (y := (0 : Int32)) (by decide) ?_
                refine ziald hF hB 8 rfl 0 (by decide) (by decide) (by decide) (v := (nI l0)) (e0) dX8_trial_150 ?_
                refine lv_aload_n hx hb dX8_trial_151 rfl (lv_at hl 2 rfl) ?_
                refine zget zf_X8_41 hF hB 0 rfl rfl dX8_trial_152 ?_
                refine lv_iconst (v := 2) hx hb dX8_trial_155 (by decide) ?_
                refine lv_iload hx hb dX8_trial_156 (lv_at hl 1 rfl) ?_
                refine lv_imul hx hb dX8_trial_158 ?_
                refine ztopi (y := (0 : Int32)) (by decide) ?_
                refine lv_iload hx hb dX8_trial_159 (lv_at hl 0 rfl) ?_
                refine lv_iadd hx hb dX8_trial_161 ?_
                refine ztopi (y := (0 : Int32)) (by decide) ?_
                refine ziald hF hB 7 rfl 0 (by decide) (by decide) (by decide) (v := (ga 0)) (rfl) dX8_trial_162 ?_
                refine lv_i2l (v := (ga 0).toInt64) hx hb dX8_trial_163 rfl ?_
                refine ztopl (y := Int64.ofInt (ga 0).toInt) (i64_w _) ?_
                refine zVv zm_X8_258 hF hB (c_X8_wayTo l D ka kb q ad false z nn3 23 l0 ((ga 0).toInt) (by decide) (hl0)) [0, 6] rfl (by decide) [q, (ad 3)] (fun _ => rfl) rfl 0 8 rfl rfl rfl ⟨Nat.le_of_ble_eq_true rfl, Nat.le_of_ble_eq_true rfl⟩ rfl hl.1 (Nat.le_of_ble_eq_true rfl) ⟨Nat.le_refl _, Nat.le_refl _⟩ dX8_trial_164 ?_
                clear hB
                try clear locs
                try clear H
                intro u5 H locs hp hB
                replace hB : zB D A s ([(q, .inr (8, mO ad false z)), ((ad 9), .inl (ka 1, 4, .inr (.inl pu22))), ((ad 4), .inl (ka 0, 8, .inl mo)), ((ad 5), .inl (ka 0, 8, .inl an)), ((ad 6), .inl (ka 0, 8, .inl pl)), ((ad 7), .inl (ka 0, 24, .inl ho)), ((ad 3), .inl (ka 1, 200, .inr (.inl (setN nn3 23 (wyN ((ga 0).toInt) l0))))), ((ad 10), .inl (ka 0, 4, .inl ga)), ((ad 11), .inl (ka 0, 4, .inl lg)), ((ad 12), .inl (ka 0, 3, .inl (upd pm 0 (0 : Int32)))), ((ad 13), .inl (ka 0, 3, .inl (upd pa 0 (0 : Int32))))]) H locs := hB
                generalize hnn4 : (setN nn3 23 (wyN ((ga 0).toInt) l0)) = nn4 at hB
                have KN4 : keepN [20, 21, 22, 23, 24, 25, 6, 7] nu nn4 := by rw [← hnn4]; exact keepN.set (KN3) (by simp) _
                have f4_20 : getN nn4 20 = plN (pulI 0 L mo an pl ho) := by rw [← hnn4, getN_ne _ _ _ _ (by decide)]; exact f3_20
                have f4_21 : getN nn4 21 = wyN 0 0 := by rw [← hnn4, getN_ne _ _ _ _ (by decide)]; exact f3_21
                have f4_22 : getN nn4 22 = rd1 (pulI 0 L mo an pl ho) 0 0 := by rw [← hnn4, getN_ne _ _ _ _ (by decide)]; exact f3_22
                have f4_23 : getN nn4 23 = wyN (ga 0).toInt l0 := by rw [← hnn4, getN_same]
                clear hnn4
                clear f3_20
                clear f3_21
                clear f3_22
                clear KN3
                clear nn3
                refine lv_aload_n hx hb dX8_trial_167 rfl (lv_at hl 2 rfl) ?_
                refine lv_bipush (v := 24) hx hb dX8_trial_168 (by decide) ?_
                refine lv_iload hx hb dX8_trial_170 (lv_at hl 0 rfl) ?_
                refine lv_iadd hx hb dX8_trial_172 ?_
                refine ztopi (y := (24 : Int32)) (by decide) ?_
                refine lv_bipush (v := 22) hx hb dX8_trial_173 (by decide) ?_
                refine lv_bipush (v := 23) hx hb dX8_trial_175 (by decide) ?_
                refine zVv zm_X8_148 hF hB (c_X8_product l D ka kb q ad false z nn4 24 22 23 (by decide) (by decide) (by decide) (by
                    have e9 := (rd1_o hbd0 (y := 0) (a := 0) (by decide) (by decide)).2
                    rw [show nn4 (5 * 22 + 4) = (rd1 (pulI 0 L mo an pl ho) 0 0).2.2.2.2 from congrArg (fun v : N5 => v.2.2.2.2) f4_22]
                    have e8 := e9.2.2.2.2
                    omega) (by
                    have e9 := wyN_bd (y := (ga 0).toInt) (Y := 9) (a := l0) hl0 (by have := hga 0 (by decide); omega) (by decide)
                    rw [show nn4 (5 * 23 + 4) = (wyN (ga 0).toInt l0).2.2.2.2 from congrArg (fun v : N5 => v.2.2.2.2) f4_23]
                    have e8 := e9.2.2.2.2
                    omega)) [0, 6] rfl (by decide) [q, (ad 3)] (fun _ => rfl) rfl 0 8 rfl rfl rfl ⟨Nat.le_of_ble_eq_true rfl, Nat.le_of_ble_eq_true rfl⟩ rfl hl.1 (Nat.le_of_ble_eq_true rfl) ⟨Nat.le_refl _, Nat.le_refl _⟩ dX8_trial_177 ?_
                clear hB
                try clear locs
                try clear H
                intro u6 H locs hp hB
                replace hB : zB D A s ([(q, .inr (8, mO ad (false || prodO (getN nn4 22) (getN nn4 23)) z)), ((ad 9), .inl (ka 1, 4, .inr (.inl pu22))), ((ad 4), .inl (ka 0, 8, .inl mo)), ((ad 5), .inl (ka 0, 8, .inl an)), ((ad 6), .inl (ka 0, 8, .inl pl)), ((ad 7), .inl (ka 0, 24, .inl ho)), ((ad 3), .inl (ka 1, 200, .inr (.inl (if (false || prodO (getN nn4 22) (getN nn4 23)) = true then nn4 else setN nn4 24 (prodV (getN nn4 22) (getN nn4 23)))))), ((ad 10), .inl (ka 0, 4, .inl ga)), ((ad 11), .inl (ka 0, 4, .inl lg)), ((ad 12), .inl (ka 0, 3, .inl (upd pm 0 (0 : Int32)))), ((ad 13), .inl (ka 0, 3, .inl (upd pa 0 (0 : Int32))))]) H locs := hB
                have ho9 : (false || prodO (getN nn4 22) (getN nn4 23)) = false := by rw [f4_22, f4_23]; exact (rd2_o hbd0 (y := 0) (a := 0) (g := (ga 0).toInt) (l := l0) (by decide) (by decide) (hga 0 (by decide)) hl0).1
                rw [ho9, if_neg Bool.false_ne_true] at hB
                replace hB : zB D A s ([(q, .inr (8, mO ad false z)), ((ad 9), .inl (ka 1, 4, .inr (.inl pu22))), ((ad 4), .inl (ka 0, 8, .inl mo)), ((ad 5), .inl (ka 0, 8, .inl an)), ((ad 6), .inl (ka 0, 8, .inl pl)), ((ad 7), .inl (ka 0, 24, .inl ho)), ((ad 3), .inl (ka 1, 200, .inr (.inl (setN nn4 24 (prodV (getN nn4 22) (getN nn4 23)))))), ((ad 10), .inl (ka 0, 4, .inl ga)), ((ad 11), .inl (ka 0, 4, .inl lg)), ((ad 12), .inl (ka 0, 3, .inl (upd pm 0 (0 : Int32)))), ((ad 13), .inl (ka 0, 3, .inl (upd pa 0 (0 : Int32))))]) H locs := hB
                clear ho9
                generalize hnn5 : (setN nn4 24 (prodV (getN nn4 22) (getN nn4 23))) = nn5 at hB
                have KN5 : keepN [20, 21, 22, 23, 24, 25, 6, 7] nu nn5 := by rw [← hnn5]; exact keepN.set (KN4) (by simp) _
                have f5_20 : getN nn5 20 = plN (pulI 0 L mo an pl ho) := by rw [← hnn5, getN_ne _ _ _ _ (by decide)]; exact f4_20
                have f5_21 : getN nn5 21 = wyN 0 0 := by rw [← hnn5, getN_ne _ _ _ _ (by decide)]; exact f4_21
                have f5_22 : getN nn5 22 = rd1 (pulI 0 L mo an pl ho) 0 0 := by rw [← hnn5, getN_ne _ _ _ _ (by decide)]; exact f4_22
                have f5_23 : getN nn5 23 = wyN (ga 0).toInt l0 := by rw [← hnn5, getN_ne _ _ _ _ (by decide)]; exact f4_23
                have f5_24 : getN nn5 24 = rd2 (pulI 0 L mo an pl ho) 0 0 (ga 0).toInt l0 := by rw [← hnn5, getN_same]; exact by rw [f4_22, f4_23]; rfl
                clear hnn5
                clear f4_20
                clear f4_21
                clear f4_22
                clear f4_23
                clear KN4
                clear nn4
                refine lv_iinc (v := (1 : Int32)) (lv' := [(5, .int (1 : Int32)), (4, .int (0 : Int32)), (0, .ref q), (1, .int (0 : Int32)), (2, .int mq), (3, .int aq)]) hx hb dX8_trial_180 hl (k := 0) rfl (by decide) (by decide) rfl ?_
                clear hl
                clear ls
                intro ls hl
                refine lv_goto (tgt := 85) hx hb dX8_trial_183 (by decide) ?_
                refine lv_iload hx hb dX8_trial_85 (lv_at hl 0 rfl) ?_
                refine lv_iconst (v := 2) hx hb dX8_trial_87 (by decide) ?_
                refine lv_icmp_ge (tgt := 186) hx hb dX8_trial_88 (by decide) (fun h88 => ?_) (fun h88 => ?_)
                · skip
                  exact absurd h88 (by decide)
                · skip
                  refine lv_aload_n hx hb dX8_trial_91 rfl (lv_at hl 2 rfl) ?_
                  refine lv_bipush (v := 20) hx hb dX8_trial_92 (by decide) ?_
                  refine lv_iload hx hb dX8_trial_94 (lv_at hl 0 rfl) ?_
                  refine zVv zm_X8_255 hF hB (c_X8_pullTo l D ka kb q ad false z pu22 20 1 L mo an pl ho nn5 (by decide) (by decide) (hL) (hok) (hoh)) [0, 1, 2, 3, 4, 5, 6] rfl (by decide) [q, (ad 9), (ad 4), (ad 5), (ad 6), (ad 7), (ad 3)] (fun _ => rfl) rfl 0 8 rfl rfl rfl ⟨Nat.le_of_ble_eq_true rfl, Nat.le_of_ble_eq_true rfl⟩ rfl hl.1 (Nat.le_of_ble_eq_true rfl) ⟨Nat.le_refl _, Nat.le_refl _⟩ dX8_trial_96 ?_
                  clear hB
                  try clear locs
                  try clear H
                  intro u7 H locs hp hB
                  obtain ⟨pu27, rfl⟩ : ∃ z, z = u7 := ⟨_, rfl⟩
                  have hp7 : True := hp
                  have HPP := hp7
                  replace hB : zB D A s ([(q, .inr (8, mO ad false z)), ((ad 9), .inl (ka 1, 4, .inr (.inl pu27))), ((ad 4), .inl (ka 0, 8, .inl mo)), ((ad 5), .inl (ka 0, 8, .inl an)), ((ad 6), .inl (ka 0, 8, .inl pl)), ((ad 7), .inl (ka 0, 24, .inl ho)), ((ad 3), .inl (ka 1, 200, .inr (.inl (setN nn5 20 (plN (pulI 1 L mo an pl ho)))))), ((ad 10), .inl (ka 0, 4, .inl ga)), ((ad 11), .inl (ka 0, 4, .inl lg)), ((ad 12), .inl (ka 0, 3, .inl (upd pm 0 (0 : Int32)))), ((ad 13), .inl (ka 0, 3, .inl (upd pa 0 (0 : Int32))))]) H locs := hB
                  generalize hnn6 : (setN nn5 20 (plN (pulI 1 L mo an pl ho))) = nn6 at hB
                  have KN6 : keepN [20, 21, 22, 23, 24, 25, 6, 7] nu nn6 := by rw [← hnn6]; exact keepN.set (KN5) (by simp) _
                  have f6_21 : getN nn6 21 = wyN 0 0 := by rw [← hnn6, getN_ne _ _ _ _ (by decide)]; exact f5_21
                  have f6_22 : getN nn6 22 = rd1 (pulI 0 L mo an pl ho) 0 0 := by rw [← hnn6, getN_ne _ _ _ _ (by decide)]; exact f5_22
                  have f6_23 : getN nn6 23 = wyN (ga 0).toInt l0 := by rw [← hnn6, getN_ne _ _ _ _ (by decide)]; exact f5_23
                  have f6_24 : getN nn6 24 = rd2 (pulI 0 L mo an pl ho) 0 0 (ga 0).toInt l0 := by rw [← hnn6, getN_ne _ _ _ _ (by decide)]; exact f5_24
                  have f6_20 : getN nn6 20 = plN (pulI 1 L mo an pl ho) := by rw [← hnn6, getN_same]
                  clear hnn6
                  clear f5_20
                  clear f5_21
                  clear f5_22
                  clear f5_23
                  clear f5_24
                  clear KN5
                  clear nn5
                  refine lv_aload_n hx hb dX8_trial_99 rfl (lv_at hl 2 rfl) ?_
                  refine lv_bipush (v := 21) hx hb dX8_trial_100 (by decide) ?_
                  refine lv_aload_n hx hb dX8_trial_102 rfl (lv_at hl 2 rfl) ?_
                  refine zget zf_X8_50 hF hB 0 rfl rfl dX8_trial_103 ?_
                  refine lv_iload_n hx hb dX8_trial_106 rfl (lv_at hl 3 rfl) ?_
                  refine ziald hF hB 10 rfl 0 (by decide) (by decide) (by decide) (v := (nI 0)) (rfl) dX8_trial_107 ?_
                  refine lv_iload_n hx hb dX8_trial_108 rfl (lv_at hl 3 rfl) ?_
                  refine lv_iload hx hb dX8_trial_109 (lv_at hl 0 rfl) ?_
                  refine lv_iconst (v := 1) hx hb dX8_trial_111 (by decide) ?_
                  refine lv_iadd hx hb dX8_trial_112 ?_
                  refine ztopi (y := (2 : Int32)) (by decide) ?_
                  refine lv_icmp_ne (tgt := 121) hx hb dX8_trial_113 (by decide) (fun h113 => ?_) (fun h113 => ?_)
                  · skip
                    refine lv_lconst (v := 0) hx hb dX8_trial_121 (by decide) ?_
                    refine ztopl (y := Int64.ofInt 0) (rfl) ?_
                    refine zVv zm_X8_258 hF hB (c_X8_wayTo l D ka kb q ad false z nn6 21 0 0 (by decide) ((by decide))) [0, 6] rfl (by decide) [q, (ad 3)] (fun _ => rfl) rfl 0 8 rfl rfl rfl ⟨Nat.le_of_ble_eq_true rfl, Nat.le_of_ble_eq_true rfl⟩ rfl hl.1 (Nat.le_of_ble_eq_true rfl) ⟨Nat.le_refl _, Nat.le_refl _⟩ dX8_trial_122 ?_
                    clear hB
                    try clear locs
                    try clear H
                    intro u8 H locs hp hB
                    replace hB : zB D A s ([(q, .inr (8, mO ad false z)), ((ad 9), .inl (ka 1, 4, .inr (.inl pu27))), ((ad 4), .inl (ka 0, 8, .inl mo)), ((ad 5), .inl (ka 0, 8, .inl an)), ((ad 6), .inl (ka 0, 8, .inl pl)), ((ad 7), .inl (ka 0, 24, .inl ho)), ((ad 3), .inl (ka 1, 200, .inr (.inl (setN nn6 21 (wyN 0 0))))), ((ad 10), .inl (ka 0, 4, .inl ga)), ((ad 11), .inl (ka 0, 4, .inl lg)), ((ad 12), .inl (ka 0, 3, .inl (upd pm 0 (0 : Int32)))), ((ad 13), .inl (ka 0, 3, .inl (upd pa 0 (0 : Int32))))]) H locs := hB
                    generalize hnn7 : (setN nn6 21 (wyN 0 0)) = nn7 at hB
                    have KN7 : keepN [20, 21, 22, 23, 24, 25, 6, 7] nu nn7 := by rw [← hnn7]; exact keepN.set (KN6) (by simp) _
                    have f7_22 : getN nn7 22 = rd1 (pulI 0 L mo an pl ho) 0 0 := by rw [← hnn7, getN_ne _ _ _ _ (by decide)]; exact f6_22
                    have f7_23 : getN nn7 23 = wyN (ga 0).toInt l0 := by rw [← hnn7, getN_ne _ _ _ _ (by decide)]; exact f6_23
                    have f7_24 : getN nn7 24 = rd2 (pulI 0 L mo an pl ho) 0 0 (ga 0).toInt l0 := by rw [← hnn7, getN_ne _ _ _ _ (by decide)]; exact f6_24
                    have f7_20 : getN nn7 20 = plN (pulI 1 L mo an pl ho) := by rw [← hnn7, getN_ne _ _ _ _ (by decide)]; exact f6_20
                    have f7_21 : getN nn7 21 = wyN 0 0 := by rw [← hnn7, getN_same]
                    clear hnn7
                    clear f6_21
                    clear f6_22
                    clear f6_23
                    clear f6_24
                    clear f6_20
                    clear KN6
                    clear nn6
                    refine lv_aload_n hx hb dX8_trial_125 rfl (lv_at hl 2 rfl) ?_
                    refine lv_bipush (v := 22) hx hb dX8_trial_126 (by decide) ?_
                    refine lv_bipush (v := 20) hx hb dX8_trial_128 (by decide) ?_
                    refine lv_bipush (v := 21) hx hb dX8_trial_130 (by decide) ?_
                    refine lv_iconst (v := 0) hx hb dX8_trial_132 (by decide) ?_
                    refine zVv zm_X8_170 hF hB (c_X8_sum l D ka kb q ad false z nn7 22 20 21 false (by decide) (by decide) (by decide) (by
                        have e9 := plN_bd hbd1
                        rw [show nn7 (5 * 20 + 4) = (plN (pulI 1 L mo an pl ho)).2.2.2.2 from congrArg (fun v : N5 => v.2.2.2.2) f7_20]
                        have e8 := e9.2.2.2.2
                        omega) (by
                        have e9 := wyN_bd (y := 0) (Y := 99) (a := 0) (by decide) (by omega) (by decide)
                        rw [show nn7 (5 * 21 + 4) = (wyN 0 0).2.2.2.2 from congrArg (fun v : N5 => v.2.2.2.2) f7_21]
                        have e8 := e9.2.2.2.2
                        omega)) [0, 6] rfl (by decide) [q, (ad 3)] (fun _ => rfl) rfl 0 8 rfl rfl rfl ⟨Nat.le_of_ble_eq_true rfl, Nat.le_of_ble_eq_true rfl⟩ rfl hl.1 (Nat.le_of_ble_eq_true rfl) ⟨Nat.le_refl _, Nat.le_refl _⟩ dX8_trial_133 ?_
                    clear hB
                    try clear locs
                    try clear H
                    intro u9 H locs hp hB
                    replace hB : zB D A s ([(q, .inr (8, mO ad (false || sumO false (getN nn7 20) (getN nn7 21)) z)), ((ad 9), .inl (ka 1, 4, .inr (.inl pu27))), ((ad 4), .inl (ka 0, 8, .inl mo)), ((ad 5), .inl (ka 0, 8, .inl an)), ((ad 6), .inl (ka 0, 8, .inl pl)), ((ad 7), .inl (ka 0, 24, .inl ho)), ((ad 3), .inl (ka 1, 200, .inr (.inl (if (false || sumO false (getN nn7 20) (getN nn7 21)) = true then nn7 else setN nn7 22 (sumV false (getN nn7 20) (getN nn7 21)))))), ((ad 10), .inl (ka 0, 4, .inl ga)), ((ad 11), .inl (ka 0, 4, .inl lg)), ((ad 12), .inl (ka 0, 3, .inl (upd pm 0 (0 : Int32)))), ((ad 13), .inl (ka 0, 3, .inl (upd pa 0 (0 : Int32))))]) H locs := hB
                    have ho9 : (false || sumO false (getN nn7 20) (getN nn7 21)) = false := by rw [f7_20, f7_21]; exact (rd1_o hbd1 (y := 0) (a := 0) (by decide) (by decide)).1
                    rw [ho9, if_neg Bool.false_ne_true] at hB
                    replace hB : zB D A s ([(q, .inr (8, mO ad false z)), ((ad 9), .inl (ka 1, 4, .inr (.inl pu27))), ((ad 4), .inl (ka 0, 8, .inl mo)), ((ad 5), .inl (ka 0, 8, .inl an)), ((ad 6), .inl (ka 0, 8, .inl pl)), ((ad 7), .inl (ka 0, 24, .inl ho)), ((ad 3), .inl (ka 1, 200, .inr (.inl (setN nn7 22 (sumV false (getN nn7 20) (getN nn7 21)))))), ((ad 10), .inl (ka 0, 4, .inl ga)), ((ad 11), .inl (ka 0, 4, .inl lg)), ((ad 12), .inl (ka 0, 3, .inl (upd pm 0 (0 : Int32)))), ((ad 13), .inl (ka 0, 3, .inl (upd pa 0 (0 : Int32))))]) H locs := hB
                    clear ho9
                    generalize hnn8 : (setN nn7 22 (sumV false (getN nn7 20) (getN nn7 21))) = nn8 at hB
                    have KN8 : keepN [20, 21, 22, 23, 24, 25, 6, 7] nu nn8 := by rw [← hnn8]; exact keepN.set (KN7) (by simp) _
                    have f8_23 : getN nn8 23 = wyN (ga 0).toInt l0 := by rw [← hnn8, getN_ne _ _ _ _ (by decide)]; exact f7_23
                    have f8_24 : getN nn8 24 = rd2 (pulI 0 L mo an pl ho) 0 0 (ga 0).toInt l0 := by rw [← hnn8, getN_ne _ _ _ _ (by decide)]; exact f7_24
                    have f8_20 : getN nn8 20 = plN (pulI 1 L mo an pl ho) := by rw [← hnn8, getN_ne _ _ _ _ (by decide)]; exact f7_20
                    have f8_21 : getN nn8 21 = wyN 0 0 := by rw [← hnn8, getN_ne _ _ _ _ (by decide)]; exact f7_21
                    have f8_22 : getN nn8 22 = rd1 (pulI 1 L mo an pl ho) 0 0 := by rw [← hnn8, getN_same]; exact by rw [f7_20, f7_21]; rfl
                    clear hnn8
                    clear f7_22
                    clear f7_23
                    clear f7_24
                    clear f7_20
                    clear f7_21
                    clear KN7
                    clear nn7
                    refine lv_aload_n hx hb dX8_trial_136 rfl (lv_at hl 2 rfl) ?_
                    refine lv_bipush (v := 23) hx hb dX8_trial_137 (by decide) ?_
                    refine lv_aload_n hx hb dX8_trial_139 rfl (lv_at hl 2 rfl) ?_
                    refine zget zf_X8_44 hF hB 0 rfl rfl dX8_trial_140 ?_
                    refine lv_iconst (v := 2) hx hb dX8_trial_143 (by decide) ?_
                    refine lv_iload hx hb dX8_trial_144 (lv_at hl 1 rfl) ?_
                    refine lv_imul hx hb dX8_trial_146 ?_
                    refine ztopi (y := (0 : Int32)) (by decide) ?_
                    refine lv_iload hx hb dX8_trial_147 (lv_at hl 0 rfl) ?_
                    refine lv_iadd hx hb dX8_trial_149 ?_
                    refine ztopi (y := (1 : Int32)) (by decide) ?_
                    refine ziald hF hB 8 rfl 1 (by decide) (by decide) (by decide) (v := (nI l1)) (e1) dX8_trial_150 ?_
                    refine lv_aload_n hx hb dX8_trial_151 rfl (lv_at hl 2 rfl) ?_
                    refine zget zf_X8_41 hF hB 0 rfl rfl dX8_trial_152 ?_
                    refine lv_iconst (v := 2) hx hb dX8_trial_155 (by decide) ?_
                    refine lv_iload hx hb dX8_trial_156 (lv_at hl 1 rfl) ?_
                    refine lv_imul hx hb dX8_trial_158 ?_
                    refine ztopi (y := (0 : Int32)) (by decide) ?_
                    refine lv_iload hx hb dX8_trial_159 (lv_at hl 0 rfl) ?_
                    refine lv_iadd hx hb dX8_trial_161 ?_
                    refine ztopi (y := (1 : Int32)) (by decide) ?_
                    refine ziald hF hB 7 rfl 1 (by decide) (by decide) (by decide) (v := (ga 1)) (rfl) dX8_trial_162 ?_
                    refine lv_i2l (v := (ga 1).toInt64) hx hb dX8_trial_163 rfl ?_
                    refine ztopl (y := Int64.ofInt (ga 1).toInt) (i64_w _) ?_
                    refine zVv zm_X8_258 hF hB (c_X8_wayTo l D ka kb q ad false z nn8 23 l1 ((ga 1).toInt) (by decide) (hl1)) [0, 6] rfl (by decide) [q, (ad 3)] (fun _ => rfl) rfl 0 8 rfl rfl rfl ⟨Nat.le_of_ble_eq_true rfl, Nat.le_of_ble_eq_true rfl⟩ rfl hl.1 (Nat.le_of_ble_eq_true rfl) ⟨Nat.le_refl _, Nat.le_refl _⟩ dX8_trial_164 ?_
                    clear hB
                    try clear locs
                    try clear H
                    intro u10 H locs hp hB
                    replace hB : zB D A s ([(q, .inr (8, mO ad false z)), ((ad 9), .inl (ka 1, 4, .inr (.inl pu27))), ((ad 4), .inl (ka 0, 8, .inl mo)), ((ad 5), .inl (ka 0, 8, .inl an)), ((ad 6), .inl (ka 0, 8, .inl pl)), ((ad 7), .inl (ka 0, 24, .inl ho)), ((ad 3), .inl (ka 1, 200, .inr (.inl (setN nn8 23 (wyN ((ga 1).toInt) l1))))), ((ad 10), .inl (ka 0, 4, .inl ga)), ((ad 11), .inl (ka 0, 4, .inl lg)), ((ad 12), .inl (ka 0, 3, .inl (upd pm 0 (0 : Int32)))), ((ad 13), .inl (ka 0, 3, .inl (upd pa 0 (0 : Int32))))]) H locs := hB
                    generalize hnn9 : (setN nn8 23 (wyN ((ga 1).toInt) l1)) = nn9 at hB
                    have KN9 : keepN [20, 21, 22, 23, 24, 25, 6, 7] nu nn9 := by rw [← hnn9]; exact keepN.set (KN8) (by simp) _
                    have f9_24 : getN nn9 24 = rd2 (pulI 0 L mo an pl ho) 0 0 (ga 0).toInt l0 := by rw [← hnn9, getN_ne _ _ _ _ (by decide)]; exact f8_24
                    have f9_20 : getN nn9 20 = plN (pulI 1 L mo an pl ho) := by rw [← hnn9, getN_ne _ _ _ _ (by decide)]; exact f8_20
                    have f9_21 : getN nn9 21 = wyN 0 0 := by rw [← hnn9, getN_ne _ _ _ _ (by decide)]; exact f8_21
                    have f9_22 : getN nn9 22 = rd1 (pulI 1 L mo an pl ho) 0 0 := by rw [← hnn9, getN_ne _ _ _ _ (by decide)]; exact f8_22
                    have f9_23 : getN nn9 23 = wyN (ga 1).toInt l1 := by rw [← hnn9, getN_same]
                    clear hnn9
                    clear f8_23
                    clear f8_24
                    clear f8_20
                    clear f8_21
                    clear f8_22
                    clear KN8
                    clear nn8
                    refine lv_aload_n hx hb dX8_trial_167 rfl (lv_at hl 2 rfl) ?_
                    refine lv_bipush (v := 24) hx hb dX8_trial_168 (by decide) ?_
                    refine lv_iload hx hb dX8_trial_170 (lv_at hl 0 rfl) ?_
                    refine lv_iadd hx hb dX8_trial_172 ?_
                    refine ztopi (y := (25 : Int32)) (by decide) ?_
                    refine lv_bipush (v := 22) hx hb dX8_trial_173 (by decide) ?_
                    refine lv_bipush (v := 23) hx hb dX8_trial_175 (by decide) ?_
                    refine zVv zm_X8_148 hF hB (c_X8_product l D ka kb q ad false z nn9 25 22 23 (by decide) (by decide) (by decide) (by
                        have e9 := (rd1_o hbd1 (y := 0) (a := 0) (by decide) (by decide)).2
                        rw [show nn9 (5 * 22 + 4) = (rd1 (pulI 1 L mo an pl ho) 0 0).2.2.2.2 from congrArg (fun v : N5 => v.2.2.2.2) f9_22]
                        have e8 := e9.2.2.2.2
                        omega) (by
                        have e9 := wyN_bd (y := (ga 1).toInt) (Y := 9) (a := l1) hl1 (by have := hga 1 (by decide); omega) (by decide)
                        rw [show nn9 (5 * 23 + 4) = (wyN (ga 1).toInt l1).2.2.2.2 from congrArg (fun v : N5 => v.2.2.2.2) f9_23]
                        have e8 := e9.2.2.2.2
                        omega)) [0, 6] rfl (by decide) [q, (ad 3)] (fun _ => rfl) rfl 0 8 rfl rfl rfl ⟨Nat.le_of_ble_eq_true rfl, Nat.le_of_ble_eq_true rfl⟩ rfl hl.1 (Nat.le_of_ble_eq_true rfl) ⟨Nat.le_refl _, Nat.le_refl _⟩ dX8_trial_177 ?_
                    clear hB
                    try clear locs
                    try clear H
                    intro u11 H locs hp hB
                    replace hB : zB D A s ([(q, .inr (8, mO ad (false || prodO (getN nn9 22) (getN nn9 23)) z)), ((ad 9), .inl (ka 1, 4, .inr (.inl pu27))), ((ad 4), .inl (ka 0, 8, .inl mo)), ((ad 5), .inl (ka 0, 8, .inl an)), ((ad 6), .inl (ka 0, 8, .inl pl)), ((ad 7), .inl (ka 0, 24, .inl ho)), ((ad 3), .inl (ka 1, 200, .inr (.inl (if (false || prodO (getN nn9 22) (getN nn9 23)) = true then nn9 else setN nn9 25 (prodV (getN nn9 22) (getN nn9 23)))))), ((ad 10), .inl (ka 0, 4, .inl ga)), ((ad 11), .inl (ka 0, 4, .inl lg)), ((ad 12), .inl (ka 0, 3, .inl (upd pm 0 (0 : Int32)))), ((ad 13), .inl (ka 0, 3, .inl (upd pa 0 (0 : Int32))))]) H locs := hB
                    have ho9 : (false || prodO (getN nn9 22) (getN nn9 23)) = false := by rw [f9_22, f9_23]; exact (rd2_o hbd1 (y := 0) (a := 0) (g := (ga 1).toInt) (l := l1) (by decide) (by decide) (hga 1 (by decide)) hl1).1
                    rw [ho9, if_neg Bool.false_ne_true] at hB
                    replace hB : zB D A s ([(q, .inr (8, mO ad false z)), ((ad 9), .inl (ka 1, 4, .inr (.inl pu27))), ((ad 4), .inl (ka 0, 8, .inl mo)), ((ad 5), .inl (ka 0, 8, .inl an)), ((ad 6), .inl (ka 0, 8, .inl pl)), ((ad 7), .inl (ka 0, 24, .inl ho)), ((ad 3), .inl (ka 1, 200, .inr (.inl (setN nn9 25 (prodV (getN nn9 22) (getN nn9 23)))))), ((ad 10), .inl (ka 0, 4, .inl ga)), ((ad 11), .inl (ka 0, 4, .inl lg)), ((ad 12), .inl (ka 0, 3, .inl (upd pm 0 (0 : Int32)))), ((ad 13), .inl (ka 0, 3, .inl (upd pa 0 (0 : Int32))))]) H locs := hB
                    clear ho9
                    generalize hnn10 : (setN nn9 25 (prodV (getN nn9 22) (getN nn9 23))) = nn10 at hB
                    have KN10 : keepN [20, 21, 22, 23, 24, 25, 6, 7] nu nn10 := by rw [← hnn10]; exact keepN.set (KN9) (by simp) _
                    have f10_24 : getN nn10 24 = rd2 (pulI 0 L mo an pl ho) 0 0 (ga 0).toInt l0 := by rw [← hnn10, getN_ne _ _ _ _ (by decide)]; exact f9_24
                    have f10_20 : getN nn10 20 = plN (pulI 1 L mo an pl ho) := by rw [← hnn10, getN_ne _ _ _ _ (by decide)]; exact f9_20
                    have f10_21 : getN nn10 21 = wyN 0 0 := by rw [← hnn10, getN_ne _ _ _ _ (by decide)]; exact f9_21
                    have f10_22 : getN nn10 22 = rd1 (pulI 1 L mo an pl ho) 0 0 := by rw [← hnn10, getN_ne _ _ _ _ (by decide)]; exact f9_22
                    have f10_23 : getN nn10 23 = wyN (ga 1).toInt l1 := by rw [← hnn10, getN_ne _ _ _ _ (by decide)]; exact f9_23
                    have f10_25 : getN nn10 25 = rd2 (pulI 1 L mo an pl ho) 0 0 (ga 1).toInt l1 := by rw [← hnn10, getN_same]; exact by rw [f9_22, f9_23]; rfl
                    clear hnn10
                    clear f9_24
                    clear f9_20
                    clear f9_21
                    clear f9_22
                    clear f9_23
                    clear KN9
                    clear nn9
                    refine lv_iinc (v := (2 : Int32)) (lv' := [(5, .int (2 : Int32)), (4, .int (0 : Int32)), (0, .ref q), (1, .int (0 : Int32)), (2, .int mq), (3, .int aq)]) hx hb dX8_trial_180 hl (k := 0) rfl (by decide) (by decide) rfl ?_
                    clear hl
                    clear ls
                    intro ls hl
                    refine lv_goto (tgt := 85) hx hb dX8_trial_183 (by decide) ?_
                    refine lv_iload hx hb dX8_trial_85 (lv_at hl 0 rfl) ?_
                    refine lv_iconst (v := 2) hx hb dX8_trial_87 (by decide) ?_
                    refine lv_icmp_ge (tgt := 186) hx hb dX8_trial_88 (by decide) (fun h88 => ?_) (fun h88 => ?_)
                    · skip
                      refine lv_aload_n hx hb dX8_trial_186 rfl (lv_at hl 2 rfl) ?_
                      refine lv_bipush (v := 6) hx hb dX8_trial_187 (by decide) ?_
                      refine lv_iconst (v := 2) hx hb dX8_trial_189 (by decide) ?_
                      refine lv_iload_n hx hb dX8_trial_190 rfl (lv_at hl 3 rfl) ?_
                      refine lv_imul hx hb dX8_trial_191 ?_
                      refine ztopi (y := (0 : Int32)) (by decide) ?_
                      refine lv_iadd hx hb dX8_trial_192 ?_
                      refine ztopi (y := (6 : Int32)) (by decide) ?_
                      refine lv_iload hx hb dX8_trial_193 (lv_at hl 1 rfl) ?_
                      refine lv_iadd hx hb dX8_trial_195 ?_
                      refine ztopi (y := (6 : Int32)) (by decide) ?_
                      refine lv_bipush (v := 24) hx hb dX8_trial_196 (by decide) ?_
                      refine lv_bipush (v := 25) hx hb dX8_trial_198 (by decide) ?_
                      refine lv_iconst (v := 0) hx hb dX8_trial_200 (by decide) ?_
                      refine zVv zm_X8_170 hF hB (c_X8_sum l D ka kb q ad false z nn10 6 24 25 false (by decide) (by decide) (by decide) (by
                          have e9 := (rd2_o hbd0 (y := 0) (a := 0) (g := (ga 0).toInt) (l := l0) (by decide) (by decide) (hga 0 (by decide)) hl0).2
                          rw [show nn10 (5 * 24 + 4) = (rd2 (pulI 0 L mo an pl ho) 0 0 (ga 0).toInt l0).2.2.2.2 from congrArg (fun v : N5 => v.2.2.2.2) f10_24]
                          have e8 := e9.2.2.2.2
                          omega) (by
                          have e9 := (rd2_o hbd1 (y := 0) (a := 0) (g := (ga 1).toInt) (l := l1) (by decide) (by decide) (hga 1 (by decide)) hl1).2
                          rw [show nn10 (5 * 25 + 4) = (rd2 (pulI 1 L mo an pl ho) 0 0 (ga 1).toInt l1).2.2.2.2 from congrArg (fun v : N5 => v.2.2.2.2) f10_25]
                          have e8 := e9.2.2.2.2
                          omega)) [0, 6] rfl (by decide) [q, (ad 3)] (fun _ => rfl) rfl 0 8 rfl rfl rfl ⟨Nat.le_of_ble_eq_true rfl, Nat.le_of_ble_eq_true rfl⟩ rfl hl.1 (Nat.le_of_ble_eq_true rfl) ⟨Nat.le_refl _, Nat.le_refl _⟩ dX8_trial_201 ?_
                      clear hB
                      try clear locs
                      try clear H
                      intro u12 H locs hp hB
                      replace hB : zB D A s ([(q, .inr (8, mO ad (false || sumO false (getN nn10 24) (getN nn10 25)) z)), ((ad 9), .inl (ka 1, 4, .inr (.inl pu27))), ((ad 4), .inl (ka 0, 8, .inl mo)), ((ad 5), .inl (ka 0, 8, .inl an)), ((ad 6), .inl (ka 0, 8, .inl pl)), ((ad 7), .inl (ka 0, 24, .inl ho)), ((ad 3), .inl (ka 1, 200, .inr (.inl (if (false || sumO false (getN nn10 24) (getN nn10 25)) = true then nn10 else setN nn10 6 (sumV false (getN nn10 24) (getN nn10 25)))))), ((ad 10), .inl (ka 0, 4, .inl ga)), ((ad 11), .inl (ka 0, 4, .inl lg)), ((ad 12), .inl (ka 0, 3, .inl (upd pm 0 (0 : Int32)))), ((ad 13), .inl (ka 0, 3, .inl (upd pa 0 (0 : Int32))))]) H locs := hB
                      have ho9 : (false || sumO false (getN nn10 24) (getN nn10 25)) = false := by rw [f10_24, f10_25]; exact (rd3_o hbd0 hbd1 (y0 := 0) (y1 := 0) (a := 0) (g0 := (ga 0).toInt) (g1 := (ga 1).toInt) (l0 := l0) (l1 := l1) (by decide) (by decide) (by decide) (hga 0 (by decide)) (hga 1 (by decide)) hl0 hl1).1
                      rw [ho9, if_neg Bool.false_ne_true] at hB
                      replace hB : zB D A s ([(q, .inr (8, mO ad false z)), ((ad 9), .inl (ka 1, 4, .inr (.inl pu27))), ((ad 4), .inl (ka 0, 8, .inl mo)), ((ad 5), .inl (ka 0, 8, .inl an)), ((ad 6), .inl (ka 0, 8, .inl pl)), ((ad 7), .inl (ka 0, 24, .inl ho)), ((ad 3), .inl (ka 1, 200, .inr (.inl (setN nn10 6 (sumV false (getN nn10 24) (getN nn10 25)))))), ((ad 10), .inl (ka 0, 4, .inl ga)), ((ad 11), .inl (ka 0, 4, .inl lg)), ((ad 12), .inl (ka 0, 3, .inl (upd pm 0 (0 : Int32)))), ((ad 13), .inl (ka 0, 3, .inl (upd pa 0 (0 : Int32))))]) H locs := hB
                      clear ho9
                      generalize hnn11 : (setN nn10 6 (sumV false (getN nn10 24) (getN nn10 25))) = nn11 at hB
                      have KN11 : keepN [20, 21, 22, 23, 24, 25, 6, 7] nu nn11 := by rw [← hnn11]; exact keepN.set (KN10) (by simp) _
                      have f11_24 : getN nn11 24 = rd2 (pulI 0 L mo an pl ho) 0 0 (ga 0).toInt l0 := by rw [← hnn11, getN_ne _ _ _ _ (by decide)]; exact f10_24
                      have f11_20 : getN nn11 20 = plN (pulI 1 L mo an pl ho) := by rw [← hnn11, getN_ne _ _ _ _ (by decide)]; exact f10_20
                      have f11_21 : getN nn11 21 = wyN 0 0 := by rw [← hnn11, getN_ne _ _ _ _ (by decide)]; exact f10_21
                      have f11_22 : getN nn11 22 = rd1 (pulI 1 L mo an pl ho) 0 0 := by rw [← hnn11, getN_ne _ _ _ _ (by decide)]; exact f10_22
                      have f11_23 : getN nn11 23 = wyN (ga 1).toInt l1 := by rw [← hnn11, getN_ne _ _ _ _ (by decide)]; exact f10_23
                      have f11_25 : getN nn11 25 = rd2 (pulI 1 L mo an pl ho) 0 0 (ga 1).toInt l1 := by rw [← hnn11, getN_ne _ _ _ _ (by decide)]; exact f10_25
                      have f11_6 : getN nn11 6 = rd3 (pulI 0 L mo an pl ho) (pulI 1 L mo an pl ho) 0 0 0 (ga 0).toInt l0 (ga 1).toInt l1 := by rw [← hnn11, getN_same]; exact by rw [f10_24, f10_25]; rfl
                      clear hnn11
                      clear f10_24
                      clear f10_20
                      clear f10_21
                      clear f10_22
                      clear f10_23
                      clear f10_25
                      clear KN10
                      clear nn10
                      refine lv_iinc (v := (1 : Int32)) (lv' := [(4, .int (1 : Int32)), (5, .int (2 : Int32)), (0, .ref q), (1, .int (0 : Int32)), (2, .int mq), (3, .int aq)]) hx hb dX8_trial_204 hl (k := 1) rfl (by decide) (by decide) rfl ?_
                      clear hl
                      clear ls
                      intro ls hl
                      refine lv_goto (tgt := 76) hx hb dX8_trial_207 (by decide) ?_
                      refine lv_iload hx hb dX8_trial_76 (lv_at hl 0 rfl) ?_
                      refine lv_iconst (v := 2) hx hb dX8_trial_78 (by decide) ?_
                      refine lv_icmp_ge (tgt := 210) hx hb dX8_trial_79 (by decide) (fun h79 => ?_) (fun h79 => ?_)
                      · skip
                        exact absurd h79 (by decide)
                      · skip
                        refine lv_iconst (v := 0) hx hb dX8_trial_82 (by decide) ?_
                        refine lv_istore (lv' := [(5, .int (0 : Int32)), (4, .int (1 : Int32)), (0, .ref q), (1, .int (0 : Int32)), (2, .int mq), (3, .int aq)]) hx hb dX8_trial_83 hl (by decide) rfl ?_
                        clear hl
                        clear ls
                        intro ls hl
                        refine lv_iload hx hb dX8_trial_85 (lv_at hl 0 rfl) ?_
                        refine lv_iconst (v := 2) hx hb dX8_trial_87 (by decide) ?_
                        refine lv_icmp_ge (tgt := 186) hx hb dX8_trial_88 (by decide) (fun h88 => ?_) (fun h88 => ?_)
                        · skip
                          exact absurd h88 (by decide)
                        · skip
                          refine lv_aload_n hx hb dX8_trial_91 rfl (lv_at hl 2 rfl) ?_
                          refine lv_bipush (v := 20) hx hb dX8_trial_92 (by decide) ?_
                          refine lv_iload hx hb dX8_trial_94 (lv_at hl 0 rfl) ?_
                          refine zVv zm_X8_255 hF hB (c_X8_pullTo l D ka kb q ad false z pu27 20 0 L mo an pl ho nn11 (by decide) (by decide) (hL) (hok) (hoh)) [0, 1, 2, 3, 4, 5, 6] rfl (by decide) [q, (ad 9), (ad 4), (ad 5), (ad 6), (ad 7), (ad 3)] (fun _ => rfl) rfl 0 8 rfl rfl rfl ⟨Nat.le_of_ble_eq_true rfl, Nat.le_of_ble_eq_true rfl⟩ rfl hl.1 (Nat.le_of_ble_eq_true rfl) ⟨Nat.le_refl _, Nat.le_refl _⟩ dX8_trial_96 ?_
                          clear hB
                          try clear locs
                          try clear H
                          intro u13 H locs hp hB
                          obtain ⟨pu213, rfl⟩ : ∃ z, z = u13 := ⟨_, rfl⟩
                          have hp13 : True := hp
                          have HPP := hp13
                          replace hB : zB D A s ([(q, .inr (8, mO ad false z)), ((ad 9), .inl (ka 1, 4, .inr (.inl pu213))), ((ad 4), .inl (ka 0, 8, .inl mo)), ((ad 5), .inl (ka 0, 8, .inl an)), ((ad 6), .inl (ka 0, 8, .inl pl)), ((ad 7), .inl (ka 0, 24, .inl ho)), ((ad 3), .inl (ka 1, 200, .inr (.inl (setN nn11 20 (plN (pulI 0 L mo an pl ho)))))), ((ad 10), .inl (ka 0, 4, .inl ga)), ((ad 11), .inl (ka 0, 4, .inl lg)), ((ad 12), .inl (ka 0, 3, .inl (upd pm 0 (0 : Int32)))), ((ad 13), .inl (ka 0, 3, .inl (upd pa 0 (0 : Int32))))]) H locs := hB
                          generalize hnn12 : (setN nn11 20 (plN (pulI 0 L mo an pl ho))) = nn12 at hB
                          have KN12 : keepN [20, 21, 22, 23, 24, 25, 6, 7] nu nn12 := by rw [← hnn12]; exact keepN.set (KN11) (by simp) _
                          have f12_24 : getN nn12 24 = rd2 (pulI 0 L mo an pl ho) 0 0 (ga 0).toInt l0 := by rw [← hnn12, getN_ne _ _ _ _ (by decide)]; exact f11_24
                          have f12_21 : getN nn12 21 = wyN 0 0 := by rw [← hnn12, getN_ne _ _ _ _ (by decide)]; exact f11_21
                          have f12_22 : getN nn12 22 = rd1 (pulI 1 L mo an pl ho) 0 0 := by rw [← hnn12, getN_ne _ _ _ _ (by decide)]; exact f11_22
                          have f12_23 : getN nn12 23 = wyN (ga 1).toInt l1 := by rw [← hnn12, getN_ne _ _ _ _ (by decide)]; exact f11_23
                          have f12_25 : getN nn12 25 = rd2 (pulI 1 L mo an pl ho) 0 0 (ga 1).toInt l1 := by rw [← hnn12, getN_ne _ _ _ _ (by decide)]; exact f11_25
                          have f12_6 : getN nn12 6 = rd3 (pulI 0 L mo an pl ho) (pulI 1 L mo an pl ho) 0 0 0 (ga 0).toInt l0 (ga 1).toInt l1 := by rw [← hnn12, getN_ne _ _ _ _ (by decide)]; exact f11_6
                          have f12_20 : getN nn12 20 = plN (pulI 0 L mo an pl ho) := by rw [← hnn12, getN_same]
                          clear hnn12
                          clear f11_24
                          clear f11_20
                          clear f11_21
                          clear f11_22
                          clear f11_23
                          clear f11_25
                          clear f11_6
                          clear KN11
                          clear nn11
                          refine lv_aload_n hx hb dX8_trial_99 rfl (lv_at hl 2 rfl) ?_
                          refine lv_bipush (v := 21) hx hb dX8_trial_100 (by decide) ?_
                          refine lv_aload_n hx hb dX8_trial_102 rfl (lv_at hl 2 rfl) ?_
                          refine zget zf_X8_50 hF hB 0 rfl rfl dX8_trial_103 ?_
                          refine lv_iload_n hx hb dX8_trial_106 rfl (lv_at hl 3 rfl) ?_
                          refine ziald hF hB 10 rfl 0 (by decide) (by decide) (by decide) (v := (nI 0)) (rfl) dX8_trial_107 ?_
                          refine lv_iload_n hx hb dX8_trial_108 rfl (lv_at hl 3 rfl) ?_
                          refine lv_iload hx hb dX8_trial_109 (lv_at hl 0 rfl) ?_
                          refine lv_iconst (v := 1) hx hb dX8_trial_111 (by decide) ?_
                          refine lv_iadd hx hb dX8_trial_112 ?_
                          refine ztopi (y := (1 : Int32)) (by decide) ?_
                          refine lv_icmp_ne (tgt := 121) hx hb dX8_trial_113 (by decide) (fun h113 => ?_) (fun h113 => ?_)
                          · skip
                            refine lv_lconst (v := 0) hx hb dX8_trial_121 (by decide) ?_
                            refine ztopl (y := Int64.ofInt 0) (rfl) ?_
                            refine zVv zm_X8_258 hF hB (c_X8_wayTo l D ka kb q ad false z nn12 21 0 0 (by decide) ((by decide))) [0, 6] rfl (by decide) [q, (ad 3)] (fun _ => rfl) rfl 0 8 rfl rfl rfl ⟨Nat.le_of_ble_eq_true rfl, Nat.le_of_ble_eq_true rfl⟩ rfl hl.1 (Nat.le_of_ble_eq_true rfl) ⟨Nat.le_refl _, Nat.le_refl _⟩ dX8_trial_122 ?_
                            clear hB
                            try clear locs
                            try clear H
                            intro u14 H locs hp hB
                            replace hB : zB D A s ([(q, .inr (8, mO ad false z)), ((ad 9), .inl (ka 1, 4, .inr (.inl pu213))), ((ad 4), .inl (ka 0, 8, .inl mo)), ((ad 5), .inl (ka 0, 8, .inl an)), ((ad 6), .inl (ka 0, 8, .inl pl)), ((ad 7), .inl (ka 0, 24, .inl ho)), ((ad 3), .inl (ka 1, 200, .inr (.inl (setN nn12 21 (wyN 0 0))))), ((ad 10), .inl (ka 0, 4, .inl ga)), ((ad 11), .inl (ka 0, 4, .inl lg)), ((ad 12), .inl (ka 0, 3, .inl (upd pm 0 (0 : Int32)))), ((ad 13), .inl (ka 0, 3, .inl (upd pa 0 (0 : Int32))))]) H locs := hB
                            generalize hnn13 : (setN nn12 21 (wyN 0 0)) = nn13 at hB
                            have KN13 : keepN [20, 21, 22, 23, 24, 25, 6, 7] nu nn13 := by rw [← hnn13]; exact keepN.set (KN12) (by simp) _
                            have f13_24 : getN nn13 24 = rd2 (pulI 0 L mo an pl ho) 0 0 (ga 0).toInt l0 := by rw [← hnn13, getN_ne _ _ _ _ (by decide)]; exact f12_24
                            have f13_22 : getN nn13 22 = rd1 (pulI 1 L mo an pl ho) 0 0 := by rw [← hnn13, getN_ne _ _ _ _ (by decide)]; exact f12_22
                            have f13_23 : getN nn13 23 = wyN (ga 1).toInt l1 := by rw [← hnn13, getN_ne _ _ _ _ (by decide)]; exact f12_23
                            have f13_25 : getN nn13 25 = rd2 (pulI 1 L mo an pl ho) 0 0 (ga 1).toInt l1 := by rw [← hnn13, getN_ne _ _ _ _ (by decide)]; exact f12_25
                            have f13_6 : getN nn13 6 = rd3 (pulI 0 L mo an pl ho) (pulI 1 L mo an pl ho) 0 0 0 (ga 0).toInt l0 (ga 1).toInt l1 := by rw [← hnn13, getN_ne _ _ _ _ (by decide)]; exact f12_6
                            have f13_20 : getN nn13 20 = plN (pulI 0 L mo an pl ho) := by rw [← hnn13, getN_ne _ _ _ _ (by decide)]; exact f12_20
                            have f13_21 : getN nn13 21 = wyN 0 0 := by rw [← hnn13, getN_same]
                            clear hnn13
                            clear f12_24
                            clear f12_21
                            clear f12_22
                            clear f12_23
                            clear f12_25
                            clear f12_6
                            clear f12_20
                            clear KN12
                            clear nn12
                            refine lv_aload_n hx hb dX8_trial_125 rfl (lv_at hl 2 rfl) ?_
                            refine lv_bipush (v := 22) hx hb dX8_trial_126 (by decide) ?_
                            refine lv_bipush (v := 20) hx hb dX8_trial_128 (by decide) ?_
                            refine lv_bipush (v := 21) hx hb dX8_trial_130 (by decide) ?_
                            refine lv_iconst (v := 0) hx hb dX8_trial_132 (by decide) ?_
                            refine zVv zm_X8_170 hF hB (c_X8_sum l D ka kb q ad false z nn13 22 20 21 false (by decide) (by decide) (by decide) (by
                                have e9 := plN_bd hbd0
                                rw [show nn13 (5 * 20 + 4) = (plN (pulI 0 L mo an pl ho)).2.2.2.2 from congrArg (fun v : N5 => v.2.2.2.2) f13_20]
                                have e8 := e9.2.2.2.2
                                omega) (by
                                have e9 := wyN_bd (y := 0) (Y := 99) (a := 0) (by decide) (by omega) (by decide)
                                rw [show nn13 (5 * 21 + 4) = (wyN 0 0).2.2.2.2 from congrArg (fun v : N5 => v.2.2.2.2) f13_21]
                                have e8 := e9.2.2.2.2
                                omega)) [0, 6] rfl (by decide) [q, (ad 3)] (fun _ => rfl) rfl 0 8 rfl rfl rfl ⟨Nat.le_of_ble_eq_true rfl, Nat.le_of_ble_eq_true rfl⟩ rfl hl.1 (Nat.le_of_ble_eq_true rfl) ⟨Nat.le_refl _, Nat.le_refl _⟩ dX8_trial_133 ?_
                            clear hB
                            try clear locs
                            try clear H
                            intro u15 H locs hp hB
                            replace hB : zB D A s ([(q, .inr (8, mO ad (false || sumO false (getN nn13 20) (getN nn13 21)) z)), ((ad 9), .inl (ka 1, 4, .inr (.inl pu213))), ((ad 4), .inl (ka 0, 8, .inl mo)), ((ad 5), .inl (ka 0, 8, .inl an)), ((ad 6), .inl (ka 0, 8, .inl pl)), ((ad 7), .inl (ka 0, 24, .inl ho)), ((ad 3), .inl (ka 1, 200, .inr (.inl (if (false || sumO false (getN nn13 20) (getN nn13 21)) = true then nn13 else setN nn13 22 (sumV false (getN nn13 20) (getN nn13 21)))))), ((ad 10), .inl (ka 0, 4, .inl ga)), ((ad 11), .inl (ka 0, 4, .inl lg)), ((ad 12), .inl (ka 0, 3, .inl (upd pm 0 (0 : Int32)))), ((ad 13), .inl (ka 0, 3, .inl (upd pa 0 (0 : Int32))))]) H locs := hB
                            have ho9 : (false || sumO false (getN nn13 20) (getN nn13 21)) = false := by rw [f13_20, f13_21]; exact (rd1_o hbd0 (y := 0) (a := 0) (by decide) (by decide)).1
                            rw [ho9, if_neg Bool.false_ne_true] at hB
                            replace hB : zB D A s ([(q, .inr (8, mO ad false z)), ((ad 9), .inl (ka 1, 4, .inr (.inl pu213))), ((ad 4), .inl (ka 0, 8, .inl mo)), ((ad 5), .inl (ka 0, 8, .inl an)), ((ad 6), .inl (ka 0, 8, .inl pl)), ((ad 7), .inl (ka 0, 24, .inl ho)), ((ad 3), .inl (ka 1, 200, .inr (.inl (setN nn13 22 (sumV false (getN nn13 20) (getN nn13 21)))))), ((ad 10), .inl (ka 0, 4, .inl ga)), ((ad 11), .inl (ka 0, 4, .inl lg)), ((ad 12), .inl (ka 0, 3, .inl (upd pm 0 (0 : Int32)))), ((ad 13), .inl (ka 0, 3, .inl (upd pa 0 (0 : Int32))))]) H locs := hB
                            clear ho9
                            generalize hnn14 : (setN nn13 22 (sumV false (getN nn13 20) (getN nn13 21))) = nn14 at hB
                            have KN14 : keepN [20, 21, 22, 23, 24, 25, 6, 7] nu nn14 := by rw [← hnn14]; exact keepN.set (KN13) (by simp) _
                            have f14_24 : getN nn14 24 = rd2 (pulI 0 L mo an pl ho) 0 0 (ga 0).toInt l0 := by rw [← hnn14, getN_ne _ _ _ _ (by decide)]; exact f13_24
                            have f14_23 : getN nn14 23 = wyN (ga 1).toInt l1 := by rw [← hnn14, getN_ne _ _ _ _ (by decide)]; exact f13_23
                            have f14_25 : getN nn14 25 = rd2 (pulI 1 L mo an pl ho) 0 0 (ga 1).toInt l1 := by rw [← hnn14, getN_ne _ _ _ _ (by decide)]; exact f13_25
                            have f14_6 : getN nn14 6 = rd3 (pulI 0 L mo an pl ho) (pulI 1 L mo an pl ho) 0 0 0 (ga 0).toInt l0 (ga 1).toInt l1 := by rw [← hnn14, getN_ne _ _ _ _ (by decide)]; exact f13_6
                            have f14_20 : getN nn14 20 = plN (pulI 0 L mo an pl ho) := by rw [← hnn14, getN_ne _ _ _ _ (by decide)]; exact f13_20
                            have f14_21 : getN nn14 21 = wyN 0 0 := by rw [← hnn14, getN_ne _ _ _ _ (by decide)]; exact f13_21
                            have f14_22 : getN nn14 22 = rd1 (pulI 0 L mo an pl ho) 0 0 := by rw [← hnn14, getN_same]; exact by rw [f13_20, f13_21]; rfl
                            clear hnn14
                            clear f13_24
                            clear f13_22
                            clear f13_23
                            clear f13_25
                            clear f13_6
                            clear f13_20
                            clear f13_21
                            clear KN13
                            clear nn13
                            refine lv_aload_n hx hb dX8_trial_136 rfl (lv_at hl 2 rfl) ?_
                            refine lv_bipush (v := 23) hx hb dX8_trial_137 (by decide) ?_
                            refine lv_aload_n hx hb dX8_trial_139 rfl (lv_at hl 2 rfl) ?_
                            refine zget zf_X8_44 hF hB 0 rfl rfl dX8_trial_140 ?_
                            refine lv_iconst (v := 2) hx hb dX8_trial_143 (by decide) ?_
                            refine lv_iload hx hb dX8_trial_144 (lv_at hl 1 rfl) ?_
                            refine lv_imul hx hb dX8_trial_146 ?_
                            refine ztopi (y := (2 : Int32)) (by decide) ?_
                            refine lv_iload hx hb dX8_trial_147 (lv_at hl 0 rfl) ?_
                            refine lv_iadd hx hb dX8_trial_149 ?_
                            refine ztopi (y := (2 : Int32)) (by decide) ?_
                            refine ziald hF hB 8 rfl 2 (by decide) (by decide) (by decide) (v := (nI l2)) (e2) dX8_trial_150 ?_
                            refine lv_aload_n hx hb dX8_trial_151 rfl (lv_at hl 2 rfl) ?_
                            refine zget zf_X8_41 hF hB 0 rfl rfl dX8_trial_152 ?_
                            refine lv_iconst (v := 2) hx hb dX8_trial_155 (by decide) ?_
                            refine lv_iload hx hb dX8_trial_156 (lv_at hl 1 rfl) ?_
                            refine lv_imul hx hb dX8_trial_158 ?_
                            refine ztopi (y := (2 : Int32)) (by decide) ?_
                            refine lv_iload hx hb dX8_trial_159 (lv_at hl 0 rfl) ?_
                            refine lv_iadd hx hb dX8_trial_161 ?_
                            refine ztopi (y := (2 : Int32)) (by decide) ?_
                            refine ziald hF hB 7 rfl 2 (by decide) (by decide) (by decide) (v := (ga 2)) (rfl) dX8_trial_162 ?_
                            refine lv_i2l (v := (ga 2).toInt64) hx hb dX8_trial_163 rfl ?_
                            refine ztopl (y := Int64.ofInt (ga 2).toInt) (i64_w _) ?_
                            refine zVv zm_X8_258 hF hB (c_X8_wayTo l D ka kb q ad false z nn14 23 l2 ((ga 2).toInt) (by decide) (hl2)) [0, 6] rfl (by decide) [q, (ad 3)] (fun _ => rfl) rfl 0 8 rfl rfl rfl ⟨Nat.le_of_ble_eq_true rfl, Nat.le_of_ble_eq_true rfl⟩ rfl hl.1 (Nat.le_of_ble_eq_true rfl) ⟨Nat.le_refl _, Nat.le_refl _⟩ dX8_trial_164 ?_
                            clear hB
                            try clear locs
                            try clear H
                            intro u16 H locs hp hB
                            replace hB : zB D A s ([(q, .inr (8, mO ad false z)), ((ad 9), .inl (ka 1, 4, .inr (.inl pu213))), ((ad 4), .inl (ka 0, 8, .inl mo)), ((ad 5), .inl (ka 0, 8, .inl an)), ((ad 6), .inl (ka 0, 8, .inl pl)), ((ad 7), .inl (ka 0, 24, .inl ho)), ((ad 3), .inl (ka 1, 200, .inr (.inl (setN nn14 23 (wyN ((ga 2).toInt) l2))))), ((ad 10), .inl (ka 0, 4, .inl ga)), ((ad 11), .inl (ka 0, 4, .inl lg)), ((ad 12), .inl (ka 0, 3, .inl (upd pm 0 (0 : Int32)))), ((ad 13), .inl (ka 0, 3, .inl (upd pa 0 (0 : Int32))))]) H locs := hB
                            generalize hnn15 : (setN nn14 23 (wyN ((ga 2).toInt) l2)) = nn15 at hB
                            have KN15 : keepN [20, 21, 22, 23, 24, 25, 6, 7] nu nn15 := by rw [← hnn15]; exact keepN.set (KN14) (by simp) _
                            have f15_24 : getN nn15 24 = rd2 (pulI 0 L mo an pl ho) 0 0 (ga 0).toInt l0 := by rw [← hnn15, getN_ne _ _ _ _ (by decide)]; exact f14_24
                            have f15_25 : getN nn15 25 = rd2 (pulI 1 L mo an pl ho) 0 0 (ga 1).toInt l1 := by rw [← hnn15, getN_ne _ _ _ _ (by decide)]; exact f14_25
                            have f15_6 : getN nn15 6 = rd3 (pulI 0 L mo an pl ho) (pulI 1 L mo an pl ho) 0 0 0 (ga 0).toInt l0 (ga 1).toInt l1 := by rw [← hnn15, getN_ne _ _ _ _ (by decide)]; exact f14_6
                            have f15_20 : getN nn15 20 = plN (pulI 0 L mo an pl ho) := by rw [← hnn15, getN_ne _ _ _ _ (by decide)]; exact f14_20
                            have f15_21 : getN nn15 21 = wyN 0 0 := by rw [← hnn15, getN_ne _ _ _ _ (by decide)]; exact f14_21
                            have f15_22 : getN nn15 22 = rd1 (pulI 0 L mo an pl ho) 0 0 := by rw [← hnn15, getN_ne _ _ _ _ (by decide)]; exact f14_22
                            have f15_23 : getN nn15 23 = wyN (ga 2).toInt l2 := by rw [← hnn15, getN_same]
                            clear hnn15
                            clear f14_24
                            clear f14_23
                            clear f14_25
                            clear f14_6
                            clear f14_20
                            clear f14_21
                            clear f14_22
                            clear KN14
                            clear nn14
                            refine lv_aload_n hx hb dX8_trial_167 rfl (lv_at hl 2 rfl) ?_
                            refine lv_bipush (v := 24) hx hb dX8_trial_168 (by decide) ?_
                            refine lv_iload hx hb dX8_trial_170 (lv_at hl 0 rfl) ?_
                            refine lv_iadd hx hb dX8_trial_172 ?_
                            refine ztopi (y := (24 : Int32)) (by decide) ?_
                            refine lv_bipush (v := 22) hx hb dX8_trial_173 (by decide) ?_
                            refine lv_bipush (v := 23) hx hb dX8_trial_175 (by decide) ?_
                            refine zVv zm_X8_148 hF hB (c_X8_product l D ka kb q ad false z nn15 24 22 23 (by decide) (by decide) (by decide) (by
                                have e9 := (rd1_o hbd0 (y := 0) (a := 0) (by decide) (by decide)).2
                                rw [show nn15 (5 * 22 + 4) = (rd1 (pulI 0 L mo an pl ho) 0 0).2.2.2.2 from congrArg (fun v : N5 => v.2.2.2.2) f15_22]
                                have e8 := e9.2.2.2.2
                                omega) (by
                                have e9 := wyN_bd (y := (ga 2).toInt) (Y := 9) (a := l2) hl2 (by have := hga 2 (by decide); omega) (by decide)
                                rw [show nn15 (5 * 23 + 4) = (wyN (ga 2).toInt l2).2.2.2.2 from congrArg (fun v : N5 => v.2.2.2.2) f15_23]
                                have e8 := e9.2.2.2.2
                                omega)) [0, 6] rfl (by decide) [q, (ad 3)] (fun _ => rfl) rfl 0 8 rfl rfl rfl ⟨Nat.le_of_ble_eq_true rfl, Nat.le_of_ble_eq_true rfl⟩ rfl hl.1 (Nat.le_of_ble_eq_true rfl) ⟨Nat.le_refl _, Nat.le_refl _⟩ dX8_trial_177 ?_
                            clear hB
                            try clear locs
                            try clear H
                            intro u17 H locs hp hB
                            replace hB : zB D A s ([(q, .inr (8, mO ad (false || prodO (getN nn15 22) (getN nn15 23)) z)), ((ad 9), .inl (ka 1, 4, .inr (.inl pu213))), ((ad 4), .inl (ka 0, 8, .inl mo)), ((ad 5), .inl (ka 0, 8, .inl an)), ((ad 6), .inl (ka 0, 8, .inl pl)), ((ad 7), .inl (ka 0, 24, .inl ho)), ((ad 3), .inl (ka 1, 200, .inr (.inl (if (false || prodO (getN nn15 22) (getN nn15 23)) = true then nn15 else setN nn15 24 (prodV (getN nn15 22) (getN nn15 23)))))), ((ad 10), .inl (ka 0, 4, .inl ga)), ((ad 11), .inl (ka 0, 4, .inl lg)), ((ad 12), .inl (ka 0, 3, .inl (upd pm 0 (0 : Int32)))), ((ad 13), .inl (ka 0, 3, .inl (upd pa 0 (0 : Int32))))]) H locs := hB
                            have ho9 : (false || prodO (getN nn15 22) (getN nn15 23)) = false := by rw [f15_22, f15_23]; exact (rd2_o hbd0 (y := 0) (a := 0) (g := (ga 2).toInt) (l := l2) (by decide) (by decide) (hga 2 (by decide)) hl2).1
                            rw [ho9, if_neg Bool.false_ne_true] at hB
                            replace hB : zB D A s ([(q, .inr (8, mO ad false z)), ((ad 9), .inl (ka 1, 4, .inr (.inl pu213))), ((ad 4), .inl (ka 0, 8, .inl mo)), ((ad 5), .inl (ka 0, 8, .inl an)), ((ad 6), .inl (ka 0, 8, .inl pl)), ((ad 7), .inl (ka 0, 24, .inl ho)), ((ad 3), .inl (ka 1, 200, .inr (.inl (setN nn15 24 (prodV (getN nn15 22) (getN nn15 23)))))), ((ad 10), .inl (ka 0, 4, .inl ga)), ((ad 11), .inl (ka 0, 4, .inl lg)), ((ad 12), .inl (ka 0, 3, .inl (upd pm 0 (0 : Int32)))), ((ad 13), .inl (ka 0, 3, .inl (upd pa 0 (0 : Int32))))]) H locs := hB
                            clear ho9
                            generalize hnn16 : (setN nn15 24 (prodV (getN nn15 22) (getN nn15 23))) = nn16 at hB
                            have KN16 : keepN [20, 21, 22, 23, 24, 25, 6, 7] nu nn16 := by rw [← hnn16]; exact keepN.set (KN15) (by simp) _
                            have f16_25 : getN nn16 25 = rd2 (pulI 1 L mo an pl ho) 0 0 (ga 1).toInt l1 := by rw [← hnn16, getN_ne _ _ _ _ (by decide)]; exact f15_25
                            have f16_6 : getN nn16 6 = rd3 (pulI 0 L mo an pl ho) (pulI 1 L mo an pl ho) 0 0 0 (ga 0).toInt l0 (ga 1).toInt l1 := by rw [← hnn16, getN_ne _ _ _ _ (by decide)]; exact f15_6
                            have f16_20 : getN nn16 20 = plN (pulI 0 L mo an pl ho) := by rw [← hnn16, getN_ne _ _ _ _ (by decide)]; exact f15_20
                            have f16_21 : getN nn16 21 = wyN 0 0 := by rw [← hnn16, getN_ne _ _ _ _ (by decide)]; exact f15_21
                            have f16_22 : getN nn16 22 = rd1 (pulI 0 L mo an pl ho) 0 0 := by rw [← hnn16, getN_ne _ _ _ _ (by decide)]; exact f15_22
                            have f16_23 : getN nn16 23 = wyN (ga 2).toInt l2 := by rw [← hnn16, getN_ne _ _ _ _ (by decide)]; exact f15_23
                            have f16_24 : getN nn16 24 = rd2 (pulI 0 L mo an pl ho) 0 0 (ga 2).toInt l2 := by rw [← hnn16, getN_same]; exact by rw [f15_22, f15_23]; rfl
                            clear hnn16
                            clear f15_24
                            clear f15_25
                            clear f15_6
                            clear f15_20
                            clear f15_21
                            clear f15_22
                            clear f15_23
                            clear KN15
                            clear nn15
                            refine lv_iinc (v := (1 : Int32)) (lv' := [(5, .int (1 : Int32)), (4, .int (1 : Int32)), (0, .ref q), (1, .int (0 : Int32)), (2, .int mq), (3, .int aq)]) hx hb dX8_trial_180 hl (k := 0) rfl (by decide) (by decide) rfl ?_
                            clear hl
                            clear ls
                            intro ls hl
                            refine lv_goto (tgt := 85) hx hb dX8_trial_183 (by decide) ?_
                            refine lv_iload hx hb dX8_trial_85 (lv_at hl 0 rfl) ?_
                            refine lv_iconst (v := 2) hx hb dX8_trial_87 (by decide) ?_
                            refine lv_icmp_ge (tgt := 186) hx hb dX8_trial_88 (by decide) (fun h88 => ?_) (fun h88 => ?_)
                            · skip
                              exact absurd h88 (by decide)
                            · skip
                              refine lv_aload_n hx hb dX8_trial_91 rfl (lv_at hl 2 rfl) ?_
                              refine lv_bipush (v := 20) hx hb dX8_trial_92 (by decide) ?_
                              refine lv_iload hx hb dX8_trial_94 (lv_at hl 0 rfl) ?_
                              refine zVv zm_X8_255 hF hB (c_X8_pullTo l D ka kb q ad false z pu213 20 1 L mo an pl ho nn16 (by decide) (by decide) (hL) (hok) (hoh)) [0, 1, 2, 3, 4, 5, 6] rfl (by decide) [q, (ad 9), (ad 4), (ad 5), (ad 6), (ad 7), (ad 3)] (fun _ => rfl) rfl 0 8 rfl rfl rfl ⟨Nat.le_of_ble_eq_true rfl, Nat.le_of_ble_eq_true rfl⟩ rfl hl.1 (Nat.le_of_ble_eq_true rfl) ⟨Nat.le_refl _, Nat.le_refl _⟩ dX8_trial_96 ?_
                              clear hB
                              try clear locs
                              try clear H
                              intro u18 H locs hp hB
                              obtain ⟨pu218, rfl⟩ : ∃ z, z = u18 := ⟨_, rfl⟩
                              have hp18 : True := hp
                              have HPP := hp18
                              replace hB : zB D A s ([(q, .inr (8, mO ad false z)), ((ad 9), .inl (ka 1, 4, .inr (.inl pu218))), ((ad 4), .inl (ka 0, 8, .inl mo)), ((ad 5), .inl (ka 0, 8, .inl an)), ((ad 6), .inl (ka 0, 8, .inl pl)), ((ad 7), .inl (ka 0, 24, .inl ho)), ((ad 3), .inl (ka 1, 200, .inr (.inl (setN nn16 20 (plN (pulI 1 L mo an pl ho)))))), ((ad 10), .inl (ka 0, 4, .inl ga)), ((ad 11), .inl (ka 0, 4, .inl lg)), ((ad 12), .inl (ka 0, 3, .inl (upd pm 0 (0 : Int32)))), ((ad 13), .inl (ka 0, 3, .inl (upd pa 0 (0 : Int32))))]) H locs := hB
                              generalize hnn17 : (setN nn16 20 (plN (pulI 1 L mo an pl ho))) = nn17 at hB
                              have KN17 : keepN [20, 21, 22, 23, 24, 25, 6, 7] nu nn17 := by rw [← hnn17]; exact keepN.set (KN16) (by simp) _
                              have f17_25 : getN nn17 25 = rd2 (pulI 1 L mo an pl ho) 0 0 (ga 1).toInt l1 := by rw [← hnn17, getN_ne _ _ _ _ (by decide)]; exact f16_25
                              have f17_6 : getN nn17 6 = rd3 (pulI 0 L mo an pl ho) (pulI 1 L mo an pl ho) 0 0 0 (ga 0).toInt l0 (ga 1).toInt l1 := by rw [← hnn17, getN_ne _ _ _ _ (by decide)]; exact f16_6
                              have f17_21 : getN nn17 21 = wyN 0 0 := by rw [← hnn17, getN_ne _ _ _ _ (by decide)]; exact f16_21
                              have f17_22 : getN nn17 22 = rd1 (pulI 0 L mo an pl ho) 0 0 := by rw [← hnn17, getN_ne _ _ _ _ (by decide)]; exact f16_22
                              have f17_23 : getN nn17 23 = wyN (ga 2).toInt l2 := by rw [← hnn17, getN_ne _ _ _ _ (by decide)]; exact f16_23
                              have f17_24 : getN nn17 24 = rd2 (pulI 0 L mo an pl ho) 0 0 (ga 2).toInt l2 := by rw [← hnn17, getN_ne _ _ _ _ (by decide)]; exact f16_24
                              have f17_20 : getN nn17 20 = plN (pulI 1 L mo an pl ho) := by rw [← hnn17, getN_same]
                              clear hnn17
                              clear f16_25
                              clear f16_6
                              clear f16_20
                              clear f16_21
                              clear f16_22
                              clear f16_23
                              clear f16_24
                              clear KN16
                              clear nn16
                              sorry
                          · skip
                            exact absurd h113 (by decide)
                    · skip
                      exact absurd (by decide) h88
                  · skip
                    exact absurd h113 (by decide)
              · skip
                exact absurd h113 (by decide)
    · skip
      exact absurd (by decide) h13
