/-- what the class's count answers -/
noncomputable def ctK (la sz re : Int32) (L : Nat) (mo an pl ho : Nat → Int32) (kp : Nat → Bool) : Nat → Int32
  | 0 => nI L
  | 1 => nI (hcnt 0 ho 12)
  | 2 => nI (hcnt 1 ho 12)
  | 3 => ktS kp 3
  | 4 => bI (quB (pulI 0 L mo an pl ho) re.toInt)
  | 5 => bI (quB (pulI 1 L mo an pl ho) re.toInt)
  | 6 => re
  | 7 => sz
  | _ => la
set_option maxHeartbeats 4000000 in
set_option maxRecDepth 100000 in
theorem c_X7_count (l : Launch) (D : va_G) (ka : Nat → ClassId) (kb : Nat → Nat) (bd : Nat → Nat) (na : Nat → Nat) (la9 : Int32) (kp : Nat → Bool) (o3 : Bool) (cnt : Int32) (opb : Int32) (rch : Int32) (wnt : Int32) (bc : Int32) (bw : Int64) (br : Int64) (sz9 : Int32) (re9 : Int32) (L : Nat) (mo : Nat → Int32) (an : Nat → Int32) (pl : Nat → Int32) (ho : Nat → Int32) (N : Nat → N5) (kq : Int32) (hok : okL L mo an pl) (hoh : okH ho) (hre : 0 ≤ re9.toInt ∧ re9.toInt ≤ 99) : zI l D ka kb yX7_count cX7_count 2 .int 5 123 [.ref (bd 31), .int kq] ([((bd 31), .inr (7, [.ref (bd 0), .ref (bd 1), .ref (na 6), .ref (na 7), .ref (bd 2), .ref (bd 3), .ref (bd 4), .ref (bd 5), .ref (bd 6)])), ((bd 6), .inr (5, [.ref (bd 25), .ref (bd 30), .int la9])), ((bd 3), .inr (0, [.ref (bd 12), .ref (bd 13), .ref (bd 14), .ref (bd 15), .ref (bd 16), .ref (bd 17), .ref (na 21), .ref (na 22), .ref (na 23), .ref (na 24)])), ((bd 14), .inl (ka 2, 3, .inl (kI kp))), ((bd 4), .inr (4, [.ref (bd 18), .ref (bd 19), .int cnt, .int opb, .int rch, .int wnt, .ref (bd 20), .ref (bd 21), .ref (bd 22), .int bc, .ref (bd 23), .ref (bd 24), .long bw, .long br])), ((bd 18), .inr (2, [.int (bI o3), .ref (na 31), .ref (na 32), .ref (na 33)])), ((bd 20), .inl (ka 3, 5, .inr (.inr (.inr (.inr (nR na 34)))))), ((bd 2), .inr (3, [.int (nI L), .ref (bd 7), .ref (bd 8), .ref (bd 9), .ref (bd 10), .ref (bd 11), .int sz9, .int re9])), ((bd 7), .inl (ka 0, 8, .inl mo)), ((bd 8), .inl (ka 0, 8, .inl an)), ((bd 9), .inl (ka 0, 8, .inl pl)), ((bd 10), .inl (ka 0, 24, .inl ho))] ++ nP na N) (fun (r : Int32) (u : (Nat → N5) × Bool) => r = (if inI kq 9 = true then ctK la9 sz9 re9 L mo an pl ho kp (aN kq) else -2) ∧ (∀ k9, k9 ≠ 34 → u.1 k9 = N k9)) (fun (u : (Nat → N5) × Bool) => [((bd 31), .inr (7, [.ref (bd 0), .ref (bd 1), .ref (na 6), .ref (na 7), .ref (bd 2), .ref (bd 3), .ref (bd 4), .ref (bd 5), .ref (bd 6)])), ((bd 6), .inr (5, [.ref (bd 25), .ref (bd 30), .int la9])), ((bd 3), .inr (0, [.ref (bd 12), .ref (bd 13), .ref (bd 14), .ref (bd 15), .ref (bd 16), .ref (bd 17), .ref (na 21), .ref (na 22), .ref (na 23), .ref (na 24)])), ((bd 14), .inl (ka 2, 3, .inl (kI kp))), ((bd 4), .inr (4, [.ref (bd 18), .ref (bd 19), .int cnt, .int opb, .int rch, .int wnt, .ref (bd 20), .ref (bd 21), .ref (bd 22), .int bc, .ref (bd 23), .ref (bd 24), .long bw, .long br])), ((bd 18), .inr (2, [.int (bI u.2), .ref (na 31), .ref (na 32), .ref (na 33)])), ((bd 20), .inl (ka 3, 5, .inr (.inr (.inr (.inr (nR na 34)))))), ((bd 2), .inr (3, [.int (nI L), .ref (bd 7), .ref (bd 8), .ref (bd 9), .ref (bd 10), .ref (bd 11), .int sz9, .int re9])), ((bd 7), .inl (ka 0, 8, .inl mo)), ((bd 8), .inl (ka 0, 8, .inl an)), ((bd 9), .inl (ka 0, 8, .inl pl)), ((bd 10), .inl (ka 0, 24, .inl ho))] ++ nP na u.1) := by
  refine zI.mk RX7 (by decide +kernel) rfl (Nat.le_of_ble_eq_true rfl) ?_
  intro p e s m below meth c A ls args Q hQ hx hb hF hB hl
  replace hl : lv_has ls 2 [(0, .ref (bd 31)), (1, .int kq)] := hl
  refine lv_iload_n hx hb dX7_count_0 rfl (lv_at hl 1 rfl) ?_
  rcases zsw kq 0 8 with hsw | hsw
  · skip
    refine lv_tableOut (tgt := 126) hx hb dX7_count_1 hsw (by decide) ?_
    refine lv_bipush (v := -2) hx hb dX7_count_126 (by decide) ?_
    exact zreti hF hB (N, (o3)) (⟨by rw [if_neg (by rw [ct_out hsw]; decide)], fun _ _ => rfl⟩) (rfl) (rfl) dX7_count_128 hQ
  · skip
    rcases (show Int32.toInt kq = 0 ∨ Int32.toInt kq = 1 ∨ Int32.toInt kq = 2 ∨ Int32.toInt kq = 3 ∨ Int32.toInt kq = 4 ∨ Int32.toInt kq = 5 ∨ Int32.toInt kq = 6 ∨ Int32.toInt kq = 7 ∨ Int32.toInt kq = 8 by omega) with hc9 | hc9 | hc9 | hc9 | hc9 | hc9 | hc9 | hc9 | hc9
    · skip
      refine lv_tableIn (tgt := 52) hx hb dX7_count_1 (by omega) (by omega) (by rw [hc9]; rfl) (by decide) ?_
      have hkk : kq = (0 : Int32) := i32_eq.mpr (hc9.trans rfl)
      subst hkk
      have hc1 := ct_in (kq := (0 : Int32)) (k := 0) rfl (by decide)
      refine lv_aload_n hx hb dX7_count_52 rfl (lv_at hl 0 rfl) ?_
      refine zget zf_X7_33 hF hB 0 rfl rfl dX7_count_53 ?_
      refine zVi zm_X7_126 hF hB (c_X3_lumps l D ka kb bd (nI L) sz9 re9 ) [7] rfl (by decide) [(bd 2)] (fun _ => rfl) rfl 7 3 rfl rfl rfl ⟨Nat.le_of_ble_eq_true rfl, Nat.le_of_ble_eq_true rfl⟩ rfl hl.1 (Nat.le_of_ble_eq_true rfl) ⟨Nat.le_refl _, Nat.le_refl _⟩ dX7_count_56 ?_
      clear hB
      try clear locs
      try clear H
      intro r1 u1 H locs hp hB
      obtain rfl : r1 = (nI L) := hp
      replace hB : zB D A s ([((bd 31), .inr (7, [.ref (bd 0), .ref (bd 1), .ref (na 6), .ref (na 7), .ref (bd 2), .ref (bd 3), .ref (bd 4), .ref (bd 5), .ref (bd 6)])), ((bd 6), .inr (5, [.ref (bd 25), .ref (bd 30), .int la9])), ((bd 3), .inr (0, [.ref (bd 12), .ref (bd 13), .ref (bd 14), .ref (bd 15), .ref (bd 16), .ref (bd 17), .ref (na 21), .ref (na 22), .ref (na 23), .ref (na 24)])), ((bd 14), .inl (ka 2, 3, .inl (kI kp))), ((bd 4), .inr (4, [.ref (bd 18), .ref (bd 19), .int cnt, .int opb, .int rch, .int wnt, .ref (bd 20), .ref (bd 21), .ref (bd 22), .int bc, .ref (bd 23), .ref (bd 24), .long bw, .long br])), ((bd 18), .inr (2, [.int (bI o3), .ref (na 31), .ref (na 32), .ref (na 33)])), ((bd 20), .inl (ka 3, 5, .inr (.inr (.inr (.inr (nR na 34)))))), ((bd 2), .inr (3, [.int (nI L), .ref (bd 7), .ref (bd 8), .ref (bd 9), .ref (bd 10), .ref (bd 11), .int sz9, .int re9])), ((bd 7), .inl (ka 0, 8, .inl mo)), ((bd 8), .inl (ka 0, 8, .inl an)), ((bd 9), .inl (ka 0, 8, .inl pl)), ((bd 10), .inl (ka 0, 24, .inl ho))] ++ nP na N) H locs := hB
      exact zreti hF hB (N, (o3)) (⟨by rw [if_pos hc1.1, hc1.2]; exact rfl, fun k9 h9 => rfl⟩) (rfl) (rfl) dX7_count_59 hQ
    · skip
      refine lv_tableIn (tgt := 60) hx hb dX7_count_1 (by omega) (by omega) (by rw [hc9]; rfl) (by decide) ?_
      have hkk : kq = (1 : Int32) := i32_eq.mpr (hc9.trans rfl)
      subst hkk
      have hc1 := ct_in (kq := (1 : Int32)) (k := 1) rfl (by decide)
      refine lv_aload_n hx hb dX7_count_60 rfl (lv_at hl 0 rfl) ?_
      refine zget zf_X7_33 hF hB 0 rfl rfl dX7_count_61 ?_
      refine lv_iload_n hx hb dX7_count_64 rfl (lv_at hl 1 rfl) ?_
      refine lv_iconst (v := 1) hx hb dX7_count_65 (by decide) ?_
      refine lv_isub hx hb dX7_count_66 ?_
      refine ztopi (y := (0 : Int32)) (by decide) ?_
      refine zVi zm_X7_146 hF hB (c_X3_holes l D ka kb bd (nI L) sz9 re9 ho 0 (by decide) (hoh)) [7, 11] rfl (by decide) [(bd 2), (bd 10)] (fun _ => rfl) rfl 7 3 rfl rfl rfl ⟨Nat.le_of_ble_eq_true rfl, Nat.le_of_ble_eq_true rfl⟩ rfl hl.1 (Nat.le_of_ble_eq_true rfl) ⟨Nat.le_refl _, Nat.le_refl _⟩ dX7_count_67 ?_
      clear hB
      try clear locs
      try clear H
      intro r2 u2 H locs hp hB
      obtain rfl : r2 = nI (hcnt 0 ho 12) := hp
      replace hB : zB D A s ([((bd 31), .inr (7, [.ref (bd 0), .ref (bd 1), .ref (na 6), .ref (na 7), .ref (bd 2), .ref (bd 3), .ref (bd 4), .ref (bd 5), .ref (bd 6)])), ((bd 6), .inr (5, [.ref (bd 25), .ref (bd 30), .int la9])), ((bd 3), .inr (0, [.ref (bd 12), .ref (bd 13), .ref (bd 14), .ref (bd 15), .ref (bd 16), .ref (bd 17), .ref (na 21), .ref (na 22), .ref (na 23), .ref (na 24)])), ((bd 14), .inl (ka 2, 3, .inl (kI kp))), ((bd 4), .inr (4, [.ref (bd 18), .ref (bd 19), .int cnt, .int opb, .int rch, .int wnt, .ref (bd 20), .ref (bd 21), .ref (bd 22), .int bc, .ref (bd 23), .ref (bd 24), .long bw, .long br])), ((bd 18), .inr (2, [.int (bI o3), .ref (na 31), .ref (na 32), .ref (na 33)])), ((bd 20), .inl (ka 3, 5, .inr (.inr (.inr (.inr (nR na 34)))))), ((bd 2), .inr (3, [.int (nI L), .ref (bd 7), .ref (bd 8), .ref (bd 9), .ref (bd 10), .ref (bd 11), .int sz9, .int re9])), ((bd 7), .inl (ka 0, 8, .inl mo)), ((bd 8), .inl (ka 0, 8, .inl an)), ((bd 9), .inl (ka 0, 8, .inl pl)), ((bd 10), .inl (ka 0, 24, .inl ho))] ++ nP na N) H locs := hB
      exact zreti hF hB (N, (o3)) (⟨by rw [if_pos hc1.1, hc1.2]; exact rfl, fun k9 h9 => rfl⟩) (rfl) (rfl) dX7_count_70 hQ
    · skip
      refine lv_tableIn (tgt := 60) hx hb dX7_count_1 (by omega) (by omega) (by rw [hc9]; rfl) (by decide) ?_
      have hkk : kq = (2 : Int32) := i32_eq.mpr (hc9.trans rfl)
      subst hkk
      have hc1 := ct_in (kq := (2 : Int32)) (k := 2) rfl (by decide)
      refine lv_aload_n hx hb dX7_count_60 rfl (lv_at hl 0 rfl) ?_
      refine zget zf_X7_33 hF hB 0 rfl rfl dX7_count_61 ?_
      refine lv_iload_n hx hb dX7_count_64 rfl (lv_at hl 1 rfl) ?_
      refine lv_iconst (v := 1) hx hb dX7_count_65 (by decide) ?_
      refine lv_isub hx hb dX7_count_66 ?_
      refine ztopi (y := (1 : Int32)) (by decide) ?_
      refine zVi zm_X7_146 hF hB (c_X3_holes l D ka kb bd (nI L) sz9 re9 ho 1 (by decide) (hoh)) [7, 11] rfl (by decide) [(bd 2), (bd 10)] (fun _ => rfl) rfl 7 3 rfl rfl rfl ⟨Nat.le_of_ble_eq_true rfl, Nat.le_of_ble_eq_true rfl⟩ rfl hl.1 (Nat.le_of_ble_eq_true rfl) ⟨Nat.le_refl _, Nat.le_refl _⟩ dX7_count_67 ?_
      clear hB
      try clear locs
      try clear H
      intro r3 u3 H locs hp hB
      obtain rfl : r3 = nI (hcnt 1 ho 12) := hp
      replace hB : zB D A s ([((bd 31), .inr (7, [.ref (bd 0), .ref (bd 1), .ref (na 6), .ref (na 7), .ref (bd 2), .ref (bd 3), .ref (bd 4), .ref (bd 5), .ref (bd 6)])), ((bd 6), .inr (5, [.ref (bd 25), .ref (bd 30), .int la9])), ((bd 3), .inr (0, [.ref (bd 12), .ref (bd 13), .ref (bd 14), .ref (bd 15), .ref (bd 16), .ref (bd 17), .ref (na 21), .ref (na 22), .ref (na 23), .ref (na 24)])), ((bd 14), .inl (ka 2, 3, .inl (kI kp))), ((bd 4), .inr (4, [.ref (bd 18), .ref (bd 19), .int cnt, .int opb, .int rch, .int wnt, .ref (bd 20), .ref (bd 21), .ref (bd 22), .int bc, .ref (bd 23), .ref (bd 24), .long bw, .long br])), ((bd 18), .inr (2, [.int (bI o3), .ref (na 31), .ref (na 32), .ref (na 33)])), ((bd 20), .inl (ka 3, 5, .inr (.inr (.inr (.inr (nR na 34)))))), ((bd 2), .inr (3, [.int (nI L), .ref (bd 7), .ref (bd 8), .ref (bd 9), .ref (bd 10), .ref (bd 11), .int sz9, .int re9])), ((bd 7), .inl (ka 0, 8, .inl mo)), ((bd 8), .inl (ka 0, 8, .inl an)), ((bd 9), .inl (ka 0, 8, .inl pl)), ((bd 10), .inl (ka 0, 24, .inl ho))] ++ nP na N) H locs := hB
      exact zreti hF hB (N, (o3)) (⟨by rw [if_pos hc1.1, hc1.2]; exact rfl, fun k9 h9 => rfl⟩) (rfl) (rfl) dX7_count_70 hQ
    · skip
      refine lv_tableIn (tgt := 71) hx hb dX7_count_1 (by omega) (by omega) (by rw [hc9]; rfl) (by decide) ?_
      have hkk : kq = (3 : Int32) := i32_eq.mpr (hc9.trans rfl)
      subst hkk
      have hc1 := ct_in (kq := (3 : Int32)) (k := 3) rfl (by decide)
      refine lv_aload_n hx hb dX7_count_71 rfl (lv_at hl 0 rfl) ?_
      refine zget zf_X7_40 hF hB 0 rfl rfl dX7_count_72 ?_
      refine zVi zm_X7_197 hF hB (c_X0_keptTrials l D ka kb bd na kp ) [2, 3] rfl (by decide) [(bd 3), (bd 14)] (fun _ => rfl) rfl 2 0 rfl rfl rfl ⟨Nat.le_of_ble_eq_true rfl, Nat.le_of_ble_eq_true rfl⟩ rfl hl.1 (Nat.le_of_ble_eq_true rfl) ⟨Nat.le_refl _, Nat.le_refl _⟩ dX7_count_75 ?_
      clear hB
      try clear locs
      try clear H
      intro r4 u4 H locs hp hB
      obtain rfl : r4 = ktS kp 3 := hp
      replace hB : zB D A s ([((bd 31), .inr (7, [.ref (bd 0), .ref (bd 1), .ref (na 6), .ref (na 7), .ref (bd 2), .ref (bd 3), .ref (bd 4), .ref (bd 5), .ref (bd 6)])), ((bd 6), .inr (5, [.ref (bd 25), .ref (bd 30), .int la9])), ((bd 3), .inr (0, [.ref (bd 12), .ref (bd 13), .ref (bd 14), .ref (bd 15), .ref (bd 16), .ref (bd 17), .ref (na 21), .ref (na 22), .ref (na 23), .ref (na 24)])), ((bd 14), .inl (ka 2, 3, .inl (kI kp))), ((bd 4), .inr (4, [.ref (bd 18), .ref (bd 19), .int cnt, .int opb, .int rch, .int wnt, .ref (bd 20), .ref (bd 21), .ref (bd 22), .int bc, .ref (bd 23), .ref (bd 24), .long bw, .long br])), ((bd 18), .inr (2, [.int (bI o3), .ref (na 31), .ref (na 32), .ref (na 33)])), ((bd 20), .inl (ka 3, 5, .inr (.inr (.inr (.inr (nR na 34)))))), ((bd 2), .inr (3, [.int (nI L), .ref (bd 7), .ref (bd 8), .ref (bd 9), .ref (bd 10), .ref (bd 11), .int sz9, .int re9])), ((bd 7), .inl (ka 0, 8, .inl mo)), ((bd 8), .inl (ka 0, 8, .inl an)), ((bd 9), .inl (ka 0, 8, .inl pl)), ((bd 10), .inl (ka 0, 24, .inl ho))] ++ nP na N) H locs := hB
      exact zreti hF hB (N, (o3)) (⟨by rw [if_pos hc1.1, hc1.2]; exact rfl, fun k9 h9 => rfl⟩) (rfl) (rfl) dX7_count_78 hQ
    · skip
      refine lv_tableIn (tgt := 79) hx hb dX7_count_1 (by omega) (by omega) (by rw [hc9]; rfl) (by decide) ?_
      have hkk : kq = (4 : Int32) := i32_eq.mpr (hc9.trans rfl)
      subst hkk
      have hc1 := ct_in (kq := (4 : Int32)) (k := 4) rfl (by decide)
      refine lv_aload_n hx hb dX7_count_79 rfl (lv_at hl 0 rfl) ?_
      refine zget zf_X7_47 hF hB 0 rfl rfl dX7_count_80 ?_
      refine lv_aload_n hx hb dX7_count_83 rfl (lv_at hl 0 rfl) ?_
      refine zget zf_X7_33 hF hB 0 rfl rfl dX7_count_84 ?_
      refine lv_iload_n hx hb dX7_count_87 rfl (lv_at hl 1 rfl) ?_
      refine lv_iconst (v := 4) hx hb dX7_count_88 (by decide) ?_
      refine lv_isub hx hb dX7_count_89 ?_
      refine ztopi (y := (0 : Int32)) (by decide) ?_
      refine zVi zm_X7_181 hF hB (c_X4_isQuiet l D ka kb bd o3 cnt opb rch wnt bc bw br sz9 re9 L mo an pl ho na N 0 (by decide) (hok) (hoh) (hre)) ([4, 5, 6, 7, 8, 9, 10, 11] ++ npr 12) (zsel_pool rfl rfl) (va_nd_pool rfl rfl) ([(bd 4), (bd 18), (bd 20), (bd 2), (bd 7), (bd 8), (bd 9), (bd 10)] ++ nA na) (fun _ => zad_pool rfl) (zad_pool rfl) 4 4 rfl rfl rfl ⟨Nat.le_of_ble_eq_true rfl, Nat.le_of_ble_eq_true rfl⟩ rfl hl.1 (Nat.le_of_ble_eq_true rfl) ⟨Nat.le_refl _, Nat.le_refl _⟩ dX7_count_90 ?_
      clear hB
      try clear locs
      try clear H
      intro r5 u5 H locs hp hB
      obtain ⟨o95, rfl⟩ : ∃ z, z = u5 := ⟨_, rfl⟩
      have hp5 : r5 = bI (quB (pulI 0 L mo an pl ho) re9.toInt) := hp
      have HPP := hp5
      replace hB : zB D A s ([((bd 31), .inr (7, [.ref (bd 0), .ref (bd 1), .ref (na 6), .ref (na 7), .ref (bd 2), .ref (bd 3), .ref (bd 4), .ref (bd 5), .ref (bd 6)])), ((bd 6), .inr (5, [.ref (bd 25), .ref (bd 30), .int la9])), ((bd 3), .inr (0, [.ref (bd 12), .ref (bd 13), .ref (bd 14), .ref (bd 15), .ref (bd 16), .ref (bd 17), .ref (na 21), .ref (na 22), .ref (na 23), .ref (na 24)])), ((bd 14), .inl (ka 2, 3, .inl (kI kp))), ((bd 4), .inr (4, [.ref (bd 18), .ref (bd 19), .int cnt, .int opb, .int rch, .int wnt, .ref (bd 20), .ref (bd 21), .ref (bd 22), .int bc, .ref (bd 23), .ref (bd 24), .long bw, .long br])), ((bd 18), .inr (2, [.int (bI o95), .ref (na 31), .ref (na 32), .ref (na 33)])), ((bd 20), .inl (ka 3, 5, .inr (.inr (.inr (.inr (nR na 34)))))), ((bd 2), .inr (3, [.int (nI L), .ref (bd 7), .ref (bd 8), .ref (bd 9), .ref (bd 10), .ref (bd 11), .int sz9, .int re9])), ((bd 7), .inl (ka 0, 8, .inl mo)), ((bd 8), .inl (ka 0, 8, .inl an)), ((bd 9), .inl (ka 0, 8, .inl pl)), ((bd 10), .inl (ka 0, 24, .inl ho))] ++ nP na (upN N 34 (p20N (pulI 0 L mo an pl ho)))) H locs := zB_pool hB rfl rfl rfl rfl
      have hIQ := HPP
      refine lv_if_eq (tgt := 100) hx hb dX7_count_93 (by decide) (fun h93 => ?_) (fun h93 => ?_)
      · skip
        refine lv_iconst (v := 0) hx hb dX7_count_100 (by decide) ?_
        exact zreti hF hB (upN N 34 (p20N (pulI 0 L mo an pl ho)), (o95)) (⟨by rw [if_pos hc1.1, hc1.2]; exact bI_0 (bI_eq0 (hIQ.symm.trans h93)), fun k9 h9 => upN_ne h9⟩) (rfl) (rfl) dX7_count_101 hQ
      · skip
        refine lv_iconst (v := 1) hx hb dX7_count_96 (by decide) ?_
        refine lv_goto (tgt := 101) hx hb dX7_count_97 (by decide) ?_
        exact zreti hF hB (upN N 34 (p20N (pulI 0 L mo an pl ho)), (o95)) (⟨by rw [if_pos hc1.1, hc1.2]; exact bI_1 (bI_ne0 (fun e9 => h93 (hIQ.trans e9))), fun k9 h9 => upN_ne h9⟩) (rfl) (rfl) dX7_count_101 hQ
    · skip
      refine lv_tableIn (tgt := 79) hx hb dX7_count_1 (by omega) (by omega) (by rw [hc9]; rfl) (by decide) ?_
      have hkk : kq = (5 : Int32) := i32_eq.mpr (hc9.trans rfl)
      subst hkk
      have hc1 := ct_in (kq := (5 : Int32)) (k := 5) rfl (by decide)
      refine lv_aload_n hx hb dX7_count_79 rfl (lv_at hl 0 rfl) ?_
      refine zget zf_X7_47 hF hB 0 rfl rfl dX7_count_80 ?_
      refine lv_aload_n hx hb dX7_count_83 rfl (lv_at hl 0 rfl) ?_
      refine zget zf_X7_33 hF hB 0 rfl rfl dX7_count_84 ?_
      refine lv_iload_n hx hb dX7_count_87 rfl (lv_at hl 1 rfl) ?_
      refine lv_iconst (v := 4) hx hb dX7_count_88 (by decide) ?_
      refine lv_isub hx hb dX7_count_89 ?_
      refine ztopi (y := (1 : Int32)) (by decide) ?_
      refine zVi zm_X7_181 hF hB (c_X4_isQuiet l D ka kb bd o3 cnt opb rch wnt bc bw br sz9 re9 L mo an pl ho na N 1 (by decide) (hok) (hoh) (hre)) ([4, 5, 6, 7, 8, 9, 10, 11] ++ npr 12) (zsel_pool rfl rfl) (va_nd_pool rfl rfl) ([(bd 4), (bd 18), (bd 20), (bd 2), (bd 7), (bd 8), (bd 9), (bd 10)] ++ nA na) (fun _ => zad_pool rfl) (zad_pool rfl) 4 4 rfl rfl rfl ⟨Nat.le_of_ble_eq_true rfl, Nat.le_of_ble_eq_true rfl⟩ rfl hl.1 (Nat.le_of_ble_eq_true rfl) ⟨Nat.le_refl _, Nat.le_refl _⟩ dX7_count_90 ?_
      clear hB
      try clear locs
      try clear H
      intro r6 u6 H locs hp hB
      obtain ⟨o96, rfl⟩ : ∃ z, z = u6 := ⟨_, rfl⟩
      have hp6 : r6 = bI (quB (pulI 1 L mo an pl ho) re9.toInt) := hp
      have HPP := hp6
      replace hB : zB D A s ([((bd 31), .inr (7, [.ref (bd 0), .ref (bd 1), .ref (na 6), .ref (na 7), .ref (bd 2), .ref (bd 3), .ref (bd 4), .ref (bd 5), .ref (bd 6)])), ((bd 6), .inr (5, [.ref (bd 25), .ref (bd 30), .int la9])), ((bd 3), .inr (0, [.ref (bd 12), .ref (bd 13), .ref (bd 14), .ref (bd 15), .ref (bd 16), .ref (bd 17), .ref (na 21), .ref (na 22), .ref (na 23), .ref (na 24)])), ((bd 14), .inl (ka 2, 3, .inl (kI kp))), ((bd 4), .inr (4, [.ref (bd 18), .ref (bd 19), .int cnt, .int opb, .int rch, .int wnt, .ref (bd 20), .ref (bd 21), .ref (bd 22), .int bc, .ref (bd 23), .ref (bd 24), .long bw, .long br])), ((bd 18), .inr (2, [.int (bI o96), .ref (na 31), .ref (na 32), .ref (na 33)])), ((bd 20), .inl (ka 3, 5, .inr (.inr (.inr (.inr (nR na 34)))))), ((bd 2), .inr (3, [.int (nI L), .ref (bd 7), .ref (bd 8), .ref (bd 9), .ref (bd 10), .ref (bd 11), .int sz9, .int re9])), ((bd 7), .inl (ka 0, 8, .inl mo)), ((bd 8), .inl (ka 0, 8, .inl an)), ((bd 9), .inl (ka 0, 8, .inl pl)), ((bd 10), .inl (ka 0, 24, .inl ho))] ++ nP na (upN N 34 (p20N (pulI 1 L mo an pl ho)))) H locs := zB_pool hB rfl rfl rfl rfl
      have hIQ := HPP
      refine lv_if_eq (tgt := 100) hx hb dX7_count_93 (by decide) (fun h93 => ?_) (fun h93 => ?_)
      · skip
        refine lv_iconst (v := 0) hx hb dX7_count_100 (by decide) ?_
        exact zreti hF hB (upN N 34 (p20N (pulI 1 L mo an pl ho)), (o96)) (⟨by rw [if_pos hc1.1, hc1.2]; exact bI_0 (bI_eq0 (hIQ.symm.trans h93)), fun k9 h9 => upN_ne h9⟩) (rfl) (rfl) dX7_count_101 hQ
      · skip
        refine lv_iconst (v := 1) hx hb dX7_count_96 (by decide) ?_
        refine lv_goto (tgt := 101) hx hb dX7_count_97 (by decide) ?_
        exact zreti hF hB (upN N 34 (p20N (pulI 1 L mo an pl ho)), (o96)) (⟨by rw [if_pos hc1.1, hc1.2]; exact bI_1 (bI_ne0 (fun e9 => h93 (hIQ.trans e9))), fun k9 h9 => upN_ne h9⟩) (rfl) (rfl) dX7_count_101 hQ
    · skip
      refine lv_tableIn (tgt := 102) hx hb dX7_count_1 (by omega) (by omega) (by rw [hc9]; rfl) (by decide) ?_
      have hkk : kq = (6 : Int32) := i32_eq.mpr (hc9.trans rfl)
      subst hkk
      have hc1 := ct_in (kq := (6 : Int32)) (k := 6) rfl (by decide)
      refine lv_aload_n hx hb dX7_count_102 rfl (lv_at hl 0 rfl) ?_
      refine zget zf_X7_33 hF hB 0 rfl rfl dX7_count_103 ?_
      refine zVi zm_X7_172 hF hB (c_X3_reach l D ka kb bd (nI L) sz9 re9 ) [7] rfl (by decide) [(bd 2)] (fun _ => rfl) rfl 7 3 rfl rfl rfl ⟨Nat.le_of_ble_eq_true rfl, Nat.le_of_ble_eq_true rfl⟩ rfl hl.1 (Nat.le_of_ble_eq_true rfl) ⟨Nat.le_refl _, Nat.le_refl _⟩ dX7_count_106 ?_
      clear hB
      try clear locs
      try clear H
      intro r7 u7 H locs hp hB
      have e9 : re9 = r7 := hp.symm
      subst e9
      replace hB : zB D A s ([((bd 31), .inr (7, [.ref (bd 0), .ref (bd 1), .ref (na 6), .ref (na 7), .ref (bd 2), .ref (bd 3), .ref (bd 4), .ref (bd 5), .ref (bd 6)])), ((bd 6), .inr (5, [.ref (bd 25), .ref (bd 30), .int la9])), ((bd 3), .inr (0, [.ref (bd 12), .ref (bd 13), .ref (bd 14), .ref (bd 15), .ref (bd 16), .ref (bd 17), .ref (na 21), .ref (na 22), .ref (na 23), .ref (na 24)])), ((bd 14), .inl (ka 2, 3, .inl (kI kp))), ((bd 4), .inr (4, [.ref (bd 18), .ref (bd 19), .int cnt, .int opb, .int rch, .int wnt, .ref (bd 20), .ref (bd 21), .ref (bd 22), .int bc, .ref (bd 23), .ref (bd 24), .long bw, .long br])), ((bd 18), .inr (2, [.int (bI o3), .ref (na 31), .ref (na 32), .ref (na 33)])), ((bd 20), .inl (ka 3, 5, .inr (.inr (.inr (.inr (nR na 34)))))), ((bd 2), .inr (3, [.int (nI L), .ref (bd 7), .ref (bd 8), .ref (bd 9), .ref (bd 10), .ref (bd 11), .int sz9, .int re9])), ((bd 7), .inl (ka 0, 8, .inl mo)), ((bd 8), .inl (ka 0, 8, .inl an)), ((bd 9), .inl (ka 0, 8, .inl pl)), ((bd 10), .inl (ka 0, 24, .inl ho))] ++ nP na N) H locs := hB
      exact zreti hF hB (N, (o3)) (⟨by rw [if_pos hc1.1, hc1.2]; exact rfl, fun k9 h9 => rfl⟩) (rfl) (rfl) dX7_count_109 hQ
    · skip
      refine lv_tableIn (tgt := 110) hx hb dX7_count_1 (by omega) (by omega) (by rw [hc9]; rfl) (by decide) ?_
      have hkk : kq = (7 : Int32) := i32_eq.mpr (hc9.trans rfl)
      subst hkk
      have hc1 := ct_in (kq := (7 : Int32)) (k := 7) rfl (by decide)
      refine lv_aload_n hx hb dX7_count_110 rfl (lv_at hl 0 rfl) ?_
      refine zget zf_X7_33 hF hB 0 rfl rfl dX7_count_111 ?_
      refine zVi zm_X7_165 hF hB (c_X3_sizeBits l D ka kb bd (nI L) sz9 re9 ) [7] rfl (by decide) [(bd 2)] (fun _ => rfl) rfl 7 3 rfl rfl rfl ⟨Nat.le_of_ble_eq_true rfl, Nat.le_of_ble_eq_true rfl⟩ rfl hl.1 (Nat.le_of_ble_eq_true rfl) ⟨Nat.le_refl _, Nat.le_refl _⟩ dX7_count_114 ?_
      clear hB
      try clear locs
      try clear H
      intro r8 u8 H locs hp hB
      have e9 : sz9 = r8 := hp.symm
      subst e9
      replace hB : zB D A s ([((bd 31), .inr (7, [.ref (bd 0), .ref (bd 1), .ref (na 6), .ref (na 7), .ref (bd 2), .ref (bd 3), .ref (bd 4), .ref (bd 5), .ref (bd 6)])), ((bd 6), .inr (5, [.ref (bd 25), .ref (bd 30), .int la9])), ((bd 3), .inr (0, [.ref (bd 12), .ref (bd 13), .ref (bd 14), .ref (bd 15), .ref (bd 16), .ref (bd 17), .ref (na 21), .ref (na 22), .ref (na 23), .ref (na 24)])), ((bd 14), .inl (ka 2, 3, .inl (kI kp))), ((bd 4), .inr (4, [.ref (bd 18), .ref (bd 19), .int cnt, .int opb, .int rch, .int wnt, .ref (bd 20), .ref (bd 21), .ref (bd 22), .int bc, .ref (bd 23), .ref (bd 24), .long bw, .long br])), ((bd 18), .inr (2, [.int (bI o3), .ref (na 31), .ref (na 32), .ref (na 33)])), ((bd 20), .inl (ka 3, 5, .inr (.inr (.inr (.inr (nR na 34)))))), ((bd 2), .inr (3, [.int (nI L), .ref (bd 7), .ref (bd 8), .ref (bd 9), .ref (bd 10), .ref (bd 11), .int sz9, .int re9])), ((bd 7), .inl (ka 0, 8, .inl mo)), ((bd 8), .inl (ka 0, 8, .inl an)), ((bd 9), .inl (ka 0, 8, .inl pl)), ((bd 10), .inl (ka 0, 24, .inl ho))] ++ nP na N) H locs := hB
      exact zreti hF hB (N, (o3)) (⟨by rw [if_pos hc1.1, hc1.2]; exact rfl, fun k9 h9 => rfl⟩) (rfl) (rfl) dX7_count_117 hQ
    · skip
      refine lv_tableIn (tgt := 118) hx hb dX7_count_1 (by omega) (by omega) (by rw [hc9]; rfl) (by decide) ?_
      have hkk : kq = (8 : Int32) := i32_eq.mpr (hc9.trans rfl)
      subst hkk
      have hc1 := ct_in (kq := (8 : Int32)) (k := 8) rfl (by decide)
      refine lv_aload_n hx hb dX7_count_118 rfl (lv_at hl 0 rfl) ?_
      refine zget zf_X7_61 hF hB 0 rfl rfl dX7_count_119 ?_
      refine zVi zm_X7_266 hF hB (c_X5_latestFinding l D ka kb bd la9 ) [1] rfl (by decide) [(bd 6)] (fun _ => rfl) rfl 1 5 rfl rfl rfl ⟨Nat.le_of_ble_eq_true rfl, Nat.le_of_ble_eq_true rfl⟩ rfl hl.1 (Nat.le_of_ble_eq_true rfl) ⟨Nat.le_refl _, Nat.le_refl _⟩ dX7_count_122 ?_
      clear hB
      try clear locs
      try clear H
      intro r9 u9 H locs hp hB
      have e9 : la9 = r9 := hp.symm
      subst e9
      replace hB : zB D A s ([((bd 31), .inr (7, [.ref (bd 0), .ref (bd 1), .ref (na 6), .ref (na 7), .ref (bd 2), .ref (bd 3), .ref (bd 4), .ref (bd 5), .ref (bd 6)])), ((bd 6), .inr (5, [.ref (bd 25), .ref (bd 30), .int la9])), ((bd 3), .inr (0, [.ref (bd 12), .ref (bd 13), .ref (bd 14), .ref (bd 15), .ref (bd 16), .ref (bd 17), .ref (na 21), .ref (na 22), .ref (na 23), .ref (na 24)])), ((bd 14), .inl (ka 2, 3, .inl (kI kp))), ((bd 4), .inr (4, [.ref (bd 18), .ref (bd 19), .int cnt, .int opb, .int rch, .int wnt, .ref (bd 20), .ref (bd 21), .ref (bd 22), .int bc, .ref (bd 23), .ref (bd 24), .long bw, .long br])), ((bd 18), .inr (2, [.int (bI o3), .ref (na 31), .ref (na 32), .ref (na 33)])), ((bd 20), .inl (ka 3, 5, .inr (.inr (.inr (.inr (nR na 34)))))), ((bd 2), .inr (3, [.int (nI L), .ref (bd 7), .ref (bd 8), .ref (bd 9), .ref (bd 10), .ref (bd 11), .int sz9, .int re9])), ((bd 7), .inl (ka 0, 8, .inl mo)), ((bd 8), .inl (ka 0, 8, .inl an)), ((bd 9), .inl (ka 0, 8, .inl pl)), ((bd 10), .inl (ka 0, 24, .inl ho))] ++ nP na N) H locs := hB
      exact zreti hF hB (N, (o3)) (⟨by rw [if_pos hc1.1, hc1.2]; exact rfl, fun k9 h9 => rfl⟩) (rfl) (rfl) dX7_count_125 hQ

