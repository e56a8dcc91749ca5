/-- what the class's count answers -/
noncomputable def ctK (la sz re : Int32) (L : Nat) (mo an pl ho : Nat → Int32) (kp : Nat → Bool) : Nat → Int32
  | 0 => nI L
  | 1 => nI (hcnt 0 ho 12)
  | 2 => nI (hcnt 1 ho 12)
  | 3 => ktS kp 3
  | 4 => bI (quB (pulI 0 L mo an pl ho) re.toInt)
  | 5 => bI (quB (pulI 1 L mo an pl ho) re.toInt)
  | 6 => re
  | 7 => sz
  | _ => la
def mxL (X : N5) (d : Int64) : Nat → Int64
  | 0 => d
  | k + 1 => 31 * mxL X d k + cmp5 X k
theorem mx_p {P : Nat → Int} {d : Int64} : ∀ k, k ≤ 5 → mxL (plN P) d k = ptA P d k
  | 0, _ => rfl
  | k + 1, h => by
    show 31 * mxL (plN P) d k + cmp5 (plN P) k = 31 * ptA P d k + plV P k
    rw [mx_p k (by omega), plV, if_pos (by omega)]
theorem mx_p5 {P : Nat → Int} {d : Int64} : mxL (plN P) d 5 = ptA P d 5 := mx_p 5 (Nat.le_refl _)
theorem mx_s {P : Nat → Int} {d : Int64} : ∀ k, k ≤ 5 → mxL (sqN P) (ptA P d 5) k = ptA P d (5 + k)
  | 0, _ => rfl
  | k + 1, h => by
    show 31 * mxL (sqN P) (ptA P d 5) k + cmp5 (sqN P) k = 31 * ptA P d (5 + k) + plV P (5 + k)
    rw [mx_s k (by omega), plV, if_neg (by omega), show 5 + k - 5 = k by omega]
theorem mx_s5 {P : Nat → Int} {d : Int64} : mxL (sqN P) (ptA P d 5) 5 = ptA P d 10 := mx_s 5 (Nat.le_refl _)
set_option maxHeartbeats 4000000 in
set_option maxRecDepth 100000 in
theorem c_X7_count (l : Launch) (D : va_G) (ka : Nat → ClassId) (kb : Nat → Nat) (bd : Nat → Nat) (na : Nat → Nat) (la9 : Int32) (kp : Nat → Bool) (o3 : Bool) (cnt : Int32) (opb : Int32) (rch : Int32) (wnt : Int32) (bc : Int32) (bw : Int64) (br : Int64) (sz9 : Int32) (re9 : Int32) (L : Nat) (mo : Nat → Int32) (an : Nat → Int32) (pl : Nat → Int32) (ho : Nat → Int32) (N : Nat → N5) (kq : Int32) (hok : okL L mo an pl) (hoh : okH ho) (hre : 0 ≤ re9.toInt ∧ re9.toInt ≤ 99) : zI l D ka kb yX7_count cX7_count 2 .int 5 123 [.ref (bd 31), .int kq] ([((bd 31), .inr (7, [.ref (bd 0), .ref (bd 1), .ref (na 6), .ref (na 7), .ref (bd 2), .ref (bd 3), .ref (bd 4), .ref (bd 5), .ref (bd 6)])), ((bd 6), .inr (5, [.ref (bd 25), .ref (bd 30), .int la9])), ((bd 3), .inr (0, [.ref (bd 12), .ref (bd 13), .ref (bd 14), .ref (bd 15), .ref (bd 16), .ref (bd 17), .ref (na 21), .ref (na 22), .ref (na 23), .ref (na 24)])), ((bd 14), .inl (ka 2, 3, .inl (kI kp))), ((bd 4), .inr (4, [.ref (bd 18), .ref (bd 19), .int cnt, .int opb, .int rch, .int wnt, .ref (bd 20), .ref (bd 21), .ref (bd 22), .int bc, .ref (bd 23), .ref (bd 24), .long bw, .long br])), ((bd 18), .inr (2, [.int (bI o3), .ref (na 31), .ref (na 32), .ref (na 33)])), ((bd 20), .inl (ka 3, 5, .inr (.inr (.inr (.inr (nR na 34)))))), ((bd 2), .inr (3, [.int (nI L), .ref (bd 7), .ref (bd 8), .ref (bd 9), .ref (bd 10), .ref (bd 11), .int sz9, .int re9])), ((bd 7), .inl (ka 0, 8, .inl mo)), ((bd 8), .inl (ka 0, 8, .inl an)), ((bd 9), .inl (ka 0, 8, .inl pl)), ((bd 10), .inl (ka 0, 24, .inl ho))] ++ nP na N) (fun (r : Int32) (u : (Nat → N5) × Bool) => r = (if inI kq 9 = true then ctK la9 sz9 re9 L mo an pl ho kp (aN kq) else -2) ∧ (∀ k9, k9 ≠ 34 → u.1 k9 = N k9)) (fun (u : (Nat → N5) × Bool) => [((bd 31), .inr (7, [.ref (bd 0), .ref (bd 1), .ref (na 6), .ref (na 7), .ref (bd 2), .ref (bd 3), .ref (bd 4), .ref (bd 5), .ref (bd 6)])), ((bd 6), .inr (5, [.ref (bd 25), .ref (bd 30), .int la9])), ((bd 3), .inr (0, [.ref (bd 12), .ref (bd 13), .ref (bd 14), .ref (bd 15), .ref (bd 16), .ref (bd 17), .ref (na 21), .ref (na 22), .ref (na 23), .ref (na 24)])), ((bd 14), .inl (ka 2, 3, .inl (kI kp))), ((bd 4), .inr (4, [.ref (bd 18), .ref (bd 19), .int cnt, .int opb, .int rch, .int wnt, .ref (bd 20), .ref (bd 21), .ref (bd 22), .int bc, .ref (bd 23), .ref (bd 24), .long bw, .long br])), ((bd 18), .inr (2, [.int (bI u.2), .ref (na 31), .ref (na 32), .ref (na 33)])), ((bd 20), .inl (ka 3, 5, .inr (.inr (.inr (.inr (nR na 34)))))), ((bd 2), .inr (3, [.int (nI L), .ref (bd 7), .ref (bd 8), .ref (bd 9), .ref (bd 10), .ref (bd 11), .int sz9, .int re9])), ((bd 7), .inl (ka 0, 8, .inl mo)), ((bd 8), .inl (ka 0, 8, .inl an)), ((bd 9), .inl (ka 0, 8, .inl pl)), ((bd 10), .inl (ka 0, 24, .inl ho))] ++ nP na u.1) := by
  refine zI.mk RX7 (by decide +kernel) rfl (Nat.le_of_ble_eq_true rfl) ?_
  intro p e s m below meth c A ls args Q hQ hx hb hF hB hl
  replace hl : lv_has ls 2 [(0, .ref (bd 31)), (1, .int kq)] := hl
  refine lv_iload_n hx hb dX7_count_0 rfl (lv_at hl 1 rfl) ?_
  rcases zsw kq 0 8 with hsw | hsw
  · skip
    refine lv_tableOut (tgt := 126) hx hb dX7_count_1 hsw (by decide) ?_
    refine lv_bipush (v := -2) hx hb dX7_count_126 (by decide) ?_
    exact zreti hF hB (N, (o3)) (⟨by rw [if_neg (by rw [ct_out hsw]; decide)], fun _ _ => rfl⟩) (rfl) (rfl) dX7_count_128 hQ
  · skip
    rcases (show Int32.toInt kq = 0 ∨ Int32.toInt kq = 1 ∨ Int32.toInt kq = 2 ∨ Int32.toInt kq = 3 ∨ Int32.toInt kq = 4 ∨ Int32.toInt kq = 5 ∨ Int32.toInt kq = 6 ∨ Int32.toInt kq = 7 ∨ Int32.toInt kq = 8 by omega) with hc9 | hc9 | hc9 | hc9 | hc9 | hc9 | hc9 | hc9 | hc9
    · skip
      refine lv_tableIn (tgt := 52) hx hb dX7_count_1 (by omega) (by omega) (by rw [hc9]; rfl) (by decide) ?_
      have hkk : kq = (0 : Int32) := i32_eq.mpr (hc9.trans rfl)
      subst hkk
      have hc1 := ct_in (kq := (0 : Int32)) (k := 0) rfl (by decide)
      refine lv_aload_n hx hb dX7_count_52 rfl (lv_at hl 0 rfl) ?_
      refine zget zf_X7_33 hF hB 0 rfl rfl dX7_count_53 ?_
      refine zVi zm_X7_126 hF hB (c_X3_lumps l D ka kb bd (nI L) sz9 re9 ) [7] rfl (by decide) [(bd 2)] (fun _ => rfl) rfl 7 3 rfl rfl rfl ⟨Nat.le_of_ble_eq_true rfl, Nat.le_of_ble_eq_true rfl⟩ rfl hl.1 (Nat.le_of_ble_eq_true rfl) ⟨Nat.le_refl _, Nat.le_refl _⟩ dX7_count_56 ?_
      clear hB
      try clear locs
      try clear H
      intro r1 u1 H locs hp hB
      obtain rfl : r1 = (nI L) := hp
      replace hB : zB D A s ([((bd 31), .inr (7, [.ref (bd 0), .ref (bd 1), .ref (na 6), .ref (na 7), .ref (bd 2), .ref (bd 3), .ref (bd 4), .ref (bd 5), .ref (bd 6)])), ((bd 6), .inr (5, [.ref (bd 25), .ref (bd 30), .int la9])), ((bd 3), .inr (0, [.ref (bd 12), .ref (bd 13), .ref (bd 14), .ref (bd 15), .ref (bd 16), .ref (bd 17), .ref (na 21), .ref (na 22), .ref (na 23), .ref (na 24)])), ((bd 14), .inl (ka 2, 3, .inl (kI kp))), ((bd 4), .inr (4, [.ref (bd 18), .ref (bd 19), .int cnt, .int opb, .int rch, .int wnt, .ref (bd 20), .ref (bd 21), .ref (bd 22), .int bc, .ref (bd 23), .ref (bd 24), .long bw, .long br])), ((bd 18), .inr (2, [.int (bI o3), .ref (na 31), .ref (na 32), .ref (na 33)])), ((bd 20), .inl (ka 3, 5, .inr (.inr (.inr (.inr (nR na 34)))))), ((bd 2), .inr (3, [.int (nI L), .ref (bd 7), .ref (bd 8), .ref (bd 9), .ref (bd 10), .ref (bd 11), .int sz9, .int re9])), ((bd 7), .inl (ka 0, 8, .inl mo)), ((bd 8), .inl (ka 0, 8, .inl an)), ((bd 9), .inl (ka 0, 8, .inl pl)), ((bd 10), .inl (ka 0, 24, .inl ho))] ++ nP na N) H locs := hB
      exact zreti hF hB (N, (o3)) (⟨by rw [if_pos hc1.1, hc1.2]; exact rfl, fun k9 h9 => rfl⟩) (rfl) (rfl) dX7_count_59 hQ
    · skip
      refine lv_tableIn (tgt := 60) hx hb dX7_count_1 (by omega) (by omega) (by rw [hc9]; rfl) (by decide) ?_
      have hkk : kq = (1 : Int32) := i32_eq.mpr (hc9.trans rfl)
      subst hkk
      have hc1 := ct_in (kq := (1 : Int32)) (k := 1) rfl (by decide)
      refine lv_aload_n hx hb dX7_count_60 rfl (lv_at hl 0 rfl) ?_
      refine zget zf_X7_33 hF hB 0 rfl rfl dX7_count_61 ?_
      refine lv_iload_n hx hb dX7_count_64 rfl (lv_at hl 1 rfl) ?_
      refine lv_iconst (v := 1) hx hb dX7_count_65 (by decide) ?_
      refine lv_isub hx hb dX7_count_66 ?_
      refine ztopi (y := (0 : Int32)) (by decide) ?_
      refine zVi zm_X7_146 hF hB (c_X3_holes l D ka kb bd (nI L) sz9 re9 ho 0 (by decide) (hoh)) [7, 11] rfl (by decide) [(bd 2), (bd 10)] (fun _ => rfl) rfl 7 3 rfl rfl rfl ⟨Nat.le_of_ble_eq_true rfl, Nat.le_of_ble_eq_true rfl⟩ rfl hl.1 (Nat.le_of_ble_eq_true rfl) ⟨Nat.le_refl _, Nat.le_refl _⟩ dX7_count_67 ?_
      clear hB
      try clear locs
      try clear H
      intro r2 u2 H locs hp hB
      obtain rfl : r2 = nI (hcnt 0 ho 12) := hp
      replace hB : zB D A s ([((bd 31), .inr (7, [.ref (bd 0), .ref (bd 1), .ref (na 6), .ref (na 7), .ref (bd 2), .ref (bd 3), .ref (bd 4), .ref (bd 5), .ref (bd 6)])), ((bd 6), .inr (5, [.ref (bd 25), .ref (bd 30), .int la9])), ((bd 3), .inr (0, [.ref (bd 12), .ref (bd 13), .ref (bd 14), .ref (bd 15), .ref (bd 16), .ref (bd 17), .ref (na 21), .ref (na 22), .ref (na 23), .ref (na 24)])), ((bd 14), .inl (ka 2, 3, .inl (kI kp))), ((bd 4), .inr (4, [.ref (bd 18), .ref (bd 19), .int cnt, .int opb, .int rch, .int wnt, .ref (bd 20), .ref (bd 21), .ref (bd 22), .int bc, .ref (bd 23), .ref (bd 24), .long bw, .long br])), ((bd 18), .inr (2, [.int (bI o3), .ref (na 31), .ref (na 32), .ref (na 33)])), ((bd 20), .inl (ka 3, 5, .inr (.inr (.inr (.inr (nR na 34)))))), ((bd 2), .inr (3, [.int (nI L), .ref (bd 7), .ref (bd 8), .ref (bd 9), .ref (bd 10), .ref (bd 11), .int sz9, .int re9])), ((bd 7), .inl (ka 0, 8, .inl mo)), ((bd 8), .inl (ka 0, 8, .inl an)), ((bd 9), .inl (ka 0, 8, .inl pl)), ((bd 10), .inl (ka 0, 24, .inl ho))] ++ nP na N) H locs := hB
      exact zreti hF hB (N, (o3)) (⟨by rw [if_pos hc1.1, hc1.2]; exact rfl, fun k9 h9 => rfl⟩) (rfl) (rfl) dX7_count_70 hQ
    · skip
      refine lv_tableIn (tgt := 60) hx hb dX7_count_1 (by omega) (by omega) (by rw [hc9]; rfl) (by decide) ?_
      have hkk : kq = (2 : Int32) := i32_eq.mpr (hc9.trans rfl)
      subst hkk
      have hc1 := ct_in (kq := (2 : Int32)) (k := 2) rfl (by decide)
      refine lv_aload_n hx hb dX7_count_60 rfl (lv_at hl 0 rfl) ?_
      refine zget zf_X7_33 hF hB 0 rfl rfl dX7_count_61 ?_
      refine lv_iload_n hx hb dX7_count_64 rfl (lv_at hl 1 rfl) ?_
      refine lv_iconst (v := 1) hx hb dX7_count_65 (by decide) ?_
      refine lv_isub hx hb dX7_count_66 ?_
      refine ztopi (y := (1 : Int32)) (by decide) ?_
      refine zVi zm_X7_146 hF hB (c_X3_holes l D ka kb bd (nI L) sz9 re9 ho 1 (by decide) (hoh)) [7, 11] rfl (by decide) [(bd 2), (bd 10)] (fun _ => rfl) rfl 7 3 rfl rfl rfl ⟨Nat.le_of_ble_eq_true rfl, Nat.le_of_ble_eq_true rfl⟩ rfl hl.1 (Nat.le_of_ble_eq_true rfl) ⟨Nat.le_refl _, Nat.le_refl _⟩ dX7_count_67 ?_
      clear hB
      try clear locs
      try clear H
      intro r3 u3 H locs hp hB
      obtain rfl : r3 = nI (hcnt 1 ho 12) := hp
      replace hB : zB D A s ([((bd 31), .inr (7, [.ref (bd 0), .ref (bd 1), .ref (na 6), .ref (na 7), .ref (bd 2), .ref (bd 3), .ref (bd 4), .ref (bd 5), .ref (bd 6)])), ((bd 6), .inr (5, [.ref (bd 25), .ref (bd 30), .int la9])), ((bd 3), .inr (0, [.ref (bd 12), .ref (bd 13), .ref (bd 14), .ref (bd 15), .ref (bd 16), .ref (bd 17), .ref (na 21), .ref (na 22), .ref (na 23), .ref (na 24)])), ((bd 14), .inl (ka 2, 3, .inl (kI kp))), ((bd 4), .inr (4, [.ref (bd 18), .ref (bd 19), .int cnt, .int opb, .int rch, .int wnt, .ref (bd 20), .ref (bd 21), .ref (bd 22), .int bc, .ref (bd 23), .ref (bd 24), .long bw, .long br])), ((bd 18), .inr (2, [.int (bI o3), .ref (na 31), .ref (na 32), .ref (na 33)])), ((bd 20), .inl (ka 3, 5, .inr (.inr (.inr (.inr (nR na 34)))))), ((bd 2), .inr (3, [.int (nI L), .ref (bd 7), .ref (bd 8), .ref (bd 9), .ref (bd 10), .ref (bd 11), .int sz9, .int re9])), ((bd 7), .inl (ka 0, 8, .inl mo)), ((bd 8), .inl (ka 0, 8, .inl an)), ((bd 9), .inl (ka 0, 8, .inl pl)), ((bd 10), .inl (ka 0, 24, .inl ho))] ++ nP na N) H locs := hB
      exact zreti hF hB (N, (o3)) (⟨by rw [if_pos hc1.1, hc1.2]; exact rfl, fun k9 h9 => rfl⟩) (rfl) (rfl) dX7_count_70 hQ
    · skip
      refine lv_tableIn (tgt := 71) hx hb dX7_count_1 (by omega) (by omega) (by rw [hc9]; rfl) (by decide) ?_
      have hkk : kq = (3 : Int32) := i32_eq.mpr (hc9.trans rfl)
      subst hkk
      have hc1 := ct_in (kq := (3 : Int32)) (k := 3) rfl (by decide)
      refine lv_aload_n hx hb dX7_count_71 rfl (lv_at hl 0 rfl) ?_
      refine zget zf_X7_40 hF hB 0 rfl rfl dX7_count_72 ?_
      refine zVi zm_X7_197 hF hB (c_X0_keptTrials l D ka kb bd na kp ) [2, 3] rfl (by decide) [(bd 3), (bd 14)] (fun _ => rfl) rfl 2 0 rfl rfl rfl ⟨Nat.le_of_ble_eq_true rfl, Nat.le_of_ble_eq_true rfl⟩ rfl hl.1 (Nat.le_of_ble_eq_true rfl) ⟨Nat.le_refl _, Nat.le_refl _⟩ dX7_count_75 ?_
      clear hB
      try clear locs
      try clear H
      intro r4 u4 H locs hp hB
      obtain rfl : r4 = ktS kp 3 := hp
      replace hB : zB D A s ([((bd 31), .inr (7, [.ref (bd 0), .ref (bd 1), .ref (na 6), .ref (na 7), .ref (bd 2), .ref (bd 3), .ref (bd 4), .ref (bd 5), .ref (bd 6)])), ((bd 6), .inr (5, [.ref (bd 25), .ref (bd 30), .int la9])), ((bd 3), .inr (0, [.ref (bd 12), .ref (bd 13), .ref (bd 14), .ref (bd 15), .ref (bd 16), .ref (bd 17), .ref (na 21), .ref (na 22), .ref (na 23), .ref (na 24)])), ((bd 14), .inl (ka 2, 3, .inl (kI kp))), ((bd 4), .inr (4, [.ref (bd 18), .ref (bd 19), .int cnt, .int opb, .int rch, .int wnt, .ref (bd 20), .ref (bd 21), .ref (bd 22), .int bc, .ref (bd 23), .ref (bd 24), .long bw, .long br])), ((bd 18), .inr (2, [.int (bI o3), .ref (na 31), .ref (na 32), .ref (na 33)])), ((bd 20), .inl (ka 3, 5, .inr (.inr (.inr (.inr (nR na 34)))))), ((bd 2), .inr (3, [.int (nI L), .ref (bd 7), .ref (bd 8), .ref (bd 9), .ref (bd 10), .ref (bd 11), .int sz9, .int re9])), ((bd 7), .inl (ka 0, 8, .inl mo)), ((bd 8), .inl (ka 0, 8, .inl an)), ((bd 9), .inl (ka 0, 8, .inl pl)), ((bd 10), .inl (ka 0, 24, .inl ho))] ++ nP na N) H locs := hB
      exact zreti hF hB (N, (o3)) (⟨by rw [if_pos hc1.1, hc1.2]; exact rfl, fun k9 h9 => rfl⟩) (rfl) (rfl) dX7_count_78 hQ
    · skip
      refine lv_tableIn (tgt := 79) hx hb dX7_count_1 (by omega) (by omega) (by rw [hc9]; rfl) (by decide) ?_
      have hkk : kq = (4 : Int32) := i32_eq.mpr (hc9.trans rfl)
      subst hkk
      have hc1 := ct_in (kq := (4 : Int32)) (k := 4) rfl (by decide)
      refine lv_aload_n hx hb dX7_count_79 rfl (lv_at hl 0 rfl) ?_
      refine zget zf_X7_47 hF hB 0 rfl rfl dX7_count_80 ?_
      refine lv_aload_n hx hb dX7_count_83 rfl (lv_at hl 0 rfl) ?_
      refine zget zf_X7_33 hF hB 0 rfl rfl dX7_count_84 ?_
      refine lv_iload_n hx hb dX7_count_87 rfl (lv_at hl 1 rfl) ?_
      refine lv_iconst (v := 4) hx hb dX7_count_88 (by decide) ?_
      refine lv_isub hx hb dX7_count_89 ?_
      refine ztopi (y := (0 : Int32)) (by decide) ?_
      refine zVi zm_X7_181 hF hB (c_X4_isQuiet l D ka kb bd o3 cnt opb rch wnt bc bw br sz9 re9 L mo an pl ho na N 0 (by decide) (hok) (hoh) (hre)) ([4, 5, 6, 7, 8, 9, 10, 11] ++ npr 12) (zsel_pool rfl rfl) (va_nd_pool rfl rfl) ([(bd 4), (bd 18), (bd 20), (bd 2), (bd 7), (bd 8), (bd 9), (bd 10)] ++ nA na) (fun _ => zad_pool rfl) (zad_pool rfl) 4 4 rfl rfl rfl ⟨Nat.le_of_ble_eq_true rfl, Nat.le_of_ble_eq_true rfl⟩ rfl hl.1 (Nat.le_of_ble_eq_true rfl) ⟨Nat.le_refl _, Nat.le_refl _⟩ dX7_count_90 ?_
      clear hB
      try clear locs
      try clear H
      intro r5 u5 H locs hp hB
      obtain ⟨o95, rfl⟩ : ∃ z, z = u5 := ⟨_, rfl⟩
      have hp5 : r5 = bI (quB (pulI 0 L mo an pl ho) re9.toInt) := hp
      have HPP := hp5
      replace hB : zB D A s ([((bd 31), .inr (7, [.ref (bd 0), .ref (bd 1), .ref (na 6), .ref (na 7), .ref (bd 2), .ref (bd 3), .ref (bd 4), .ref (bd 5), .ref (bd 6)])), ((bd 6), .inr (5, [.ref (bd 25), .ref (bd 30), .int la9])), ((bd 3), .inr (0, [.ref (bd 12), .ref (bd 13), .ref (bd 14), .ref (bd 15), .ref (bd 16), .ref (bd 17), .ref (na 21), .ref (na 22), .ref (na 23), .ref (na 24)])), ((bd 14), .inl (ka 2, 3, .inl (kI kp))), ((bd 4), .inr (4, [.ref (bd 18), .ref (bd 19), .int cnt, .int opb, .int rch, .int wnt, .ref (bd 20), .ref (bd 21), .ref (bd 22), .int bc, .ref (bd 23), .ref (bd 24), .long bw, .long br])), ((bd 18), .inr (2, [.int (bI o95), .ref (na 31), .ref (na 32), .ref (na 33)])), ((bd 20), .inl (ka 3, 5, .inr (.inr (.inr (.inr (nR na 34)))))), ((bd 2), .inr (3, [.int (nI L), .ref (bd 7), .ref (bd 8), .ref (bd 9), .ref (bd 10), .ref (bd 11), .int sz9, .int re9])), ((bd 7), .inl (ka 0, 8, .inl mo)), ((bd 8), .inl (ka 0, 8, .inl an)), ((bd 9), .inl (ka 0, 8, .inl pl)), ((bd 10), .inl (ka 0, 24, .inl ho))] ++ nP na (upN N 34 (p20N (pulI 0 L mo an pl ho)))) H locs := zB_pool hB rfl rfl rfl rfl
      have hIQ := HPP
      refine lv_if_eq (tgt := 100) hx hb dX7_count_93 (by decide) (fun h93 => ?_) (fun h93 => ?_)
      · skip
        refine lv_iconst (v := 0) hx hb dX7_count_100 (by decide) ?_
        exact zreti hF hB (upN N 34 (p20N (pulI 0 L mo an pl ho)), (o95)) (⟨by rw [if_pos hc1.1, hc1.2]; exact bI_0 (bI_eq0 (hIQ.symm.trans h93)), fun k9 h9 => upN_ne h9⟩) (rfl) (rfl) dX7_count_101 hQ
      · skip
        refine lv_iconst (v := 1) hx hb dX7_count_96 (by decide) ?_
        refine lv_goto (tgt := 101) hx hb dX7_count_97 (by decide) ?_
        exact zreti hF hB (upN N 34 (p20N (pulI 0 L mo an pl ho)), (o95)) (⟨by rw [if_pos hc1.1, hc1.2]; exact bI_1 (bI_ne0 (fun e9 => h93 (hIQ.trans e9))), fun k9 h9 => upN_ne h9⟩) (rfl) (rfl) dX7_count_101 hQ
    · skip
      refine lv_tableIn (tgt := 79) hx hb dX7_count_1 (by omega) (by omega) (by rw [hc9]; rfl) (by decide) ?_
      have hkk : kq = (5 : Int32) := i32_eq.mpr (hc9.trans rfl)
      subst hkk
      have hc1 := ct_in (kq := (5 : Int32)) (k := 5) rfl (by decide)
      refine lv_aload_n hx hb dX7_count_79 rfl (lv_at hl 0 rfl) ?_
      refine zget zf_X7_47 hF hB 0 rfl rfl dX7_count_80 ?_
      refine lv_aload_n hx hb dX7_count_83 rfl (lv_at hl 0 rfl) ?_
      refine zget zf_X7_33 hF hB 0 rfl rfl dX7_count_84 ?_
      refine lv_iload_n hx hb dX7_count_87 rfl (lv_at hl 1 rfl) ?_
      refine lv_iconst (v := 4) hx hb dX7_count_88 (by decide) ?_
      refine lv_isub hx hb dX7_count_89 ?_
      refine ztopi (y := (1 : Int32)) (by decide) ?_
      refine zVi zm_X7_181 hF hB (c_X4_isQuiet l D ka kb bd o3 cnt opb rch wnt bc bw br sz9 re9 L mo an pl ho na N 1 (by decide) (hok) (hoh) (hre)) ([4, 5, 6, 7, 8, 9, 10, 11] ++ npr 12) (zsel_pool rfl rfl) (va_nd_pool rfl rfl) ([(bd 4), (bd 18), (bd 20), (bd 2), (bd 7), (bd 8), (bd 9), (bd 10)] ++ nA na) (fun _ => zad_pool rfl) (zad_pool rfl) 4 4 rfl rfl rfl ⟨Nat.le_of_ble_eq_true rfl, Nat.le_of_ble_eq_true rfl⟩ rfl hl.1 (Nat.le_of_ble_eq_true rfl) ⟨Nat.le_refl _, Nat.le_refl _⟩ dX7_count_90 ?_
      clear hB
      try clear locs
      try clear H
      intro r6 u6 H locs hp hB
      obtain ⟨o96, rfl⟩ : ∃ z, z = u6 := ⟨_, rfl⟩
      have hp6 : r6 = bI (quB (pulI 1 L mo an pl ho) re9.toInt) := hp
      have HPP := hp6
      replace hB : zB D A s ([((bd 31), .inr (7, [.ref (bd 0), .ref (bd 1), .ref (na 6), .ref (na 7), .ref (bd 2), .ref (bd 3), .ref (bd 4), .ref (bd 5), .ref (bd 6)])), ((bd 6), .inr (5, [.ref (bd 25), .ref (bd 30), .int la9])), ((bd 3), .inr (0, [.ref (bd 12), .ref (bd 13), .ref (bd 14), .ref (bd 15), .ref (bd 16), .ref (bd 17), .ref (na 21), .ref (na 22), .ref (na 23), .ref (na 24)])), ((bd 14), .inl (ka 2, 3, .inl (kI kp))), ((bd 4), .inr (4, [.ref (bd 18), .ref (bd 19), .int cnt, .int opb, .int rch, .int wnt, .ref (bd 20), .ref (bd 21), .ref (bd 22), .int bc, .ref (bd 23), .ref (bd 24), .long bw, .long br])), ((bd 18), .inr (2, [.int (bI o96), .ref (na 31), .ref (na 32), .ref (na 33)])), ((bd 20), .inl (ka 3, 5, .inr (.inr (.inr (.inr (nR na 34)))))), ((bd 2), .inr (3, [.int (nI L), .ref (bd 7), .ref (bd 8), .ref (bd 9), .ref (bd 10), .ref (bd 11), .int sz9, .int re9])), ((bd 7), .inl (ka 0, 8, .inl mo)), ((bd 8), .inl (ka 0, 8, .inl an)), ((bd 9), .inl (ka 0, 8, .inl pl)), ((bd 10), .inl (ka 0, 24, .inl ho))] ++ nP na (upN N 34 (p20N (pulI 1 L mo an pl ho)))) H locs := zB_pool hB rfl rfl rfl rfl
      have hIQ := HPP
      refine lv_if_eq (tgt := 100) hx hb dX7_count_93 (by decide) (fun h93 => ?_) (fun h93 => ?_)
      · skip
        refine lv_iconst (v := 0) hx hb dX7_count_100 (by decide) ?_
        exact zreti hF hB (upN N 34 (p20N (pulI 1 L mo an pl ho)), (o96)) (⟨by rw [if_pos hc1.1, hc1.2]; exact bI_0 (bI_eq0 (hIQ.symm.trans h93)), fun k9 h9 => upN_ne h9⟩) (rfl) (rfl) dX7_count_101 hQ
      · skip
        refine lv_iconst (v := 1) hx hb dX7_count_96 (by decide) ?_
        refine lv_goto (tgt := 101) hx hb dX7_count_97 (by decide) ?_
        exact zreti hF hB (upN N 34 (p20N (pulI 1 L mo an pl ho)), (o96)) (⟨by rw [if_pos hc1.1, hc1.2]; exact bI_1 (bI_ne0 (fun e9 => h93 (hIQ.trans e9))), fun k9 h9 => upN_ne h9⟩) (rfl) (rfl) dX7_count_101 hQ
    · skip
      refine lv_tableIn (tgt := 102) hx hb dX7_count_1 (by omega) (by omega) (by rw [hc9]; rfl) (by decide) ?_
      have hkk : kq = (6 : Int32) := i32_eq.mpr (hc9.trans rfl)
      subst hkk
      have hc1 := ct_in (kq := (6 : Int32)) (k := 6) rfl (by decide)
      refine lv_aload_n hx hb dX7_count_102 rfl (lv_at hl 0 rfl) ?_
      refine zget zf_X7_33 hF hB 0 rfl rfl dX7_count_103 ?_
      refine zVi zm_X7_172 hF hB (c_X3_reach l D ka kb bd (nI L) sz9 re9 ) [7] rfl (by decide) [(bd 2)] (fun _ => rfl) rfl 7 3 rfl rfl rfl ⟨Nat.le_of_ble_eq_true rfl, Nat.le_of_ble_eq_true rfl⟩ rfl hl.1 (Nat.le_of_ble_eq_true rfl) ⟨Nat.le_refl _, Nat.le_refl _⟩ dX7_count_106 ?_
      clear hB
      try clear locs
      try clear H
      intro r7 u7 H locs hp hB
      have e9 : re9 = r7 := hp.symm
      subst e9
      replace hB : zB D A s ([((bd 31), .inr (7, [.ref (bd 0), .ref (bd 1), .ref (na 6), .ref (na 7), .ref (bd 2), .ref (bd 3), .ref (bd 4), .ref (bd 5), .ref (bd 6)])), ((bd 6), .inr (5, [.ref (bd 25), .ref (bd 30), .int la9])), ((bd 3), .inr (0, [.ref (bd 12), .ref (bd 13), .ref (bd 14), .ref (bd 15), .ref (bd 16), .ref (bd 17), .ref (na 21), .ref (na 22), .ref (na 23), .ref (na 24)])), ((bd 14), .inl (ka 2, 3, .inl (kI kp))), ((bd 4), .inr (4, [.ref (bd 18), .ref (bd 19), .int cnt, .int opb, .int rch, .int wnt, .ref (bd 20), .ref (bd 21), .ref (bd 22), .int bc, .ref (bd 23), .ref (bd 24), .long bw, .long br])), ((bd 18), .inr (2, [.int (bI o3), .ref (na 31), .ref (na 32), .ref (na 33)])), ((bd 20), .inl (ka 3, 5, .inr (.inr (.inr (.inr (nR na 34)))))), ((bd 2), .inr (3, [.int (nI L), .ref (bd 7), .ref (bd 8), .ref (bd 9), .ref (bd 10), .ref (bd 11), .int sz9, .int re9])), ((bd 7), .inl (ka 0, 8, .inl mo)), ((bd 8), .inl (ka 0, 8, .inl an)), ((bd 9), .inl (ka 0, 8, .inl pl)), ((bd 10), .inl (ka 0, 24, .inl ho))] ++ nP na N) H locs := hB
      exact zreti hF hB (N, (o3)) (⟨by rw [if_pos hc1.1, hc1.2]; exact rfl, fun k9 h9 => rfl⟩) (rfl) (rfl) dX7_count_109 hQ
    · skip
      refine lv_tableIn (tgt := 110) hx hb dX7_count_1 (by omega) (by omega) (by rw [hc9]; rfl) (by decide) ?_
      have hkk : kq = (7 : Int32) := i32_eq.mpr (hc9.trans rfl)
      subst hkk
      have hc1 := ct_in (kq := (7 : Int32)) (k := 7) rfl (by decide)
      refine lv_aload_n hx hb dX7_count_110 rfl (lv_at hl 0 rfl) ?_
      refine zget zf_X7_33 hF hB 0 rfl rfl dX7_count_111 ?_
      refine zVi zm_X7_165 hF hB (c_X3_sizeBits l D ka kb bd (nI L) sz9 re9 ) [7] rfl (by decide) [(bd 2)] (fun _ => rfl) rfl 7 3 rfl rfl rfl ⟨Nat.le_of_ble_eq_true rfl, Nat.le_of_ble_eq_true rfl⟩ rfl hl.1 (Nat.le_of_ble_eq_true rfl) ⟨Nat.le_refl _, Nat.le_refl _⟩ dX7_count_114 ?_
      clear hB
      try clear locs
      try clear H
      intro r8 u8 H locs hp hB
      have e9 : sz9 = r8 := hp.symm
      subst e9
      replace hB : zB D A s ([((bd 31), .inr (7, [.ref (bd 0), .ref (bd 1), .ref (na 6), .ref (na 7), .ref (bd 2), .ref (bd 3), .ref (bd 4), .ref (bd 5), .ref (bd 6)])), ((bd 6), .inr (5, [.ref (bd 25), .ref (bd 30), .int la9])), ((bd 3), .inr (0, [.ref (bd 12), .ref (bd 13), .ref (bd 14), .ref (bd 15), .ref (bd 16), .ref (bd 17), .ref (na 21), .ref (na 22), .ref (na 23), .ref (na 24)])), ((bd 14), .inl (ka 2, 3, .inl (kI kp))), ((bd 4), .inr (4, [.ref (bd 18), .ref (bd 19), .int cnt, .int opb, .int rch, .int wnt, .ref (bd 20), .ref (bd 21), .ref (bd 22), .int bc, .ref (bd 23), .ref (bd 24), .long bw, .long br])), ((bd 18), .inr (2, [.int (bI o3), .ref (na 31), .ref (na 32), .ref (na 33)])), ((bd 20), .inl (ka 3, 5, .inr (.inr (.inr (.inr (nR na 34)))))), ((bd 2), .inr (3, [.int (nI L), .ref (bd 7), .ref (bd 8), .ref (bd 9), .ref (bd 10), .ref (bd 11), .int sz9, .int re9])), ((bd 7), .inl (ka 0, 8, .inl mo)), ((bd 8), .inl (ka 0, 8, .inl an)), ((bd 9), .inl (ka 0, 8, .inl pl)), ((bd 10), .inl (ka 0, 24, .inl ho))] ++ nP na N) H locs := hB
      exact zreti hF hB (N, (o3)) (⟨by rw [if_pos hc1.1, hc1.2]; exact rfl, fun k9 h9 => rfl⟩) (rfl) (rfl) dX7_count_117 hQ
    · skip
      refine lv_tableIn (tgt := 118) hx hb dX7_count_1 (by omega) (by omega) (by rw [hc9]; rfl) (by decide) ?_
      have hkk : kq = (8 : Int32) := i32_eq.mpr (hc9.trans rfl)
      subst hkk
      have hc1 := ct_in (kq := (8 : Int32)) (k := 8) rfl (by decide)
      refine lv_aload_n hx hb dX7_count_118 rfl (lv_at hl 0 rfl) ?_
      refine zget zf_X7_61 hF hB 0 rfl rfl dX7_count_119 ?_
      refine zVi zm_X7_266 hF hB (c_X5_latestFinding l D ka kb bd la9 ) [1] rfl (by decide) [(bd 6)] (fun _ => rfl) rfl 1 5 rfl rfl rfl ⟨Nat.le_of_ble_eq_true rfl, Nat.le_of_ble_eq_true rfl⟩ rfl hl.1 (Nat.le_of_ble_eq_true rfl) ⟨Nat.le_refl _, Nat.le_refl _⟩ dX7_count_122 ?_
      clear hB
      try clear locs
      try clear H
      intro r9 u9 H locs hp hB
      have e9 : la9 = r9 := hp.symm
      subst e9
      replace hB : zB D A s ([((bd 31), .inr (7, [.ref (bd 0), .ref (bd 1), .ref (na 6), .ref (na 7), .ref (bd 2), .ref (bd 3), .ref (bd 4), .ref (bd 5), .ref (bd 6)])), ((bd 6), .inr (5, [.ref (bd 25), .ref (bd 30), .int la9])), ((bd 3), .inr (0, [.ref (bd 12), .ref (bd 13), .ref (bd 14), .ref (bd 15), .ref (bd 16), .ref (bd 17), .ref (na 21), .ref (na 22), .ref (na 23), .ref (na 24)])), ((bd 14), .inl (ka 2, 3, .inl (kI kp))), ((bd 4), .inr (4, [.ref (bd 18), .ref (bd 19), .int cnt, .int opb, .int rch, .int wnt, .ref (bd 20), .ref (bd 21), .ref (bd 22), .int bc, .ref (bd 23), .ref (bd 24), .long bw, .long br])), ((bd 18), .inr (2, [.int (bI o3), .ref (na 31), .ref (na 32), .ref (na 33)])), ((bd 20), .inl (ka 3, 5, .inr (.inr (.inr (.inr (nR na 34)))))), ((bd 2), .inr (3, [.int (nI L), .ref (bd 7), .ref (bd 8), .ref (bd 9), .ref (bd 10), .ref (bd 11), .int sz9, .int re9])), ((bd 7), .inl (ka 0, 8, .inl mo)), ((bd 8), .inl (ka 0, 8, .inl an)), ((bd 9), .inl (ka 0, 8, .inl pl)), ((bd 10), .inl (ka 0, 24, .inl ho))] ++ nP na N) H locs := hB
      exact zreti hF hB (N, (o3)) (⟨by rw [if_pos hc1.1, hc1.2]; exact rfl, fun k9 h9 => rfl⟩) (rfl) (rfl) dX7_count_125 hQ

set_option maxHeartbeats 4000000 in
set_option maxRecDepth 100000 in
theorem c_X7_mixNum (l : Launch) (D : va_G) (ka : Nat → ClassId) (kb : Nat → Nat) (na : Nat → Nat) (N : Nat → N5) (d9 : Int64) (i : Nat) (hi : i < 41) : zL l D ka kb yX7_mixNum cX7_mixNum 6 1 21 [.long d9, .ref (na i)] ([] ++ nP na N) (fun (r : Int64) (_ : Unit) => r = mxL (N i) d9 5) (fun (_ : Unit) => [] ++ nP na N) := by
  refine zL.mk RX7 (by decide +kernel) rfl (Nat.le_of_ble_eq_true rfl) ?_
  intro p e s m below meth c A ls args Q hQ hx hb hF hB hl
  replace hl : lv_has ls 6 [(0, .long d9), (2, .ref (na i))] := hl
  refine lv_lload_n hx hb dX7_mixNum_0 rfl (lv_at hl 0 rfl) ?_
  refine lv_lstore_n (lv' := [(3, .long d9), (0, .long d9), (2, .ref (na i))]) hx hb dX7_mixNum_1 rfl hl (by decide) rfl ?_
  clear hl
  clear ls
  intro ls hl
  refine lv_iconst (v := 0) hx hb dX7_mixNum_2 (by decide) ?_
  refine lv_istore (lv' := [(5, .int (0 : Int32)), (3, .long d9), (0, .long d9), (2, .ref (na i))]) hx hb dX7_mixNum_3 hl (by decide) rfl ?_
  clear hl
  clear ls
  intro ls hl
  have lp5 : ∀ (fl : Nat) (kc : Nat), (hk : kc ≤ 5) → 5 - kc < fl → ∀ (H : Heap) (locs : List Loc), zB D A s ([] ++ nP na N) H locs → ∀ ls : Array Slot, lv_has ls 6 [(3, .long (mxL (N i) d9 kc)), (5, .int (nI kc)), (2, .ref (na i))] → W p l e (zRm 1 21 0 0) s m args below meth c H locs 0 0 Q (F0 m 5 ls []) := by
    intro fl
    induction fl with
    | zero => intro kc hk hfl; exact absurd hfl (Nat.not_lt_zero _)
    | succ fl ih5 =>
      intro kc hk hfl5 H locs hB ls hl
      refine lv_iload hx hb dX7_mixNum_5 (lv_at hl 1 rfl) ?_
      refine lv_iconst (v := 5) hx hb dX7_mixNum_7 (by decide) ?_
      refine lv_icmp_ge (tgt := 30) hx hb dX7_mixNum_8 (by decide) (fun h8 => ?_) (fun h8 => ?_)
      · skip
        have hk2 : kc = 5 := by have := (nI_leI (a := 5) (b := kc) (by decide) (by omega)).mp h8; omega
        refine lv_lload_n hx hb dX7_mixNum_30 rfl (lv_at hl 0 rfl) ?_
        exact zretl hF hB () (by rw [hk2]) (rfl) dX7_mixNum_31 hQ
      · skip
        have hk2 : kc < 5 := Nat.not_le.mp (fun e9 => h8 ((nI_leI (a := 5) (b := kc) (by decide) (by omega)).mpr e9))
        refine zldc2 (v := (31 : Int64)) ww_43_20 hF dX7_mixNum_11 ?_
        refine lv_lload_n hx hb dX7_mixNum_14 rfl (lv_at hl 0 rfl) ?_
        refine lv_lmul hx hb dX7_mixNum_15 ?_
        refine lv_aload_n hx hb dX7_mixNum_16 rfl (lv_at hl 2 rfl) ?_
        refine lv_iload hx hb dX7_mixNum_17 (lv_at hl 1 rfl) ?_
        refine zVl zm_X7_113 hF hB (c_X1_item l D ka kb (na i) (N i) kc (hk2)) [0 + i] (zsel_num rfl (hi)) (va_nd_1 _) [na i] (fun _ => rfl) rfl (0 + i) 1 rfl (nP_atn rfl (hi)) rfl ⟨Nat.le_of_ble_eq_true rfl, Nat.le_of_ble_eq_true rfl⟩ rfl hl.1 (Nat.le_of_ble_eq_true rfl) ⟨Nat.le_refl _, Nat.le_refl _⟩ dX7_mixNum_19 ?_
        clear hB
        try clear locs
        try clear H
        intro r1 u1 H locs hp hB
        obtain rfl : r1 = cmp5 (N i) kc := hp
        replace hB : zB D A s ([] ++ nP na N) H locs := (by have e9 := zB_num (X := (N i)) hB rfl (hi); rw [upN_id] at e9; exact e9)
        refine lv_ladd hx hb dX7_mixNum_22 ?_
        refine ztopl (y := (mxL (N i) d9 (kc + 1))) (rfl) ?_
        refine lv_lstore_n (lv' := [(3, .long (mxL (N i) d9 (kc + 1))), (5, .int (nI kc)), (2, .ref (na i))]) hx hb dX7_mixNum_23 rfl hl (by decide) rfl ?_
        clear hl
        clear ls
        intro ls hl
        refine lv_iinc (v := nI (kc + 1)) (lv' := [(5, .int (nI (kc + 1))), (3, .long (mxL (N i) d9 (kc + 1))), (2, .ref (na i))]) hx hb dX7_mixNum_24 hl (k := 1) rfl (nI_1 _) (by decide) rfl ?_
        clear hl
        clear ls
        intro ls hl
        refine lv_goto (tgt := 5) hx hb dX7_mixNum_27 (by decide) ?_
        exact ih5 (kc + 1) (by omega) (by omega) _ _ (hB) _ (lv_sub hl [1, 0, 2] rfl)
  exact lp5 (5 - 0 + 1) 0 (Nat.zero_le _) (by omega) _ _ (hB) _ (lv_sub hl [1, 0, 3] rfl)

set_option maxHeartbeats 4000000 in
set_option maxRecDepth 100000 in
theorem c_X7_mixPlane (l : Launch) (D : va_G) (ka : Nat → ClassId) (kb : Nat → Nat) (bd : Nat → Nat) (na : Nat → Nat) (o : Bool) (o3 : Bool) (cnt : Int32) (opb : Int32) (rch : Int32) (wnt : Int32) (zs : Nat → Int32) (bb : bT) (sa : Nat → Int32) (ss : Nat → Int32) (dn : Int32) (up9 : Int32) (sz9 : Int32) (re9 : Int32) (L : Nat) (mo : Nat → Int32) (an : Nat → Int32) (pl : Nat → Int32) (ho : Nat → Int32) (le : Nat → Int32) (N : Nat → N5) (d9 : Int64) (p9 : Nat) (hpl2 : p9 < 2) (hok : okL L mo an pl) (hoh : okH ho) (hre : 0 ≤ re9.toInt ∧ re9.toInt ≤ 99) (hB9 : bB bb) (hszk : szK sz9 = true) : zL l D ka kb yX7_mixPlane cX7_mixPlane 7 10 251 [.ref (bd 31), .long d9, .int (nI p9)] ([((bd 31), .inr (7, [.ref (bd 0), .ref (bd 1), .ref (na 6), .ref (na 7), .ref (bd 2), .ref (bd 3), .ref (bd 4), .ref (bd 5), .ref (bd 6)])), ((bd 0), .inr (2, [.int (bI o), .ref (na 25), .ref (na 26), .ref (na 27)])), ((bd 4), .inr (4, [.ref (bd 18), .ref (bd 19), .int cnt, .int opb, .int rch, .int wnt, .ref (bd 20), .ref (bd 21), .ref (bd 22), .int bb.1, .ref (bd 23), .ref (bd 24), .long (Int64.ofInt bb.2.1), .long (Int64.ofInt bb.2.2.1)])), ((bd 18), .inr (2, [.int (bI o3), .ref (na 31), .ref (na 32), .ref (na 33)])), ((bd 19), .inl (ka 0, 3, .inl zs)), ((bd 20), .inl (ka 3, 5, .inr (.inr (.inr (.inr (nR na 34)))))), ((bd 21), .inl (ka 0, 4, .inl sa)), ((bd 22), .inl (ka 0, 4, .inl ss)), ((bd 23), .inl (ka 0, 4, .inl bb.2.2.2.1)), ((bd 24), .inl (ka 0, 4, .inl bb.2.2.2.2)), ((bd 2), .inr (3, [.int (nI L), .ref (bd 7), .ref (bd 8), .ref (bd 9), .ref (bd 10), .ref (bd 11), .int sz9, .int re9])), ((bd 7), .inl (ka 0, 8, .inl mo)), ((bd 8), .inl (ka 0, 8, .inl an)), ((bd 9), .inl (ka 0, 8, .inl pl)), ((bd 10), .inl (ka 0, 24, .inl ho)), ((bd 11), .inl (ka 0, 2, .inl le)), ((bd 5), .inr (6, [.int dn, .int up9, .ref (na 39), .ref (na 40)]))] ++ nP na N) (fun (r : Int64) (u : (Nat → N5) × (Nat → Int32) × (Nat → Int32) × Bool × Bool × Int32 × Int32 × Int32 × Int32 × (Nat → Int32) × bT × Int32 × Int32) => r = ptV sz9 re9.toInt (pulI p9 L mo an pl ho) le ho p9 d9 ∧ (∀ k9, (k9 < 6 ∨ (8 ≤ k9 ∧ k9 < 34)) → u.1 k9 = N k9) ∧ bB u.2.2.2.2.2.2.2.2.2.2.1) (fun (u : (Nat → N5) × (Nat → Int32) × (Nat → Int32) × Bool × Bool × Int32 × Int32 × Int32 × Int32 × (Nat → Int32) × bT × Int32 × Int32) => [((bd 31), .inr (7, [.ref (bd 0), .ref (bd 1), .ref (na 6), .ref (na 7), .ref (bd 2), .ref (bd 3), .ref (bd 4), .ref (bd 5), .ref (bd 6)])), ((bd 0), .inr (2, [.int (bI u.2.2.2.1), .ref (na 25), .ref (na 26), .ref (na 27)])), ((bd 4), .inr (4, [.ref (bd 18), .ref (bd 19), .int u.2.2.2.2.2.2.1, .int u.2.2.2.2.2.2.2.1, .int u.2.2.2.2.2.2.2.2.1, .int u.2.2.2.2.2.1, .ref (bd 20), .ref (bd 21), .ref (bd 22), .int u.2.2.2.2.2.2.2.2.2.2.1.1, .ref (bd 23), .ref (bd 24), .long (Int64.ofInt u.2.2.2.2.2.2.2.2.2.2.1.2.1), .long (Int64.ofInt u.2.2.2.2.2.2.2.2.2.2.1.2.2.1)])), ((bd 18), .inr (2, [.int (bI u.2.2.2.2.1), .ref (na 31), .ref (na 32), .ref (na 33)])), ((bd 19), .inl (ka 0, 3, .inl u.2.2.2.2.2.2.2.2.2.1)), ((bd 20), .inl (ka 3, 5, .inr (.inr (.inr (.inr (nR na 34)))))), ((bd 21), .inl (ka 0, 4, .inl u.2.1)), ((bd 22), .inl (ka 0, 4, .inl u.2.2.1)), ((bd 23), .inl (ka 0, 4, .inl u.2.2.2.2.2.2.2.2.2.2.1.2.2.2.1)), ((bd 24), .inl (ka 0, 4, .inl u.2.2.2.2.2.2.2.2.2.2.1.2.2.2.2)), ((bd 2), .inr (3, [.int (nI L), .ref (bd 7), .ref (bd 8), .ref (bd 9), .ref (bd 10), .ref (bd 11), .int sz9, .int re9])), ((bd 7), .inl (ka 0, 8, .inl mo)), ((bd 8), .inl (ka 0, 8, .inl an)), ((bd 9), .inl (ka 0, 8, .inl pl)), ((bd 10), .inl (ka 0, 24, .inl ho)), ((bd 11), .inl (ka 0, 2, .inl le)), ((bd 5), .inr (6, [.int u.2.2.2.2.2.2.2.2.2.2.2.1, .int u.2.2.2.2.2.2.2.2.2.2.2.2, .ref (na 39), .ref (na 40)]))] ++ nP na u.1) := by
  refine zL.mk RX7 (by decide +kernel) rfl (Nat.le_of_ble_eq_true rfl) ?_
  intro p e s m below meth c A ls args Q hQ hx hb hF hB hl
  replace hl : lv_has ls 7 [(0, .ref (bd 31)), (1, .long d9), (3, .int (nI p9))] := hl
  have hAN : ((aN re9 : Nat) : Int) = re9.toInt := by unfold aN; omega
  refine lv_aload_n hx hb dX7_mixPlane_0 rfl (lv_at hl 0 rfl) ?_
  refine lv_iload_n hx hb dX7_mixPlane_1 rfl (lv_at hl 2 rfl) ?_
  refine zVv zm_X7_178 hF hB (c_X7_takePull l D ka kb bd na o sz9 re9 L mo an pl ho N p9 (hpl2) (hok) (hoh)) ([0, 1, 10, 11, 12, 13, 14] ++ npr 17) (zsel_pool rfl rfl) (va_nd_pool rfl rfl) ([(bd 31), (bd 0), (bd 2), (bd 7), (bd 8), (bd 9), (bd 10)] ++ nA na) (fun _ => zad_pool rfl) (zad_pool rfl) 0 7 rfl rfl rfl ⟨Nat.le_of_ble_eq_true rfl, Nat.le_of_ble_eq_true rfl⟩ rfl hl.1 (Nat.le_of_ble_eq_true rfl) ⟨Nat.le_refl _, Nat.le_refl _⟩ dX7_mixPlane_2 ?_
  clear hB
  try clear locs
  try clear H
  intro u1 H locs hp hB
  obtain ⟨N91, o91⟩ := u1
  have hp1 : (∀ k9, k9 ≠ 6 → k9 ≠ 7 → N91 k9 = N k9) ∧ N91 6 = plN (pulI p9 L mo an pl ho) ∧ N91 7 = sqN (pulI p9 L mo an pl ho) := hp
  have HPP := hp1
  replace hB : zB D A s ([((bd 31), .inr (7, [.ref (bd 0), .ref (bd 1), .ref (na 6), .ref (na 7), .ref (bd 2), .ref (bd 3), .ref (bd 4), .ref (bd 5), .ref (bd 6)])), ((bd 0), .inr (2, [.int (bI o91), .ref (na 25), .ref (na 26), .ref (na 27)])), ((bd 4), .inr (4, [.ref (bd 18), .ref (bd 19), .int cnt, .int opb, .int rch, .int wnt, .ref (bd 20), .ref (bd 21), .ref (bd 22), .int bb.1, .ref (bd 23), .ref (bd 24), .long (Int64.ofInt bb.2.1), .long (Int64.ofInt bb.2.2.1)])), ((bd 18), .inr (2, [.int (bI o3), .ref (na 31), .ref (na 32), .ref (na 33)])), ((bd 19), .inl (ka 0, 3, .inl zs)), ((bd 20), .inl (ka 3, 5, .inr (.inr (.inr (.inr (nR na 34)))))), ((bd 21), .inl (ka 0, 4, .inl sa)), ((bd 22), .inl (ka 0, 4, .inl ss)), ((bd 23), .inl (ka 0, 4, .inl bb.2.2.2.1)), ((bd 24), .inl (ka 0, 4, .inl bb.2.2.2.2)), ((bd 2), .inr (3, [.int (nI L), .ref (bd 7), .ref (bd 8), .ref (bd 9), .ref (bd 10), .ref (bd 11), .int sz9, .int re9])), ((bd 7), .inl (ka 0, 8, .inl mo)), ((bd 8), .inl (ka 0, 8, .inl an)), ((bd 9), .inl (ka 0, 8, .inl pl)), ((bd 10), .inl (ka 0, 24, .inl ho)), ((bd 11), .inl (ka 0, 2, .inl le)), ((bd 5), .inr (6, [.int dn, .int up9, .ref (na 39), .ref (na 40)]))] ++ nP na N91) H locs := zB_pool hB rfl rfl rfl rfl
  have hTP := HPP
  refine lv_lload_n hx hb dX7_mixPlane_5 rfl (lv_at hl 1 rfl) ?_
  refine lv_aload_n hx hb dX7_mixPlane_6 rfl (lv_at hl 0 rfl) ?_
  refine zget zf_X7_23 hF hB 0 rfl rfl dX7_mixPlane_7 ?_
  refine zSl zm_X7_276 hF hB (c_X7_mixNum l D ka kb na N91 d9 6 (by decide)) ([] ++ npr 17) (zsel_pool rfl rfl) (va_nd_pool rfl rfl) ([] ++ nA na) (fun _ => zad_pool rfl) (zad_pool rfl) rfl ⟨Nat.le_of_ble_eq_true rfl, Nat.le_of_ble_eq_true rfl⟩ rfl hl.1 (Nat.le_of_ble_eq_true rfl) ⟨Nat.le_refl _, Nat.le_refl _⟩ dX7_mixPlane_10 ?_
  clear hB
  try clear locs
  try clear H
  intro r2 u2 H locs hp hB
  obtain rfl : r2 = mxL (N91 6) d9 5 := hp
  replace hB : zB D A s ([((bd 31), .inr (7, [.ref (bd 0), .ref (bd 1), .ref (na 6), .ref (na 7), .ref (bd 2), .ref (bd 3), .ref (bd 4), .ref (bd 5), .ref (bd 6)])), ((bd 0), .inr (2, [.int (bI o91), .ref (na 25), .ref (na 26), .ref (na 27)])), ((bd 4), .inr (4, [.ref (bd 18), .ref (bd 19), .int cnt, .int opb, .int rch, .int wnt, .ref (bd 20), .ref (bd 21), .ref (bd 22), .int bb.1, .ref (bd 23), .ref (bd 24), .long (Int64.ofInt bb.2.1), .long (Int64.ofInt bb.2.2.1)])), ((bd 18), .inr (2, [.int (bI o3), .ref (na 31), .ref (na 32), .ref (na 33)])), ((bd 19), .inl (ka 0, 3, .inl zs)), ((bd 20), .inl (ka 3, 5, .inr (.inr (.inr (.inr (nR na 34)))))), ((bd 21), .inl (ka 0, 4, .inl sa)), ((bd 22), .inl (ka 0, 4, .inl ss)), ((bd 23), .inl (ka 0, 4, .inl bb.2.2.2.1)), ((bd 24), .inl (ka 0, 4, .inl bb.2.2.2.2)), ((bd 2), .inr (3, [.int (nI L), .ref (bd 7), .ref (bd 8), .ref (bd 9), .ref (bd 10), .ref (bd 11), .int sz9, .int re9])), ((bd 7), .inl (ka 0, 8, .inl mo)), ((bd 8), .inl (ka 0, 8, .inl an)), ((bd 9), .inl (ka 0, 8, .inl pl)), ((bd 10), .inl (ka 0, 24, .inl ho)), ((bd 11), .inl (ka 0, 2, .inl le)), ((bd 5), .inr (6, [.int dn, .int up9, .ref (na 39), .ref (na 40)]))] ++ nP na N91) H locs := zB_pool hB rfl rfl rfl rfl
  refine ztopl (y := (ptA (pulI p9 L mo an pl ho) d9 5)) (by rw [hTP.2.1]; exact mx_p5) ?_
  refine lv_aload_n hx hb dX7_mixPlane_13 rfl (lv_at hl 0 rfl) ?_
  refine zget zf_X7_27 hF hB 0 rfl rfl dX7_mixPlane_14 ?_
  refine zSl zm_X7_276 hF hB (c_X7_mixNum l D ka kb na N91 (ptA (pulI p9 L mo an pl ho) d9 5) 7 (by decide)) ([] ++ npr 17) (zsel_pool rfl rfl) (va_nd_pool rfl rfl) ([] ++ nA na) (fun _ => zad_pool rfl) (zad_pool rfl) rfl ⟨Nat.le_of_ble_eq_true rfl, Nat.le_of_ble_eq_true rfl⟩ rfl hl.1 (Nat.le_of_ble_eq_true rfl) ⟨Nat.le_refl _, Nat.le_refl _⟩ dX7_mixPlane_17 ?_
  clear hB
  try clear locs
  try clear H
  intro r3 u3 H locs hp hB
  obtain rfl : r3 = mxL (N91 7) (ptA (pulI p9 L mo an pl ho) d9 5) 5 := hp
  replace hB : zB D A s ([((bd 31), .inr (7, [.ref (bd 0), .ref (bd 1), .ref (na 6), .ref (na 7), .ref (bd 2), .ref (bd 3), .ref (bd 4), .ref (bd 5), .ref (bd 6)])), ((bd 0), .inr (2, [.int (bI o91), .ref (na 25), .ref (na 26), .ref (na 27)])), ((bd 4), .inr (4, [.ref (bd 18), .ref (bd 19), .int cnt, .int opb, .int rch, .int wnt, .ref (bd 20), .ref (bd 21), .ref (bd 22), .int bb.1, .ref (bd 23), .ref (bd 24), .long (Int64.ofInt bb.2.1), .long (Int64.ofInt bb.2.2.1)])), ((bd 18), .inr (2, [.int (bI o3), .ref (na 31), .ref (na 32), .ref (na 33)])), ((bd 19), .inl (ka 0, 3, .inl zs)), ((bd 20), .inl (ka 3, 5, .inr (.inr (.inr (.inr (nR na 34)))))), ((bd 21), .inl (ka 0, 4, .inl sa)), ((bd 22), .inl (ka 0, 4, .inl ss)), ((bd 23), .inl (ka 0, 4, .inl bb.2.2.2.1)), ((bd 24), .inl (ka 0, 4, .inl bb.2.2.2.2)), ((bd 2), .inr (3, [.int (nI L), .ref (bd 7), .ref (bd 8), .ref (bd 9), .ref (bd 10), .ref (bd 11), .int sz9, .int re9])), ((bd 7), .inl (ka 0, 8, .inl mo)), ((bd 8), .inl (ka 0, 8, .inl an)), ((bd 9), .inl (ka 0, 8, .inl pl)), ((bd 10), .inl (ka 0, 24, .inl ho)), ((bd 11), .inl (ka 0, 2, .inl le)), ((bd 5), .inr (6, [.int dn, .int up9, .ref (na 39), .ref (na 40)]))] ++ nP na N91) H locs := zB_pool hB rfl rfl rfl rfl
  refine ztopl (y := (ptA (pulI p9 L mo an pl ho) d9 10)) (by rw [hTP.2.2]; exact mx_s5) ?_
  refine lv_lstore (lv' := [(4, .long (ptA (pulI p9 L mo an pl ho) d9 10)), (0, .ref (bd 31)), (1, .long d9), (3, .int (nI p9))]) hx hb dX7_mixPlane_20 hl (by decide) rfl ?_
  clear hl
  clear ls
  intro ls hl
  refine lv_iconst (v := 0) hx hb dX7_mixPlane_22 (by decide) ?_
  refine lv_istore (lv' := [(6, .int (0 : Int32)), (4, .long (ptA (pulI p9 L mo an pl ho) d9 10)), (0, .ref (bd 31)), (1, .long d9), (3, .int (nI p9))]) hx hb dX7_mixPlane_23 hl (by decide) rfl ?_
  clear hl
  clear ls
  intro ls hl
  have lp25 : ∀ (fl : Nat) (kc : Nat) (N1 : Nat → N5) (dn1 : Int32) (up1 : Int32), (hk : kc ≤ 12) → (kN1 : (∀ k9, (k9 < 6 ∨ (8 ≤ k9 ∧ k9 < 34)) → N1 k9 = N k9)) → 12 - kc < fl → ∀ (H : Heap) (locs : List Loc), zB D A s ([((bd 31), .inr (7, [.ref (bd 0), .ref (bd 1), .ref (na 6), .ref (na 7), .ref (bd 2), .ref (bd 3), .ref (bd 4), .ref (bd 5), .ref (bd 6)])), ((bd 0), .inr (2, [.int (bI o91), .ref (na 25), .ref (na 26), .ref (na 27)])), ((bd 4), .inr (4, [.ref (bd 18), .ref (bd 19), .int cnt, .int opb, .int rch, .int wnt, .ref (bd 20), .ref (bd 21), .ref (bd 22), .int bb.1, .ref (bd 23), .ref (bd 24), .long (Int64.ofInt bb.2.1), .long (Int64.ofInt bb.2.2.1)])), ((bd 18), .inr (2, [.int (bI o3), .ref (na 31), .ref (na 32), .ref (na 33)])), ((bd 19), .inl (ka 0, 3, .inl zs)), ((bd 20), .inl (ka 3, 5, .inr (.inr (.inr (.inr (nR na 34)))))), ((bd 21), .inl (ka 0, 4, .inl sa)), ((bd 22), .inl (ka 0, 4, .inl ss)), ((bd 23), .inl (ka 0, 4, .inl bb.2.2.2.1)), ((bd 24), .inl (ka 0, 4, .inl bb.2.2.2.2)), ((bd 2), .inr (3, [.int (nI L), .ref (bd 7), .ref (bd 8), .ref (bd 9), .ref (bd 10), .ref (bd 11), .int sz9, .int re9])), ((bd 7), .inl (ka 0, 8, .inl mo)), ((bd 8), .inl (ka 0, 8, .inl an)), ((bd 9), .inl (ka 0, 8, .inl pl)), ((bd 10), .inl (ka 0, 24, .inl ho)), ((bd 11), .inl (ka 0, 2, .inl le)), ((bd 5), .inr (6, [.int dn1, .int up1, .ref (na 39), .ref (na 40)]))] ++ nP na N1) H locs → ∀ ls : Array Slot, lv_has ls 7 [(6, .int (nI kc)), (4, .long (ptB (le p9) ho p9 (ptA (pulI p9 L mo an pl ho) d9 10) kc)), (0, .ref (bd 31)), (3, .int (nI p9))] → W p l e (zRm 10 251 0 0) s m args below meth c H locs 0 0 Q (F0 m 25 ls []) := by
    intro fl
    induction fl with
    | zero => intro kc N1 dn1 up1 hk kN1 hfl; exact absurd hfl (Nat.not_lt_zero _)
    | succ fl ih25 =>
      intro kc N1 dn1 up1 hk kN1 hfl25 H locs hB ls hl
      refine lv_iload hx hb dX7_mixPlane_25 (lv_at hl 0 rfl) ?_
      refine lv_bipush (v := 12) hx hb dX7_mixPlane_27 (by decide) ?_
      refine lv_icmp_ge (tgt := 93) hx hb dX7_mixPlane_29 (by decide) (fun h29 => ?_) (fun h29 => ?_)
      · skip
        have hk2 : kc = 12 := by have := (nI_leI (a := 12) (b := kc) (by decide) (by omega)).mp h29; omega
        refine lv_aload_n hx hb dX7_mixPlane_93 rfl (lv_at hl 2 rfl) ?_
        refine zget zf_X7_47 hF hB 0 rfl rfl dX7_mixPlane_94 ?_
        refine lv_aload_n hx hb dX7_mixPlane_97 rfl (lv_at hl 2 rfl) ?_
        refine zget zf_X7_33 hF hB 0 rfl rfl dX7_mixPlane_98 ?_
        refine lv_iload_n hx hb dX7_mixPlane_101 rfl (lv_at hl 3 rfl) ?_
        refine lv_iconst (v := 2) hx hb dX7_mixPlane_102 (by decide) ?_
        refine zVv zm_X7_219 hF hB (c_X4_seek l D ka kb bd o3 cnt opb rch wnt zs bb sa ss sz9 re9 L mo an pl ho le na N1 p9 2 (hpl2) (by decide) (hok) (hoh) (hre) (hB9)) ([2, 3, 4, 5, 6, 7, 8, 9, 10, 11, 12, 13, 14, 15] ++ npr 17) (zsel_pool rfl rfl) (va_nd_pool rfl rfl) ([(bd 4), (bd 18), (bd 19), (bd 20), (bd 21), (bd 22), (bd 23), (bd 24), (bd 2), (bd 7), (bd 8), (bd 9), (bd 10), (bd 11)] ++ nA na) (fun _ => zad_pool rfl) (zad_pool rfl) 2 4 rfl rfl rfl ⟨Nat.le_of_ble_eq_true rfl, Nat.le_of_ble_eq_true rfl⟩ rfl hl.1 (Nat.le_of_ble_eq_true rfl) ⟨Nat.le_refl _, Nat.le_refl _⟩ dX7_mixPlane_103 ?_
        clear hB
        try clear locs
        try clear H
        intro u4 H locs hp hB
        obtain ⟨N94, sa94, ss94, o94, wn94⟩ := u4
        have hp4 : (∀ k9, (k9 < 34 ∨ 38 < k9) → N94 k9 = N1 k9) ∧ bB (seS (fun n b => clR (pulI p9 L mo an pl ho) (aN re9) (mzN (lzC sz9 9) (fun i => aN (lzS sz9 zs 9 i))) (fun a9 => dB (lgX (opN (le p9) p9 ho 12) a9 = 1)) (fun i => aN (lzS sz9 zs 9 i)) (lzC sz9 9) n 0 [] b) (2 + 1) ((-1 : Int32), bb.2)) := hp
        have HPP := hp4
        replace hB : zB D A s ([((bd 31), .inr (7, [.ref (bd 0), .ref (bd 1), .ref (na 6), .ref (na 7), .ref (bd 2), .ref (bd 3), .ref (bd 4), .ref (bd 5), .ref (bd 6)])), ((bd 0), .inr (2, [.int (bI o91), .ref (na 25), .ref (na 26), .ref (na 27)])), ((bd 4), .inr (4, [.ref (bd 18), .ref (bd 19), .int (nI (lzC sz9 9)), .int (opN (le p9) p9 ho 12), .int (nI (aN re9)), .int wn94, .ref (bd 20), .ref (bd 21), .ref (bd 22), .int ((seS (fun n b => clR (pulI p9 L mo an pl ho) (aN re9) (mzN (lzC sz9 9) (fun i => aN (lzS sz9 zs 9 i))) (fun a9 => dB (lgX (opN (le p9) p9 ho 12) a9 = 1)) (fun i => aN (lzS sz9 zs 9 i)) (lzC sz9 9) n 0 [] b) (2 + 1) ((-1 : Int32), bb.2)).1), .ref (bd 23), .ref (bd 24), .long (Int64.ofInt (seS (fun n b => clR (pulI p9 L mo an pl ho) (aN re9) (mzN (lzC sz9 9) (fun i => aN (lzS sz9 zs 9 i))) (fun a9 => dB (lgX (opN (le p9) p9 ho 12) a9 = 1)) (fun i => aN (lzS sz9 zs 9 i)) (lzC sz9 9) n 0 [] b) (2 + 1) ((-1 : Int32), bb.2)).2.1), .long (Int64.ofInt (seS (fun n b => clR (pulI p9 L mo an pl ho) (aN re9) (mzN (lzC sz9 9) (fun i => aN (lzS sz9 zs 9 i))) (fun a9 => dB (lgX (opN (le p9) p9 ho 12) a9 = 1)) (fun i => aN (lzS sz9 zs 9 i)) (lzC sz9 9) n 0 [] b) (2 + 1) ((-1 : Int32), bb.2)).2.2.1)])), ((bd 18), .inr (2, [.int (bI o94), .ref (na 31), .ref (na 32), .ref (na 33)])), ((bd 19), .inl (ka 0, 3, .inl (lzS sz9 zs 9))), ((bd 20), .inl (ka 3, 5, .inr (.inr (.inr (.inr (nR na 34)))))), ((bd 21), .inl (ka 0, 4, .inl sa94)), ((bd 22), .inl (ka 0, 4, .inl ss94)), ((bd 23), .inl (ka 0, 4, .inl ((seS (fun n b => clR (pulI p9 L mo an pl ho) (aN re9) (mzN (lzC sz9 9) (fun i => aN (lzS sz9 zs 9 i))) (fun a9 => dB (lgX (opN (le p9) p9 ho 12) a9 = 1)) (fun i => aN (lzS sz9 zs 9 i)) (lzC sz9 9) n 0 [] b) (2 + 1) ((-1 : Int32), bb.2)).2.2.2.1))), ((bd 24), .inl (ka 0, 4, .inl ((seS (fun n b => clR (pulI p9 L mo an pl ho) (aN re9) (mzN (lzC sz9 9) (fun i => aN (lzS sz9 zs 9 i))) (fun a9 => dB (lgX (opN (le p9) p9 ho 12) a9 = 1)) (fun i => aN (lzS sz9 zs 9 i)) (lzC sz9 9) n 0 [] b) (2 + 1) ((-1 : Int32), bb.2)).2.2.2.2))), ((bd 2), .inr (3, [.int (nI L), .ref (bd 7), .ref (bd 8), .ref (bd 9), .ref (bd 10), .ref (bd 11), .int sz9, .int re9])), ((bd 7), .inl (ka 0, 8, .inl mo)), ((bd 8), .inl (ka 0, 8, .inl an)), ((bd 9), .inl (ka 0, 8, .inl pl)), ((bd 10), .inl (ka 0, 24, .inl ho)), ((bd 11), .inl (ka 0, 2, .inl le)), ((bd 5), .inr (6, [.int dn1, .int up1, .ref (na 39), .ref (na 40)]))] ++ nP na N94) H locs := zB_pool hB rfl rfl rfl rfl
        have hSK := HPP
        generalize hbb : (seS (fun n b => clR (pulI p9 L mo an pl ho) (aN re9) (mzN (lzC sz9 9) (fun i => aN (lzS sz9 zs 9 i))) (fun a9 => dB (lgX (opN (le p9) p9 ho 12) a9 = 1)) (fun i => aN (lzS sz9 zs 9 i)) (lzC sz9 9) n 0 [] b) (2 + 1) ((-1 : Int32), bb.2)) = b9 at hB hSK
        have hRS : b9 = (seS (fun n b => srR (okC sz9 p9 le ho) (lkU (pulI p9 L mo an pl ho) re9.toInt) n 1 [] b) (2 + 1) ((-1 : Int32), bb.2)) := by rw [← hbb]; have e9 := cl_all (zs := zs) (le := le) (ho := ho) (p := p9) (w := 2) (li := aN re9) hszk (fun k hk => pulI_B (p := p9) hpl2 hok hoh hk) (by omega) ((-1 : Int32), bb.2); rw [hAN] at e9; exact e9
        have hK9 : bK b9 := by rw [hRS]; exact seK (by omega)
        have hR9 : bR b9 (seB (pulI p9 L mo an pl ho) re9.toInt (okC sz9 p9 le ho) 2) := by rw [hRS]; exact seB_R (by decide)
        replace hB : zB D A s ([((bd 31), .inr (7, [.ref (bd 0), .ref (bd 1), .ref (na 6), .ref (na 7), .ref (bd 2), .ref (bd 3), .ref (bd 4), .ref (bd 5), .ref (bd 6)])), ((bd 0), .inr (2, [.int (bI o91), .ref (na 25), .ref (na 26), .ref (na 27)])), ((bd 4), .inr (4, [.ref (bd 18), .ref (bd 19), .int (nI (lzC sz9 9)), .int (opN (le p9) p9 ho 12), .int (nI (aN re9)), .int wn94, .ref (bd 20), .ref (bd 21), .ref (bd 22), .int b9.1, .ref (bd 23), .ref (bd 24), .long (Int64.ofInt b9.2.1), .long (Int64.ofInt b9.2.2.1)])), ((bd 18), .inr (2, [.int (bI o94), .ref (na 31), .ref (na 32), .ref (na 33)])), ((bd 19), .inl (ka 0, 3, .inl (lzS sz9 zs 9))), ((bd 20), .inl (ka 3, 5, .inr (.inr (.inr (.inr (nR na 34)))))), ((bd 21), .inl (ka 0, 4, .inl sa94)), ((bd 22), .inl (ka 0, 4, .inl ss94)), ((bd 23), .inl (ka 0, 4, .inl b9.2.2.2.1)), ((bd 24), .inl (ka 0, 4, .inl b9.2.2.2.2)), ((bd 2), .inr (3, [.int (nI L), .ref (bd 7), .ref (bd 8), .ref (bd 9), .ref (bd 10), .ref (bd 11), .int sz9, .int re9])), ((bd 7), .inl (ka 0, 8, .inl mo)), ((bd 8), .inl (ka 0, 8, .inl an)), ((bd 9), .inl (ka 0, 8, .inl pl)), ((bd 10), .inl (ka 0, 24, .inl ho)), ((bd 11), .inl (ka 0, 2, .inl le)), ((bd 5), .inr (6, [.int dn1, .int up1, .ref (na 39), .ref (na 40)]))] ++ nP na N94) H locs := hB
        refine lv_iconst (v := 0) hx hb dX7_mixPlane_106 (by decide) ?_
        refine lv_istore (lv' := [(6, .int (0 : Int32)), (4, .long (ptB (le p9) ho p9 (ptA (pulI p9 L mo an pl ho) d9 10) kc)), (0, .ref (bd 31)), (3, .int (nI p9))]) hx hb dX7_mixPlane_107 hl (by decide) rfl ?_
        clear hl
        clear ls
        intro ls hl
        have hk12 := hk2
        rw [hk2] at hl
        have lp109 : ∀ (fl : Nat) (ic : Nat), (hi : ic ≤ 3) → 3 - ic < fl → ∀ (H : Heap) (locs : List Loc), zB D A s ([((bd 31), .inr (7, [.ref (bd 0), .ref (bd 1), .ref (na 6), .ref (na 7), .ref (bd 2), .ref (bd 3), .ref (bd 4), .ref (bd 5), .ref (bd 6)])), ((bd 0), .inr (2, [.int (bI o91), .ref (na 25), .ref (na 26), .ref (na 27)])), ((bd 4), .inr (4, [.ref (bd 18), .ref (bd 19), .int (nI (lzC sz9 9)), .int (opN (le p9) p9 ho 12), .int (nI (aN re9)), .int wn94, .ref (bd 20), .ref (bd 21), .ref (bd 22), .int b9.1, .ref (bd 23), .ref (bd 24), .long (Int64.ofInt b9.2.1), .long (Int64.ofInt b9.2.2.1)])), ((bd 18), .inr (2, [.int (bI o94), .ref (na 31), .ref (na 32), .ref (na 33)])), ((bd 19), .inl (ka 0, 3, .inl (lzS sz9 zs 9))), ((bd 20), .inl (ka 3, 5, .inr (.inr (.inr (.inr (nR na 34)))))), ((bd 21), .inl (ka 0, 4, .inl sa94)), ((bd 22), .inl (ka 0, 4, .inl ss94)), ((bd 23), .inl (ka 0, 4, .inl b9.2.2.2.1)), ((bd 24), .inl (ka 0, 4, .inl b9.2.2.2.2)), ((bd 2), .inr (3, [.int (nI L), .ref (bd 7), .ref (bd 8), .ref (bd 9), .ref (bd 10), .ref (bd 11), .int sz9, .int re9])), ((bd 7), .inl (ka 0, 8, .inl mo)), ((bd 8), .inl (ka 0, 8, .inl an)), ((bd 9), .inl (ka 0, 8, .inl pl)), ((bd 10), .inl (ka 0, 24, .inl ho)), ((bd 11), .inl (ka 0, 2, .inl le)), ((bd 5), .inr (6, [.int dn1, .int up1, .ref (na 39), .ref (na 40)]))] ++ nP na N94) H locs → ∀ ls : Array Slot, lv_has ls 7 [(6, .int (nI ic)), (4, .long (ptC (seB (pulI p9 L mo an pl ho) re9.toInt (okC sz9 p9 le ho) 2) (ptB (le p9) ho p9 (ptA (pulI p9 L mo an pl ho) d9 10) 12) ic)), (0, .ref (bd 31)), (3, .int (nI p9))] → W p l e (zRm 10 251 0 0) s m args below meth c H locs 0 0 Q (F0 m 109 ls []) := by
          intro fl
          induction fl with
          | zero => intro ic hi hfl; exact absurd hfl (Nat.not_lt_zero _)
          | succ fl ih109 =>
            intro ic hi hfl109 H locs hB ls hl
            refine lv_iload hx hb dX7_mixPlane_109 (lv_at hl 0 rfl) ?_
            refine lv_iconst (v := 3) hx hb dX7_mixPlane_111 (by decide) ?_
            refine lv_icmp_ge (tgt := 140) hx hb dX7_mixPlane_112 (by decide) (fun h112 => ?_) (fun h112 => ?_)
            · skip
              have hi2 : ic = 3 := by have := (nI_leI (a := 3) (b := ic) (by decide) (by omega)).mp h112; omega
              refine lv_lload hx hb dX7_mixPlane_140 (lv_at hl 1 rfl) ?_
              exact zretl hF hB (N94, sa94, ss94, (o91), (o94), wn94, (nI (lzC sz9 9)), (opN (le p9) p9 ho 12), (nI (aN re9)), (lzS sz9 zs 9), b9, dn1, up1) (⟨by rw [ptV, hi2], fun k9 h9 => (hSK.1 k9 (by omega)).trans (kN1 k9 h9), hSK.2⟩) (rfl) dX7_mixPlane_142 hQ
            · skip
              have hi2 : ic < 3 := Nat.not_le.mp (fun e9 => h112 ((nI_leI (a := 3) (b := ic) (by decide) (by omega)).mpr e9))
              refine zldc2 (v := (31 : Int64)) ww_43_20 hF dX7_mixPlane_115 ?_
              refine lv_lload hx hb dX7_mixPlane_118 (lv_at hl 1 rfl) ?_
              refine lv_lmul hx hb dX7_mixPlane_120 ?_
              refine lv_aload_n hx hb dX7_mixPlane_121 rfl (lv_at hl 2 rfl) ?_
              refine zget zf_X7_47 hF hB 0 rfl rfl dX7_mixPlane_122 ?_
              refine lv_iload hx hb dX7_mixPlane_125 (lv_at hl 0 rfl) ?_
              refine zVi zm_X7_223 hF hB (c_X4_told l D ka kb bd (nI (lzC sz9 9)) (opN (le p9) p9 ho 12) (nI (aN re9)) wn94 b9 ic (hi2) (hK9)) [2, 8, 9] rfl (by decide) [(bd 4), (bd 23), (bd 24)] (fun _ => rfl) rfl 2 4 rfl rfl rfl ⟨Nat.le_of_ble_eq_true rfl, Nat.le_of_ble_eq_true rfl⟩ rfl hl.1 (Nat.le_of_ble_eq_true rfl) ⟨Nat.le_refl _, Nat.le_refl _⟩ dX7_mixPlane_127 ?_
              clear hB
              try clear locs
              try clear H
              intro r5 u5 H locs hp hB
              obtain rfl : r5 = fwA ic b9 := hp
              replace hB : zB D A s ([((bd 31), .inr (7, [.ref (bd 0), .ref (bd 1), .ref (na 6), .ref (na 7), .ref (bd 2), .ref (bd 3), .ref (bd 4), .ref (bd 5), .ref (bd 6)])), ((bd 0), .inr (2, [.int (bI o91), .ref (na 25), .ref (na 26), .ref (na 27)])), ((bd 4), .inr (4, [.ref (bd 18), .ref (bd 19), .int (nI (lzC sz9 9)), .int (opN (le p9) p9 ho 12), .int (nI (aN re9)), .int wn94, .ref (bd 20), .ref (bd 21), .ref (bd 22), .int b9.1, .ref (bd 23), .ref (bd 24), .long (Int64.ofInt b9.2.1), .long (Int64.ofInt b9.2.2.1)])), ((bd 18), .inr (2, [.int (bI o94), .ref (na 31), .ref (na 32), .ref (na 33)])), ((bd 19), .inl (ka 0, 3, .inl (lzS sz9 zs 9))), ((bd 20), .inl (ka 3, 5, .inr (.inr (.inr (.inr (nR na 34)))))), ((bd 21), .inl (ka 0, 4, .inl sa94)), ((bd 22), .inl (ka 0, 4, .inl ss94)), ((bd 23), .inl (ka 0, 4, .inl b9.2.2.2.1)), ((bd 24), .inl (ka 0, 4, .inl b9.2.2.2.2)), ((bd 2), .inr (3, [.int (nI L), .ref (bd 7), .ref (bd 8), .ref (bd 9), .ref (bd 10), .ref (bd 11), .int sz9, .int re9])), ((bd 7), .inl (ka 0, 8, .inl mo)), ((bd 8), .inl (ka 0, 8, .inl an)), ((bd 9), .inl (ka 0, 8, .inl pl)), ((bd 10), .inl (ka 0, 24, .inl ho)), ((bd 11), .inl (ka 0, 2, .inl le)), ((bd 5), .inr (6, [.int dn1, .int up1, .ref (na 39), .ref (na 40)]))] ++ nP na N94) H locs := hB
              refine ztopi (y := (fwA ic (seB (pulI p9 L mo an pl ho) re9.toInt (okC sz9 p9 le ho) 2))) (fwA_R hR9) ?_
              refine lv_i2l (v := (fwA ic (seB (pulI p9 L mo an pl ho) re9.toInt (okC sz9 p9 le ho) 2)).toInt64) hx hb dX7_mixPlane_130 rfl ?_
              refine lv_ladd hx hb dX7_mixPlane_131 ?_
              refine ztopl (y := (ptC (seB (pulI p9 L mo an pl ho) re9.toInt (okC sz9 p9 le ho) 2) (ptB (le p9) ho p9 (ptA (pulI p9 L mo an pl ho) d9 10) 12) (ic + 1))) (rfl) ?_
              refine lv_lstore (lv' := [(4, .long (ptC (seB (pulI p9 L mo an pl ho) re9.toInt (okC sz9 p9 le ho) 2) (ptB (le p9) ho p9 (ptA (pulI p9 L mo an pl ho) d9 10) 12) (ic + 1))), (6, .int (nI ic)), (0, .ref (bd 31)), (3, .int (nI p9))]) hx hb dX7_mixPlane_132 hl (by decide) rfl ?_
              clear hl
              clear ls
              intro ls hl
              refine lv_iinc (v := nI (ic + 1)) (lv' := [(6, .int (nI (ic + 1))), (4, .long (ptC (seB (pulI p9 L mo an pl ho) re9.toInt (okC sz9 p9 le ho) 2) (ptB (le p9) ho p9 (ptA (pulI p9 L mo an pl ho) d9 10) 12) (ic + 1))), (0, .ref (bd 31)), (3, .int (nI p9))]) hx hb dX7_mixPlane_134 hl (k := 1) rfl (nI_1 _) (by decide) rfl ?_
              clear hl
              clear ls
              intro ls hl
              refine lv_goto (tgt := 109) hx hb dX7_mixPlane_137 (by decide) ?_
              exact ih109 (ic + 1) (by omega) (by omega) _ _ (hB) _ (lv_sub hl [0, 1, 2, 3] rfl)
        exact lp109 (3 - 0 + 1) 0 (Nat.zero_le _) (by omega) _ _ (hB) _ (lv_sub hl [0, 1, 2, 3] rfl)
      · skip
        have hk2 : kc < 12 := Nat.not_le.mp (fun e9 => h29 ((nI_leI (a := 12) (b := kc) (by decide) (by omega)).mpr e9))
        refine zldc2 (v := (31 : Int64)) ww_43_20 hF dX7_mixPlane_32 ?_
        refine lv_lload hx hb dX7_mixPlane_35 (lv_at hl 1 rfl) ?_
        refine lv_lmul hx hb dX7_mixPlane_37 ?_
        refine lv_aload_n hx hb dX7_mixPlane_38 rfl (lv_at hl 2 rfl) ?_
        refine lv_iload_n hx hb dX7_mixPlane_39 rfl (lv_at hl 3 rfl) ?_
        refine lv_iload hx hb dX7_mixPlane_40 (lv_at hl 0 rfl) ?_
        refine zVi zm_X7_288 hF hB (c_X7_hole l D ka kb bd na (nI L) sz9 re9 ho (nI p9) (nI kc) ) [0, 10, 14] rfl (by decide) [(bd 31), (bd 2), (bd 10)] (fun _ => rfl) rfl 0 7 rfl rfl rfl ⟨Nat.le_of_ble_eq_true rfl, Nat.le_of_ble_eq_true rfl⟩ rfl hl.1 (Nat.le_of_ble_eq_true rfl) ⟨Nat.le_refl _, Nat.le_refl _⟩ dX7_mixPlane_42 ?_
        clear hB
        try clear locs
        try clear H
        intro r6 u6 H locs hp hB
        obtain rfl : r6 = hlA (nI p9) (nI kc) ho := hp
        replace hB : zB D A s ([((bd 31), .inr (7, [.ref (bd 0), .ref (bd 1), .ref (na 6), .ref (na 7), .ref (bd 2), .ref (bd 3), .ref (bd 4), .ref (bd 5), .ref (bd 6)])), ((bd 0), .inr (2, [.int (bI o91), .ref (na 25), .ref (na 26), .ref (na 27)])), ((bd 4), .inr (4, [.ref (bd 18), .ref (bd 19), .int cnt, .int opb, .int rch, .int wnt, .ref (bd 20), .ref (bd 21), .ref (bd 22), .int bb.1, .ref (bd 23), .ref (bd 24), .long (Int64.ofInt bb.2.1), .long (Int64.ofInt bb.2.2.1)])), ((bd 18), .inr (2, [.int (bI o3), .ref (na 31), .ref (na 32), .ref (na 33)])), ((bd 19), .inl (ka 0, 3, .inl zs)), ((bd 20), .inl (ka 3, 5, .inr (.inr (.inr (.inr (nR na 34)))))), ((bd 21), .inl (ka 0, 4, .inl sa)), ((bd 22), .inl (ka 0, 4, .inl ss)), ((bd 23), .inl (ka 0, 4, .inl bb.2.2.2.1)), ((bd 24), .inl (ka 0, 4, .inl bb.2.2.2.2)), ((bd 2), .inr (3, [.int (nI L), .ref (bd 7), .ref (bd 8), .ref (bd 9), .ref (bd 10), .ref (bd 11), .int sz9, .int re9])), ((bd 7), .inl (ka 0, 8, .inl mo)), ((bd 8), .inl (ka 0, 8, .inl an)), ((bd 9), .inl (ka 0, 8, .inl pl)), ((bd 10), .inl (ka 0, 24, .inl ho)), ((bd 11), .inl (ka 0, 2, .inl le)), ((bd 5), .inr (6, [.int dn1, .int up1, .ref (na 39), .ref (na 40)]))] ++ nP na N1) H locs := hB
        refine ztopi (y := (ho (12 * p9 + kc))) (by rw [hlA, if_pos (show fiK (nI p9) (nI kc) = true from dB_t.mpr ⟨inI_nI hpl2 (by decide), inI_nI hk2 (by decide)⟩), aNn hpl2 (by decide), aNn hk2 (by decide)]) ?_
        refine lv_i2l (v := (ho (12 * p9 + kc)).toInt64) hx hb dX7_mixPlane_45 rfl ?_
        refine lv_ladd hx hb dX7_mixPlane_46 ?_
        refine lv_lstore (lv' := [(4, .long (((31 : Int64) * (ptB (le p9) ho p9 (ptA (pulI p9 L mo an pl ho) d9 10) kc)) + (ho (12 * p9 + kc)).toInt64)), (6, .int (nI kc)), (0, .ref (bd 31)), (3, .int (nI p9))]) hx hb dX7_mixPlane_47 hl (by decide) rfl ?_
        clear hl
        clear ls
        intro ls hl
        refine zldc2 (v := (31 : Int64)) ww_43_20 hF dX7_mixPlane_49 ?_
        refine lv_lload hx hb dX7_mixPlane_52 (lv_at hl 0 rfl) ?_
        refine lv_lmul hx hb dX7_mixPlane_54 ?_
        refine lv_aload_n hx hb dX7_mixPlane_55 rfl (lv_at hl 2 rfl) ?_
        refine lv_iload_n hx hb dX7_mixPlane_56 rfl (lv_at hl 3 rfl) ?_
        refine lv_iload hx hb dX7_mixPlane_57 (lv_at hl 1 rfl) ?_
        refine lv_iconst (v := 5) hx hb dX7_mixPlane_59 (by decide) ?_
        refine lv_iconst (v := 0) hx hb dX7_mixPlane_60 (by decide) ?_
        refine zVi zm_X7_291 hF hB (c_X7_split l D ka kb bd na dn1 up1 (nI L) sz9 re9 le N1 (nI p9) (nI kc) (5 : Int32) (0 : Int32) ) ([0, 16, 10, 15] ++ npr 17) (zsel_pool rfl rfl) (va_nd_pool rfl rfl) ([(bd 31), (bd 5), (bd 2), (bd 11)] ++ nA na) (fun _ => zad_pool rfl) (zad_pool rfl) 0 7 rfl rfl rfl ⟨Nat.le_of_ble_eq_true rfl, Nat.le_of_ble_eq_true rfl⟩ rfl hl.1 (Nat.le_of_ble_eq_true rfl) ⟨Nat.le_refl _, Nat.le_refl _⟩ dX7_mixPlane_61 ?_
        clear hB
        try clear locs
        try clear H
        intro r7 u7 H locs hp hB
        obtain ⟨N97, dn97, up27⟩ := u7
        have hp7 : r7 = (if spK (nI p9) (nI kc) (5 : Int32) (0 : Int32) = true then spR (le (aN (nI p9))) (aN (nI kc)) (5 : Int32) (aN (0 : Int32)) else -2) ∧ (∀ k9, k9 < 39 → N97 k9 = N1 k9) := hp
        have HPP := hp7
        replace hB : zB D A s ([((bd 31), .inr (7, [.ref (bd 0), .ref (bd 1), .ref (na 6), .ref (na 7), .ref (bd 2), .ref (bd 3), .ref (bd 4), .ref (bd 5), .ref (bd 6)])), ((bd 0), .inr (2, [.int (bI o91), .ref (na 25), .ref (na 26), .ref (na 27)])), ((bd 4), .inr (4, [.ref (bd 18), .ref (bd 19), .int cnt, .int opb, .int rch, .int wnt, .ref (bd 20), .ref (bd 21), .ref (bd 22), .int bb.1, .ref (bd 23), .ref (bd 24), .long (Int64.ofInt bb.2.1), .long (Int64.ofInt bb.2.2.1)])), ((bd 18), .inr (2, [.int (bI o3), .ref (na 31), .ref (na 32), .ref (na 33)])), ((bd 19), .inl (ka 0, 3, .inl zs)), ((bd 20), .inl (ka 3, 5, .inr (.inr (.inr (.inr (nR na 34)))))), ((bd 21), .inl (ka 0, 4, .inl sa)), ((bd 22), .inl (ka 0, 4, .inl ss)), ((bd 23), .inl (ka 0, 4, .inl bb.2.2.2.1)), ((bd 24), .inl (ka 0, 4, .inl bb.2.2.2.2)), ((bd 2), .inr (3, [.int (nI L), .ref (bd 7), .ref (bd 8), .ref (bd 9), .ref (bd 10), .ref (bd 11), .int sz9, .int re9])), ((bd 7), .inl (ka 0, 8, .inl mo)), ((bd 8), .inl (ka 0, 8, .inl an)), ((bd 9), .inl (ka 0, 8, .inl pl)), ((bd 10), .inl (ka 0, 24, .inl ho)), ((bd 11), .inl (ka 0, 2, .inl le)), ((bd 5), .inr (6, [.int dn97, .int up27, .ref (na 39), .ref (na 40)]))] ++ nP na N97) H locs := zB_pool hB rfl rfl rfl rfl
        have kS0 := HPP.2
        refine ztopi (y := (spR (le p9) kc 5 0)) (by rw [HPP.1, if_pos (show spK (nI p9) (nI kc) 5 0 = true from dB_t.mpr ⟨inI_nI hpl2 (by decide), inI_nI hk2 (by decide), dB_t.mpr (by decide), dB_t.mpr (by decide)⟩), aNn hpl2 (by decide), aNn hk2 (by decide)] <;> rfl) ?_
        refine lv_i2l (v := (spR (le p9) kc 5 0).toInt64) hx hb dX7_mixPlane_64 rfl ?_
        refine lv_ladd hx hb dX7_mixPlane_65 ?_
        refine lv_lstore (lv' := [(4, .long (((31 : Int64) * (((31 : Int64) * (ptB (le p9) ho p9 (ptA (pulI p9 L mo an pl ho) d9 10) kc)) + (ho (12 * p9 + kc)).toInt64)) + (spR (le p9) kc 5 0).toInt64)), (6, .int (nI kc)), (0, .ref (bd 31)), (3, .int (nI p9))]) hx hb dX7_mixPlane_66 hl (by decide) rfl ?_
        clear hl
        clear ls
        intro ls hl
        refine zldc2 (v := (31 : Int64)) ww_43_20 hF dX7_mixPlane_68 ?_
        refine lv_lload hx hb dX7_mixPlane_71 (lv_at hl 0 rfl) ?_
        refine lv_lmul hx hb dX7_mixPlane_73 ?_
        refine lv_aload_n hx hb dX7_mixPlane_74 rfl (lv_at hl 2 rfl) ?_
        refine lv_iload_n hx hb dX7_mixPlane_75 rfl (lv_at hl 3 rfl) ?_
        refine lv_iload hx hb dX7_mixPlane_76 (lv_at hl 1 rfl) ?_
        refine lv_iconst (v := 5) hx hb dX7_mixPlane_78 (by decide) ?_
        refine lv_iconst (v := 4) hx hb dX7_mixPlane_79 (by decide) ?_
        refine zVi zm_X7_291 hF hB (c_X7_split l D ka kb bd na dn97 up27 (nI L) sz9 re9 le N97 (nI p9) (nI kc) (5 : Int32) (4 : Int32) ) ([0, 16, 10, 15] ++ npr 17) (zsel_pool rfl rfl) (va_nd_pool rfl rfl) ([(bd 31), (bd 5), (bd 2), (bd 11)] ++ nA na) (fun _ => zad_pool rfl) (zad_pool rfl) 0 7 rfl rfl rfl ⟨Nat.le_of_ble_eq_true rfl, Nat.le_of_ble_eq_true rfl⟩ rfl hl.1 (Nat.le_of_ble_eq_true rfl) ⟨Nat.le_refl _, Nat.le_refl _⟩ dX7_mixPlane_80 ?_
        clear hB
        try clear locs
        try clear H
        intro r8 u8 H locs hp hB
        obtain ⟨N98, dn98, up28⟩ := u8
        have hp8 : r8 = (if spK (nI p9) (nI kc) (5 : Int32) (4 : Int32) = true then spR (le (aN (nI p9))) (aN (nI kc)) (5 : Int32) (aN (4 : Int32)) else -2) ∧ (∀ k9, k9 < 39 → N98 k9 = N97 k9) := hp
        have HPP := hp8
        replace hB : zB D A s ([((bd 31), .inr (7, [.ref (bd 0), .ref (bd 1), .ref (na 6), .ref (na 7), .ref (bd 2), .ref (bd 3), .ref (bd 4), .ref (bd 5), .ref (bd 6)])), ((bd 0), .inr (2, [.int (bI o91), .ref (na 25), .ref (na 26), .ref (na 27)])), ((bd 4), .inr (4, [.ref (bd 18), .ref (bd 19), .int cnt, .int opb, .int rch, .int wnt, .ref (bd 20), .ref (bd 21), .ref (bd 22), .int bb.1, .ref (bd 23), .ref (bd 24), .long (Int64.ofInt bb.2.1), .long (Int64.ofInt bb.2.2.1)])), ((bd 18), .inr (2, [.int (bI o3), .ref (na 31), .ref (na 32), .ref (na 33)])), ((bd 19), .inl (ka 0, 3, .inl zs)), ((bd 20), .inl (ka 3, 5, .inr (.inr (.inr (.inr (nR na 34)))))), ((bd 21), .inl (ka 0, 4, .inl sa)), ((bd 22), .inl (ka 0, 4, .inl ss)), ((bd 23), .inl (ka 0, 4, .inl bb.2.2.2.1)), ((bd 24), .inl (ka 0, 4, .inl bb.2.2.2.2)), ((bd 2), .inr (3, [.int (nI L), .ref (bd 7), .ref (bd 8), .ref (bd 9), .ref (bd 10), .ref (bd 11), .int sz9, .int re9])), ((bd 7), .inl (ka 0, 8, .inl mo)), ((bd 8), .inl (ka 0, 8, .inl an)), ((bd 9), .inl (ka 0, 8, .inl pl)), ((bd 10), .inl (ka 0, 24, .inl ho)), ((bd 11), .inl (ka 0, 2, .inl le)), ((bd 5), .inr (6, [.int dn98, .int up28, .ref (na 39), .ref (na 40)]))] ++ nP na N98) H locs := zB_pool hB rfl rfl rfl rfl
        have kS4 := HPP.2
        refine ztopi (y := (spR (le p9) kc 5 4)) (by rw [HPP.1, if_pos (show spK (nI p9) (nI kc) 5 4 = true from dB_t.mpr ⟨inI_nI hpl2 (by decide), inI_nI hk2 (by decide), dB_t.mpr (by decide), dB_t.mpr (by decide)⟩), aNn hpl2 (by decide), aNn hk2 (by decide)] <;> rfl) ?_
        refine lv_i2l (v := (spR (le p9) kc 5 4).toInt64) hx hb dX7_mixPlane_83 rfl ?_
        refine lv_ladd hx hb dX7_mixPlane_84 ?_
        refine lv_lstore (lv' := [(4, .long (((31 : Int64) * (((31 : Int64) * (((31 : Int64) * (ptB (le p9) ho p9 (ptA (pulI p9 L mo an pl ho) d9 10) kc)) + (ho (12 * p9 + kc)).toInt64)) + (spR (le p9) kc 5 0).toInt64)) + (spR (le p9) kc 5 4).toInt64)), (6, .int (nI kc)), (0, .ref (bd 31)), (3, .int (nI p9))]) hx hb dX7_mixPlane_85 hl (by decide) rfl ?_
        clear hl
        clear ls
        intro ls hl
        refine lv_iinc (v := nI (kc + 1)) (lv' := [(6, .int (nI (kc + 1))), (4, .long (((31 : Int64) * (((31 : Int64) * (((31 : Int64) * (ptB (le p9) ho p9 (ptA (pulI p9 L mo an pl ho) d9 10) kc)) + (ho (12 * p9 + kc)).toInt64)) + (spR (le p9) kc 5 0).toInt64)) + (spR (le p9) kc 5 4).toInt64)), (0, .ref (bd 31)), (3, .int (nI p9))]) hx hb dX7_mixPlane_87 hl (k := 1) rfl (nI_1 _) (by decide) rfl ?_
        clear hl
        clear ls
        intro ls hl
        refine lv_goto (tgt := 25) hx hb dX7_mixPlane_90 (by decide) ?_
        exact ih25 (kc + 1) N98 dn98 up28 (by omega) (fun k9 h9 => (kS4 k9 (by omega)).trans ((kS0 k9 (by omega)).trans (kN1 k9 h9))) (by omega) _ _ (hB) _ (lv_sub hl [0, 1, 2, 3] rfl)
  exact lp25 (12 - 0 + 1) 0 N91 dn up9 (Nat.zero_le _) (fun k9 h9 => hTP.1 k9 (by omega) (by omega)) (by omega) _ _ (hB) _ (lv_sub hl [0, 1, 2, 4] rfl)
