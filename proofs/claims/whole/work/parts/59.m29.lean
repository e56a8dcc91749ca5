noncomputable def ctW (z : mZ) (L : Nat) (mo an pl ho : Nat → Int32) : Nat → Int32
  | 0 => z.2.1
  | 1 => nI (hcnt 0 ho 12)
  | 2 => nI (hcnt 1 ho 12)
  | 3 => bcnt z.2.2.2.2.1 12
  | 4 => bI (quB (pulI 0 L mo an pl ho) z.2.2.2.1.toInt)
  | 5 => bI (quB (pulI 1 L mo an pl ho) z.2.2.2.1.toInt)
  | 6 => z.2.2.2.1
  | 7 => z.2.2.1
  | _ => z.1
noncomputable def ctV (z : mZ) (L : Nat) (mo an pl ho : Nat → Int32) (kq : Int32) : Int32 := if inI kq 9 = true then ctW z L mo an pl ho (aN kq) else -2
theorem ct_in {kq : Int32} {k : Nat} (h : kq.toInt = (k : Int)) (hk : k < 9) : inI kq 9 = true ∧ aN kq = k := by
  refine ⟨dB_t.mpr ⟨by omega, by omega⟩, ?_⟩
  unfold aN; rw [h]; rfl
theorem ct_out {kq : Int32} (h : kq.toInt < 0 ∨ 8 < kq.toInt) : inI kq 9 = false := dB_f.mpr (fun e8 => by omega)
set_option maxHeartbeats 4000000 in
set_option maxRecDepth 100000 in
theorem c_X8_nearest (l : Launch) (D : va_G) (ka : Nat → ClassId) (kb : Nat → Nat) (q : Nat) (ad : Nat → Nat) (o : Bool) (z : mZ) (le : Nat → Int32) (pq : Int32) (v : Int32)  : zI l D ka kb yX8_nearest cX8_nearest 3 .int 2 45 [.ref q, .int pq, .int v] ([(q, .inr (8, mO ad o z)), ((ad 8), .inl (ka 0, 2, .inl le))]) (fun (r : Int32) (_ : Unit) => r = if inI pq 2 = true then (nrS (le (aN pq)) (nrE v) 12).1 else -2) (fun (_ : Unit) => [(q, .inr (8, mO ad o z)), ((ad 8), .inl (ka 0, 2, .inl le))]) := by
  refine zI.mk RX8 (by decide +kernel) rfl (Nat.le_of_ble_eq_true rfl) ?_
  intro p e s m below meth c A ls args Q hQ hx hb hF hB hl
  replace hl : lv_has ls 3 [(0, .ref q), (1, .int pq), (2, .int v)] := hl
  refine lv_iload_n hx hb dX8_nearest_0 rfl (lv_at hl 1 rfl) ?_
  refine zSi zm_X8_226 hF hB (c_X8_isTwo l D ka kb pq ) [] rfl (by decide) [] (fun _ => rfl) rfl rfl ⟨Nat.le_of_ble_eq_true rfl, Nat.le_of_ble_eq_true rfl⟩ rfl hl.1 (Nat.le_of_ble_eq_true rfl) ⟨Nat.le_refl _, Nat.le_refl _⟩ dX8_nearest_1 ?_
  clear hB
  try clear locs
  try clear H
  intro r1 u1 H locs hp hB
  obtain rfl : r1 = bI (inI pq 2) := hp
  replace hB : zB D A s ([(q, .inr (8, mO ad o z)), ((ad 8), .inl (ka 0, 2, .inl le))]) H locs := hB
  refine lv_if_eq (tgt := 16) hx hb dX8_nearest_4 (by decide) (fun h4 => ?_) (fun h4 => ?_)
  · skip
    have hk0 : inI pq 2 = false := bI_eq0 h4
    refine lv_bipush (v := -2) hx hb dX8_nearest_16 (by decide) ?_
    exact zreti hF hB () (by rw [if_neg (by rw [hk0]; decide)]) (rfl) (rfl) dX8_nearest_18 hQ
  · skip
    have hp1 : inI pq 2 = true := bI_ne0 h4
    obtain ⟨p, hp2, hp3⟩ := inI_of hp1 (by decide)
    subst hp3
    have rp : aN (nI p) = p := aNn hp2 (by decide)
    refine lv_aload_n hx hb dX8_nearest_7 rfl (lv_at hl 0 rfl) ?_
    refine lv_iload_n hx hb dX8_nearest_8 rfl (lv_at hl 1 rfl) ?_
    refine lv_iload_n hx hb dX8_nearest_9 rfl (lv_at hl 2 rfl) ?_
    refine zVi zm_X8_328 hF hB (c_X8_nearestBy l D ka kb q ad o z le p v (hp2)) [0, 1] rfl (by decide) [q, (ad 8)] (fun _ => rfl) rfl 0 8 rfl rfl rfl ⟨Nat.le_of_ble_eq_true rfl, Nat.le_of_ble_eq_true rfl⟩ rfl hl.1 (Nat.le_of_ble_eq_true rfl) ⟨Nat.le_refl _, Nat.le_refl _⟩ dX8_nearest_10 ?_
    clear hB
    try clear locs
    try clear H
    intro r2 u2 H locs hp hB
    obtain rfl : r2 = (nrS (le p) (nrE v) 12).1 := hp
    replace hB : zB D A s ([(q, .inr (8, mO ad o z)), ((ad 8), .inl (ka 0, 2, .inl le))]) H locs := hB
    refine lv_goto (tgt := 18) hx hb dX8_nearest_13 (by decide) ?_
    exact zreti hF hB () (by rw [if_pos hp1, rp]) (rfl) (rfl) dX8_nearest_18 hQ

set_option maxHeartbeats 4000000 in
set_option maxRecDepth 100000 in
theorem c_X8_count (l : Launch) (D : va_G) (ka : Nat → ClassId) (kb : Nat → Nat) (q : Nat) (ad : Nat → Nat) (o : Bool) (z : mZ) (pu : Nat → Int64) (L : Nat) (mo : Nat → Int32) (an : Nat → Int32) (pl : Nat → Int32) (ho : Nat → Int32) (kq : Int32) (hL : z.2.1 = nI L) (hok : okL L mo an pl) (hoh : okH ho) (hli : 0 ≤ z.2.2.2.1.toInt ∧ z.2.2.2.1.toInt ≤ 99) : zI l D ka kb yX8_count cX8_count 2 .int 5 118 [.ref q, .int kq] ([(q, .inr (8, mO ad o z)), ((ad 9), .inl (ka 1, 4, .inr (.inl pu))), ((ad 4), .inl (ka 0, 8, .inl mo)), ((ad 5), .inl (ka 0, 8, .inl an)), ((ad 6), .inl (ka 0, 8, .inl pl)), ((ad 7), .inl (ka 0, 24, .inl ho))]) (fun (r : Int32) (pu2 : Nat → Int64) => r = ctV z L mo an pl ho kq) (fun (pu2 : Nat → Int64) => [(q, .inr (8, mO ad o z)), ((ad 9), .inl (ka 1, 4, .inr (.inl pu2))), ((ad 4), .inl (ka 0, 8, .inl mo)), ((ad 5), .inl (ka 0, 8, .inl an)), ((ad 6), .inl (ka 0, 8, .inl pl)), ((ad 7), .inl (ka 0, 24, .inl ho))]) := by
  refine zI.mk RX8 (by decide +kernel) rfl (Nat.le_of_ble_eq_true rfl) ?_
  intro p e s m below meth c A ls args Q hQ hx hb hF hB hl
  replace hl : lv_has ls 2 [(0, .ref q), (1, .int kq)] := hl
  refine lv_iload_n hx hb dX8_count_0 rfl (lv_at hl 1 rfl) ?_
  rcases zsw kq 0 8 with hsw | hsw
  · skip
    refine lv_tableOut (tgt := 101) hx hb dX8_count_1 hsw (by decide) ?_
    refine lv_bipush (v := -2) hx hb dX8_count_101 (by decide) ?_
    exact zreti hF hB pu (by rw [ctV, if_neg (by rw [ct_out hsw]; decide)]) (rfl) (rfl) dX8_count_103 hQ
  · skip
    rcases (show Int32.toInt kq = 0 ∨ Int32.toInt kq = 1 ∨ Int32.toInt kq = 2 ∨ Int32.toInt kq = 3 ∨ Int32.toInt kq = 4 ∨ Int32.toInt kq = 5 ∨ Int32.toInt kq = 6 ∨ Int32.toInt kq = 7 ∨ Int32.toInt kq = 8 by omega) with hc9 | hc9 | hc9 | hc9 | hc9 | hc9 | hc9 | hc9 | hc9
    · skip
      refine lv_tableIn (tgt := 52) hx hb dX8_count_1 (by omega) (by omega) (by rw [hc9]; rfl) (by decide) ?_
      have hc1 := ct_in (kq := kq) (k := 0) hc9 (by decide)
      refine lv_aload_n hx hb dX8_count_52 rfl (lv_at hl 0 rfl) ?_
      refine zget zf_X8_192 hF hB 0 rfl rfl dX8_count_53 ?_
      exact zreti hF hB pu (by rw [ctV, if_pos hc1.1, hc1.2]; exact rfl) (rfl) (rfl) dX8_count_56 hQ
    · skip
      refine lv_tableIn (tgt := 57) hx hb dX8_count_1 (by omega) (by omega) (by rw [hc9]; rfl) (by decide) ?_
      have hc1 := ct_in (kq := kq) (k := 1) hc9 (by decide)
      refine lv_aload_n hx hb dX8_count_57 rfl (lv_at hl 0 rfl) ?_
      refine lv_iconst (v := 0) hx hb dX8_count_58 (by decide) ?_
      refine zVi zm_X8_235 hF hB (c_X8_holesIn l D ka kb q ad o z ho 0 (by decide)) [0, 5] rfl (by decide) [q, (ad 7)] (fun _ => rfl) rfl 0 8 rfl rfl rfl ⟨Nat.le_of_ble_eq_true rfl, Nat.le_of_ble_eq_true rfl⟩ rfl hl.1 (Nat.le_of_ble_eq_true rfl) ⟨Nat.le_refl _, Nat.le_refl _⟩ dX8_count_59 ?_
      clear hB
      try clear locs
      try clear H
      intro r1 u1 H locs hp hB
      obtain rfl : r1 = nI (hcnt 0 ho 12) := hp
      replace hB : zB D A s ([(q, .inr (8, mO ad o z)), ((ad 9), .inl (ka 1, 4, .inr (.inl pu))), ((ad 4), .inl (ka 0, 8, .inl mo)), ((ad 5), .inl (ka 0, 8, .inl an)), ((ad 6), .inl (ka 0, 8, .inl pl)), ((ad 7), .inl (ka 0, 24, .inl ho))]) H locs := hB
      exact zreti hF hB pu (by rw [ctV, if_pos hc1.1, hc1.2]; exact rfl) (rfl) (rfl) dX8_count_62 hQ
    · skip
      refine lv_tableIn (tgt := 63) hx hb dX8_count_1 (by omega) (by omega) (by rw [hc9]; rfl) (by decide) ?_
      have hc1 := ct_in (kq := kq) (k := 2) hc9 (by decide)
      refine lv_aload_n hx hb dX8_count_63 rfl (lv_at hl 0 rfl) ?_
      refine lv_iconst (v := 1) hx hb dX8_count_64 (by decide) ?_
      refine zVi zm_X8_235 hF hB (c_X8_holesIn l D ka kb q ad o z ho 1 (by decide)) [0, 5] rfl (by decide) [q, (ad 7)] (fun _ => rfl) rfl 0 8 rfl rfl rfl ⟨Nat.le_of_ble_eq_true rfl, Nat.le_of_ble_eq_true rfl⟩ rfl hl.1 (Nat.le_of_ble_eq_true rfl) ⟨Nat.le_refl _, Nat.le_refl _⟩ dX8_count_65 ?_
      clear hB
      try clear locs
      try clear H
      intro r2 u2 H locs hp hB
      obtain rfl : r2 = nI (hcnt 1 ho 12) := hp
      replace hB : zB D A s ([(q, .inr (8, mO ad o z)), ((ad 9), .inl (ka 1, 4, .inr (.inl pu))), ((ad 4), .inl (ka 0, 8, .inl mo)), ((ad 5), .inl (ka 0, 8, .inl an)), ((ad 6), .inl (ka 0, 8, .inl pl)), ((ad 7), .inl (ka 0, 24, .inl ho))]) H locs := hB
      exact zreti hF hB pu (by rw [ctV, if_pos hc1.1, hc1.2]; exact rfl) (rfl) (rfl) dX8_count_68 hQ
    · skip
      refine lv_tableIn (tgt := 69) hx hb dX8_count_1 (by omega) (by omega) (by rw [hc9]; rfl) (by decide) ?_
      have hc1 := ct_in (kq := kq) (k := 3) hc9 (by decide)
      refine lv_aload_n hx hb dX8_count_69 rfl (lv_at hl 0 rfl) ?_
      refine zVi zm_X8_261 hF hB (c_X8_kept l D ka kb q ad o z ) [0] rfl (by decide) [q] (fun _ => rfl) rfl 0 8 rfl rfl rfl ⟨Nat.le_of_ble_eq_true rfl, Nat.le_of_ble_eq_true rfl⟩ rfl hl.1 (Nat.le_of_ble_eq_true rfl) ⟨Nat.le_refl _, Nat.le_refl _⟩ dX8_count_70 ?_
      clear hB
      try clear locs
      try clear H
      intro r3 u3 H locs hp hB
      obtain rfl : r3 = bcnt z.2.2.2.2.1 12 := hp
      replace hB : zB D A s ([(q, .inr (8, mO ad o z)), ((ad 9), .inl (ka 1, 4, .inr (.inl pu))), ((ad 4), .inl (ka 0, 8, .inl mo)), ((ad 5), .inl (ka 0, 8, .inl an)), ((ad 6), .inl (ka 0, 8, .inl pl)), ((ad 7), .inl (ka 0, 24, .inl ho))]) H locs := hB
      exact zreti hF hB pu (by rw [ctV, if_pos hc1.1, hc1.2]; exact rfl) (rfl) (rfl) dX8_count_73 hQ
    · skip
      refine lv_tableIn (tgt := 74) hx hb dX8_count_1 (by omega) (by omega) (by rw [hc9]; rfl) (by decide) ?_
      have hc1 := ct_in (kq := kq) (k := 4) hc9 (by decide)
      refine lv_aload_n hx hb dX8_count_74 rfl (lv_at hl 0 rfl) ?_
      refine lv_iconst (v := 0) hx hb dX8_count_75 (by decide) ?_
      refine zVi zm_X8_252 hF hB (c_X8_quietBy l D ka kb q ad o z pu 0 L mo an pl ho (by decide) (hL) (hok) (hoh) (hli)) [0, 1, 2, 3, 4, 5] rfl (by decide) [q, (ad 9), (ad 4), (ad 5), (ad 6), (ad 7)] (fun _ => rfl) rfl 0 8 rfl rfl rfl ⟨Nat.le_of_ble_eq_true rfl, Nat.le_of_ble_eq_true rfl⟩ rfl hl.1 (Nat.le_of_ble_eq_true rfl) ⟨Nat.le_refl _, Nat.le_refl _⟩ dX8_count_76 ?_
      clear hB
      try clear locs
      try clear H
      intro r4 u4 H locs hp hB
      obtain ⟨pu24, rfl⟩ : ∃ z, z = u4 := ⟨_, rfl⟩
      have hp4 : r4 = bI (quB (pulI 0 L mo an pl ho) z.2.2.2.1.toInt) := hp
      have HPP := hp4
      replace hB : zB D A s ([(q, .inr (8, mO ad o z)), ((ad 9), .inl (ka 1, 4, .inr (.inl pu24))), ((ad 4), .inl (ka 0, 8, .inl mo)), ((ad 5), .inl (ka 0, 8, .inl an)), ((ad 6), .inl (ka 0, 8, .inl pl)), ((ad 7), .inl (ka 0, 24, .inl ho))]) H locs := hB
      exact zreti hF hB pu24 (by rw [ctV, if_pos hc1.1, hc1.2]; exact HPP) (rfl) (rfl) dX8_count_79 hQ
    · skip
      refine lv_tableIn (tgt := 80) hx hb dX8_count_1 (by omega) (by omega) (by rw [hc9]; rfl) (by decide) ?_
      have hc1 := ct_in (kq := kq) (k := 5) hc9 (by decide)
      refine lv_aload_n hx hb dX8_count_80 rfl (lv_at hl 0 rfl) ?_
      refine lv_iconst (v := 1) hx hb dX8_count_81 (by decide) ?_
      refine zVi zm_X8_252 hF hB (c_X8_quietBy l D ka kb q ad o z pu 1 L mo an pl ho (by decide) (hL) (hok) (hoh) (hli)) [0, 1, 2, 3, 4, 5] rfl (by decide) [q, (ad 9), (ad 4), (ad 5), (ad 6), (ad 7)] (fun _ => rfl) rfl 0 8 rfl rfl rfl ⟨Nat.le_of_ble_eq_true rfl, Nat.le_of_ble_eq_true rfl⟩ rfl hl.1 (Nat.le_of_ble_eq_true rfl) ⟨Nat.le_refl _, Nat.le_refl _⟩ dX8_count_82 ?_
      clear hB
      try clear locs
      try clear H
      intro r5 u5 H locs hp hB
      obtain ⟨pu25, rfl⟩ : ∃ z, z = u5 := ⟨_, rfl⟩
      have hp5 : r5 = bI (quB (pulI 1 L mo an pl ho) z.2.2.2.1.toInt) := hp
      have HPP := hp5
      replace hB : zB D A s ([(q, .inr (8, mO ad o z)), ((ad 9), .inl (ka 1, 4, .inr (.inl pu25))), ((ad 4), .inl (ka 0, 8, .inl mo)), ((ad 5), .inl (ka 0, 8, .inl an)), ((ad 6), .inl (ka 0, 8, .inl pl)), ((ad 7), .inl (ka 0, 24, .inl ho))]) H locs := hB
      exact zreti hF hB pu25 (by rw [ctV, if_pos hc1.1, hc1.2]; exact HPP) (rfl) (rfl) dX8_count_85 hQ
    · skip
      refine lv_tableIn (tgt := 86) hx hb dX8_count_1 (by omega) (by omega) (by rw [hc9]; rfl) (by decide) ?_
      have hc1 := ct_in (kq := kq) (k := 6) hc9 (by decide)
      refine lv_aload_n hx hb dX8_count_86 rfl (lv_at hl 0 rfl) ?_
      refine zget zf_X8_69 hF hB 0 rfl rfl dX8_count_87 ?_
      exact zreti hF hB pu (by rw [ctV, if_pos hc1.1, hc1.2]; exact rfl) (rfl) (rfl) dX8_count_90 hQ
    · skip
      refine lv_tableIn (tgt := 91) hx hb dX8_count_1 (by omega) (by omega) (by rw [hc9]; rfl) (by decide) ?_
      have hc1 := ct_in (kq := kq) (k := 7) hc9 (by decide)
      refine lv_aload_n hx hb dX8_count_91 rfl (lv_at hl 0 rfl) ?_
      refine zget zf_X8_65 hF hB 0 rfl rfl dX8_count_92 ?_
      exact zreti hF hB pu (by rw [ctV, if_pos hc1.1, hc1.2]; exact rfl) (rfl) (rfl) dX8_count_95 hQ
    · skip
      refine lv_tableIn (tgt := 96) hx hb dX8_count_1 (by omega) (by omega) (by rw [hc9]; rfl) (by decide) ?_
      have hc1 := ct_in (kq := kq) (k := 8) hc9 (by decide)
      refine lv_aload_n hx hb dX8_count_96 rfl (lv_at hl 0 rfl) ?_
      refine zget zf_X8_80 hF hB 0 rfl rfl dX8_count_97 ?_
      exact zreti hF hB pu (by rw [ctV, if_pos hc1.1, hc1.2]; exact rfl) (rfl) (rfl) dX8_count_100 hQ
