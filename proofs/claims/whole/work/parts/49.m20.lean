noncomputable def fwK (p w c : Int32) : Bool := dB (inI p 2 = true ∧ inI w 5 = true ∧ inI c 3 = true)
set_option maxHeartbeats 4000000 in
set_option maxRecDepth 100000 in
theorem c_X8_fewest (l : Launch) (D : va_G) (ka : Nat → ClassId) (kb : Nat → Nat) (q : Nat) (ad : Nat → Nat) (o : Bool) (z : mZ) (pu : Nat → Int64) (L : Nat) (mo : Nat → Int32) (an : Nat → Int32) (pl : Nat → Int32) (ho : Nat → Int32) (le : Nat → Int32) (pq : Int32) (wq : Int32) (cq : Int32) (b0 : Int) (b1 : Int) (sa : Nat → Int32) (ss : Nat → Int32) (ba : Nat → Int32) (bz : Nat → Int32) (hL : z.2.1 = nI L) (hok : okL L mo an pl) (hoh : okH ho) (hli : 0 ≤ z.2.2.2.1.toInt ∧ z.2.2.2.1.toInt ≤ 99) (hbs : z.2.2.2.2.2.2.1 = Int64.ofInt b0) (hbr : z.2.2.2.2.2.2.2 = Int64.ofInt b1) (hb01 : (0 ≤ b0 ∧ b0 ≤ 1270000000) ∧ (-730000000 ≤ b1 ∧ b1 ≤ 730000000)) : zI l D ka kb yX8_fewest cX8_fewest 4 .int 8 197 [.ref q, .int pq, .int wq, .int cq] ([(q, .inr (8, mO ad o z)), ((ad 9), .inl (ka 1, 4, .inr (.inl pu))), ((ad 4), .inl (ka 0, 8, .inl mo)), ((ad 5), .inl (ka 0, 8, .inl an)), ((ad 6), .inl (ka 0, 8, .inl pl)), ((ad 7), .inl (ka 0, 24, .inl ho)), ((ad 8), .inl (ka 0, 2, .inl le)), ((ad 14), .inl (ka 0, 4, .inl sa)), ((ad 15), .inl (ka 0, 4, .inl ss)), ((ad 16), .inl (ka 0, 4, .inl ba)), ((ad 17), .inl (ka 0, 4, .inl bz))]) (fun (r : Int32) (u : (Nat → Int64) × (Nat → Int32) × (Nat → Int32)) => r = (if fwK pq wq cq = true then fwA (aN cq) (seS (fun n b => srR (okC z.2.2.1 (aN pq) le ho) (lkU (pulI (aN pq) L mo an pl ho) z.2.2.2.1.toInt) n 1 [] b) (aN wq + 1) ((-1 : Int32), b0, b1, ba, bz)) else (-2 : Int32))) (fun (u : (Nat → Int64) × (Nat → Int32) × (Nat → Int32)) => [(q, .inr (8, mX ad (bI o) z.1 z.2.1 z.2.2.1 z.2.2.2.1 z.2.2.2.2.1 ((if fwK pq wq cq = true then (seS (fun n b => srR (okC z.2.2.1 (aN pq) le ho) (lkU (pulI (aN pq) L mo an pl ho) z.2.2.2.1.toInt) n 1 [] b) (aN wq + 1) ((-1 : Int32), b0, b1, ba, bz)) else (z.2.2.2.2.2.1, b0, b1, ba, bz)).1) (Int64.ofInt (if fwK pq wq cq = true then (seS (fun n b => srR (okC z.2.2.1 (aN pq) le ho) (lkU (pulI (aN pq) L mo an pl ho) z.2.2.2.1.toInt) n 1 [] b) (aN wq + 1) ((-1 : Int32), b0, b1, ba, bz)) else (z.2.2.2.2.2.1, b0, b1, ba, bz)).2.1) (Int64.ofInt (if fwK pq wq cq = true then (seS (fun n b => srR (okC z.2.2.1 (aN pq) le ho) (lkU (pulI (aN pq) L mo an pl ho) z.2.2.2.1.toInt) n 1 [] b) (aN wq + 1) ((-1 : Int32), b0, b1, ba, bz)) else (z.2.2.2.2.2.1, b0, b1, ba, bz)).2.2.1))), ((ad 9), .inl (ka 1, 4, .inr (.inl u.1))), ((ad 4), .inl (ka 0, 8, .inl mo)), ((ad 5), .inl (ka 0, 8, .inl an)), ((ad 6), .inl (ka 0, 8, .inl pl)), ((ad 7), .inl (ka 0, 24, .inl ho)), ((ad 8), .inl (ka 0, 2, .inl le)), ((ad 14), .inl (ka 0, 4, .inl u.2.1)), ((ad 15), .inl (ka 0, 4, .inl u.2.2)), ((ad 16), .inl (ka 0, 4, .inl ((if fwK pq wq cq = true then (seS (fun n b => srR (okC z.2.2.1 (aN pq) le ho) (lkU (pulI (aN pq) L mo an pl ho) z.2.2.2.1.toInt) n 1 [] b) (aN wq + 1) ((-1 : Int32), b0, b1, ba, bz)) else (z.2.2.2.2.2.1, b0, b1, ba, bz)).2.2.2.1))), ((ad 17), .inl (ka 0, 4, .inl ((if fwK pq wq cq = true then (seS (fun n b => srR (okC z.2.2.1 (aN pq) le ho) (lkU (pulI (aN pq) L mo an pl ho) z.2.2.2.1.toInt) n 1 [] b) (aN wq + 1) ((-1 : Int32), b0, b1, ba, bz)) else (z.2.2.2.2.2.1, b0, b1, ba, bz)).2.2.2.2)))]) := by
  refine zI.mk RX8 (by decide +kernel) rfl (Nat.le_of_ble_eq_true rfl) ?_
  intro p e s m below meth c A ls args Q hQ hx hb hF hB hl
  replace hl : lv_has ls 4 [(0, .ref q), (1, .int pq), (2, .int wq), (3, .int cq)] := hl
  refine lv_iload_n hx hb dX8_fewest_0 rfl (lv_at hl 1 rfl) ?_
  refine zSi zm_X8_226 hF hB (c_X8_isTwo l D ka kb pq ) [] rfl (by decide) [] (fun _ => rfl) rfl rfl ⟨Nat.le_of_ble_eq_true rfl, Nat.le_of_ble_eq_true rfl⟩ rfl hl.1 (Nat.le_of_ble_eq_true rfl) ⟨Nat.le_refl _, Nat.le_refl _⟩ dX8_fewest_1 ?_
  clear hB
  try clear locs
  try clear H
  intro r1 u1 H locs hp hB
  obtain rfl : r1 = bI (inI pq 2) := hp
  replace hB : zB D A s ([(q, .inr (8, mO ad o z)), ((ad 9), .inl (ka 1, 4, .inr (.inl pu))), ((ad 4), .inl (ka 0, 8, .inl mo)), ((ad 5), .inl (ka 0, 8, .inl an)), ((ad 6), .inl (ka 0, 8, .inl pl)), ((ad 7), .inl (ka 0, 24, .inl ho)), ((ad 8), .inl (ka 0, 2, .inl le)), ((ad 14), .inl (ka 0, 4, .inl sa)), ((ad 15), .inl (ka 0, 4, .inl ss)), ((ad 16), .inl (ka 0, 4, .inl ba)), ((ad 17), .inl (ka 0, 4, .inl bz))]) H locs := hB
  refine lv_if_eq (tgt := 41) hx hb dX8_fewest_4 (by decide) (fun h4 => ?_) (fun h4 => ?_)
  · skip
    refine lv_bipush (v := -2) hx hb dX8_fewest_41 (by decide) ?_
    have hk9 : ¬ fwK pq wq cq = true := by rw [show fwK pq wq cq = false from dB_f.mpr (fun e8 => by rw [bI_eq0 h4] at e8; exact absurd e8.1 (by decide))]; decide
    exact zreti hF hB (pu, sa, ss) (by rw [if_neg hk9]) (by rw [if_neg hk9, ← hbs, ← hbr] <;> rfl) (rfl) dX8_fewest_43 hQ
  · skip
    have hpp1 : inI pq 2 = true := bI_ne0 h4
    obtain ⟨pp, hpp2, hpp3⟩ := inI_of hpp1 (by decide)
    subst hpp3
    have rpp : aN (nI pp) = pp := aNn hpp2 (by decide)
    refine lv_iload_n hx hb dX8_fewest_7 rfl (lv_at hl 2 rfl) ?_
    refine lv_i2l (v := wq.toInt64) hx hb dX8_fewest_8 rfl ?_
    refine lv_lconst (v := 0) hx hb dX8_fewest_9 (by decide) ?_
    refine zldc2 (v := (4 : Int64)) ww_9_15 hF dX8_fewest_10 ?_
    refine zSi zm_X8_72 hF hB (c_X8_in l D ka kb wq.toInt64 (0 : Int64) (4 : Int64) ) [] rfl (by decide) [] (fun _ => rfl) rfl rfl ⟨Nat.le_of_ble_eq_true rfl, Nat.le_of_ble_eq_true rfl⟩ rfl hl.1 (Nat.le_of_ble_eq_true rfl) ⟨Nat.le_refl _, Nat.le_refl _⟩ dX8_fewest_13 ?_
    clear hB
    try clear locs
    try clear H
    intro r2 u2 H locs hp hB
    obtain rfl : r2 = bI (zin wq.toInt64 (0 : Int64) (4 : Int64)) := hp
    replace hB : zB D A s ([(q, .inr (8, mO ad o z)), ((ad 9), .inl (ka 1, 4, .inr (.inl pu))), ((ad 4), .inl (ka 0, 8, .inl mo)), ((ad 5), .inl (ka 0, 8, .inl an)), ((ad 6), .inl (ka 0, 8, .inl pl)), ((ad 7), .inl (ka 0, 24, .inl ho)), ((ad 8), .inl (ka 0, 2, .inl le)), ((ad 14), .inl (ka 0, 4, .inl sa)), ((ad 15), .inl (ka 0, 4, .inl ss)), ((ad 16), .inl (ka 0, 4, .inl ba)), ((ad 17), .inl (ka 0, 4, .inl bz))]) H locs := hB
    refine lv_if_eq (tgt := 41) hx hb dX8_fewest_16 (by decide) (fun h16 => ?_) (fun h16 => ?_)
    · skip
      have hs9 : inI wq 5 = false := (zin_inI wq 5 (by decide) (by decide)).symm.trans (bI_eq0 h16)
      refine lv_bipush (v := -2) hx hb dX8_fewest_41 (by decide) ?_
      have hk9 : ¬ fwK (nI pp) wq cq = true := by rw [show fwK (nI pp) wq cq = false from dB_f.mpr (fun e8 => by rw [hs9] at e8; exact absurd e8.2.1 (by decide))]; decide
      exact zreti hF hB (pu, sa, ss) (by rw [if_neg hk9]) (by rw [if_neg hk9, ← hbs, ← hbr] <;> rfl) (rfl) dX8_fewest_43 hQ
    · skip
      have hs5 : inI wq 5 = true := (zin_inI wq 5 (by decide) (by decide)).symm.trans (bI_ne0 h16)
      obtain ⟨ww, hww2, hww3⟩ := inI_of hs5 (by decide)
      subst hww3
      have rww : aN (nI ww) = ww := aNn hww2 (by decide)
      refine lv_iload_n hx hb dX8_fewest_19 rfl (lv_at hl 3 rfl) ?_
      refine lv_i2l (v := cq.toInt64) hx hb dX8_fewest_20 rfl ?_
      refine lv_lconst (v := 0) hx hb dX8_fewest_21 (by decide) ?_
      refine zldc2 (v := (2 : Int64)) ww_26_6 hF dX8_fewest_22 ?_
      refine zSi zm_X8_72 hF hB (c_X8_in l D ka kb cq.toInt64 (0 : Int64) (2 : Int64) ) [] rfl (by decide) [] (fun _ => rfl) rfl rfl ⟨Nat.le_of_ble_eq_true rfl, Nat.le_of_ble_eq_true rfl⟩ rfl hl.1 (Nat.le_of_ble_eq_true rfl) ⟨Nat.le_refl _, Nat.le_refl _⟩ dX8_fewest_25 ?_
      clear hB
      try clear locs
      try clear H
      intro r3 u3 H locs hp hB
      obtain rfl : r3 = bI (zin cq.toInt64 (0 : Int64) (2 : Int64)) := hp
      replace hB : zB D A s ([(q, .inr (8, mO ad o z)), ((ad 9), .inl (ka 1, 4, .inr (.inl pu))), ((ad 4), .inl (ka 0, 8, .inl mo)), ((ad 5), .inl (ka 0, 8, .inl an)), ((ad 6), .inl (ka 0, 8, .inl pl)), ((ad 7), .inl (ka 0, 24, .inl ho)), ((ad 8), .inl (ka 0, 2, .inl le)), ((ad 14), .inl (ka 0, 4, .inl sa)), ((ad 15), .inl (ka 0, 4, .inl ss)), ((ad 16), .inl (ka 0, 4, .inl ba)), ((ad 17), .inl (ka 0, 4, .inl bz))]) H locs := hB
      refine lv_if_eq (tgt := 41) hx hb dX8_fewest_28 (by decide) (fun h28 => ?_) (fun h28 => ?_)
      · skip
        have hs9 : inI cq 3 = false := (zin_inI cq 3 (by decide) (by decide)).symm.trans (bI_eq0 h28)
        refine lv_bipush (v := -2) hx hb dX8_fewest_41 (by decide) ?_
        have hk9 : ¬ fwK (nI pp) (nI ww) cq = true := by rw [show fwK (nI pp) (nI ww) cq = false from dB_f.mpr (fun e8 => by rw [hs9] at e8; exact absurd e8.2.2 (by decide))]; decide
        exact zreti hF hB (pu, sa, ss) (by rw [if_neg hk9]) (by rw [if_neg hk9, ← hbs, ← hbr] <;> rfl) (rfl) dX8_fewest_43 hQ
      · skip
        have hs3 : inI cq 3 = true := (zin_inI cq 3 (by decide) (by decide)).symm.trans (bI_ne0 h28)
        obtain ⟨cc, hcc2, hcc3⟩ := inI_of hs3 (by decide)
        subst hcc3
        have rcc : aN (nI cc) = cc := aNn hcc2 (by decide)
        refine lv_aload_n hx hb dX8_fewest_31 rfl (lv_at hl 0 rfl) ?_
        refine lv_iload_n hx hb dX8_fewest_32 rfl (lv_at hl 1 rfl) ?_
        refine lv_iload_n hx hb dX8_fewest_33 rfl (lv_at hl 2 rfl) ?_
        refine lv_iload_n hx hb dX8_fewest_34 rfl (lv_at hl 3 rfl) ?_
        have hk9 : fwK (nI pp) (nI ww) (nI cc) = true := dB_t.mpr ⟨hpp1, hs5, hs3⟩
        refine zVi zm_X8_302 hF hB (c_X8_fewestBy l D ka kb q ad o z pu L mo an pl ho le pp ww cc b0 b1 sa ss ba bz (hpp2) (hL) (hok) (hoh) (hli) (hbs) (hbr) (hb01) (by omega) (hcc2)) [0, 1, 2, 3, 4, 5, 6, 7, 8, 9, 10] rfl (by decide) [q, (ad 9), (ad 4), (ad 5), (ad 6), (ad 7), (ad 8), (ad 14), (ad 15), (ad 16), (ad 17)] (fun _ => rfl) rfl 0 8 rfl rfl rfl ⟨Nat.le_of_ble_eq_true rfl, Nat.le_of_ble_eq_true rfl⟩ rfl hl.1 (Nat.le_of_ble_eq_true rfl) ⟨Nat.le_refl _, Nat.le_refl _⟩ dX8_fewest_35 ?_
        clear hB
        try clear locs
        try clear H
        intro r4 u4 H locs hp hB
        obtain ⟨pu24, sa24, ss24⟩ := u4
        have hp4 : r4 = fwA cc (seS (fun n b => srR (okC z.2.2.1 pp le ho) (lkU (pulI pp L mo an pl ho) z.2.2.2.1.toInt) n 1 [] b) (ww + 1) ((-1 : Int32), b0, b1, ba, bz)) := hp
        have HPP := hp4
        replace hB : zB D A s ([(q, .inr (8, mX ad (bI o) z.1 z.2.1 z.2.2.1 z.2.2.2.1 z.2.2.2.2.1 ((seS (fun n b => srR (okC z.2.2.1 pp le ho) (lkU (pulI pp L mo an pl ho) z.2.2.2.1.toInt) n 1 [] b) (ww + 1) ((-1 : Int32), b0, b1, ba, bz)).1) (Int64.ofInt (seS (fun n b => srR (okC z.2.2.1 pp le ho) (lkU (pulI pp L mo an pl ho) z.2.2.2.1.toInt) n 1 [] b) (ww + 1) ((-1 : Int32), b0, b1, ba, bz)).2.1) (Int64.ofInt (seS (fun n b => srR (okC z.2.2.1 pp le ho) (lkU (pulI pp L mo an pl ho) z.2.2.2.1.toInt) n 1 [] b) (ww + 1) ((-1 : Int32), b0, b1, ba, bz)).2.2.1))), ((ad 9), .inl (ka 1, 4, .inr (.inl pu24))), ((ad 4), .inl (ka 0, 8, .inl mo)), ((ad 5), .inl (ka 0, 8, .inl an)), ((ad 6), .inl (ka 0, 8, .inl pl)), ((ad 7), .inl (ka 0, 24, .inl ho)), ((ad 8), .inl (ka 0, 2, .inl le)), ((ad 14), .inl (ka 0, 4, .inl sa24)), ((ad 15), .inl (ka 0, 4, .inl ss24)), ((ad 16), .inl (ka 0, 4, .inl ((seS (fun n b => srR (okC z.2.2.1 pp le ho) (lkU (pulI pp L mo an pl ho) z.2.2.2.1.toInt) n 1 [] b) (ww + 1) ((-1 : Int32), b0, b1, ba, bz)).2.2.2.1))), ((ad 17), .inl (ka 0, 4, .inl ((seS (fun n b => srR (okC z.2.2.1 pp le ho) (lkU (pulI pp L mo an pl ho) z.2.2.2.1.toInt) n 1 [] b) (ww + 1) ((-1 : Int32), b0, b1, ba, bz)).2.2.2.2)))]) H locs := hB
        refine lv_goto (tgt := 43) hx hb dX8_fewest_38 (by decide) ?_
        exact zreti hF hB (pu24, sa24, ss24) (by rw [if_pos hk9, rpp, rww, rcc, HPP]) (by rw [if_pos hk9, rpp, rww] <;> rfl) (rfl) dX8_fewest_43 hQ
