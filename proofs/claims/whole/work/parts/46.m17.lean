theorem lkU_1 {P : Nat → Int} {li : Int} {pr : List Nat} {b : bT} : (lkU P li pr b).1 = if lkB (prP P pr) li b.1 b.2.1 b.2.2.1 = true then nI pr.length else b.1 := by unfold lkU; split <;> rfl
theorem lkU_2 {P : Nat → Int} {li : Int} {pr : List Nat} {b : bT} : Int64.ofInt (lkU P li pr b).2.1 = if lkB (prP P pr) li b.1 b.2.1 b.2.2.1 = true then Int64.ofInt (sqI (prP P pr) 0) else Int64.ofInt b.2.1 := by unfold lkU; split <;> rfl
theorem lkU_3 {P : Nat → Int} {li : Int} {pr : List Nat} {b : bT} : Int64.ofInt (lkU P li pr b).2.2.1 = if lkB (prP P pr) li b.1 b.2.1 b.2.2.1 = true then Int64.ofInt (sqI (prP P pr) 1) else Int64.ofInt b.2.2.1 := by unfold lkU; split <;> rfl
theorem lkU_4 {P : Nat → Int} {li : Int} {pr : List Nat} {b : bT} : (lkU P li pr b).2.2.2.1 = if lkB (prP P pr) li b.1 b.2.1 b.2.2.1 = true then chA pr b.2.2.2.1 else b.2.2.2.1 := by unfold lkU; split <;> rfl
theorem lkU_5 {P : Nat → Int} {li : Int} {pr : List Nat} {b : bT} : (lkU P li pr b).2.2.2.2 = if lkB (prP P pr) li b.1 b.2.1 b.2.2.1 = true then chZ pr b.2.2.2.2 else b.2.2.2.2 := by unfold lkU; split <;> rfl
theorem prP_bk {P : Nat → Int} {c : Nat} {tl : List Nat} {k : Nat} : prP P (c :: tl) k + 10 * ((c % 10 : Nat) : Int) * wI (c / 10) k = prP P tl k := by
  show prP P tl k + -10 * ((c % 10 : Nat) : Int) * wI (c / 10) k + 10 * ((c % 10 : Nat) : Int) * wI (c / 10) k = prP P tl k
  rw [Int.neg_mul, Int.neg_mul]
  omega
theorem nI_s1 {n : Nat} (h : n ≠ 0) : nI n - 1 = nI (n - 1) := by
  obtain ⟨m, rfl⟩ : ∃ m, n = m + 1 := ⟨n - 1, by omega⟩
  rw [← nI_1, Int32.add_sub_cancel]
  rfl
theorem srR_0 {ok : Nat → Bool} {lk : List Nat → bT → bT} {st : Nat} {pr : List Nat} {b : bT} : srR ok lk 0 st pr b = lk pr b := rfl
theorem nI_m1 (m : Nat) : nI (m + 1) + (-1) = nI m := by
  rw [← Int32.sub_eq_add_neg]
  exact nI_s1 (by omega)
theorem dm_0 {dm : Int32} {pr : List Nat} (h : dm = nI pr.length + (-1)) (hl : pr.length < 1000) (h2 : dm < 0) : pr = [] := by
  cases pr with
  | nil => rfl
  | cons c tl =>
    have e : dm = nI tl.length := by rw [h]; exact nI_m1 tl.length
    rw [e] at h2
    exact absurd ((nI_leI (a := 0) (b := tl.length) (by decide) (by simp at hl; omega)).mpr (Nat.zero_le _)) (Int32.not_le.mpr h2)
theorem dm_1 {dm : Int32} {pr : List Nat} (h : dm = nI pr.length + (-1)) (hl : pr.length < 1000) (h2 : 0 ≤ dm) : ∃ d tl, pr = d :: tl ∧ dm = nI tl.length := by
  cases pr with
  | nil => rw [h] at h2; exact absurd h2 (by decide)
  | cons c tl => exact ⟨c, tl, rfl, by rw [h]; exact nI_m1 tl.length⟩
set_option maxHeartbeats 4000000 in
set_option maxRecDepth 100000 in
theorem c_X8_tries (l : Launch) (D : va_G) (ka : Nat → ClassId) (kb : Nat → Nat) (q : Nat) (ad : Nat → Nat) (o : Bool) (z : mZ) (pu : Nat → Int64) (L : Nat) (mo : Nat → Int32) (an : Nat → Int32) (pl : Nat → Int32) (ho : Nat → Int32) (le : Nat → Int32) (p9 : Nat) (n : Nat) (b0 : Int) (b1 : Int) (sa : Nat → Int32) (ss : Nat → Int32) (ba : Nat → Int32) (bz : Nat → Int32) (hp9 : p9 < 2) (hL : z.2.1 = nI L) (hok : okL L mo an pl) (hoh : okH ho) (hli : 0 ≤ z.2.2.2.1.toInt ∧ z.2.2.2.1.toInt ≤ 99) (hbs : z.2.2.2.2.2.2.1 = Int64.ofInt b0) (hbr : z.2.2.2.2.2.2.2 = Int64.ofInt b1) (hb01 : (0 ≤ b0 ∧ b0 ≤ 1270000000) ∧ (-730000000 ≤ b1 ∧ b1 ≤ 730000000)) (hn : n ≤ 4) : zV l D ka kb yX8_tries cX8_tries 5 5 124 [.ref q, .int (nI p9), .int (nI n)] ([(q, .inr (8, mO ad o z)), ((ad 9), .inl (ka 1, 4, .inr (.inl pu))), ((ad 4), .inl (ka 0, 8, .inl mo)), ((ad 5), .inl (ka 0, 8, .inl an)), ((ad 6), .inl (ka 0, 8, .inl pl)), ((ad 7), .inl (ka 0, 24, .inl ho)), ((ad 8), .inl (ka 0, 2, .inl le)), ((ad 14), .inl (ka 0, 4, .inl sa)), ((ad 15), .inl (ka 0, 4, .inl ss)), ((ad 16), .inl (ka 0, 4, .inl ba)), ((ad 17), .inl (ka 0, 4, .inl bz))]) (fun (u : (Nat → Int64) × (Nat → Int32) × (Nat → Int32)) => True) (fun (u : (Nat → Int64) × (Nat → Int32) × (Nat → Int32)) => [(q, .inr (8, mX ad (bI o) z.1 z.2.1 z.2.2.1 z.2.2.2.1 z.2.2.2.2.1 ((srR (okC z.2.2.1 p9 le ho) (lkU (pulI p9 L mo an pl ho) z.2.2.2.1.toInt) n 1 [] (z.2.2.2.2.2.1, b0, b1, ba, bz)).1) (Int64.ofInt (srR (okC z.2.2.1 p9 le ho) (lkU (pulI p9 L mo an pl ho) z.2.2.2.1.toInt) n 1 [] (z.2.2.2.2.2.1, b0, b1, ba, bz)).2.1) (Int64.ofInt (srR (okC z.2.2.1 p9 le ho) (lkU (pulI p9 L mo an pl ho) z.2.2.2.1.toInt) n 1 [] (z.2.2.2.2.2.1, b0, b1, ba, bz)).2.2.1))), ((ad 9), .inl (ka 1, 4, .inr (.inl u.1))), ((ad 4), .inl (ka 0, 8, .inl mo)), ((ad 5), .inl (ka 0, 8, .inl an)), ((ad 6), .inl (ka 0, 8, .inl pl)), ((ad 7), .inl (ka 0, 24, .inl ho)), ((ad 8), .inl (ka 0, 2, .inl le)), ((ad 14), .inl (ka 0, 4, .inl u.2.1)), ((ad 15), .inl (ka 0, 4, .inl u.2.2)), ((ad 16), .inl (ka 0, 4, .inl ((srR (okC z.2.2.1 p9 le ho) (lkU (pulI p9 L mo an pl ho) z.2.2.2.1.toInt) n 1 [] (z.2.2.2.2.2.1, b0, b1, ba, bz)).2.2.2.1))), ((ad 17), .inl (ka 0, 4, .inl ((srR (okC z.2.2.1 p9 le ho) (lkU (pulI p9 L mo an pl ho) z.2.2.2.1.toInt) n 1 [] (z.2.2.2.2.2.1, b0, b1, ba, bz)).2.2.2.2)))]) := by
  refine zV.mk RX8 (by decide +kernel) rfl (Nat.le_of_ble_eq_true rfl) ?_
  intro p e s m below meth c A ls args Q hQ hx hb hF hB hl
  replace hl : lv_has ls 5 [(0, .ref q), (1, .int (nI p9)), (2, .int (nI n))] := hl
  refine lv_iconst (v := 0) hx hb dX8_tries_0 (by decide) ?_
  refine lv_istore_n (lv' := [(3, .int (0 : Int32)), (0, .ref q), (1, .int (nI p9)), (2, .int (nI n))]) hx hb dX8_tries_1 rfl hl (by decide) rfl ?_
  clear hl
  clear ls
  intro ls hl
  refine lv_aload_n hx hb dX8_tries_2 rfl (lv_at hl 1 rfl) ?_
  refine lv_iload_n hx hb dX8_tries_3 rfl (lv_at hl 2 rfl) ?_
  refine zVv zm_X8_208 hF hB (c_X8_pulls l D ka kb q ad o z pu p9 L mo an pl ho (hp9) (hL) (hok) (hoh)) [0, 1, 2, 3, 4, 5] rfl (by decide) [q, (ad 9), (ad 4), (ad 5), (ad 6), (ad 7)] (fun _ => rfl) rfl 0 8 rfl rfl rfl ⟨Nat.le_of_ble_eq_true rfl, Nat.le_of_ble_eq_true rfl⟩ rfl hl.1 (Nat.le_of_ble_eq_true rfl) ⟨Nat.le_refl _, Nat.le_refl _⟩ dX8_tries_4 ?_
  clear hB
  try clear locs
  try clear H
  intro u1 H locs hp hB
  obtain ⟨pu21, rfl⟩ : ∃ z, z = u1 := ⟨_, rfl⟩
  have hp1 : ∀ k, k < 4 → pu21 k = Int64.ofInt (pulI p9 L mo an pl ho k) := hp
  have HPP := hp1
  replace hB : zB D A s ([(q, .inr (8, mO ad o z)), ((ad 9), .inl (ka 1, 4, .inr (.inl pu21))), ((ad 4), .inl (ka 0, 8, .inl mo)), ((ad 5), .inl (ka 0, 8, .inl an)), ((ad 6), .inl (ka 0, 8, .inl pl)), ((ad 7), .inl (ka 0, 24, .inl ho)), ((ad 8), .inl (ka 0, 2, .inl le)), ((ad 14), .inl (ka 0, 4, .inl sa)), ((ad 15), .inl (ka 0, 4, .inl ss)), ((ad 16), .inl (ka 0, 4, .inl ba)), ((ad 17), .inl (ka 0, 4, .inl bz))]) H locs := hB
  refine lv_iload_n hx hb dX8_tries_7 rfl (lv_at hl 3 rfl) ?_
  refine lv_if_ne (tgt := 17) hx hb dX8_tries_8 (by decide) (fun h8 => ?_) (fun h8 => ?_)
  · skip
    have hn9 : n ≠ 0 := fun e8 => h8 (by rw [e8]; rfl)
    refine lv_aload_n hx hb dX8_tries_17 rfl (lv_at hl 1 rfl) ?_
    refine zget zf_X8_53 hF hB 0 rfl rfl dX8_tries_18 ?_
    refine lv_iconst (v := 0) hx hb dX8_tries_21 (by decide) ?_
    refine lv_iconst (v := 0) hx hb dX8_tries_22 (by decide) ?_
    refine ziast hF hB 7 rfl 0 (by decide) (by decide) (by decide) dX8_tries_23 ?_
    clear hB
    try clear locs
    try clear H
    intro H locs hB
    replace hB : zB D A s ([(q, .inr (8, mO ad o z)), ((ad 9), .inl (ka 1, 4, .inr (.inl pu21))), ((ad 4), .inl (ka 0, 8, .inl mo)), ((ad 5), .inl (ka 0, 8, .inl an)), ((ad 6), .inl (ka 0, 8, .inl pl)), ((ad 7), .inl (ka 0, 24, .inl ho)), ((ad 8), .inl (ka 0, 2, .inl le)), ((ad 14), .inl (ka 0, 4, .inl (upd sa 0 (0 : Int32)))), ((ad 15), .inl (ka 0, 4, .inl ss)), ((ad 16), .inl (ka 0, 4, .inl ba)), ((ad 17), .inl (ka 0, 4, .inl bz))]) H locs := hB
    refine lv_aload_n hx hb dX8_tries_24 rfl (lv_at hl 1 rfl) ?_
    refine zget zf_X8_56 hF hB 0 rfl rfl dX8_tries_25 ?_
    refine lv_iconst (v := 0) hx hb dX8_tries_28 (by decide) ?_
    refine lv_iconst (v := 0) hx hb dX8_tries_29 (by decide) ?_
    refine ziast hF hB 8 rfl 0 (by decide) (by decide) (by decide) dX8_tries_30 ?_
    clear hB
    try clear locs
    try clear H
    intro H locs hB
    replace hB : zB D A s ([(q, .inr (8, mO ad o z)), ((ad 9), .inl (ka 1, 4, .inr (.inl pu21))), ((ad 4), .inl (ka 0, 8, .inl mo)), ((ad 5), .inl (ka 0, 8, .inl an)), ((ad 6), .inl (ka 0, 8, .inl pl)), ((ad 7), .inl (ka 0, 24, .inl ho)), ((ad 8), .inl (ka 0, 2, .inl le)), ((ad 14), .inl (ka 0, 4, .inl (upd sa 0 (0 : Int32)))), ((ad 15), .inl (ka 0, 4, .inl (upd ss 0 (0 : Int32)))), ((ad 16), .inl (ka 0, 4, .inl ba)), ((ad 17), .inl (ka 0, 4, .inl bz))]) H locs := hB
    refine lv_iconst (v := 0) hx hb dX8_tries_31 (by decide) ?_
    refine lv_istore (lv' := [(4, .int (0 : Int32)), (3, .int (0 : Int32)), (0, .ref q), (1, .int (nI p9)), (2, .int (nI n))]) hx hb dX8_tries_32 hl (by decide) rfl ?_
    clear hl
    clear ls
    intro ls hl
    have lp34 : ∀ (fl : Nat) (t : Nat) (dq : Int32) (pr : List Nat) (rm : Nat) (a0 : Nat) (s0 : Nat) (bb : bT) (pv : Nat → Int64) (s1 : Nat → Int32) (s2 : Nat → Int32), (hD : (dq = nI pr.length ∧ n = pr.length + rm + 1 ∧ okS s1 s2 pr ∧ (a0 < 12 ∧ s0 ≤ 9 ∧ s1 pr.length = nI a0 ∧ s2 pr.length = nI s0) ∧ (∀ k, k < 4 → pv k = Int64.ofInt (prP (pulI p9 L mo an pl ho) pr k)) ∧ srF (okC z.2.2.1 p9 le ho) (lkU (pulI p9 L mo an pl ho) z.2.2.2.1.toInt) pr (rm + 1) (10 * a0 + s0 + 1) bb = (srR (okC z.2.2.1 p9 le ho) (lkU (pulI p9 L mo an pl ho) z.2.2.2.1.toInt) n 1 [] (z.2.2.2.2.2.1, b0, b1, ba, bz)) ∧ t + stF pr (rm + 1) (10 * a0 + s0 + 1) ≤ 9000000) ∨ (dq = -1 ∧ bb = (srR (okC z.2.2.1 p9 le ho) (lkU (pulI p9 L mo an pl ho) z.2.2.2.1.toInt) n 1 [] (z.2.2.2.2.2.1, b0, b1, ba, bz)))) → (hB9 : bB bb) → 10000000 - t < fl → ∀ (H : Heap) (locs : List Loc), zB D A s ([(q, .inr (8, mX ad (bI o) z.1 z.2.1 z.2.2.1 z.2.2.2.1 z.2.2.2.2.1 bb.1 (Int64.ofInt bb.2.1) (Int64.ofInt bb.2.2.1))), ((ad 9), .inl (ka 1, 4, .inr (.inl pv))), ((ad 4), .inl (ka 0, 8, .inl mo)), ((ad 5), .inl (ka 0, 8, .inl an)), ((ad 6), .inl (ka 0, 8, .inl pl)), ((ad 7), .inl (ka 0, 24, .inl ho)), ((ad 8), .inl (ka 0, 2, .inl le)), ((ad 14), .inl (ka 0, 4, .inl s1)), ((ad 15), .inl (ka 0, 4, .inl s2)), ((ad 16), .inl (ka 0, 4, .inl bb.2.2.2.1)), ((ad 17), .inl (ka 0, 4, .inl bb.2.2.2.2))]) H locs → ∀ ls : Array Slot, lv_has ls 5 [(4, .int (nI t)), (3, .int dq), (0, .ref q), (1, .int (nI p9)), (2, .int (nI n))] → W p l e (zRm 5 124 0 0) s m args below meth c H locs 0 0 Q (F0 m 34 ls []) := by
      intro fl
      induction fl with
      | zero => intro t dq pr rm a0 s0 bb pv s1 s2 hD hB9 hfl; exact absurd hfl (Nat.not_lt_zero _)
      | succ fl ih34 =>
        intro t dq pr rm a0 s0 bb pv s1 s2 hD hB9 hfl34 H locs hB ls hl
        refine lv_iload hx hb dX8_tries_34 (lv_at hl 0 rfl) ?_
        refine zldcw (v := (10000000 : Int32)) ww_35_16 hF dX8_tries_36 ?_
        refine lv_icmp_ge (tgt := 176) hx hb dX8_tries_39 (by decide) (fun h39 => ?_) (fun h39 => ?_)
        · skip
          have hfin : bb = (srR (okC z.2.2.1 p9 le ho) (lkU (pulI p9 L mo an pl ho) z.2.2.2.1.toInt) n 1 [] (z.2.2.2.2.2.1, b0, b1, ba, bz)) := hD.elim (fun e => by
            exfalso
            have h1 := e.2.2.2.2.2.2
            have h2 := stF_1 (r := rm) (st := (10 * a0 + s0 + 1)) pr
            have h3 := (nI_leI (a := 10000000) (b := t) (by decide) (by omega)).mp h39
            omega) (fun e => e.2)
          exact zretv hF hB (pv, s1, s2) (trivial) (by rw [← hfin]) dX8_tries_176 hQ
        · skip
          refine lv_iload_n hx hb dX8_tries_42 rfl (lv_at hl 1 rfl) ?_
          refine lv_if_lt (tgt := 176) hx hb dX8_tries_43 (by decide) (fun h43 => ?_) (fun h43 => ?_)
          · skip
            have hfin : bb = (srR (okC z.2.2.1 p9 le ho) (lkU (pulI p9 L mo an pl ho) z.2.2.2.1.toInt) n 1 [] (z.2.2.2.2.2.1, b0, b1, ba, bz)) := hD.elim (fun e => absurd (by rw [e.1]; exact (nI_leI (a := 0) (by decide) (by omega)).mpr (Nat.zero_le _)) (Int32.not_le.mpr h43)) (fun e => e.2)
            exact zretv hF hB (pv, s1, s2) (trivial) (by rw [← hfin]) dX8_tries_176 hQ
          · skip
            obtain ⟨hdq, hnr, hS, ⟨ha0, hs0, hsa, hss⟩, hPV, hFR, hFU⟩ := hD.elim id (fun e => absurd (by rw [e.1]; decide) h43)
            subst hdq
            refine lv_aload_n hx hb dX8_tries_46 rfl (lv_at hl 2 rfl) ?_
            refine lv_iload_n hx hb dX8_tries_47 rfl (lv_at hl 3 rfl) ?_
            refine lv_iload_n hx hb dX8_tries_48 rfl (lv_at hl 1 rfl) ?_
            refine zVi zm_X8_293 hF hB (c_X8_steps l D ka kb q ad o (z.1, z.2.1, z.2.2.1, z.2.2.2.1, z.2.2.2.2.1, bb.1, (Int64.ofInt bb.2.1), (Int64.ofInt bb.2.2.1)) le ho p9 pr.length a0 s0 s1 s2 (hp9) (by omega) (hsa) (hss) (ha0) (hs0)) [0, 6, 5, 7, 8] rfl (by decide) [q, (ad 8), (ad 7), (ad 14), (ad 15)] (fun _ => rfl) rfl 0 8 rfl rfl rfl ⟨Nat.le_of_ble_eq_true rfl, Nat.le_of_ble_eq_true rfl⟩ rfl hl.1 (Nat.le_of_ble_eq_true rfl) ⟨Nat.le_refl _, Nat.le_refl _⟩ dX8_tries_49 ?_
            clear hB
            try clear locs
            try clear H
            intro r2 u2 H locs hp hB
            obtain ⟨sa22, ss22⟩ := u2
            have hp2 : r2 = bI (dB (nxT (okC (z.1, z.2.1, z.2.2.1, z.2.2.2.1, z.2.2.2.2.1, bb.1, (Int64.ofInt bb.2.1), (Int64.ofInt bb.2.2.1)).2.2.1 p9 le ho) (10 * a0 + s0 + 1) < 120)) ∧ (nxT (okC (z.1, z.2.1, z.2.2.1, z.2.2.2.1, z.2.2.2.2.1, bb.1, (Int64.ofInt bb.2.1), (Int64.ofInt bb.2.2.1)).2.2.1 p9 le ho) (10 * a0 + s0 + 1) < 120 → sa22 = upd s1 pr.length (nI (nxT (okC (z.1, z.2.1, z.2.2.1, z.2.2.2.1, z.2.2.2.2.1, bb.1, (Int64.ofInt bb.2.1), (Int64.ofInt bb.2.2.1)).2.2.1 p9 le ho) (10 * a0 + s0 + 1) / 10)) ∧ ss22 = upd s2 pr.length (nI (nxT (okC (z.1, z.2.1, z.2.2.1, z.2.2.2.1, z.2.2.2.2.1, bb.1, (Int64.ofInt bb.2.1), (Int64.ofInt bb.2.2.1)).2.2.1 p9 le ho) (10 * a0 + s0 + 1) % 10))) ∧ ∀ j, j ≠ pr.length → sa22 j = s1 j ∧ ss22 j = s2 j := hp
            have HPP := hp2
            replace hB : zB D A s ([(q, .inr (8, mX ad (bI o) z.1 z.2.1 z.2.2.1 z.2.2.2.1 z.2.2.2.2.1 bb.1 (Int64.ofInt bb.2.1) (Int64.ofInt bb.2.2.1))), ((ad 9), .inl (ka 1, 4, .inr (.inl pv))), ((ad 4), .inl (ka 0, 8, .inl mo)), ((ad 5), .inl (ka 0, 8, .inl an)), ((ad 6), .inl (ka 0, 8, .inl pl)), ((ad 7), .inl (ka 0, 24, .inl ho)), ((ad 8), .inl (ka 0, 2, .inl le)), ((ad 14), .inl (ka 0, 4, .inl sa22)), ((ad 15), .inl (ka 0, 4, .inl ss22)), ((ad 16), .inl (ka 0, 4, .inl bb.2.2.2.1)), ((ad 17), .inl (ka 0, 4, .inl bb.2.2.2.2))]) H locs := hB
            refine ztopi (y := bI (dB ((nxT (okC z.2.2.1 p9 le ho) (10 * a0 + s0 + 1)) < 120))) (HPP.1) ?_
            refine lv_if_eq (tgt := 142) hx hb dX8_tries_52 (by decide) (fun h52 => ?_) (fun h52 => ?_)
            · skip
              have hlt : 120 ≤ (nxT (okC z.2.2.1 p9 le ho) (10 * a0 + s0 + 1)) := Nat.not_lt.mp (dB_f.mp (bI_eq0 h52))
              obtain ⟨-, -, hJ⟩ := HPP
              have hS2 : okS sa22 ss22 pr := okS_up hS (fun j hj => hJ j (by omega))
              obtain ⟨dm, hdm⟩ : ∃ x, x = nI pr.length + (-1) := ⟨_, rfl⟩
              refine lv_iinc (v := dm) (lv' := [(3, .int dm), (4, .int (nI t)), (0, .ref q), (1, .int (nI p9)), (2, .int (nI n))]) hx hb dX8_tries_142 hl (k := 1) rfl (hdm.symm) (by decide) rfl ?_
              clear hl
              clear ls
              intro ls hl
              refine lv_iload_n hx hb dX8_tries_145 rfl (lv_at hl 0 rfl) ?_
              refine lv_if_lt (tgt := 170) hx hb dX8_tries_146 (by decide) (fun h146 => ?_) (fun h146 => ?_)
              · skip
                have hpr : pr = [] := dm_0 hdm (by omega) h146
                subst hpr
                refine lv_iinc (v := nI (t + 1)) (lv' := [(4, .int (nI (t + 1))), (3, .int dm), (0, .ref q), (1, .int (nI p9)), (2, .int (nI n))]) hx hb dX8_tries_170 hl (k := 1) rfl (nI_1 _) (by decide) rfl ?_
                clear hl
                clear ls
                intro ls hl
                refine lv_goto (tgt := 34) hx hb dX8_tries_173 (by decide) ?_
                exact ih34 (t + 1) dm ([]) rm 0 0 bb pv sa22 ss22 (Or.inr ⟨hdm, by rw [← hFR, srF_end hlt]⟩) (hB9) (by omega) _ _ (hB) _ (lv_sub hl [0, 1, 2, 3, 4] rfl)
              · skip
                obtain ⟨d9, tl, hpr, hdm2⟩ := dm_1 hdm (by omega) (Int32.not_lt.mp h146)
                subst hpr
                subst hdm2
                have hd9 : d9 < 120 := hS2.2.2.1
                have hnr2 : n = tl.length + 1 + rm + 1 := hnr
                have htl : tl.length < 4 := by omega
                refine lv_aload_n hx hb dX8_tries_149 rfl (lv_at hl 2 rfl) ?_
                refine zldc2 (v := (10 : Int64)) ww_18_6 hF dX8_tries_150 ?_
                refine lv_aload_n hx hb dX8_tries_153 rfl (lv_at hl 2 rfl) ?_
                refine zget zf_X8_56 hF hB 0 rfl rfl dX8_tries_154 ?_
                refine lv_iload_n hx hb dX8_tries_157 rfl (lv_at hl 0 rfl) ?_
                refine ziald hF hB 8 rfl tl.length (rfl) (by omega) (by decide) (v := (nI (d9 % 10))) (hS2.2.1) dX8_tries_158 ?_
                refine lv_i2l (v := (nI (d9 % 10)).toInt64) hx hb dX8_tries_159 rfl ?_
                refine lv_lmul hx hb dX8_tries_160 ?_
                refine ztopl (y := (Int64.ofInt (10 * ((d9 % 10 : Nat) : Int)))) (by rw [i64_w, nI_toInt (by omega), show (10 : Int64) = Int64.ofInt (10) from rfl, ofI_mul]) ?_
                refine lv_aload_n hx hb dX8_tries_161 rfl (lv_at hl 2 rfl) ?_
                refine zget zf_X8_53 hF hB 0 rfl rfl dX8_tries_162 ?_
                refine lv_iload_n hx hb dX8_tries_165 rfl (lv_at hl 0 rfl) ?_
                refine ziald hF hB 7 rfl tl.length (rfl) (by omega) (by decide) (v := (nI (d9 / 10))) (hS2.1) dX8_tries_166 ?_
                refine zVv zm_X8_195 hF hB (c_X8_adds l D ka kb q ad o (z.1, z.2.1, z.2.2.1, z.2.2.2.1, z.2.2.2.2.1, bb.1, (Int64.ofInt bb.2.1), (Int64.ofInt bb.2.2.1)) pv (Int64.ofInt (10 * ((d9 % 10 : Nat) : Int))) (d9 / 10) (by omega)) [0, 1] rfl (by decide) [q, (ad 9)] (fun _ => rfl) rfl 0 8 rfl rfl rfl ⟨Nat.le_of_ble_eq_true rfl, Nat.le_of_ble_eq_true rfl⟩ rfl hl.1 (Nat.le_of_ble_eq_true rfl) ⟨Nat.le_refl _, Nat.le_refl _⟩ dX8_tries_167 ?_
                clear hB
                try clear locs
                try clear H
                intro u3 H locs hp hB
                replace hB : zB D A s ([(q, .inr (8, mX ad (bI o) z.1 z.2.1 z.2.2.1 z.2.2.2.1 z.2.2.2.2.1 bb.1 (Int64.ofInt bb.2.1) (Int64.ofInt bb.2.2.1))), ((ad 9), .inl (ka 1, 4, .inr (.inl (addW pv (Int64.ofInt (10 * ((d9 % 10 : Nat) : Int))) (d9 / 10))))), ((ad 4), .inl (ka 0, 8, .inl mo)), ((ad 5), .inl (ka 0, 8, .inl an)), ((ad 6), .inl (ka 0, 8, .inl pl)), ((ad 7), .inl (ka 0, 24, .inl ho)), ((ad 8), .inl (ka 0, 2, .inl le)), ((ad 14), .inl (ka 0, 4, .inl sa22)), ((ad 15), .inl (ka 0, 4, .inl ss22)), ((ad 16), .inl (ka 0, 4, .inl bb.2.2.2.1)), ((ad 17), .inl (ka 0, 4, .inl bb.2.2.2.2))]) H locs := hB
                generalize hq2 : (addW pv (Int64.ofInt (10 * ((d9 % 10 : Nat) : Int))) (d9 / 10)) = q2 at hB
                have hQ2 : ∀ k, k < 4 → q2 k = Int64.ofInt (prP (pulI p9 L mo an pl ho) tl k) := fun k hk => by rw [← hq2, addW_I hk (hPV k hk) rfl, prP_bk]
                refine lv_iinc (v := nI (t + 1)) (lv' := [(4, .int (nI (t + 1))), (3, .int (nI tl.length)), (0, .ref q), (1, .int (nI p9)), (2, .int (nI n))]) hx hb dX8_tries_170 hl (k := 1) rfl (nI_1 _) (by decide) rfl ?_
                clear hl
                clear ls
                intro ls hl
                refine lv_goto (tgt := 34) hx hb dX8_tries_173 (by decide) ?_
                exact ih34 (t + 1) (nI tl.length) tl (rm + 1) (d9 / 10) (d9 % 10) bb q2 sa22 ss22 (Or.inl ⟨rfl, by have e8 : n = tl.length + 1 + rm + 1 := hnr; omega, hS2.2.2.2, ⟨by omega, by omega, hS2.1, hS2.2.1⟩, hQ2, by rw [show 10 * (d9 / 10) + d9 % 10 + 1 = d9 + 1 by omega]; exact (srF_up hlt).symm.trans hFR, by have := stF_up (r := rm) (st := (10 * a0 + s0 + 1)) (d := d9) tl; rw [show 10 * (d9 / 10) + d9 % 10 + 1 = d9 + 1 by omega]; show t + 1 + stF tl (rm + 2) (d9 + 1) ≤ 9000000; omega⟩) (hB9) (by omega) _ _ (hB) _ (lv_sub hl [0, 1, 2, 3, 4] rfl)
            · skip
              have hlt : (nxT (okC z.2.2.1 p9 le ho) (10 * a0 + s0 + 1)) < 120 := dB_t.mp (bI_ne0 h52)
              have hge := nxT_ge (ok := (okC z.2.2.1 p9 le ho)) _ (10 * a0 + s0 + 1) rfl
              obtain ⟨-, hFF, hJ⟩ := HPP
              have hFF := hFF hlt
              obtain ⟨c9, hc9⟩ : ∃ c, nxT (okC z.2.2.1 p9 le ho) (10 * a0 + s0 + 1) = c := ⟨_, rfl⟩
              rw [hc9] at hlt hge hFF
              have F1 : sa22 pr.length = nI (c9 / 10) := by rw [hFF.1]; exact if_pos rfl
              have F2 : ss22 pr.length = nI (c9 % 10) := by rw [hFF.2]; exact if_pos rfl
              have hS2 : okS sa22 ss22 (c9 :: pr) := ⟨F1, F2, hlt, okS_up hS (fun j hj => hJ j (by omega))⟩
              have hbd : bdP (prP (pulI p9 L mo an pl ho) (c9 :: pr)) := prP_bd4 (fun k hk => pulI_B hp9 hok hoh hk) (okS_lt hS2) (by show pr.length + 1 ≤ 4; omega)
              refine lv_aload_n hx hb dX8_tries_55 rfl (lv_at hl 2 rfl) ?_
              refine zldc2 (v := (-10 : Int64)) ww_25_18 hF dX8_tries_56 ?_
              refine lv_aload_n hx hb dX8_tries_59 rfl (lv_at hl 2 rfl) ?_
              refine zget zf_X8_56 hF hB 0 rfl rfl dX8_tries_60 ?_
              refine lv_iload_n hx hb dX8_tries_63 rfl (lv_at hl 1 rfl) ?_
              refine ziald hF hB 8 rfl pr.length (rfl) (by omega) (by decide) (v := (nI (c9 % 10))) (F2) dX8_tries_64 ?_
              refine lv_i2l (v := (nI (c9 % 10)).toInt64) hx hb dX8_tries_65 rfl ?_
              refine lv_lmul hx hb dX8_tries_66 ?_
              refine ztopl (y := (Int64.ofInt (-10 * ((c9 % 10 : Nat) : Int)))) (by rw [i64_w, nI_toInt (by omega), show (-10 : Int64) = Int64.ofInt (-10) from rfl, ofI_mul]) ?_
              refine lv_aload_n hx hb dX8_tries_67 rfl (lv_at hl 2 rfl) ?_
              refine zget zf_X8_53 hF hB 0 rfl rfl dX8_tries_68 ?_
              refine lv_iload_n hx hb dX8_tries_71 rfl (lv_at hl 1 rfl) ?_
              refine ziald hF hB 7 rfl pr.length (rfl) (by omega) (by decide) (v := (nI (c9 / 10))) (F1) dX8_tries_72 ?_
              refine zVv zm_X8_195 hF hB (c_X8_adds l D ka kb q ad o (z.1, z.2.1, z.2.2.1, z.2.2.2.1, z.2.2.2.2.1, bb.1, (Int64.ofInt bb.2.1), (Int64.ofInt bb.2.2.1)) pv (Int64.ofInt (-10 * ((c9 % 10 : Nat) : Int))) (c9 / 10) (by omega)) [0, 1] rfl (by decide) [q, (ad 9)] (fun _ => rfl) rfl 0 8 rfl rfl rfl ⟨Nat.le_of_ble_eq_true rfl, Nat.le_of_ble_eq_true rfl⟩ rfl hl.1 (Nat.le_of_ble_eq_true rfl) ⟨Nat.le_refl _, Nat.le_refl _⟩ dX8_tries_73 ?_
              clear hB
              try clear locs
              try clear H
              intro u4 H locs hp hB
              replace hB : zB D A s ([(q, .inr (8, mX ad (bI o) z.1 z.2.1 z.2.2.1 z.2.2.2.1 z.2.2.2.2.1 bb.1 (Int64.ofInt bb.2.1) (Int64.ofInt bb.2.2.1))), ((ad 9), .inl (ka 1, 4, .inr (.inl (addW pv (Int64.ofInt (-10 * ((c9 % 10 : Nat) : Int))) (c9 / 10))))), ((ad 4), .inl (ka 0, 8, .inl mo)), ((ad 5), .inl (ka 0, 8, .inl an)), ((ad 6), .inl (ka 0, 8, .inl pl)), ((ad 7), .inl (ka 0, 24, .inl ho)), ((ad 8), .inl (ka 0, 2, .inl le)), ((ad 14), .inl (ka 0, 4, .inl sa22)), ((ad 15), .inl (ka 0, 4, .inl ss22)), ((ad 16), .inl (ka 0, 4, .inl bb.2.2.2.1)), ((ad 17), .inl (ka 0, 4, .inl bb.2.2.2.2))]) H locs := hB
              generalize hq1 : (addW pv (Int64.ofInt (-10 * ((c9 % 10 : Nat) : Int))) (c9 / 10)) = q1 at hB
              have hQ1 : ∀ k, k < 4 → q1 k = Int64.ofInt (prP (pulI p9 L mo an pl ho) (c9 :: pr) k) := fun k hk => by rw [← hq1]; exact addW_I hk (hPV k hk) rfl
              refine lv_iload_n hx hb dX8_tries_76 rfl (lv_at hl 1 rfl) ?_
              refine lv_iload_n hx hb dX8_tries_77 rfl (lv_at hl 4 rfl) ?_
              refine lv_iconst (v := 1) hx hb dX8_tries_78 (by decide) ?_
              refine lv_isub hx hb dX8_tries_79 ?_
              refine ztopi (y := nI (n - 1)) (nI_s1 (by omega)) ?_
              refine lv_icmp_ne (tgt := 112) hx hb dX8_tries_80 (by decide) (fun h80 => ?_) (fun h80 => ?_)
              · skip
                have hrm : rm ≠ 0 := fun e8 => h80 (by rw [show pr.length = n - 1 by omega])
                refine lv_aload_n hx hb dX8_tries_112 rfl (lv_at hl 2 rfl) ?_
                refine zget zf_X8_53 hF hB 0 rfl rfl dX8_tries_113 ?_
                refine lv_iload_n hx hb dX8_tries_116 rfl (lv_at hl 1 rfl) ?_
                refine lv_iconst (v := 1) hx hb dX8_tries_117 (by decide) ?_
                refine lv_iadd hx hb dX8_tries_118 ?_
                refine ztopi (y := nI (pr.length + 1)) (nI_add pr.length 1) ?_
                refine lv_aload_n hx hb dX8_tries_119 rfl (lv_at hl 2 rfl) ?_
                refine zget zf_X8_53 hF hB 0 rfl rfl dX8_tries_120 ?_
                refine lv_iload_n hx hb dX8_tries_123 rfl (lv_at hl 1 rfl) ?_
                refine ziald hF hB 7 rfl pr.length (rfl) (by omega) (by decide) (v := (nI (c9 / 10))) (F1) dX8_tries_124 ?_
                refine ziast hF hB 7 rfl (pr.length + 1) (rfl) (by omega) (by decide) dX8_tries_125 ?_
                clear hB
                try clear locs
                try clear H
                intro H locs hB
                replace hB : zB D A s ([(q, .inr (8, mX ad (bI o) z.1 z.2.1 z.2.2.1 z.2.2.2.1 z.2.2.2.2.1 bb.1 (Int64.ofInt bb.2.1) (Int64.ofInt bb.2.2.1))), ((ad 9), .inl (ka 1, 4, .inr (.inl q1))), ((ad 4), .inl (ka 0, 8, .inl mo)), ((ad 5), .inl (ka 0, 8, .inl an)), ((ad 6), .inl (ka 0, 8, .inl pl)), ((ad 7), .inl (ka 0, 24, .inl ho)), ((ad 8), .inl (ka 0, 2, .inl le)), ((ad 14), .inl (ka 0, 4, .inl (upd sa22 (pr.length + 1) (nI (c9 / 10))))), ((ad 15), .inl (ka 0, 4, .inl ss22)), ((ad 16), .inl (ka 0, 4, .inl bb.2.2.2.1)), ((ad 17), .inl (ka 0, 4, .inl bb.2.2.2.2))]) H locs := hB
                refine lv_aload_n hx hb dX8_tries_126 rfl (lv_at hl 2 rfl) ?_
                refine zget zf_X8_56 hF hB 0 rfl rfl dX8_tries_127 ?_
                refine lv_iload_n hx hb dX8_tries_130 rfl (lv_at hl 1 rfl) ?_
                refine lv_iconst (v := 1) hx hb dX8_tries_131 (by decide) ?_
                refine lv_iadd hx hb dX8_tries_132 ?_
                refine ztopi (y := nI (pr.length + 1)) (nI_add pr.length 1) ?_
                refine lv_bipush (v := 9) hx hb dX8_tries_133 (by decide) ?_
                refine ziast hF hB 8 rfl (pr.length + 1) (rfl) (by omega) (by decide) dX8_tries_135 ?_
                clear hB
                try clear locs
                try clear H
                intro H locs hB
                replace hB : zB D A s ([(q, .inr (8, mX ad (bI o) z.1 z.2.1 z.2.2.1 z.2.2.2.1 z.2.2.2.2.1 bb.1 (Int64.ofInt bb.2.1) (Int64.ofInt bb.2.2.1))), ((ad 9), .inl (ka 1, 4, .inr (.inl q1))), ((ad 4), .inl (ka 0, 8, .inl mo)), ((ad 5), .inl (ka 0, 8, .inl an)), ((ad 6), .inl (ka 0, 8, .inl pl)), ((ad 7), .inl (ka 0, 24, .inl ho)), ((ad 8), .inl (ka 0, 2, .inl le)), ((ad 14), .inl (ka 0, 4, .inl (upd sa22 (pr.length + 1) (nI (c9 / 10))))), ((ad 15), .inl (ka 0, 4, .inl (upd ss22 (pr.length + 1) (9 : Int32)))), ((ad 16), .inl (ka 0, 4, .inl bb.2.2.2.1)), ((ad 17), .inl (ka 0, 4, .inl bb.2.2.2.2))]) H locs := hB
                refine lv_iinc (v := nI (pr.length + 1)) (lv' := [(3, .int (nI (pr.length + 1))), (4, .int (nI t)), (0, .ref q), (1, .int (nI p9)), (2, .int (nI n))]) hx hb dX8_tries_136 hl (k := 1) rfl (nI_1 _) (by decide) rfl ?_
                clear hl
                clear ls
                intro ls hl
                refine lv_goto (tgt := 170) hx hb dX8_tries_139 (by decide) ?_
                refine lv_iinc (v := nI (t + 1)) (lv' := [(4, .int (nI (t + 1))), (3, .int (nI (pr.length + 1))), (0, .ref q), (1, .int (nI p9)), (2, .int (nI n))]) hx hb dX8_tries_170 hl (k := 1) rfl (nI_1 _) (by decide) rfl ?_
                clear hl
                clear ls
                intro ls hl
                refine lv_goto (tgt := 34) hx hb dX8_tries_173 (by decide) ?_
                exact ih34 (t + 1) (nI (pr.length + 1)) (c9 :: pr) (rm - 1) (c9 / 10) 9 bb q1 (upd sa22 (pr.length + 1) (nI (c9 / 10))) (upd ss22 (pr.length + 1) (9 : Int32)) (Or.inl ⟨rfl, by show n = pr.length + 1 + (rm - 1) + 1; omega, okS_up hS2 (fun j hj => ⟨if_neg (by simp at hj; omega), if_neg (by simp at hj; omega)⟩), ⟨by omega, by decide, if_pos rfl, if_pos rfl⟩, hQ1, by rw [show 10 * (c9 / 10) + 9 + 1 = 10 * (c9 / 10) + 10 by omega, ← srF_down hc9 hlt pr, show rm - 1 + 1 = rm by omega]; exact hFR, by have := stF_down (r := rm) hge hlt pr; rw [show 10 * (c9 / 10) + 9 + 1 = 10 * (c9 / 10) + 10 by omega, show rm - 1 + 1 = rm by omega]; omega⟩) (hB9) (by omega) _ _ (hB) _ (lv_sub hl [0, 1, 2, 3, 4] rfl)
              · skip
                have hrm : rm = 0 := by have := (nI_eq (by omega) (by omega)).mp h80; omega
                subst hrm
                refine lv_aload_n hx hb dX8_tries_83 rfl (lv_at hl 2 rfl) ?_
                refine lv_iload_n hx hb dX8_tries_84 rfl (lv_at hl 4 rfl) ?_
                refine zVv zm_X8_289 hF hB (c_X8_looksAt l D ka kb q ad o (z.1, z.2.1, z.2.2.1, z.2.2.2.1, z.2.2.2.2.1, bb.1, (Int64.ofInt bb.2.1), (Int64.ofInt bb.2.2.1)) q1 (prP (pulI p9 L mo an pl ho) (c9 :: pr)) n bb.2.1 bb.2.2.1 sa22 ss22 bb.2.2.2.1 bb.2.2.2.2 (hQ1) (hbd) (hli) (rfl) (rfl) (hB9) (by omega)) [0, 1, 7, 8, 9, 10] rfl (by decide) [q, (ad 9), (ad 14), (ad 15), (ad 16), (ad 17)] (fun _ => rfl) rfl 0 8 rfl rfl rfl ⟨Nat.le_of_ble_eq_true rfl, Nat.le_of_ble_eq_true rfl⟩ rfl hl.1 (Nat.le_of_ble_eq_true rfl) ⟨Nat.le_refl _, Nat.le_refl _⟩ dX8_tries_85 ?_
                clear hB
                try clear locs
                try clear H
                intro u5 H locs hp hB
                replace hB : zB D A s ([(q, .inr (8, mX ad (bI o) z.1 z.2.1 z.2.2.1 z.2.2.2.1 z.2.2.2.2.1 (if lkB (prP (pulI p9 L mo an pl ho) (c9 :: pr)) (z.1, z.2.1, z.2.2.1, z.2.2.2.1, z.2.2.2.2.1, bb.1, (Int64.ofInt bb.2.1), (Int64.ofInt bb.2.2.1)).2.2.2.1.toInt (z.1, z.2.1, z.2.2.1, z.2.2.2.1, z.2.2.2.2.1, bb.1, (Int64.ofInt bb.2.1), (Int64.ofInt bb.2.2.1)).2.2.2.2.2.1 bb.2.1 bb.2.2.1 = true then nI n else (z.1, z.2.1, z.2.2.1, z.2.2.2.1, z.2.2.2.2.1, bb.1, (Int64.ofInt bb.2.1), (Int64.ofInt bb.2.2.1)).2.2.2.2.2.1) (if lkB (prP (pulI p9 L mo an pl ho) (c9 :: pr)) (z.1, z.2.1, z.2.2.1, z.2.2.2.1, z.2.2.2.2.1, bb.1, (Int64.ofInt bb.2.1), (Int64.ofInt bb.2.2.1)).2.2.2.1.toInt (z.1, z.2.1, z.2.2.1, z.2.2.2.1, z.2.2.2.2.1, bb.1, (Int64.ofInt bb.2.1), (Int64.ofInt bb.2.2.1)).2.2.2.2.2.1 bb.2.1 bb.2.2.1 = true then Int64.ofInt (sqI (prP (pulI p9 L mo an pl ho) (c9 :: pr)) 0) else (z.1, z.2.1, z.2.2.1, z.2.2.2.1, z.2.2.2.2.1, bb.1, (Int64.ofInt bb.2.1), (Int64.ofInt bb.2.2.1)).2.2.2.2.2.2.1) (if lkB (prP (pulI p9 L mo an pl ho) (c9 :: pr)) (z.1, z.2.1, z.2.2.1, z.2.2.2.1, z.2.2.2.2.1, bb.1, (Int64.ofInt bb.2.1), (Int64.ofInt bb.2.2.1)).2.2.2.1.toInt (z.1, z.2.1, z.2.2.1, z.2.2.2.1, z.2.2.2.2.1, bb.1, (Int64.ofInt bb.2.1), (Int64.ofInt bb.2.2.1)).2.2.2.2.2.1 bb.2.1 bb.2.2.1 = true then Int64.ofInt (sqI (prP (pulI p9 L mo an pl ho) (c9 :: pr)) 1) else (z.1, z.2.1, z.2.2.1, z.2.2.2.1, z.2.2.2.2.1, bb.1, (Int64.ofInt bb.2.1), (Int64.ofInt bb.2.2.1)).2.2.2.2.2.2.2))), ((ad 9), .inl (ka 1, 4, .inr (.inl q1))), ((ad 4), .inl (ka 0, 8, .inl mo)), ((ad 5), .inl (ka 0, 8, .inl an)), ((ad 6), .inl (ka 0, 8, .inl pl)), ((ad 7), .inl (ka 0, 24, .inl ho)), ((ad 8), .inl (ka 0, 2, .inl le)), ((ad 14), .inl (ka 0, 4, .inl sa22)), ((ad 15), .inl (ka 0, 4, .inl ss22)), ((ad 16), .inl (ka 0, 4, .inl (if lkB (prP (pulI p9 L mo an pl ho) (c9 :: pr)) (z.1, z.2.1, z.2.2.1, z.2.2.2.1, z.2.2.2.2.1, bb.1, (Int64.ofInt bb.2.1), (Int64.ofInt bb.2.2.1)).2.2.2.1.toInt (z.1, z.2.1, z.2.2.1, z.2.2.2.1, z.2.2.2.2.1, bb.1, (Int64.ofInt bb.2.1), (Int64.ofInt bb.2.2.1)).2.2.2.2.2.1 bb.2.1 bb.2.2.1 = true then cpN n sa22 bb.2.2.2.1 else bb.2.2.2.1))), ((ad 17), .inl (ka 0, 4, .inl (if lkB (prP (pulI p9 L mo an pl ho) (c9 :: pr)) (z.1, z.2.1, z.2.2.1, z.2.2.2.1, z.2.2.2.2.1, bb.1, (Int64.ofInt bb.2.1), (Int64.ofInt bb.2.2.1)).2.2.2.1.toInt (z.1, z.2.1, z.2.2.1, z.2.2.2.1, z.2.2.2.2.1, bb.1, (Int64.ofInt bb.2.1), (Int64.ofInt bb.2.2.1)).2.2.2.2.2.1 bb.2.1 bb.2.2.1 = true then cpN n ss22 bb.2.2.2.2 else bb.2.2.2.2)))]) H locs := hB
                refine lv_aload_n hx hb dX8_tries_88 rfl (lv_at hl 2 rfl) ?_
                refine zldc2 (v := (10 : Int64)) ww_18_6 hF dX8_tries_89 ?_
                refine lv_aload_n hx hb dX8_tries_92 rfl (lv_at hl 2 rfl) ?_
                refine zget zf_X8_56 hF hB 0 rfl rfl dX8_tries_93 ?_
                refine lv_iload_n hx hb dX8_tries_96 rfl (lv_at hl 1 rfl) ?_
                refine ziald hF hB 8 rfl pr.length (rfl) (by omega) (by decide) (v := (nI (c9 % 10))) (F2) dX8_tries_97 ?_
                refine lv_i2l (v := (nI (c9 % 10)).toInt64) hx hb dX8_tries_98 rfl ?_
                refine lv_lmul hx hb dX8_tries_99 ?_
                refine ztopl (y := (Int64.ofInt (10 * ((c9 % 10 : Nat) : Int)))) (by rw [i64_w, nI_toInt (by omega), show (10 : Int64) = Int64.ofInt (10) from rfl, ofI_mul]) ?_
                refine lv_aload_n hx hb dX8_tries_100 rfl (lv_at hl 2 rfl) ?_
                refine zget zf_X8_53 hF hB 0 rfl rfl dX8_tries_101 ?_
                refine lv_iload_n hx hb dX8_tries_104 rfl (lv_at hl 1 rfl) ?_
                refine ziald hF hB 7 rfl pr.length (rfl) (by omega) (by decide) (v := (nI (c9 / 10))) (F1) dX8_tries_105 ?_
                refine zVv zm_X8_195 hF hB (c_X8_adds l D ka kb q ad o (z.1, z.2.1, z.2.2.1, z.2.2.2.1, z.2.2.2.2.1, (if lkB (prP (pulI p9 L mo an pl ho) (c9 :: pr)) (z.1, z.2.1, z.2.2.1, z.2.2.2.1, z.2.2.2.2.1, bb.1, (Int64.ofInt bb.2.1), (Int64.ofInt bb.2.2.1)).2.2.2.1.toInt (z.1, z.2.1, z.2.2.1, z.2.2.2.1, z.2.2.2.2.1, bb.1, (Int64.ofInt bb.2.1), (Int64.ofInt bb.2.2.1)).2.2.2.2.2.1 bb.2.1 bb.2.2.1 = true then nI n else (z.1, z.2.1, z.2.2.1, z.2.2.2.1, z.2.2.2.2.1, bb.1, (Int64.ofInt bb.2.1), (Int64.ofInt bb.2.2.1)).2.2.2.2.2.1), (if lkB (prP (pulI p9 L mo an pl ho) (c9 :: pr)) (z.1, z.2.1, z.2.2.1, z.2.2.2.1, z.2.2.2.2.1, bb.1, (Int64.ofInt bb.2.1), (Int64.ofInt bb.2.2.1)).2.2.2.1.toInt (z.1, z.2.1, z.2.2.1, z.2.2.2.1, z.2.2.2.2.1, bb.1, (Int64.ofInt bb.2.1), (Int64.ofInt bb.2.2.1)).2.2.2.2.2.1 bb.2.1 bb.2.2.1 = true then Int64.ofInt (sqI (prP (pulI p9 L mo an pl ho) (c9 :: pr)) 0) else (z.1, z.2.1, z.2.2.1, z.2.2.2.1, z.2.2.2.2.1, bb.1, (Int64.ofInt bb.2.1), (Int64.ofInt bb.2.2.1)).2.2.2.2.2.2.1), (if lkB (prP (pulI p9 L mo an pl ho) (c9 :: pr)) (z.1, z.2.1, z.2.2.1, z.2.2.2.1, z.2.2.2.2.1, bb.1, (Int64.ofInt bb.2.1), (Int64.ofInt bb.2.2.1)).2.2.2.1.toInt (z.1, z.2.1, z.2.2.1, z.2.2.2.1, z.2.2.2.2.1, bb.1, (Int64.ofInt bb.2.1), (Int64.ofInt bb.2.2.1)).2.2.2.2.2.1 bb.2.1 bb.2.2.1 = true then Int64.ofInt (sqI (prP (pulI p9 L mo an pl ho) (c9 :: pr)) 1) else (z.1, z.2.1, z.2.2.1, z.2.2.2.1, z.2.2.2.2.1, bb.1, (Int64.ofInt bb.2.1), (Int64.ofInt bb.2.2.1)).2.2.2.2.2.2.2)) q1 (Int64.ofInt (10 * ((c9 % 10 : Nat) : Int))) (c9 / 10) (by omega)) [0, 1] rfl (by decide) [q, (ad 9)] (fun _ => rfl) rfl 0 8 rfl rfl rfl ⟨Nat.le_of_ble_eq_true rfl, Nat.le_of_ble_eq_true rfl⟩ rfl hl.1 (Nat.le_of_ble_eq_true rfl) ⟨Nat.le_refl _, Nat.le_refl _⟩ dX8_tries_106 ?_
                clear hB
                try clear locs
                try clear H
                intro u6 H locs hp hB
                replace hB : zB D A s ([(q, .inr (8, mX ad (bI o) z.1 z.2.1 z.2.2.1 z.2.2.2.1 z.2.2.2.2.1 (if lkB (prP (pulI p9 L mo an pl ho) (c9 :: pr)) (z.1, z.2.1, z.2.2.1, z.2.2.2.1, z.2.2.2.2.1, bb.1, (Int64.ofInt bb.2.1), (Int64.ofInt bb.2.2.1)).2.2.2.1.toInt (z.1, z.2.1, z.2.2.1, z.2.2.2.1, z.2.2.2.2.1, bb.1, (Int64.ofInt bb.2.1), (Int64.ofInt bb.2.2.1)).2.2.2.2.2.1 bb.2.1 bb.2.2.1 = true then nI n else (z.1, z.2.1, z.2.2.1, z.2.2.2.1, z.2.2.2.2.1, bb.1, (Int64.ofInt bb.2.1), (Int64.ofInt bb.2.2.1)).2.2.2.2.2.1) (if lkB (prP (pulI p9 L mo an pl ho) (c9 :: pr)) (z.1, z.2.1, z.2.2.1, z.2.2.2.1, z.2.2.2.2.1, bb.1, (Int64.ofInt bb.2.1), (Int64.ofInt bb.2.2.1)).2.2.2.1.toInt (z.1, z.2.1, z.2.2.1, z.2.2.2.1, z.2.2.2.2.1, bb.1, (Int64.ofInt bb.2.1), (Int64.ofInt bb.2.2.1)).2.2.2.2.2.1 bb.2.1 bb.2.2.1 = true then Int64.ofInt (sqI (prP (pulI p9 L mo an pl ho) (c9 :: pr)) 0) else (z.1, z.2.1, z.2.2.1, z.2.2.2.1, z.2.2.2.2.1, bb.1, (Int64.ofInt bb.2.1), (Int64.ofInt bb.2.2.1)).2.2.2.2.2.2.1) (if lkB (prP (pulI p9 L mo an pl ho) (c9 :: pr)) (z.1, z.2.1, z.2.2.1, z.2.2.2.1, z.2.2.2.2.1, bb.1, (Int64.ofInt bb.2.1), (Int64.ofInt bb.2.2.1)).2.2.2.1.toInt (z.1, z.2.1, z.2.2.1, z.2.2.2.1, z.2.2.2.2.1, bb.1, (Int64.ofInt bb.2.1), (Int64.ofInt bb.2.2.1)).2.2.2.2.2.1 bb.2.1 bb.2.2.1 = true then Int64.ofInt (sqI (prP (pulI p9 L mo an pl ho) (c9 :: pr)) 1) else (z.1, z.2.1, z.2.2.1, z.2.2.2.1, z.2.2.2.2.1, bb.1, (Int64.ofInt bb.2.1), (Int64.ofInt bb.2.2.1)).2.2.2.2.2.2.2))), ((ad 9), .inl (ka 1, 4, .inr (.inl (addW q1 (Int64.ofInt (10 * ((c9 % 10 : Nat) : Int))) (c9 / 10))))), ((ad 4), .inl (ka 0, 8, .inl mo)), ((ad 5), .inl (ka 0, 8, .inl an)), ((ad 6), .inl (ka 0, 8, .inl pl)), ((ad 7), .inl (ka 0, 24, .inl ho)), ((ad 8), .inl (ka 0, 2, .inl le)), ((ad 14), .inl (ka 0, 4, .inl sa22)), ((ad 15), .inl (ka 0, 4, .inl ss22)), ((ad 16), .inl (ka 0, 4, .inl (if lkB (prP (pulI p9 L mo an pl ho) (c9 :: pr)) (z.1, z.2.1, z.2.2.1, z.2.2.2.1, z.2.2.2.2.1, bb.1, (Int64.ofInt bb.2.1), (Int64.ofInt bb.2.2.1)).2.2.2.1.toInt (z.1, z.2.1, z.2.2.1, z.2.2.2.1, z.2.2.2.2.1, bb.1, (Int64.ofInt bb.2.1), (Int64.ofInt bb.2.2.1)).2.2.2.2.2.1 bb.2.1 bb.2.2.1 = true then cpN n sa22 bb.2.2.2.1 else bb.2.2.2.1))), ((ad 17), .inl (ka 0, 4, .inl (if lkB (prP (pulI p9 L mo an pl ho) (c9 :: pr)) (z.1, z.2.1, z.2.2.1, z.2.2.2.1, z.2.2.2.2.1, bb.1, (Int64.ofInt bb.2.1), (Int64.ofInt bb.2.2.1)).2.2.2.1.toInt (z.1, z.2.1, z.2.2.1, z.2.2.2.1, z.2.2.2.2.1, bb.1, (Int64.ofInt bb.2.1), (Int64.ofInt bb.2.2.1)).2.2.2.2.2.1 bb.2.1 bb.2.2.1 = true then cpN n ss22 bb.2.2.2.2 else bb.2.2.2.2)))]) H locs := hB
                generalize hq2 : (addW q1 (Int64.ofInt (10 * ((c9 % 10 : Nat) : Int))) (c9 / 10)) = q2 at hB
                have hQ2 : ∀ k, k < 4 → q2 k = Int64.ofInt (prP (pulI p9 L mo an pl ho) pr k) := fun k hk => by rw [← hq2, addW_I hk (hQ1 k hk) rfl, prP_bk]
                refine lv_goto (tgt := 170) hx hb dX8_tries_109 (by decide) ?_
                refine lv_iinc (v := nI (t + 1)) (lv' := [(4, .int (nI (t + 1))), (3, .int (nI pr.length)), (0, .ref q), (1, .int (nI p9)), (2, .int (nI n))]) hx hb dX8_tries_170 hl (k := 0) rfl (nI_1 _) (by decide) rfl ?_
                clear hl
                clear ls
                intro ls hl
                refine lv_goto (tgt := 34) hx hb dX8_tries_173 (by decide) ?_
                exact ih34 (t + 1) (nI pr.length) pr 0 (c9 / 10) (c9 % 10) (lkU (pulI p9 L mo an pl ho) z.2.2.2.1.toInt (c9 :: pr) bb) q2 sa22 ss22 (Or.inl ⟨rfl, by omega, okS_up hS (fun j hj => hJ j (by omega)), ⟨by omega, by omega, F1, F2⟩, hQ2, by rw [show 10 * (c9 / 10) + c9 % 10 + 1 = c9 + 1 by omega]; exact (srF_leaf hc9 hlt pr).symm.trans hFR, by have := stF_leaf hge hlt pr; have h1 : t + stF pr 1 (10 * a0 + s0 + 1) ≤ 9000000 := hFU; rw [show 10 * (c9 / 10) + c9 % 10 + 1 = c9 + 1 by omega]; show t + 1 + stF pr 1 (c9 + 1) ≤ 9000000; omega⟩) (lkU_B hB9 hbd) (by omega) _ _ (by rw [lkU_1, lkU_2, lkU_3, lkU_4, lkU_5, ← okS_A hS2, ← okS_Z hS2, show (c9 :: pr).length = n from by show pr.length + 1 = n; omega]; exact hB) _ (lv_sub hl [0, 1, 2, 3, 4] rfl)
    exact lp34 (10000000 - 0 + 1) 0 (0 : Int32) ([]) (n - 1) 0 0 (z.2.2.2.2.2.1, b0, b1, ba, bz) pu21 (upd sa 0 (0 : Int32)) (upd ss 0 (0 : Int32)) (Or.inl ⟨rfl, by show n = 0 + (n - 1) + 1; omega, trivial, ⟨by decide, by decide, if_pos rfl, if_pos rfl⟩, HPP, by rw [show n - 1 + 1 = n by omega]; rfl, by have e9 := stW_le n (by omega); rw [show n - 1 + 1 = n by omega]; show 0 + stW n 119 ≤ 9000000; omega⟩) (hb01) (by omega) _ _ (by rw [← hbs, ← hbr]; exact hB) _ (lv_sub hl [0, 1, 2, 3, 4] rfl)
  · skip
    refine lv_aload_n hx hb dX8_tries_11 rfl (lv_at hl 1 rfl) ?_
    refine lv_iconst (v := 0) hx hb dX8_tries_12 (by decide) ?_
    refine zVv zm_X8_289 hF hB (c_X8_looksAt l D ka kb q ad o z pu21 (prP (pulI p9 L mo an pl ho) []) 0 b0 b1 sa ss ba bz (HPP) (pulI_bd hp9 hok hoh) (hli) (hbs) (hbr) (hb01) (by decide)) [0, 1, 7, 8, 9, 10] rfl (by decide) [q, (ad 9), (ad 14), (ad 15), (ad 16), (ad 17)] (fun _ => rfl) rfl 0 8 rfl rfl rfl ⟨Nat.le_of_ble_eq_true rfl, Nat.le_of_ble_eq_true rfl⟩ rfl hl.1 (Nat.le_of_ble_eq_true rfl) ⟨Nat.le_refl _, Nat.le_refl _⟩ dX8_tries_13 ?_
    clear hB
    try clear locs
    try clear H
    intro u7 H locs hp hB
    replace hB : zB D A s ([(q, .inr (8, mX ad (bI o) z.1 z.2.1 z.2.2.1 z.2.2.2.1 z.2.2.2.2.1 (if lkB (prP (pulI p9 L mo an pl ho) []) z.2.2.2.1.toInt z.2.2.2.2.2.1 b0 b1 = true then nI 0 else z.2.2.2.2.2.1) (if lkB (prP (pulI p9 L mo an pl ho) []) z.2.2.2.1.toInt z.2.2.2.2.2.1 b0 b1 = true then Int64.ofInt (sqI (prP (pulI p9 L mo an pl ho) []) 0) else z.2.2.2.2.2.2.1) (if lkB (prP (pulI p9 L mo an pl ho) []) z.2.2.2.1.toInt z.2.2.2.2.2.1 b0 b1 = true then Int64.ofInt (sqI (prP (pulI p9 L mo an pl ho) []) 1) else z.2.2.2.2.2.2.2))), ((ad 9), .inl (ka 1, 4, .inr (.inl pu21))), ((ad 4), .inl (ka 0, 8, .inl mo)), ((ad 5), .inl (ka 0, 8, .inl an)), ((ad 6), .inl (ka 0, 8, .inl pl)), ((ad 7), .inl (ka 0, 24, .inl ho)), ((ad 8), .inl (ka 0, 2, .inl le)), ((ad 14), .inl (ka 0, 4, .inl sa)), ((ad 15), .inl (ka 0, 4, .inl ss)), ((ad 16), .inl (ka 0, 4, .inl (if lkB (prP (pulI p9 L mo an pl ho) []) z.2.2.2.1.toInt z.2.2.2.2.2.1 b0 b1 = true then cpN 0 sa ba else ba))), ((ad 17), .inl (ka 0, 4, .inl (if lkB (prP (pulI p9 L mo an pl ho) []) z.2.2.2.1.toInt z.2.2.2.2.2.1 b0 b1 = true then cpN 0 ss bz else bz)))]) H locs := hB
    have hn0 : n = 0 := (nI_eq (b := 0) (by omega) (by decide)).mp h8
    subst hn0
    exact zretv hF hB (pu21, sa, ss) (trivial) (by rw [srR_0, lkU_1, lkU_2, lkU_3, lkU_4, lkU_5, hbs, hbr] <;> rfl) dX8_tries_16 hQ
