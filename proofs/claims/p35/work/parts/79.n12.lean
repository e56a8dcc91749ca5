/-- what a plane's unbalance answers -/
noncomputable def ubR (p : Nat) (G : Nat → N5) (m a : Nat → Int32) : Int32 := if foO G m a = true then -5 else if zeroN (foD G m a) = true then -6 else if (fnO (nI p) G m a || quoO (fnV (nI p) G m a) (foD G m a)) = true then -5 else 1
set_option maxHeartbeats 4000000 in
set_option maxRecDepth 100000 in
theorem c_X0_unbalance (l : Launch) (D : va_G) (ka : Nat → ClassId) (kb : Nat → Nat) (bd : Nat → Nat) (na : Nat → Nat) (o : Bool) (pm : Nat → Int32) (pa : Nat → Int32) (N : Nat → N5) (p9 : Nat) (hp9 : p9 < 2) (hdr : ∀ j, j < 6 → 0 < (N (8 + j)).2.2.2.2.toInt) (hwt : ∀ k, 1 ≤ k → k < 3 → N (14 + k) = wyN (pm k).toInt (aN (pa k))) (hpm : ∀ k, 1 ≤ k → k < 3 → (1 ≤ (pm k).toInt ∧ (pm k).toInt ≤ 99) ∧ aN (pa k) < 12) : zI l D ka kb yX0_unbalance cX0_unbalance 6 .int 7 222 [.ref (bd 3), .int (nI p9), .ref (na 6)] ([((bd 3), .inr (0, [.ref (bd 12), .ref (bd 13), .ref (bd 14), .ref (bd 15), .ref (bd 16), .ref (bd 17), .ref (na 21), .ref (na 22), .ref (na 23), .ref (na 24)])), ((bd 12), .inr (2, [.int (bI o), .ref (na 28), .ref (na 29), .ref (na 30)])), ((bd 15), .inl (ka 3, 6, .inr (.inr (.inr (.inr (nR na 8)))))), ((bd 16), .inl (ka 3, 3, .inr (.inr (.inr (.inr (nR na 14)))))), ((bd 17), .inl (ka 3, 4, .inr (.inr (.inr (.inr (nR na 17))))))] ++ nP na N) (fun (r : Int32) (u : (Nat → N5) × Bool) => r = ubR p9 (gC N) pm pa ∧ (∀ k9, k9 < 17 → k9 ≠ 6 → u.1 k9 = N k9) ∧ (r = 1 → u.1 6 = quoV (fnV (nI p9) (gC N) pm pa) (foD (gC N) pm pa))) (fun (u : (Nat → N5) × Bool) => [((bd 3), .inr (0, [.ref (bd 12), .ref (bd 13), .ref (bd 14), .ref (bd 15), .ref (bd 16), .ref (bd 17), .ref (na 21), .ref (na 22), .ref (na 23), .ref (na 24)])), ((bd 12), .inr (2, [.int (bI u.2), .ref (na 28), .ref (na 29), .ref (na 30)])), ((bd 15), .inl (ka 3, 6, .inr (.inr (.inr (.inr (nR na 8)))))), ((bd 16), .inl (ka 3, 3, .inr (.inr (.inr (.inr (nR na 14)))))), ((bd 17), .inl (ka 3, 4, .inr (.inr (.inr (.inr (nR na 17))))))] ++ nP na u.1) := by
  refine zI.mk RX0 (by decide +kernel) rfl (Nat.le_of_ble_eq_true rfl) ?_
  intro p e s m below meth c A ls args Q hQ hx hb hF hB hl
  replace hl : lv_has ls 6 [(0, .ref (bd 3)), (1, .int (nI p9)), (2, .ref (na 6))] := hl
  refine lv_iconst (v := 0) hx hb dX0_unbalance_0 (by decide) ?_
  refine lv_istore_n (lv' := [(3, .int (0 : Int32)), (0, .ref (bd 3)), (1, .int (nI p9)), (2, .ref (na 6))]) hx hb dX0_unbalance_1 rfl hl (by decide) rfl ?_
  clear hl
  clear ls
  intro ls hl
  refine lv_iload_n hx hb dX0_unbalance_2 rfl (lv_at hl 0 rfl) ?_
  refine lv_aload_n hx hb dX0_unbalance_3 rfl (lv_at hl 1 rfl) ?_
  refine zget zf_X0_35 hF hB 0 rfl rfl dX0_unbalance_4 ?_
  refine va_alen hF.1.1 hF.1.2.1 hF.2.1 hB.1 4 3 rfl rfl (v := 4) (rfl) dX0_unbalance_7 ?_
  refine lv_icmp_ge (tgt := 39) hx hb dX0_unbalance_8 (by decide) (fun h8 => ?_) (fun h8 => ?_)
  · skip
    exact absurd h8 (by decide)
  · skip
    refine lv_aload_n hx hb dX0_unbalance_11 rfl (lv_at hl 1 rfl) ?_
    refine lv_iload_n hx hb dX0_unbalance_12 rfl (lv_at hl 0 rfl) ?_
    refine lv_iconst (v := 2) hx hb dX0_unbalance_13 (by decide) ?_
    refine lv_idiv hx hb dX0_unbalance_14 (by decide) ?_
    refine ztopi (y := (0 : Int32)) (by decide) ?_
    refine lv_iload_n hx hb dX0_unbalance_15 rfl (lv_at hl 0 rfl) ?_
    refine lv_iconst (v := 2) hx hb dX0_unbalance_16 (by decide) ?_
    refine lv_irem hx hb dX0_unbalance_17 (by decide) ?_
    refine ztopi (y := (0 : Int32)) (by decide) ?_
    refine lv_aload_n hx hb dX0_unbalance_18 rfl (lv_at hl 1 rfl) ?_
    refine zget zf_X0_35 hF hB 0 rfl rfl dX0_unbalance_19 ?_
    refine lv_iload_n hx hb dX0_unbalance_22 rfl (lv_at hl 0 rfl) ?_
    refine zaald hF hB 4 rfl (t0 := 3) rfl 0 (by decide) (by decide) (by decide) (r := na 17) (rfl) dX0_unbalance_23 ?_
    refine zVi zm_X0_97 hF hB (c_X0_effectOf l D ka kb bd na o pm pa N 0 0 17 (by decide) (by decide) (Or.inr (by decide)) (fun j hj => by rw [(fun k9 _ _ => rfl : ∀ k9, k9 < 17 → k9 ≠ 6 → N k9 = N k9) (8 + j) (by omega) (by omega)]; exact hdr j hj) (by rw [(fun k9 _ _ => rfl : ∀ k9, k9 < 17 → k9 ≠ 6 → N k9 = N k9) (14 + (0 + 1)) (by omega) (by omega)]; exact hwt 1 (by decide) (by decide)) (hpm 1 (by decide) (by decide))) ([0, 1, 2, 3] ++ npr 5) (zsel_pool rfl rfl) (va_nd_pool rfl rfl) ([(bd 3), (bd 12), (bd 15), (bd 16)] ++ nA na) (fun _ => zad_pool rfl) (zad_pool rfl) 0 0 rfl rfl rfl ⟨Nat.le_of_ble_eq_true rfl, Nat.le_of_ble_eq_true rfl⟩ rfl hl.1 (Nat.le_of_ble_eq_true rfl) ⟨Nat.le_refl _, Nat.le_refl _⟩ dX0_unbalance_24 ?_
    clear hB
    try clear locs
    try clear H
    intro r1 u1 H locs hp hB
    obtain ⟨N91, o91⟩ := u1
    have hp1 : r1 = bI (!(efO (gC N) pm pa 0 0)) ∧ (∀ k9, k9 ≠ 28 → k9 ≠ 29 → k9 ≠ 30 → k9 ≠ 17 → N91 k9 = N k9) ∧ (efO (gC N) pm pa 0 0 = false → N91 17 = efV (gC N) pm pa 0 0) := hp
    have HPP := hp1
    replace hB : zB D A s ([((bd 3), .inr (0, [.ref (bd 12), .ref (bd 13), .ref (bd 14), .ref (bd 15), .ref (bd 16), .ref (bd 17), .ref (na 21), .ref (na 22), .ref (na 23), .ref (na 24)])), ((bd 12), .inr (2, [.int (bI o91), .ref (na 28), .ref (na 29), .ref (na 30)])), ((bd 15), .inl (ka 3, 6, .inr (.inr (.inr (.inr (nR na 8)))))), ((bd 16), .inl (ka 3, 3, .inr (.inr (.inr (.inr (nR na 14)))))), ((bd 17), .inl (ka 3, 4, .inr (.inr (.inr (.inr (nR na 17))))))] ++ nP na N91) H locs := zB_pool hB rfl rfl rfl rfl
    have h100 := HPP
    have c0 : efO (gC N) pm pa 0 0 = efO (gC N) pm pa 0 0 := efO_c ((fun k9 _ _ => rfl : ∀ k9, k9 < 17 → k9 ≠ 6 → N k9 = N k9) _ (by decide) (by decide)) ((fun k9 _ _ => rfl : ∀ k9, k9 < 17 → k9 ≠ 6 → N k9 = N k9) _ (by decide) (by decide))
    refine lv_if_ne (tgt := 33) hx hb dX0_unbalance_27 (by decide) (fun h27 => ?_) (fun h27 => ?_)
    · skip
      have o0 : efO (gC N) pm pa 0 0 = false := by have e8 := bI_ne0 (fun e9 => h27 (h100.1.trans e9)); simp only [Bool.not_eq_true'] at e8; rw [c0] at e8; exact e8
      have k200 : ∀ k9, k9 < 17 → k9 ≠ 6 → N91 k9 = N k9 := fun k9 h0 h6 => (h100.2.1 k9 (by omega) (by omega) (by omega) (by omega)).trans ((fun k9 _ _ => rfl : ∀ k9, k9 < 17 → k9 ≠ 6 → N k9 = N k9) k9 h0 h6)
      have w0_0 : N91 17 = efV (gC N) pm pa 0 0 := (h100.2.2 (by rw [c0]; exact o0)).trans (efV_c ((fun k9 _ _ => rfl : ∀ k9, k9 < 17 → k9 ≠ 6 → N k9 = N k9) _ (by decide) (by decide)) ((fun k9 _ _ => rfl : ∀ k9, k9 < 17 → k9 ≠ 6 → N k9 = N k9) _ (by decide) (by decide)))
      clear h100 c0
      refine lv_iinc (v := (1 : Int32)) (lv' := [(3, .int (1 : Int32)), (0, .ref (bd 3)), (1, .int (nI p9)), (2, .ref (na 6))]) hx hb dX0_unbalance_33 hl (k := 0) rfl (by decide) (by decide) rfl ?_
      clear hl
      clear ls
      intro ls hl
      refine lv_goto (tgt := 2) hx hb dX0_unbalance_36 (by decide) ?_
      refine lv_iload_n hx hb dX0_unbalance_2 rfl (lv_at hl 0 rfl) ?_
      refine lv_aload_n hx hb dX0_unbalance_3 rfl (lv_at hl 1 rfl) ?_
      refine zget zf_X0_35 hF hB 0 rfl rfl dX0_unbalance_4 ?_
      refine va_alen hF.1.1 hF.1.2.1 hF.2.1 hB.1 4 3 rfl rfl (v := 4) (rfl) dX0_unbalance_7 ?_
      refine lv_icmp_ge (tgt := 39) hx hb dX0_unbalance_8 (by decide) (fun h8 => ?_) (fun h8 => ?_)
      · skip
        exact absurd h8 (by decide)
      · skip
        refine lv_aload_n hx hb dX0_unbalance_11 rfl (lv_at hl 1 rfl) ?_
        refine lv_iload_n hx hb dX0_unbalance_12 rfl (lv_at hl 0 rfl) ?_
        refine lv_iconst (v := 2) hx hb dX0_unbalance_13 (by decide) ?_
        refine lv_idiv hx hb dX0_unbalance_14 (by decide) ?_
        refine ztopi (y := (0 : Int32)) (by decide) ?_
        refine lv_iload_n hx hb dX0_unbalance_15 rfl (lv_at hl 0 rfl) ?_
        refine lv_iconst (v := 2) hx hb dX0_unbalance_16 (by decide) ?_
        refine lv_irem hx hb dX0_unbalance_17 (by decide) ?_
        refine ztopi (y := (1 : Int32)) (by decide) ?_
        refine lv_aload_n hx hb dX0_unbalance_18 rfl (lv_at hl 1 rfl) ?_
        refine zget zf_X0_35 hF hB 0 rfl rfl dX0_unbalance_19 ?_
        refine lv_iload_n hx hb dX0_unbalance_22 rfl (lv_at hl 0 rfl) ?_
        refine zaald hF hB 4 rfl (t0 := 3) rfl 1 (by decide) (by decide) (by decide) (r := na 18) (rfl) dX0_unbalance_23 ?_
        refine zVi zm_X0_97 hF hB (c_X0_effectOf l D ka kb bd na o91 pm pa N91 0 1 18 (by decide) (by decide) (Or.inr (by decide)) (fun j hj => by rw [k200 (8 + j) (by omega) (by omega)]; exact hdr j hj) (by rw [k200 (14 + (0 + 1)) (by omega) (by omega)]; exact hwt 1 (by decide) (by decide)) (hpm 1 (by decide) (by decide))) ([0, 1, 2, 3] ++ npr 5) (zsel_pool rfl rfl) (va_nd_pool rfl rfl) ([(bd 3), (bd 12), (bd 15), (bd 16)] ++ nA na) (fun _ => zad_pool rfl) (zad_pool rfl) 0 0 rfl rfl rfl ⟨Nat.le_of_ble_eq_true rfl, Nat.le_of_ble_eq_true rfl⟩ rfl hl.1 (Nat.le_of_ble_eq_true rfl) ⟨Nat.le_refl _, Nat.le_refl _⟩ dX0_unbalance_24 ?_
        clear hB
        try clear locs
        try clear H
        intro r2 u2 H locs hp hB
        obtain ⟨N92, o92⟩ := u2
        have hp2 : r2 = bI (!(efO (gC N91) pm pa 0 1)) ∧ (∀ k9, k9 ≠ 28 → k9 ≠ 29 → k9 ≠ 30 → k9 ≠ 18 → N92 k9 = N91 k9) ∧ (efO (gC N91) pm pa 0 1 = false → N92 18 = efV (gC N91) pm pa 0 1) := hp
        have HPP := hp2
        replace hB : zB D A s ([((bd 3), .inr (0, [.ref (bd 12), .ref (bd 13), .ref (bd 14), .ref (bd 15), .ref (bd 16), .ref (bd 17), .ref (na 21), .ref (na 22), .ref (na 23), .ref (na 24)])), ((bd 12), .inr (2, [.int (bI o92), .ref (na 28), .ref (na 29), .ref (na 30)])), ((bd 15), .inl (ka 3, 6, .inr (.inr (.inr (.inr (nR na 8)))))), ((bd 16), .inl (ka 3, 3, .inr (.inr (.inr (.inr (nR na 14)))))), ((bd 17), .inl (ka 3, 4, .inr (.inr (.inr (.inr (nR na 17))))))] ++ nP na N92) H locs := zB_pool hB rfl rfl rfl rfl
        have h101 := HPP
        have c1 : efO (gC N91) pm pa 0 1 = efO (gC N) pm pa 0 1 := efO_c (k200 _ (by decide) (by decide)) (k200 _ (by decide) (by decide))
        refine lv_if_ne (tgt := 33) hx hb dX0_unbalance_27 (by decide) (fun h27 => ?_) (fun h27 => ?_)
        · skip
          have o1 : efO (gC N) pm pa 0 1 = false := by have e8 := bI_ne0 (fun e9 => h27 (h101.1.trans e9)); simp only [Bool.not_eq_true'] at e8; rw [c1] at e8; exact e8
          have k201 : ∀ k9, k9 < 17 → k9 ≠ 6 → N92 k9 = N k9 := fun k9 h0 h6 => (h101.2.1 k9 (by omega) (by omega) (by omega) (by omega)).trans (k200 k9 h0 h6)
          have w1_0 : N92 17 = efV (gC N) pm pa 0 0 := (h101.2.1 17 (by decide) (by decide) (by decide) (by decide)).trans w0_0
          have w1_1 : N92 18 = efV (gC N) pm pa 0 1 := (h101.2.2 (by rw [c1]; exact o1)).trans (efV_c (k200 _ (by decide) (by decide)) (k200 _ (by decide) (by decide)))
          clear h101 c1
          refine lv_iinc (v := (2 : Int32)) (lv' := [(3, .int (2 : Int32)), (0, .ref (bd 3)), (1, .int (nI p9)), (2, .ref (na 6))]) hx hb dX0_unbalance_33 hl (k := 0) rfl (by decide) (by decide) rfl ?_
          clear hl
          clear ls
          intro ls hl
          refine lv_goto (tgt := 2) hx hb dX0_unbalance_36 (by decide) ?_
          refine lv_iload_n hx hb dX0_unbalance_2 rfl (lv_at hl 0 rfl) ?_
          refine lv_aload_n hx hb dX0_unbalance_3 rfl (lv_at hl 1 rfl) ?_
          refine zget zf_X0_35 hF hB 0 rfl rfl dX0_unbalance_4 ?_
          refine va_alen hF.1.1 hF.1.2.1 hF.2.1 hB.1 4 3 rfl rfl (v := 4) (rfl) dX0_unbalance_7 ?_
          refine lv_icmp_ge (tgt := 39) hx hb dX0_unbalance_8 (by decide) (fun h8 => ?_) (fun h8 => ?_)
          · skip
            exact absurd h8 (by decide)
          · skip
            refine lv_aload_n hx hb dX0_unbalance_11 rfl (lv_at hl 1 rfl) ?_
            refine lv_iload_n hx hb dX0_unbalance_12 rfl (lv_at hl 0 rfl) ?_
            refine lv_iconst (v := 2) hx hb dX0_unbalance_13 (by decide) ?_
            refine lv_idiv hx hb dX0_unbalance_14 (by decide) ?_
            refine ztopi (y := (1 : Int32)) (by decide) ?_
            refine lv_iload_n hx hb dX0_unbalance_15 rfl (lv_at hl 0 rfl) ?_
            refine lv_iconst (v := 2) hx hb dX0_unbalance_16 (by decide) ?_
            refine lv_irem hx hb dX0_unbalance_17 (by decide) ?_
            refine ztopi (y := (0 : Int32)) (by decide) ?_
            refine lv_aload_n hx hb dX0_unbalance_18 rfl (lv_at hl 1 rfl) ?_
            refine zget zf_X0_35 hF hB 0 rfl rfl dX0_unbalance_19 ?_
            refine lv_iload_n hx hb dX0_unbalance_22 rfl (lv_at hl 0 rfl) ?_
            refine zaald hF hB 4 rfl (t0 := 3) rfl 2 (by decide) (by decide) (by decide) (r := na 19) (rfl) dX0_unbalance_23 ?_
            refine zVi zm_X0_97 hF hB (c_X0_effectOf l D ka kb bd na o92 pm pa N92 1 0 19 (by decide) (by decide) (Or.inr (by decide)) (fun j hj => by rw [k201 (8 + j) (by omega) (by omega)]; exact hdr j hj) (by rw [k201 (14 + (1 + 1)) (by omega) (by omega)]; exact hwt 2 (by decide) (by decide)) (hpm 2 (by decide) (by decide))) ([0, 1, 2, 3] ++ npr 5) (zsel_pool rfl rfl) (va_nd_pool rfl rfl) ([(bd 3), (bd 12), (bd 15), (bd 16)] ++ nA na) (fun _ => zad_pool rfl) (zad_pool rfl) 0 0 rfl rfl rfl ⟨Nat.le_of_ble_eq_true rfl, Nat.le_of_ble_eq_true rfl⟩ rfl hl.1 (Nat.le_of_ble_eq_true rfl) ⟨Nat.le_refl _, Nat.le_refl _⟩ dX0_unbalance_24 ?_
            clear hB
            try clear locs
            try clear H
            intro r3 u3 H locs hp hB
            obtain ⟨N93, o93⟩ := u3
            have hp3 : r3 = bI (!(efO (gC N92) pm pa 1 0)) ∧ (∀ k9, k9 ≠ 28 → k9 ≠ 29 → k9 ≠ 30 → k9 ≠ 19 → N93 k9 = N92 k9) ∧ (efO (gC N92) pm pa 1 0 = false → N93 19 = efV (gC N92) pm pa 1 0) := hp
            have HPP := hp3
            replace hB : zB D A s ([((bd 3), .inr (0, [.ref (bd 12), .ref (bd 13), .ref (bd 14), .ref (bd 15), .ref (bd 16), .ref (bd 17), .ref (na 21), .ref (na 22), .ref (na 23), .ref (na 24)])), ((bd 12), .inr (2, [.int (bI o93), .ref (na 28), .ref (na 29), .ref (na 30)])), ((bd 15), .inl (ka 3, 6, .inr (.inr (.inr (.inr (nR na 8)))))), ((bd 16), .inl (ka 3, 3, .inr (.inr (.inr (.inr (nR na 14)))))), ((bd 17), .inl (ka 3, 4, .inr (.inr (.inr (.inr (nR na 17))))))] ++ nP na N93) H locs := zB_pool hB rfl rfl rfl rfl
            have h102 := HPP
            have c2 : efO (gC N92) pm pa 1 0 = efO (gC N) pm pa 1 0 := efO_c (k201 _ (by decide) (by decide)) (k201 _ (by decide) (by decide))
            refine lv_if_ne (tgt := 33) hx hb dX0_unbalance_27 (by decide) (fun h27 => ?_) (fun h27 => ?_)
            · skip
              have o2 : efO (gC N) pm pa 1 0 = false := by have e8 := bI_ne0 (fun e9 => h27 (h102.1.trans e9)); simp only [Bool.not_eq_true'] at e8; rw [c2] at e8; exact e8
              have k202 : ∀ k9, k9 < 17 → k9 ≠ 6 → N93 k9 = N k9 := fun k9 h0 h6 => (h102.2.1 k9 (by omega) (by omega) (by omega) (by omega)).trans (k201 k9 h0 h6)
              have w2_0 : N93 17 = efV (gC N) pm pa 0 0 := (h102.2.1 17 (by decide) (by decide) (by decide) (by decide)).trans w1_0
              have w2_1 : N93 18 = efV (gC N) pm pa 0 1 := (h102.2.1 18 (by decide) (by decide) (by decide) (by decide)).trans w1_1
              have w2_2 : N93 19 = efV (gC N) pm pa 1 0 := (h102.2.2 (by rw [c2]; exact o2)).trans (efV_c (k201 _ (by decide) (by decide)) (k201 _ (by decide) (by decide)))
              clear h102 c2
              refine lv_iinc (v := (3 : Int32)) (lv' := [(3, .int (3 : Int32)), (0, .ref (bd 3)), (1, .int (nI p9)), (2, .ref (na 6))]) hx hb dX0_unbalance_33 hl (k := 0) rfl (by decide) (by decide) rfl ?_
              clear hl
              clear ls
              intro ls hl
              refine lv_goto (tgt := 2) hx hb dX0_unbalance_36 (by decide) ?_
              refine lv_iload_n hx hb dX0_unbalance_2 rfl (lv_at hl 0 rfl) ?_
              refine lv_aload_n hx hb dX0_unbalance_3 rfl (lv_at hl 1 rfl) ?_
              refine zget zf_X0_35 hF hB 0 rfl rfl dX0_unbalance_4 ?_
              refine va_alen hF.1.1 hF.1.2.1 hF.2.1 hB.1 4 3 rfl rfl (v := 4) (rfl) dX0_unbalance_7 ?_
              refine lv_icmp_ge (tgt := 39) hx hb dX0_unbalance_8 (by decide) (fun h8 => ?_) (fun h8 => ?_)
              · skip
                exact absurd h8 (by decide)
              · skip
                refine lv_aload_n hx hb dX0_unbalance_11 rfl (lv_at hl 1 rfl) ?_
                refine lv_iload_n hx hb dX0_unbalance_12 rfl (lv_at hl 0 rfl) ?_
                refine lv_iconst (v := 2) hx hb dX0_unbalance_13 (by decide) ?_
                refine lv_idiv hx hb dX0_unbalance_14 (by decide) ?_
                refine ztopi (y := (1 : Int32)) (by decide) ?_
                refine lv_iload_n hx hb dX0_unbalance_15 rfl (lv_at hl 0 rfl) ?_
                refine lv_iconst (v := 2) hx hb dX0_unbalance_16 (by decide) ?_
                refine lv_irem hx hb dX0_unbalance_17 (by decide) ?_
                refine ztopi (y := (1 : Int32)) (by decide) ?_
                refine lv_aload_n hx hb dX0_unbalance_18 rfl (lv_at hl 1 rfl) ?_
                refine zget zf_X0_35 hF hB 0 rfl rfl dX0_unbalance_19 ?_
                refine lv_iload_n hx hb dX0_unbalance_22 rfl (lv_at hl 0 rfl) ?_
                refine zaald hF hB 4 rfl (t0 := 3) rfl 3 (by decide) (by decide) (by decide) (r := na 20) (rfl) dX0_unbalance_23 ?_
                refine zVi zm_X0_97 hF hB (c_X0_effectOf l D ka kb bd na o93 pm pa N93 1 1 20 (by decide) (by decide) (Or.inr (by decide)) (fun j hj => by rw [k202 (8 + j) (by omega) (by omega)]; exact hdr j hj) (by rw [k202 (14 + (1 + 1)) (by omega) (by omega)]; exact hwt 2 (by decide) (by decide)) (hpm 2 (by decide) (by decide))) ([0, 1, 2, 3] ++ npr 5) (zsel_pool rfl rfl) (va_nd_pool rfl rfl) ([(bd 3), (bd 12), (bd 15), (bd 16)] ++ nA na) (fun _ => zad_pool rfl) (zad_pool rfl) 0 0 rfl rfl rfl ⟨Nat.le_of_ble_eq_true rfl, Nat.le_of_ble_eq_true rfl⟩ rfl hl.1 (Nat.le_of_ble_eq_true rfl) ⟨Nat.le_refl _, Nat.le_refl _⟩ dX0_unbalance_24 ?_
                clear hB
                try clear locs
                try clear H
                intro r4 u4 H locs hp hB
                obtain ⟨N94, o94⟩ := u4
                have hp4 : r4 = bI (!(efO (gC N93) pm pa 1 1)) ∧ (∀ k9, k9 ≠ 28 → k9 ≠ 29 → k9 ≠ 30 → k9 ≠ 20 → N94 k9 = N93 k9) ∧ (efO (gC N93) pm pa 1 1 = false → N94 20 = efV (gC N93) pm pa 1 1) := hp
                have HPP := hp4
                replace hB : zB D A s ([((bd 3), .inr (0, [.ref (bd 12), .ref (bd 13), .ref (bd 14), .ref (bd 15), .ref (bd 16), .ref (bd 17), .ref (na 21), .ref (na 22), .ref (na 23), .ref (na 24)])), ((bd 12), .inr (2, [.int (bI o94), .ref (na 28), .ref (na 29), .ref (na 30)])), ((bd 15), .inl (ka 3, 6, .inr (.inr (.inr (.inr (nR na 8)))))), ((bd 16), .inl (ka 3, 3, .inr (.inr (.inr (.inr (nR na 14)))))), ((bd 17), .inl (ka 3, 4, .inr (.inr (.inr (.inr (nR na 17))))))] ++ nP na N94) H locs := zB_pool hB rfl rfl rfl rfl
                have h103 := HPP
                have c3 : efO (gC N93) pm pa 1 1 = efO (gC N) pm pa 1 1 := efO_c (k202 _ (by decide) (by decide)) (k202 _ (by decide) (by decide))
                refine lv_if_ne (tgt := 33) hx hb dX0_unbalance_27 (by decide) (fun h27 => ?_) (fun h27 => ?_)
                · skip
                  have o3 : efO (gC N) pm pa 1 1 = false := by have e8 := bI_ne0 (fun e9 => h27 (h103.1.trans e9)); simp only [Bool.not_eq_true'] at e8; rw [c3] at e8; exact e8
                  have k203 : ∀ k9, k9 < 17 → k9 ≠ 6 → N94 k9 = N k9 := fun k9 h0 h6 => (h103.2.1 k9 (by omega) (by omega) (by omega) (by omega)).trans (k202 k9 h0 h6)
                  have w3_0 : N94 17 = efV (gC N) pm pa 0 0 := (h103.2.1 17 (by decide) (by decide) (by decide) (by decide)).trans w2_0
                  have w3_1 : N94 18 = efV (gC N) pm pa 0 1 := (h103.2.1 18 (by decide) (by decide) (by decide) (by decide)).trans w2_1
                  have w3_2 : N94 19 = efV (gC N) pm pa 1 0 := (h103.2.1 19 (by decide) (by decide) (by decide) (by decide)).trans w2_2
                  have w3_3 : N94 20 = efV (gC N) pm pa 1 1 := (h103.2.2 (by rw [c3]; exact o3)).trans (efV_c (k202 _ (by decide) (by decide)) (k202 _ (by decide) (by decide)))
                  clear h103 c3
                  refine lv_iinc (v := (4 : Int32)) (lv' := [(3, .int (4 : Int32)), (0, .ref (bd 3)), (1, .int (nI p9)), (2, .ref (na 6))]) hx hb dX0_unbalance_33 hl (k := 0) rfl (by decide) (by decide) rfl ?_
                  clear hl
                  clear ls
                  intro ls hl
                  refine lv_goto (tgt := 2) hx hb dX0_unbalance_36 (by decide) ?_
                  refine lv_iload_n hx hb dX0_unbalance_2 rfl (lv_at hl 0 rfl) ?_
                  refine lv_aload_n hx hb dX0_unbalance_3 rfl (lv_at hl 1 rfl) ?_
                  refine zget zf_X0_35 hF hB 0 rfl rfl dX0_unbalance_4 ?_
                  refine va_alen hF.1.1 hF.1.2.1 hF.2.1 hB.1 4 3 rfl rfl (v := 4) (rfl) dX0_unbalance_7 ?_
                  refine lv_icmp_ge (tgt := 39) hx hb dX0_unbalance_8 (by decide) (fun h8 => ?_) (fun h8 => ?_)
                  · skip
                    refine lv_aload_n hx hb dX0_unbalance_39 rfl (lv_at hl 1 rfl) ?_
                    refine lv_aload_n hx hb dX0_unbalance_40 rfl (lv_at hl 1 rfl) ?_
                    refine zget zf_X0_35 hF hB 0 rfl rfl dX0_unbalance_41 ?_
                    refine lv_iconst (v := 0) hx hb dX0_unbalance_44 (by decide) ?_
                    refine zaald hF hB 4 rfl (t0 := 3) rfl 0 (by decide) (by decide) (by decide) (r := na 17) (rfl) dX0_unbalance_45 ?_
                    refine lv_aload_n hx hb dX0_unbalance_46 rfl (lv_at hl 1 rfl) ?_
                    refine zget zf_X0_35 hF hB 0 rfl rfl dX0_unbalance_47 ?_
                    refine lv_iconst (v := 3) hx hb dX0_unbalance_50 (by decide) ?_
                    refine zaald hF hB 4 rfl (t0 := 3) rfl 3 (by decide) (by decide) (by decide) (r := na 20) (rfl) dX0_unbalance_51 ?_
                    refine lv_aload_n hx hb dX0_unbalance_52 rfl (lv_at hl 1 rfl) ?_
                    refine zget zf_X0_35 hF hB 0 rfl rfl dX0_unbalance_53 ?_
                    refine lv_iconst (v := 2) hx hb dX0_unbalance_56 (by decide) ?_
                    refine zaald hF hB 4 rfl (t0 := 3) rfl 2 (by decide) (by decide) (by decide) (r := na 19) (rfl) dX0_unbalance_57 ?_
                    refine lv_aload_n hx hb dX0_unbalance_58 rfl (lv_at hl 1 rfl) ?_
                    refine zget zf_X0_35 hF hB 0 rfl rfl dX0_unbalance_59 ?_
                    refine lv_iconst (v := 1) hx hb dX0_unbalance_62 (by decide) ?_
                    refine zaald hF hB 4 rfl (t0 := 3) rfl 1 (by decide) (by decide) (by decide) (r := na 18) (rfl) dX0_unbalance_63 ?_
                    refine lv_aload_n hx hb dX0_unbalance_64 rfl (lv_at hl 1 rfl) ?_
                    refine zget zf_X0_46 hF hB 0 rfl rfl dX0_unbalance_65 ?_
                    have hG : ∀ j, j < 6 → 0 < (gC N (6 + j)).2.2.2.2.toInt := fun j hj => by unfold gC; rw [show 6 + j + 2 = 8 + j by omega]; exact hdr j hj
                    have d0 : 0 < (efV (gC N) pm pa 0 0).2.2.2.2.toInt := efV_d o0 (hG 2 (by decide)) (hG 0 (by decide)) (hpm 1 (by decide) (by decide)).2 (hpm 1 (by decide) (by decide)).1
                    have d1 : 0 < (efV (gC N) pm pa 0 1).2.2.2.2.toInt := efV_d o1 (hG 3 (by decide)) (hG 1 (by decide)) (hpm 1 (by decide) (by decide)).2 (hpm 1 (by decide) (by decide)).1
                    have d2 : 0 < (efV (gC N) pm pa 1 0).2.2.2.2.toInt := efV_d o2 (hG 4 (by decide)) (hG 0 (by decide)) (hpm 2 (by decide) (by decide)).2 (hpm 2 (by decide) (by decide)).1
                    have d3 : 0 < (efV (gC N) pm pa 1 1).2.2.2.2.toInt := efV_d o3 (hG 5 (by decide)) (hG 1 (by decide)) (hpm 2 (by decide) (by decide)).2 (hpm 2 (by decide) (by decide)).1
                    refine zVi zm_X0_101 hF hB (c_X0_cross l D ka kb bd na o94 N94 17 20 19 18 23 (by decide) (by decide) (by decide) (by decide) (by decide) (by rw [w3_0]; exact d0) (by rw [w3_3]; exact d3) (by rw [w3_2]; exact d2) (by rw [w3_1]; exact d1)) ([0, 1] ++ npr 5) (zsel_pool rfl rfl) (va_nd_pool rfl rfl) ([(bd 3), (bd 12)] ++ nA na) (fun _ => zad_pool rfl) (zad_pool rfl) 0 0 rfl rfl rfl ⟨Nat.le_of_ble_eq_true rfl, Nat.le_of_ble_eq_true rfl⟩ rfl hl.1 (Nat.le_of_ble_eq_true rfl) ⟨Nat.le_refl _, Nat.le_refl _⟩ dX0_unbalance_68 ?_
                    clear hB
                    try clear locs
                    try clear H
                    intro r5 u5 H locs hp hB
                    obtain ⟨N95, o95⟩ := u5
                    have hp5 : r5 = bI (!(crO (N94 17) (N94 20) (N94 19) (N94 18))) ∧ (∀ k9, k9 ≠ 24 → k9 ≠ 23 → N95 k9 = N94 k9) ∧ (crO (N94 17) (N94 20) (N94 19) (N94 18) = false → N95 23 = crV (N94 17) (N94 20) (N94 19) (N94 18)) := hp
                    have HPP := hp5
                    replace hB : zB D A s ([((bd 3), .inr (0, [.ref (bd 12), .ref (bd 13), .ref (bd 14), .ref (bd 15), .ref (bd 16), .ref (bd 17), .ref (na 21), .ref (na 22), .ref (na 23), .ref (na 24)])), ((bd 12), .inr (2, [.int (bI o95), .ref (na 28), .ref (na 29), .ref (na 30)])), ((bd 15), .inl (ka 3, 6, .inr (.inr (.inr (.inr (nR na 8)))))), ((bd 16), .inl (ka 3, 3, .inr (.inr (.inr (.inr (nR na 14)))))), ((bd 17), .inl (ka 3, 4, .inr (.inr (.inr (.inr (nR na 17))))))] ++ nP na N95) H locs := zB_pool hB rfl rfl rfl rfl
                    have hC := HPP
                    rw [w3_0, w3_3, w3_2, w3_1] at hC
                    refine lv_if_ne (tgt := 77) hx hb dX0_unbalance_71 (by decide) (fun h71 => ?_) (fun h71 => ?_)
                    · skip
                      have oD : crO (efV (gC N) pm pa 0 0) (efV (gC N) pm pa 1 1) (efV (gC N) pm pa 1 0) (efV (gC N) pm pa 0 1) = false := by have e8 := bI_ne0 (fun e9 => h71 (hC.1.trans e9)); simp only [Bool.not_eq_true'] at e8; exact e8
                      have hFo : foO (gC N) pm pa = false := by rw [foO, o0, o1, o2, o3, oD] <;> rfl
                      have wD : N95 23 = foD (gC N) pm pa := hC.2.2 oD
                      have x0 : N95 17 = efV (gC N) pm pa 0 0 := (hC.2.1 17 (by decide) (by decide)).trans w3_0
                      have x1 : N95 18 = efV (gC N) pm pa 0 1 := (hC.2.1 18 (by decide) (by decide)).trans w3_1
                      have x2 : N95 19 = efV (gC N) pm pa 1 0 := (hC.2.1 19 (by decide) (by decide)).trans w3_2
                      have x3 : N95 20 = efV (gC N) pm pa 1 1 := (hC.2.1 20 (by decide) (by decide)).trans w3_3
                      have kD : ∀ k9, k9 < 17 → k9 ≠ 6 → N95 k9 = N k9 := fun k9 h0 h6 => (hC.2.1 k9 (by omega) (by omega)).trans (k203 k9 h0 h6)
                      have x8 : N95 8 = gC N 6 := kD 8 (by decide) (by decide)
                      have x9 : N95 9 = gC N 7 := kD 9 (by decide) (by decide)
                      have dD : 0 < (foD (gC N) pm pa).2.2.2.2.toInt := crV_d oD d0 d3 d2 d1
                      refine lv_aload_n hx hb dX0_unbalance_77 rfl (lv_at hl 1 rfl) ?_
                      refine zget zf_X0_46 hF hB 0 rfl rfl dX0_unbalance_78 ?_
                      refine zVi zm_X0_105 hF hB (c_X1_isZero l D ka kb (na 23) (N95 23) ) [5 + 23] (zsel_num rfl (by decide)) (va_nd_1 _) [na 23] (fun _ => rfl) rfl (5 + 23) 1 rfl (nP_atn rfl (by decide)) rfl ⟨Nat.le_of_ble_eq_true rfl, Nat.le_of_ble_eq_true rfl⟩ rfl hl.1 (Nat.le_of_ble_eq_true rfl) ⟨Nat.le_refl _, Nat.le_refl _⟩ dX0_unbalance_81 ?_
                      clear hB
                      try clear locs
                      try clear H
                      intro r6 u6 H locs hp hB
                      obtain rfl : r6 = bI (zeroN (N95 23)) := hp
                      replace hB : zB D A s ([((bd 3), .inr (0, [.ref (bd 12), .ref (bd 13), .ref (bd 14), .ref (bd 15), .ref (bd 16), .ref (bd 17), .ref (na 21), .ref (na 22), .ref (na 23), .ref (na 24)])), ((bd 12), .inr (2, [.int (bI o95), .ref (na 28), .ref (na 29), .ref (na 30)])), ((bd 15), .inl (ka 3, 6, .inr (.inr (.inr (.inr (nR na 8)))))), ((bd 16), .inl (ka 3, 3, .inr (.inr (.inr (.inr (nR na 14)))))), ((bd 17), .inl (ka 3, 4, .inr (.inr (.inr (.inr (nR na 17))))))] ++ nP na N95) H locs := (by have e9 := zB_num (X := (N95 23)) hB rfl (by decide); rw [upN_id] at e9; exact e9)
                      refine lv_if_eq (tgt := 90) hx hb dX0_unbalance_84 (by decide) (fun h84 => ?_) (fun h84 => ?_)
                      · skip
                        have hzD : zeroN (foD (gC N) pm pa) = false := by have e8 := bI_eq0 h84; rw [wD] at e8; exact e8
                        refine lv_aload_n hx hb dX0_unbalance_90 rfl (lv_at hl 1 rfl) ?_
                        refine lv_iconst (v := 0) hx hb dX0_unbalance_91 (by decide) ?_
                        refine lv_iconst (v := 0) hx hb dX0_unbalance_92 (by decide) ?_
                        refine zVr zm_X0_59 hF hB (c_X0_readingOf l D ka kb bd na 0 0 (by decide) (by decide)) [0, 2] rfl (by decide) [(bd 3), (bd 15)] (fun _ => rfl) rfl 0 0 rfl rfl rfl ⟨Nat.le_of_ble_eq_true rfl, Nat.le_of_ble_eq_true rfl⟩ rfl hl.1 (Nat.le_of_ble_eq_true rfl) ⟨Nat.le_refl _, Nat.le_refl _⟩ dX0_unbalance_93 ?_
                        clear hB
                        try clear locs
                        try clear H
                        intro u7 H locs hp hB
                        replace hB : zB D A s ([((bd 3), .inr (0, [.ref (bd 12), .ref (bd 13), .ref (bd 14), .ref (bd 15), .ref (bd 16), .ref (bd 17), .ref (na 21), .ref (na 22), .ref (na 23), .ref (na 24)])), ((bd 12), .inr (2, [.int (bI o95), .ref (na 28), .ref (na 29), .ref (na 30)])), ((bd 15), .inl (ka 3, 6, .inr (.inr (.inr (.inr (nR na 8)))))), ((bd 16), .inl (ka 3, 3, .inr (.inr (.inr (.inr (nR na 14)))))), ((bd 17), .inl (ka 3, 4, .inr (.inr (.inr (.inr (nR na 17))))))] ++ nP na N95) H locs := hB
                        refine lv_astore_n (lv' := [(3, .ref (na (8 + (2 * 0 + 0)))), (0, .ref (bd 3)), (1, .int (nI p9)), (2, .ref (na 6))]) hx hb dX0_unbalance_96 rfl hl (by decide) rfl ?_
                        clear hl
                        clear ls
                        intro ls hl
                        refine lv_aload_n hx hb dX0_unbalance_97 rfl (lv_at hl 1 rfl) ?_
                        refine lv_iconst (v := 0) hx hb dX0_unbalance_98 (by decide) ?_
                        refine lv_iconst (v := 1) hx hb dX0_unbalance_99 (by decide) ?_
                        refine zVr zm_X0_59 hF hB (c_X0_readingOf l D ka kb bd na 0 1 (by decide) (by decide)) [0, 2] rfl (by decide) [(bd 3), (bd 15)] (fun _ => rfl) rfl 0 0 rfl rfl rfl ⟨Nat.le_of_ble_eq_true rfl, Nat.le_of_ble_eq_true rfl⟩ rfl hl.1 (Nat.le_of_ble_eq_true rfl) ⟨Nat.le_refl _, Nat.le_refl _⟩ dX0_unbalance_100 ?_
                        clear hB
                        try clear locs
                        try clear H
                        intro u8 H locs hp hB
                        replace hB : zB D A s ([((bd 3), .inr (0, [.ref (bd 12), .ref (bd 13), .ref (bd 14), .ref (bd 15), .ref (bd 16), .ref (bd 17), .ref (na 21), .ref (na 22), .ref (na 23), .ref (na 24)])), ((bd 12), .inr (2, [.int (bI o95), .ref (na 28), .ref (na 29), .ref (na 30)])), ((bd 15), .inl (ka 3, 6, .inr (.inr (.inr (.inr (nR na 8)))))), ((bd 16), .inl (ka 3, 3, .inr (.inr (.inr (.inr (nR na 14)))))), ((bd 17), .inl (ka 3, 4, .inr (.inr (.inr (.inr (nR na 17))))))] ++ nP na N95) H locs := hB
                        refine lv_astore (lv' := [(4, .ref (na (8 + (2 * 0 + 1)))), (3, .ref (na (8 + (2 * 0 + 0)))), (0, .ref (bd 3)), (1, .int (nI p9)), (2, .ref (na 6))]) hx hb dX0_unbalance_103 hl (by decide) rfl ?_
                        clear hl
                        clear ls
                        intro ls hl
                        refine lv_iload_n hx hb dX0_unbalance_105 rfl (lv_at hl 3 rfl) ?_
                        refine lv_if_ne (tgt := 132) hx hb dX0_unbalance_106 (by decide) (fun h106 => ?_) (fun h106 => ?_)
                        · skip
                          have hpn : p9 ≠ 0 := fun e8 => h106 (by rw [e8]; rfl)
                          have ha0 : ¬ aN (nI p9) = 0 := by rw [aNn hp9 (by decide)]; exact hpn
                          refine lv_aload_n hx hb dX0_unbalance_132 rfl (lv_at hl 2 rfl) ?_
                          refine lv_aload_n hx hb dX0_unbalance_133 rfl (lv_at hl 2 rfl) ?_
                          refine zget zf_X0_35 hF hB 0 rfl rfl dX0_unbalance_134 ?_
                          refine lv_iconst (v := 0) hx hb dX0_unbalance_137 (by decide) ?_
                          refine zaald hF hB 4 rfl (t0 := 3) rfl 0 (by decide) (by decide) (by decide) (r := na 17) (rfl) dX0_unbalance_138 ?_
                          refine lv_aload hx hb dX0_unbalance_139 (lv_at hl 0 rfl) ?_
                          refine lv_aload_n hx hb dX0_unbalance_141 rfl (lv_at hl 1 rfl) ?_
                          refine lv_aload_n hx hb dX0_unbalance_142 rfl (lv_at hl 2 rfl) ?_
                          refine zget zf_X0_35 hF hB 0 rfl rfl dX0_unbalance_143 ?_
                          refine lv_iconst (v := 1) hx hb dX0_unbalance_146 (by decide) ?_
                          refine zaald hF hB 4 rfl (t0 := 3) rfl 1 (by decide) (by decide) (by decide) (r := na 18) (rfl) dX0_unbalance_147 ?_
                          refine lv_aload_n hx hb dX0_unbalance_148 rfl (lv_at hl 4 rfl) ?_
                          refine zVi zm_X0_101 hF hB (c_X0_cross l D ka kb bd na o95 N95 17 (8 + (2 * 0 + 1)) (8 + (2 * 0 + 0)) 18 6 (by decide) (by decide) (by decide) (by decide) (by decide) (by rw [x0]; exact d0) (by rw [x9]; exact hG 1 (by decide)) (by rw [x8]; exact hG 0 (by decide)) (by rw [x1]; exact d1)) ([0, 1] ++ npr 5) (zsel_pool rfl rfl) (va_nd_pool rfl rfl) ([(bd 3), (bd 12)] ++ nA na) (fun _ => zad_pool rfl) (zad_pool rfl) 0 0 rfl rfl rfl ⟨Nat.le_of_ble_eq_true rfl, Nat.le_of_ble_eq_true rfl⟩ rfl hl.1 (Nat.le_of_ble_eq_true rfl) ⟨Nat.le_refl _, Nat.le_refl _⟩ dX0_unbalance_149 ?_
                          clear hB
                          try clear locs
                          try clear H
                          intro r9 u9 H locs hp hB
                          obtain ⟨N99, o99⟩ := u9
                          have hp9 : r9 = bI (!(crO (N95 17) (N95 (8 + (2 * 0 + 1))) (N95 (8 + (2 * 0 + 0))) (N95 18))) ∧ (∀ k9, k9 ≠ 24 → k9 ≠ 6 → N99 k9 = N95 k9) ∧ (crO (N95 17) (N95 (8 + (2 * 0 + 1))) (N95 (8 + (2 * 0 + 0))) (N95 18) = false → N99 6 = crV (N95 17) (N95 (8 + (2 * 0 + 1))) (N95 (8 + (2 * 0 + 0))) (N95 18)) := hp
                          have HPP := hp9
                          replace hB : zB D A s ([((bd 3), .inr (0, [.ref (bd 12), .ref (bd 13), .ref (bd 14), .ref (bd 15), .ref (bd 16), .ref (bd 17), .ref (na 21), .ref (na 22), .ref (na 23), .ref (na 24)])), ((bd 12), .inr (2, [.int (bI o99), .ref (na 28), .ref (na 29), .ref (na 30)])), ((bd 15), .inl (ka 3, 6, .inr (.inr (.inr (.inr (nR na 8)))))), ((bd 16), .inl (ka 3, 3, .inr (.inr (.inr (.inr (nR na 14)))))), ((bd 17), .inl (ka 3, 4, .inr (.inr (.inr (.inr (nR na 17))))))] ++ nP na N99) H locs := zB_pool hB rfl rfl rfl rfl
                          have hE := HPP
                          rw [x8, x9, x0, x1] at hE
                          refine lv_istore (lv' := [(5, .int r9), (4, .ref (na (8 + (2 * 0 + 1)))), (3, .ref (na (8 + (2 * 0 + 0)))), (0, .ref (bd 3)), (1, .int (nI p9)), (2, .ref (na 6))]) hx hb dX0_unbalance_152 hl (by decide) rfl ?_
                          clear hl
                          clear ls
                          intro ls hl
                          refine lv_iload hx hb dX0_unbalance_154 (lv_at hl 0 rfl) ?_
                          refine lv_if_eq (tgt := 179) hx hb dX0_unbalance_156 (by decide) (fun h156 => ?_) (fun h156 => ?_)
                          · skip
                            have oE : crO (efV (gC N) pm pa 0 0) (gC N 7) (gC N 6) (efV (gC N) pm pa 0 1) = true := by have e8 := bI_eq0 (hE.1.symm.trans h156); simp only [Bool.not_eq_false'] at e8; exact e8
                            have hq9 : (fnO (nI p9) (gC N) pm pa || quoO (fnV (nI p9) (gC N) pm pa) (foD (gC N) pm pa)) = true := by rw [fnO, if_neg ha0, oE, Bool.true_or]
                            have kx : ∀ k9, k9 < 17 → k9 ≠ 6 → N99 k9 = N k9 := fun k9 h0 h6 => (hE.2.1 k9 (by omega) h6).trans (kD k9 h0 h6)
                            refine lv_bipush (v := -5) hx hb dX0_unbalance_179 (by decide) ?_
                            exact zreti hF hB (N99, o99) (⟨by rw [ubR, hFo, if_neg (by decide), hzD, if_neg (by decide), hq9, if_pos rfl], kx, fun e8 => absurd e8 (by decide)⟩) (rfl) (rfl) dX0_unbalance_181 hQ
                          · skip
                            have oE : crO (efV (gC N) pm pa 0 0) (gC N 7) (gC N 6) (efV (gC N) pm pa 0 1) = false := by have e8 := bI_ne0 (fun e9 => h156 (hE.1.trans e9)); simp only [Bool.not_eq_true'] at e8; exact e8
                            have hfo : fnO (nI p9) (gC N) pm pa = false := by rw [fnO, if_neg ha0, oE]
                            have y6 : N99 6 = fnV (nI p9) (gC N) pm pa := by rw [fnV, if_neg ha0]; exact hE.2.2 oE
                            have yD : N99 23 = foD (gC N) pm pa := (hE.2.1 23 (by decide) (by decide)).trans wD
                            have dV : 0 < (fnV (nI p9) (gC N) pm pa).2.2.2.2.toInt := by rw [fnV, if_neg ha0]; exact crV_d oE d0 (hG 1 (by decide)) (hG 0 (by decide)) d1
                            refine lv_aload_n hx hb dX0_unbalance_159 rfl (lv_at hl 3 rfl) ?_
                            refine zget zf_X0_12 hF hB 0 rfl rfl dX0_unbalance_160 ?_
                            refine lv_aload_n hx hb dX0_unbalance_163 rfl (lv_at hl 5 rfl) ?_
                            refine lv_aload_n hx hb dX0_unbalance_164 rfl (lv_at hl 3 rfl) ?_
                            refine zget zf_X0_46 hF hB 0 rfl rfl dX0_unbalance_165 ?_
                            refine lv_aload_n hx hb dX0_unbalance_168 rfl (lv_at hl 5 rfl) ?_
                            refine zVi zm_X0_94 hF hB (c_X2_quotient l D ka kb (bd 12) na o99 28 29 30 N99 6 6 23 (by decide) (by decide) (by decide) (by rw [y6]; exact dV) (by rw [yD]; exact dD) (by rw [yD]; exact hzD) (by decide) (by decide) (by decide) (by decide)) ([1] ++ npr 5) (zsel_pool rfl rfl) (va_nd_pool rfl rfl) ([(bd 12)] ++ nA na) (fun _ => zad_pool rfl) (zad_pool rfl) 1 2 rfl rfl rfl ⟨Nat.le_of_ble_eq_true rfl, Nat.le_of_ble_eq_true rfl⟩ rfl hl.1 (Nat.le_of_ble_eq_true rfl) ⟨Nat.le_refl _, Nat.le_refl _⟩ dX0_unbalance_169 ?_
                            clear hB
                            try clear locs
                            try clear H
                            intro r10 u10 H locs hp hB
                            obtain ⟨N910, o910⟩ := u10
                            have hp10 : r10 = bI (!(quoO (N99 6) (N99 23))) ∧ (∀ k9, k9 ≠ 28 → k9 ≠ 29 → k9 ≠ 30 → k9 ≠ 6 → N910 k9 = N99 k9) ∧ N910 6 = (if quoO (N99 6) (N99 23) = true then N99 6 else quoV (N99 6) (N99 23)) := hp
                            have HPP := hp10
                            replace hB : zB D A s ([((bd 3), .inr (0, [.ref (bd 12), .ref (bd 13), .ref (bd 14), .ref (bd 15), .ref (bd 16), .ref (bd 17), .ref (na 21), .ref (na 22), .ref (na 23), .ref (na 24)])), ((bd 12), .inr (2, [.int (bI o910), .ref (na 28), .ref (na 29), .ref (na 30)])), ((bd 15), .inl (ka 3, 6, .inr (.inr (.inr (.inr (nR na 8)))))), ((bd 16), .inl (ka 3, 3, .inr (.inr (.inr (.inr (nR na 14)))))), ((bd 17), .inl (ka 3, 4, .inr (.inr (.inr (.inr (nR na 17))))))] ++ nP na N910) H locs := zB_pool hB rfl rfl rfl rfl
                            have hZ := HPP
                            rw [y6, yD] at hZ
                            refine lv_if_eq (tgt := 179) hx hb dX0_unbalance_172 (by decide) (fun h172 => ?_) (fun h172 => ?_)
                            · skip
                              have oQ : quoO (fnV (nI p9) (gC N) pm pa) (foD (gC N) pm pa) = true := by have e8 := bI_eq0 (hZ.1.symm.trans h172); simp only [Bool.not_eq_false'] at e8; exact e8
                              have hq9 : (fnO (nI p9) (gC N) pm pa || quoO (fnV (nI p9) (gC N) pm pa) (foD (gC N) pm pa)) = true := by rw [hfo, oQ] <;> rfl
                              have kx : ∀ k9, k9 < 17 → k9 ≠ 6 → N910 k9 = N k9 := fun k9 h0 h6 => (hZ.2.1 k9 (by omega) (by omega) (by omega) h6).trans ((hE.2.1 k9 (by omega) h6).trans (kD k9 h0 h6))
                              refine lv_bipush (v := -5) hx hb dX0_unbalance_179 (by decide) ?_
                              exact zreti hF hB (N910, o910) (⟨by rw [ubR, hFo, if_neg (by decide), hzD, if_neg (by decide), hq9, if_pos rfl], kx, fun e8 => absurd e8 (by decide)⟩) (rfl) (rfl) dX0_unbalance_181 hQ
                            · skip
                              have oQ : quoO (fnV (nI p9) (gC N) pm pa) (foD (gC N) pm pa) = false := by have e8 := bI_ne0 (fun e9 => h172 (hZ.1.trans e9)); simp only [Bool.not_eq_true'] at e8; exact e8
                              have hq9 : (fnO (nI p9) (gC N) pm pa || quoO (fnV (nI p9) (gC N) pm pa) (foD (gC N) pm pa)) = false := by rw [hfo, oQ] <;> rfl
                              have kx : ∀ k9, k9 < 17 → k9 ≠ 6 → N910 k9 = N k9 := fun k9 h0 h6 => (hZ.2.1 k9 (by omega) (by omega) (by omega) h6).trans ((hE.2.1 k9 (by omega) h6).trans (kD k9 h0 h6))
                              refine lv_iconst (v := 1) hx hb dX0_unbalance_175 (by decide) ?_
                              refine lv_goto (tgt := 181) hx hb dX0_unbalance_176 (by decide) ?_
                              exact zreti hF hB (N910, o910) (⟨by rw [ubR, hFo, if_neg (by decide), hzD, if_neg (by decide), hq9, if_neg (by decide)], kx, fun _ => by
                                show N910 6 = _
                                rw [hZ.2.2, if_neg (by rw [oQ]; decide)]⟩) (rfl) (rfl) dX0_unbalance_181 hQ
                        · skip
                          have hpn : p9 = 0 := (nI_eq (b := 0) (by omega) (by decide)).mp h106
                          have ha0 : aN (nI p9) = 0 := by rw [aNn hp9 (by decide)]; exact hpn
                          refine lv_aload_n hx hb dX0_unbalance_109 rfl (lv_at hl 2 rfl) ?_
                          refine lv_aload_n hx hb dX0_unbalance_110 rfl (lv_at hl 1 rfl) ?_
                          refine lv_aload_n hx hb dX0_unbalance_111 rfl (lv_at hl 2 rfl) ?_
                          refine zget zf_X0_35 hF hB 0 rfl rfl dX0_unbalance_112 ?_
                          refine lv_iconst (v := 3) hx hb dX0_unbalance_115 (by decide) ?_
                          refine zaald hF hB 4 rfl (t0 := 3) rfl 3 (by decide) (by decide) (by decide) (r := na 20) (rfl) dX0_unbalance_116 ?_
                          refine lv_aload_n hx hb dX0_unbalance_117 rfl (lv_at hl 2 rfl) ?_
                          refine zget zf_X0_35 hF hB 0 rfl rfl dX0_unbalance_118 ?_
                          refine lv_iconst (v := 2) hx hb dX0_unbalance_121 (by decide) ?_
                          refine zaald hF hB 4 rfl (t0 := 3) rfl 2 (by decide) (by decide) (by decide) (r := na 19) (rfl) dX0_unbalance_122 ?_
                          refine lv_aload hx hb dX0_unbalance_123 (lv_at hl 0 rfl) ?_
                          refine lv_aload_n hx hb dX0_unbalance_125 rfl (lv_at hl 4 rfl) ?_
                          refine zVi zm_X0_101 hF hB (c_X0_cross l D ka kb bd na o95 N95 (8 + (2 * 0 + 0)) 20 19 (8 + (2 * 0 + 1)) 6 (by decide) (by decide) (by decide) (by decide) (by decide) (by rw [x8]; exact hG 0 (by decide)) (by rw [x3]; exact d3) (by rw [x2]; exact d2) (by rw [x9]; exact hG 1 (by decide))) ([0, 1] ++ npr 5) (zsel_pool rfl rfl) (va_nd_pool rfl rfl) ([(bd 3), (bd 12)] ++ nA na) (fun _ => zad_pool rfl) (zad_pool rfl) 0 0 rfl rfl rfl ⟨Nat.le_of_ble_eq_true rfl, Nat.le_of_ble_eq_true rfl⟩ rfl hl.1 (Nat.le_of_ble_eq_true rfl) ⟨Nat.le_refl _, Nat.le_refl _⟩ dX0_unbalance_126 ?_
                          clear hB
                          try clear locs
                          try clear H
                          intro r11 u11 H locs hp hB
                          obtain ⟨N911, o911⟩ := u11
                          have hp11 : r11 = bI (!(crO (N95 (8 + (2 * 0 + 0))) (N95 20) (N95 19) (N95 (8 + (2 * 0 + 1))))) ∧ (∀ k9, k9 ≠ 24 → k9 ≠ 6 → N911 k9 = N95 k9) ∧ (crO (N95 (8 + (2 * 0 + 0))) (N95 20) (N95 19) (N95 (8 + (2 * 0 + 1))) = false → N911 6 = crV (N95 (8 + (2 * 0 + 0))) (N95 20) (N95 19) (N95 (8 + (2 * 0 + 1)))) := hp
                          have HPP := hp11
                          replace hB : zB D A s ([((bd 3), .inr (0, [.ref (bd 12), .ref (bd 13), .ref (bd 14), .ref (bd 15), .ref (bd 16), .ref (bd 17), .ref (na 21), .ref (na 22), .ref (na 23), .ref (na 24)])), ((bd 12), .inr (2, [.int (bI o911), .ref (na 28), .ref (na 29), .ref (na 30)])), ((bd 15), .inl (ka 3, 6, .inr (.inr (.inr (.inr (nR na 8)))))), ((bd 16), .inl (ka 3, 3, .inr (.inr (.inr (.inr (nR na 14)))))), ((bd 17), .inl (ka 3, 4, .inr (.inr (.inr (.inr (nR na 17))))))] ++ nP na N911) H locs := zB_pool hB rfl rfl rfl rfl
                          have hE := HPP
                          rw [x8, x9, x2, x3] at hE
                          refine lv_goto (tgt := 152) hx hb dX0_unbalance_129 (by decide) ?_
                          refine lv_istore (lv' := [(5, .int r11), (4, .ref (na (8 + (2 * 0 + 1)))), (3, .ref (na (8 + (2 * 0 + 0)))), (0, .ref (bd 3)), (1, .int (nI p9)), (2, .ref (na 6))]) hx hb dX0_unbalance_152 hl (by decide) rfl ?_
                          clear hl
                          clear ls
                          intro ls hl
                          refine lv_iload hx hb dX0_unbalance_154 (lv_at hl 0 rfl) ?_
                          refine lv_if_eq (tgt := 179) hx hb dX0_unbalance_156 (by decide) (fun h156 => ?_) (fun h156 => ?_)
                          · skip
                            have oE : crO (gC N 6) (efV (gC N) pm pa 1 1) (efV (gC N) pm pa 1 0) (gC N 7) = true := by have e8 := bI_eq0 (hE.1.symm.trans h156); simp only [Bool.not_eq_false'] at e8; exact e8
                            have hq9 : (fnO (nI p9) (gC N) pm pa || quoO (fnV (nI p9) (gC N) pm pa) (foD (gC N) pm pa)) = true := by rw [fnO, if_pos ha0, oE, Bool.true_or]
                            have kx : ∀ k9, k9 < 17 → k9 ≠ 6 → N911 k9 = N k9 := fun k9 h0 h6 => (hE.2.1 k9 (by omega) h6).trans (kD k9 h0 h6)
                            refine lv_bipush (v := -5) hx hb dX0_unbalance_179 (by decide) ?_
                            exact zreti hF hB (N911, o911) (⟨by rw [ubR, hFo, if_neg (by decide), hzD, if_neg (by decide), hq9, if_pos rfl], kx, fun e8 => absurd e8 (by decide)⟩) (rfl) (rfl) dX0_unbalance_181 hQ
                          · skip
                            have oE : crO (gC N 6) (efV (gC N) pm pa 1 1) (efV (gC N) pm pa 1 0) (gC N 7) = false := by have e8 := bI_ne0 (fun e9 => h156 (hE.1.trans e9)); simp only [Bool.not_eq_true'] at e8; exact e8
                            have hfo : fnO (nI p9) (gC N) pm pa = false := by rw [fnO, if_pos ha0, oE]
                            have y6 : N911 6 = fnV (nI p9) (gC N) pm pa := by rw [fnV, if_pos ha0]; exact hE.2.2 oE
                            have yD : N911 23 = foD (gC N) pm pa := (hE.2.1 23 (by decide) (by decide)).trans wD
                            have dV : 0 < (fnV (nI p9) (gC N) pm pa).2.2.2.2.toInt := by rw [fnV, if_pos ha0]; exact crV_d oE (hG 0 (by decide)) d3 d2 (hG 1 (by decide))
                            refine lv_aload_n hx hb dX0_unbalance_159 rfl (lv_at hl 3 rfl) ?_
                            refine zget zf_X0_12 hF hB 0 rfl rfl dX0_unbalance_160 ?_
                            refine lv_aload_n hx hb dX0_unbalance_163 rfl (lv_at hl 5 rfl) ?_
                            refine lv_aload_n hx hb dX0_unbalance_164 rfl (lv_at hl 3 rfl) ?_
                            refine zget zf_X0_46 hF hB 0 rfl rfl dX0_unbalance_165 ?_
                            refine lv_aload_n hx hb dX0_unbalance_168 rfl (lv_at hl 5 rfl) ?_
                            refine zVi zm_X0_94 hF hB (c_X2_quotient l D ka kb (bd 12) na o911 28 29 30 N911 6 6 23 (by decide) (by decide) (by decide) (by rw [y6]; exact dV) (by rw [yD]; exact dD) (by rw [yD]; exact hzD) (by decide) (by decide) (by decide) (by decide)) ([1] ++ npr 5) (zsel_pool rfl rfl) (va_nd_pool rfl rfl) ([(bd 12)] ++ nA na) (fun _ => zad_pool rfl) (zad_pool rfl) 1 2 rfl rfl rfl ⟨Nat.le_of_ble_eq_true rfl, Nat.le_of_ble_eq_true rfl⟩ rfl hl.1 (Nat.le_of_ble_eq_true rfl) ⟨Nat.le_refl _, Nat.le_refl _⟩ dX0_unbalance_169 ?_
                            clear hB
                            try clear locs
                            try clear H
                            intro r12 u12 H locs hp hB
                            obtain ⟨N912, o912⟩ := u12
                            have hp12 : r12 = bI (!(quoO (N911 6) (N911 23))) ∧ (∀ k9, k9 ≠ 28 → k9 ≠ 29 → k9 ≠ 30 → k9 ≠ 6 → N912 k9 = N911 k9) ∧ N912 6 = (if quoO (N911 6) (N911 23) = true then N911 6 else quoV (N911 6) (N911 23)) := hp
                            have HPP := hp12
                            replace hB : zB D A s ([((bd 3), .inr (0, [.ref (bd 12), .ref (bd 13), .ref (bd 14), .ref (bd 15), .ref (bd 16), .ref (bd 17), .ref (na 21), .ref (na 22), .ref (na 23), .ref (na 24)])), ((bd 12), .inr (2, [.int (bI o912), .ref (na 28), .ref (na 29), .ref (na 30)])), ((bd 15), .inl (ka 3, 6, .inr (.inr (.inr (.inr (nR na 8)))))), ((bd 16), .inl (ka 3, 3, .inr (.inr (.inr (.inr (nR na 14)))))), ((bd 17), .inl (ka 3, 4, .inr (.inr (.inr (.inr (nR na 17))))))] ++ nP na N912) H locs := zB_pool hB rfl rfl rfl rfl
                            have hZ := HPP
                            rw [y6, yD] at hZ
                            refine lv_if_eq (tgt := 179) hx hb dX0_unbalance_172 (by decide) (fun h172 => ?_) (fun h172 => ?_)
                            · skip
                              have oQ : quoO (fnV (nI p9) (gC N) pm pa) (foD (gC N) pm pa) = true := by have e8 := bI_eq0 (hZ.1.symm.trans h172); simp only [Bool.not_eq_false'] at e8; exact e8
                              have hq9 : (fnO (nI p9) (gC N) pm pa || quoO (fnV (nI p9) (gC N) pm pa) (foD (gC N) pm pa)) = true := by rw [hfo, oQ] <;> rfl
                              have kx : ∀ k9, k9 < 17 → k9 ≠ 6 → N912 k9 = N k9 := fun k9 h0 h6 => (hZ.2.1 k9 (by omega) (by omega) (by omega) h6).trans ((hE.2.1 k9 (by omega) h6).trans (kD k9 h0 h6))
                              refine lv_bipush (v := -5) hx hb dX0_unbalance_179 (by decide) ?_
                              exact zreti hF hB (N912, o912) (⟨by rw [ubR, hFo, if_neg (by decide), hzD, if_neg (by decide), hq9, if_pos rfl], kx, fun e8 => absurd e8 (by decide)⟩) (rfl) (rfl) dX0_unbalance_181 hQ
                            · skip
                              have oQ : quoO (fnV (nI p9) (gC N) pm pa) (foD (gC N) pm pa) = false := by have e8 := bI_ne0 (fun e9 => h172 (hZ.1.trans e9)); simp only [Bool.not_eq_true'] at e8; exact e8
                              have hq9 : (fnO (nI p9) (gC N) pm pa || quoO (fnV (nI p9) (gC N) pm pa) (foD (gC N) pm pa)) = false := by rw [hfo, oQ] <;> rfl
                              have kx : ∀ k9, k9 < 17 → k9 ≠ 6 → N912 k9 = N k9 := fun k9 h0 h6 => (hZ.2.1 k9 (by omega) (by omega) (by omega) h6).trans ((hE.2.1 k9 (by omega) h6).trans (kD k9 h0 h6))
                              refine lv_iconst (v := 1) hx hb dX0_unbalance_175 (by decide) ?_
                              refine lv_goto (tgt := 181) hx hb dX0_unbalance_176 (by decide) ?_
                              exact zreti hF hB (N912, o912) (⟨by rw [ubR, hFo, if_neg (by decide), hzD, if_neg (by decide), hq9, if_neg (by decide)], kx, fun _ => by
                                show N912 6 = _
                                rw [hZ.2.2, if_neg (by rw [oQ]; decide)]⟩) (rfl) (rfl) dX0_unbalance_181 hQ
                      · skip
                        have hzD : zeroN (foD (gC N) pm pa) = true := by have e8 := bI_ne0 h84; rw [wD] at e8; exact e8
                        have kx := kD
                        refine lv_bipush (v := -6) hx hb dX0_unbalance_87 (by decide) ?_
                        exact zreti hF hB (N95, o95) (⟨by rw [ubR, hFo, if_neg (by decide), hzD, if_pos rfl], kx, fun e8 => absurd e8 (by decide)⟩) (rfl) (rfl) dX0_unbalance_89 hQ
                    · skip
                      have oD : crO (efV (gC N) pm pa 0 0) (efV (gC N) pm pa 1 1) (efV (gC N) pm pa 1 0) (efV (gC N) pm pa 0 1) = true := by have e8 := bI_eq0 (hC.1.symm.trans h71); simp only [Bool.not_eq_false'] at e8; exact e8
                      have hq9 : foO (gC N) pm pa = true := by rw [foO, oD, Bool.or_true]
                      have kx : ∀ k9, k9 < 17 → k9 ≠ 6 → N95 k9 = N k9 := fun k9 h0 h6 => (hC.2.1 k9 (by omega) (by omega)).trans (k203 k9 h0 h6)
                      refine lv_bipush (v := -5) hx hb dX0_unbalance_74 (by decide) ?_
                      exact zreti hF hB (N95, o95) (⟨by rw [ubR, hq9, if_pos rfl], kx, fun e8 => absurd e8 (by decide)⟩) (rfl) (rfl) dX0_unbalance_76 hQ
                  · skip
                    exact absurd (by decide) h8
                · skip
                  have o3 : efO (gC N) pm pa 1 1 = true := by have e8 := bI_eq0 (h103.1.symm.trans h27); simp only [Bool.not_eq_false'] at e8; rw [c3] at e8; exact e8
                  have hq9 : foO (gC N) pm pa = true := by rw [foO, o0, o1, o2, o3]; simp
                  have kx : ∀ k9, k9 < 17 → k9 ≠ 6 → N94 k9 = N k9 := fun k9 h0 h6 => (h103.2.1 k9 (by omega) (by omega) (by omega) (by omega)).trans (k202 k9 h0 h6)
                  refine lv_bipush (v := -5) hx hb dX0_unbalance_30 (by decide) ?_
                  exact zreti hF hB (N94, o94) (⟨by rw [ubR, hq9, if_pos rfl], kx, fun e8 => absurd e8 (by decide)⟩) (rfl) (rfl) dX0_unbalance_32 hQ
            · skip
              have o2 : efO (gC N) pm pa 1 0 = true := by have e8 := bI_eq0 (h102.1.symm.trans h27); simp only [Bool.not_eq_false'] at e8; rw [c2] at e8; exact e8
              have hq9 : foO (gC N) pm pa = true := by rw [foO, o0, o1, o2]; simp
              have kx : ∀ k9, k9 < 17 → k9 ≠ 6 → N93 k9 = N k9 := fun k9 h0 h6 => (h102.2.1 k9 (by omega) (by omega) (by omega) (by omega)).trans (k201 k9 h0 h6)
              refine lv_bipush (v := -5) hx hb dX0_unbalance_30 (by decide) ?_
              exact zreti hF hB (N93, o93) (⟨by rw [ubR, hq9, if_pos rfl], kx, fun e8 => absurd e8 (by decide)⟩) (rfl) (rfl) dX0_unbalance_32 hQ
        · skip
          have o1 : efO (gC N) pm pa 0 1 = true := by have e8 := bI_eq0 (h101.1.symm.trans h27); simp only [Bool.not_eq_false'] at e8; rw [c1] at e8; exact e8
          have hq9 : foO (gC N) pm pa = true := by rw [foO, o0, o1]; simp
          have kx : ∀ k9, k9 < 17 → k9 ≠ 6 → N92 k9 = N k9 := fun k9 h0 h6 => (h101.2.1 k9 (by omega) (by omega) (by omega) (by omega)).trans (k200 k9 h0 h6)
          refine lv_bipush (v := -5) hx hb dX0_unbalance_30 (by decide) ?_
          exact zreti hF hB (N92, o92) (⟨by rw [ubR, hq9, if_pos rfl], kx, fun e8 => absurd e8 (by decide)⟩) (rfl) (rfl) dX0_unbalance_32 hQ
    · skip
      have o0 : efO (gC N) pm pa 0 0 = true := by have e8 := bI_eq0 (h100.1.symm.trans h27); simp only [Bool.not_eq_false'] at e8; rw [c0] at e8; exact e8
      have hq9 : foO (gC N) pm pa = true := by rw [foO, o0]; simp
      have kx : ∀ k9, k9 < 17 → k9 ≠ 6 → N91 k9 = N k9 := fun k9 h0 h6 => (h100.2.1 k9 (by omega) (by omega) (by omega) (by omega)).trans ((fun k9 _ _ => rfl : ∀ k9, k9 < 17 → k9 ≠ 6 → N k9 = N k9) k9 h0 h6)
      refine lv_bipush (v := -5) hx hb dX0_unbalance_30 (by decide) ?_
      exact zreti hF hB (N91, o91) (⟨by rw [ubR, hq9, if_pos rfl], kx, fun e8 => absurd e8 (by decide)⟩) (rfl) (rfl) dX0_unbalance_32 hQ

