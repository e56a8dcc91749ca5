theorem recO_f {X : N5} (h : recO X = false) : rcMo X = false ∧ rcNo X = false ∧ rcTo X = false := by
  unfold recO at h
  simp only [Bool.or_eq_false_iff] at h
  exact ⟨h.1.1.1.1.1, h.1.1.1.1.2, h.1.1.1.2⟩
set_option maxHeartbeats 4000000 in
set_option maxRecDepth 100000 in
theorem c_X8_quotient (l : Launch) (D : va_G) (ka : Nat → ClassId) (kb : Nat → Nat) (q : Nat) (ad : Nat → Nat) (z : mZ) (nu : Nat → Int64) (t : Nat) (i : Nat) (j : Nat) (ht : t < 40) (hi : i < 40) (hj : j < 40) (hiL : i ∉ [30, 31, 32, 33, 34, 35, 36, 37]) (hjL : j ∉ [30, 31, 32, 33, 34, 35, 36, 37]) (hz0 : zeroN (getN nu j) = false) (hdi : 0 < (nu (5 * i + 4)).toInt) : zV l D ka kb yX8_quotient cX8_quotient 4 4 144 [.ref q, .int (nI t), .int (nI i), .int (nI j)] ([(q, .inr (8, mO ad false z)), ((ad 3), .inl (ka 1, 200, .inr (.inl nu)))]) (fun (nu2 : Nat → Int64) => keepN [30, 31, 32, 33, 34, 35, 36, 37, t] nu nu2 ∧ (quoO (getN nu i) (getN nu j) = false → getN nu2 t = quoV (getN nu i) (getN nu j))) (fun (nu2 : Nat → Int64) => [(q, .inr (8, mO ad (quoO (getN nu i) (getN nu j)) z)), ((ad 3), .inl (ka 1, 200, .inr (.inl nu2)))]) := by
  refine zV.mk RX8 (by decide +kernel) rfl (Nat.le_of_ble_eq_true rfl) ?_
  intro p e s m below meth c A ls args Q hQ hx hb hF hB hl
  replace hl : lv_has ls 4 [(0, .ref q), (1, .int (nI t)), (2, .int (nI i)), (3, .int (nI j))] := hl
  refine lv_aload_n hx hb dX8_quotient_0 rfl (lv_at hl 0 rfl) ?_
  refine lv_bipush (v := 37) hx hb dX8_quotient_1 (by decide) ?_
  refine lv_iload_n hx hb dX8_quotient_3 rfl (lv_at hl 3 rfl) ?_
  refine zVv zm_X8_156 hF hB (c_X8_reciprocal l D ka kb q ad z nu 37 j (by decide) (hj) (hjL) (hz0)) [0, 1] rfl (by decide) [q, (ad 3)] (fun _ => rfl) rfl 0 8 rfl rfl rfl ⟨Nat.le_of_ble_eq_true rfl, Nat.le_of_ble_eq_true rfl⟩ rfl hl.1 (Nat.le_of_ble_eq_true rfl) ⟨Nat.le_refl _, Nat.le_refl _⟩ dX8_quotient_4 ?_
  clear hB
  try clear locs
  try clear H
  intro u1 H locs hp hB
  obtain ⟨nu21, rfl⟩ : ∃ z, z = u1 := ⟨_, rfl⟩
  have hp1 : keepN [30, 31, 32, 33, 34, 35, 36, 37] nu nu21 ∧ (recO (getN nu j) = false → getN nu21 37 = recV (getN nu j)) := hp
  have HPP := hp1
  replace hB : zB D A s ([(q, .inr (8, mO ad (recO (getN nu j)) z)), ((ad 3), .inl (ka 1, 200, .inr (.inl nu21)))]) H locs := hB
  obtain ⟨K1, R1⟩ := hp1
  have KK : keepN [30, 31, 32, 33, 34, 35, 36, 37, t] nu nu21 := K1.mono (by intro x9 h9; simp at h9 ⊢; omega)
  refine lv_aload_n hx hb dX8_quotient_7 rfl (lv_at hl 0 rfl) ?_
  refine zget zf_X8_105 hF hB 0 rfl rfl dX8_quotient_8 ?_
  refine lv_if_ne (tgt := 22) hx hb dX8_quotient_11 (by decide) (fun h11 => ?_) (fun h11 => ?_)
  · skip
    have hT : recO (getN nu j) = true := bI_ne0 h11
    rw [hT] at hB
    replace hB : zB D A s ([(q, .inr (8, mO ad true z)), ((ad 3), .inl (ka 1, 200, .inr (.inl nu21)))]) H locs := hB
    have hR : quoO (getN nu i) (getN nu j) = true := by unfold quoO; rw [hT]; rfl
    exact zretv hF hB nu21 (⟨KK, fun e9 => absurd (hR.symm.trans e9) (by decide)⟩) (by rw [hR]) dX8_quotient_22 hQ
  · skip
    have hT1 : recO (getN nu j) = false := bI_eq0 h11
    rw [hT1] at hB
    replace hB : zB D A s ([(q, .inr (8, mO ad false z)), ((ad 3), .inl (ka 1, 200, .inr (.inl nu21)))]) H locs := hB
    have R1 := R1 hT1
    have Xi : getN nu21 i = getN nu i := K1.get hiL
    have hd1 : 0 < (nu21 (5 * i + 4)).toInt := by rw [show nu21 (5 * i + 4) = nu (5 * i + 4) from congrArg (fun v : N5 => v.2.2.2.2) Xi]; exact hdi
    have hd2 : 0 < (nu21 (5 * 37 + 4)).toInt := by rw [show nu21 (5 * 37 + 4) = (recV (getN nu j)).2.2.2.2 from congrArg (fun v : N5 => v.2.2.2.2) R1]; have hq := recO_f hT1; exact lowN_d (rcT_pos hq.1 hq.2.1 hq.2.2 hz0)
    refine lv_aload_n hx hb dX8_quotient_14 rfl (lv_at hl 0 rfl) ?_
    refine lv_iload_n hx hb dX8_quotient_15 rfl (lv_at hl 1 rfl) ?_
    refine lv_iload_n hx hb dX8_quotient_16 rfl (lv_at hl 2 rfl) ?_
    refine lv_bipush (v := 37) hx hb dX8_quotient_17 (by decide) ?_
    refine zVv zm_X8_148 hF hB (c_X8_product l D ka kb q ad false z nu21 t i 37 (ht) (hi) (by decide) (hd1) (hd2)) [0, 1] rfl (by decide) [q, (ad 3)] (fun _ => rfl) rfl 0 8 rfl rfl rfl ⟨Nat.le_of_ble_eq_true rfl, Nat.le_of_ble_eq_true rfl⟩ rfl hl.1 (Nat.le_of_ble_eq_true rfl) ⟨Nat.le_refl _, Nat.le_refl _⟩ dX8_quotient_19 ?_
    clear hB
    try clear locs
    try clear H
    intro u2 H locs hp hB
    replace hB : zB D A s ([(q, .inr (8, mO ad (false || prodO (getN nu21 i) (getN nu21 37)) z)), ((ad 3), .inl (ka 1, 200, .inr (.inl (if (false || prodO (getN nu21 i) (getN nu21 37)) = true then nu21 else setN nu21 t (prodV (getN nu21 i) (getN nu21 37))))))]) H locs := hB
    have ho : (false || prodO (getN nu21 i) (getN nu21 37)) = prodO (getN nu i) (recV (getN nu j)) := by rw [Xi, R1]; rfl
    rw [ho, Xi, R1] at hB
    replace hB : zB D A s ([(q, .inr (8, mO ad (prodO (getN nu i) (recV (getN nu j))) z)), ((ad 3), .inl (ka 1, 200, .inr (.inl (if (prodO (getN nu i) (recV (getN nu j))) = true then nu21 else setN nu21 t (prodV (getN nu i) (recV (getN nu j)))))))]) H locs := hB
    generalize hn2 : (if (prodO (getN nu i) (recV (getN nu j))) = true then nu21 else setN nu21 t (prodV (getN nu i) (recV (getN nu j)))) = n2 at hB
    have KK : keepN [30, 31, 32, 33, 34, 35, 36, 37, t] nu n2 := by rw [← hn2]; split; exact KK; exact KK.set (by simp) _
    have GG : (recO (getN nu j) || prodO (getN nu i) (recV (getN nu j))) = false → getN n2 t = quoV (getN nu i) (getN nu j) := fun e9 => by rw [← hn2, (Bool.or_eq_false_iff.mp e9).2, if_neg Bool.false_ne_true, getN_same]; rfl
    exact zretv hF hB n2 (⟨KK, GG⟩) (by rw [show quoO (getN nu i) (getN nu j) = prodO (getN nu i) (recV (getN nu j)) from by unfold quoO; rw [hT1]; rfl]) dX8_quotient_22 hQ

set_option maxHeartbeats 4000000 in
set_option maxRecDepth 100000 in
theorem c_X8_moves (l : Launch) (D : va_G) (ka : Nat → ClassId) (kb : Nat → Nat) (q : Nat) (ad : Nat → Nat) (o : Bool) (z : mZ) (nu : Nat → Int64) (t : Nat) (f9 : Nat) (ht : t < 40) (hf : f9 < 40) (hne : t ≠ f9) : zV l D ka kb yX8_moves cX8_moves 4 1 22 [.ref q, .int (nI t), .int (nI f9)] ([(q, .inr (8, mO ad o z)), ((ad 3), .inl (ka 1, 200, .inr (.inl nu)))]) (fun (_ : Unit) => True) (fun (_ : Unit) => [(q, .inr (8, mO ad o z)), ((ad 3), .inl (ka 1, 200, .inr (.inl (setN nu t (getN nu f9)))))]) := by
  refine zV.mk RX8 (by decide +kernel) rfl (Nat.le_of_ble_eq_true rfl) ?_
  intro p e s m below meth c A ls args Q hQ hx hb hF hB hl
  replace hl : lv_has ls 4 [(0, .ref q), (1, .int (nI t)), (2, .int (nI f9))] := hl
  refine lv_iconst (v := 0) hx hb dX8_moves_0 (by decide) ?_
  refine lv_istore_n (lv' := [(3, .int (0 : Int32)), (0, .ref q), (1, .int (nI t)), (2, .int (nI f9))]) hx hb dX8_moves_1 rfl hl (by decide) rfl ?_
  clear hl
  clear ls
  intro ls hl
  refine lv_iload_n hx hb dX8_moves_2 rfl (lv_at hl 0 rfl) ?_
  refine lv_iconst (v := 5) hx hb dX8_moves_3 (by decide) ?_
  refine lv_icmp_ge (tgt := 29) hx hb dX8_moves_4 (by decide) (fun h4 => ?_) (fun h4 => ?_)
  · skip
    exact absurd h4 (by decide)
  · skip
    refine lv_aload_n hx hb dX8_moves_7 rfl (lv_at hl 1 rfl) ?_
    refine zget zf_X8_20 hF hB 0 rfl rfl dX8_moves_8 ?_
    refine lv_iconst (v := 5) hx hb dX8_moves_11 (by decide) ?_
    refine lv_iload_n hx hb dX8_moves_12 rfl (lv_at hl 2 rfl) ?_
    refine lv_imul hx hb dX8_moves_13 ?_
    refine ztopi (y := nI (5 * t)) (pk_mul 5 t) ?_
    refine lv_iload_n hx hb dX8_moves_14 rfl (lv_at hl 0 rfl) ?_
    refine lv_iadd hx hb dX8_moves_15 ?_
    refine ztopi (y := nI ((5 * t) + 0)) (nI_add (5 * t) 0) ?_
    refine lv_aload_n hx hb dX8_moves_16 rfl (lv_at hl 1 rfl) ?_
    refine lv_iload_n hx hb dX8_moves_17 rfl (lv_at hl 3 rfl) ?_
    refine lv_iload_n hx hb dX8_moves_18 rfl (lv_at hl 0 rfl) ?_
    refine zVl zm_X8_120 hF hB (c_X8_at l D ka kb q ad o z nu f9 0 (by omega) (by decide)) [0, 1] rfl (by decide) [q, (ad 3)] (fun _ => rfl) rfl 0 8 rfl rfl rfl ⟨Nat.le_of_ble_eq_true rfl, Nat.le_of_ble_eq_true rfl⟩ rfl hl.1 (Nat.le_of_ble_eq_true rfl) ⟨Nat.le_refl _, Nat.le_refl _⟩ dX8_moves_19 ?_
    clear hB
    try clear locs
    try clear H
    intro r1 u1 H locs hp hB
    obtain rfl : r1 = nu (5 * f9 + 0) := hp
    replace hB : zB D A s ([(q, .inr (8, mO ad o z)), ((ad 3), .inl (ka 1, 200, .inr (.inl nu)))]) H locs := hB
    refine ztopl (y := nu (5 * f9 + 0)) (by simp only [vp_updL]; repeat rw [if_neg (by omega)]) ?_
    refine zlast hF hB 1 rfl ((5 * t) + 0) (rfl) (by omega) (by decide) dX8_moves_22 ?_
    clear hB
    try clear locs
    try clear H
    intro H locs hB
    replace hB : zB D A s ([(q, .inr (8, mO ad o z)), ((ad 3), .inl (ka 1, 200, .inr (.inl (vp_updL nu ((5 * t) + 0) (nu (5 * f9 + 0))))))]) H locs := hB
    refine lv_iinc (v := (1 : Int32)) (lv' := [(3, .int (1 : Int32)), (0, .ref q), (1, .int (nI t)), (2, .int (nI f9))]) hx hb dX8_moves_23 hl (k := 0) rfl (by decide) (by decide) rfl ?_
    clear hl
    clear ls
    intro ls hl
    refine lv_goto (tgt := 2) hx hb dX8_moves_26 (by decide) ?_
    refine lv_iload_n hx hb dX8_moves_2 rfl (lv_at hl 0 rfl) ?_
    refine lv_iconst (v := 5) hx hb dX8_moves_3 (by decide) ?_
    refine lv_icmp_ge (tgt := 29) hx hb dX8_moves_4 (by decide) (fun h4 => ?_) (fun h4 => ?_)
    · skip
      exact absurd h4 (by decide)
    · skip
      refine lv_aload_n hx hb dX8_moves_7 rfl (lv_at hl 1 rfl) ?_
      refine zget zf_X8_20 hF hB 0 rfl rfl dX8_moves_8 ?_
      refine lv_iconst (v := 5) hx hb dX8_moves_11 (by decide) ?_
      refine lv_iload_n hx hb dX8_moves_12 rfl (lv_at hl 2 rfl) ?_
      refine lv_imul hx hb dX8_moves_13 ?_
      refine ztopi (y := nI (5 * t)) (pk_mul 5 t) ?_
      refine lv_iload_n hx hb dX8_moves_14 rfl (lv_at hl 0 rfl) ?_
      refine lv_iadd hx hb dX8_moves_15 ?_
      refine ztopi (y := nI ((5 * t) + 1)) (nI_add (5 * t) 1) ?_
      refine lv_aload_n hx hb dX8_moves_16 rfl (lv_at hl 1 rfl) ?_
      refine lv_iload_n hx hb dX8_moves_17 rfl (lv_at hl 3 rfl) ?_
      refine lv_iload_n hx hb dX8_moves_18 rfl (lv_at hl 0 rfl) ?_
      refine zVl zm_X8_120 hF hB (c_X8_at l D ka kb q ad o z (vp_updL nu ((5 * t) + 0) (nu (5 * f9 + 0))) f9 1 (by omega) (by decide)) [0, 1] rfl (by decide) [q, (ad 3)] (fun _ => rfl) rfl 0 8 rfl rfl rfl ⟨Nat.le_of_ble_eq_true rfl, Nat.le_of_ble_eq_true rfl⟩ rfl hl.1 (Nat.le_of_ble_eq_true rfl) ⟨Nat.le_refl _, Nat.le_refl _⟩ dX8_moves_19 ?_
      clear hB
      try clear locs
      try clear H
      intro r2 u2 H locs hp hB
      obtain rfl : r2 = (vp_updL nu ((5 * t) + 0) (nu (5 * f9 + 0))) (5 * f9 + 1) := hp
      replace hB : zB D A s ([(q, .inr (8, mO ad o z)), ((ad 3), .inl (ka 1, 200, .inr (.inl (vp_updL nu ((5 * t) + 0) (nu (5 * f9 + 0))))))]) H locs := hB
      refine ztopl (y := nu (5 * f9 + 1)) (by simp only [vp_updL]; repeat rw [if_neg (by omega)]) ?_
      refine zlast hF hB 1 rfl ((5 * t) + 1) (rfl) (by omega) (by decide) dX8_moves_22 ?_
      clear hB
      try clear locs
      try clear H
      intro H locs hB
      replace hB : zB D A s ([(q, .inr (8, mO ad o z)), ((ad 3), .inl (ka 1, 200, .inr (.inl (vp_updL (vp_updL nu ((5 * t) + 0) (nu (5 * f9 + 0))) ((5 * t) + 1) (nu (5 * f9 + 1))))))]) H locs := hB
      refine lv_iinc (v := (2 : Int32)) (lv' := [(3, .int (2 : Int32)), (0, .ref q), (1, .int (nI t)), (2, .int (nI f9))]) hx hb dX8_moves_23 hl (k := 0) rfl (by decide) (by decide) rfl ?_
      clear hl
      clear ls
      intro ls hl
      refine lv_goto (tgt := 2) hx hb dX8_moves_26 (by decide) ?_
      refine lv_iload_n hx hb dX8_moves_2 rfl (lv_at hl 0 rfl) ?_
      refine lv_iconst (v := 5) hx hb dX8_moves_3 (by decide) ?_
      refine lv_icmp_ge (tgt := 29) hx hb dX8_moves_4 (by decide) (fun h4 => ?_) (fun h4 => ?_)
      · skip
        exact absurd h4 (by decide)
      · skip
        refine lv_aload_n hx hb dX8_moves_7 rfl (lv_at hl 1 rfl) ?_
        refine zget zf_X8_20 hF hB 0 rfl rfl dX8_moves_8 ?_
        refine lv_iconst (v := 5) hx hb dX8_moves_11 (by decide) ?_
        refine lv_iload_n hx hb dX8_moves_12 rfl (lv_at hl 2 rfl) ?_
        refine lv_imul hx hb dX8_moves_13 ?_
        refine ztopi (y := nI (5 * t)) (pk_mul 5 t) ?_
        refine lv_iload_n hx hb dX8_moves_14 rfl (lv_at hl 0 rfl) ?_
        refine lv_iadd hx hb dX8_moves_15 ?_
        refine ztopi (y := nI ((5 * t) + 2)) (nI_add (5 * t) 2) ?_
        refine lv_aload_n hx hb dX8_moves_16 rfl (lv_at hl 1 rfl) ?_
        refine lv_iload_n hx hb dX8_moves_17 rfl (lv_at hl 3 rfl) ?_
        refine lv_iload_n hx hb dX8_moves_18 rfl (lv_at hl 0 rfl) ?_
        refine zVl zm_X8_120 hF hB (c_X8_at l D ka kb q ad o z (vp_updL (vp_updL nu ((5 * t) + 0) (nu (5 * f9 + 0))) ((5 * t) + 1) (nu (5 * f9 + 1))) f9 2 (by omega) (by decide)) [0, 1] rfl (by decide) [q, (ad 3)] (fun _ => rfl) rfl 0 8 rfl rfl rfl ⟨Nat.le_of_ble_eq_true rfl, Nat.le_of_ble_eq_true rfl⟩ rfl hl.1 (Nat.le_of_ble_eq_true rfl) ⟨Nat.le_refl _, Nat.le_refl _⟩ dX8_moves_19 ?_
        clear hB
        try clear locs
        try clear H
        intro r3 u3 H locs hp hB
        obtain rfl : r3 = (vp_updL (vp_updL nu ((5 * t) + 0) (nu (5 * f9 + 0))) ((5 * t) + 1) (nu (5 * f9 + 1))) (5 * f9 + 2) := hp
        replace hB : zB D A s ([(q, .inr (8, mO ad o z)), ((ad 3), .inl (ka 1, 200, .inr (.inl (vp_updL (vp_updL nu ((5 * t) + 0) (nu (5 * f9 + 0))) ((5 * t) + 1) (nu (5 * f9 + 1))))))]) H locs := hB
        refine ztopl (y := nu (5 * f9 + 2)) (by simp only [vp_updL]; repeat rw [if_neg (by omega)]) ?_
        refine zlast hF hB 1 rfl ((5 * t) + 2) (rfl) (by omega) (by decide) dX8_moves_22 ?_
        clear hB
        try clear locs
        try clear H
        intro H locs hB
        replace hB : zB D A s ([(q, .inr (8, mO ad o z)), ((ad 3), .inl (ka 1, 200, .inr (.inl (vp_updL (vp_updL (vp_updL nu ((5 * t) + 0) (nu (5 * f9 + 0))) ((5 * t) + 1) (nu (5 * f9 + 1))) ((5 * t) + 2) (nu (5 * f9 + 2))))))]) H locs := hB
        refine lv_iinc (v := (3 : Int32)) (lv' := [(3, .int (3 : Int32)), (0, .ref q), (1, .int (nI t)), (2, .int (nI f9))]) hx hb dX8_moves_23 hl (k := 0) rfl (by decide) (by decide) rfl ?_
        clear hl
        clear ls
        intro ls hl
        refine lv_goto (tgt := 2) hx hb dX8_moves_26 (by decide) ?_
        refine lv_iload_n hx hb dX8_moves_2 rfl (lv_at hl 0 rfl) ?_
        refine lv_iconst (v := 5) hx hb dX8_moves_3 (by decide) ?_
        refine lv_icmp_ge (tgt := 29) hx hb dX8_moves_4 (by decide) (fun h4 => ?_) (fun h4 => ?_)
        · skip
          exact absurd h4 (by decide)
        · skip
          refine lv_aload_n hx hb dX8_moves_7 rfl (lv_at hl 1 rfl) ?_
          refine zget zf_X8_20 hF hB 0 rfl rfl dX8_moves_8 ?_
          refine lv_iconst (v := 5) hx hb dX8_moves_11 (by decide) ?_
          refine lv_iload_n hx hb dX8_moves_12 rfl (lv_at hl 2 rfl) ?_
          refine lv_imul hx hb dX8_moves_13 ?_
          refine ztopi (y := nI (5 * t)) (pk_mul 5 t) ?_
          refine lv_iload_n hx hb dX8_moves_14 rfl (lv_at hl 0 rfl) ?_
          refine lv_iadd hx hb dX8_moves_15 ?_
          refine ztopi (y := nI ((5 * t) + 3)) (nI_add (5 * t) 3) ?_
          refine lv_aload_n hx hb dX8_moves_16 rfl (lv_at hl 1 rfl) ?_
          refine lv_iload_n hx hb dX8_moves_17 rfl (lv_at hl 3 rfl) ?_
          refine lv_iload_n hx hb dX8_moves_18 rfl (lv_at hl 0 rfl) ?_
          refine zVl zm_X8_120 hF hB (c_X8_at l D ka kb q ad o z (vp_updL (vp_updL (vp_updL nu ((5 * t) + 0) (nu (5 * f9 + 0))) ((5 * t) + 1) (nu (5 * f9 + 1))) ((5 * t) + 2) (nu (5 * f9 + 2))) f9 3 (by omega) (by decide)) [0, 1] rfl (by decide) [q, (ad 3)] (fun _ => rfl) rfl 0 8 rfl rfl rfl ⟨Nat.le_of_ble_eq_true rfl, Nat.le_of_ble_eq_true rfl⟩ rfl hl.1 (Nat.le_of_ble_eq_true rfl) ⟨Nat.le_refl _, Nat.le_refl _⟩ dX8_moves_19 ?_
          clear hB
          try clear locs
          try clear H
          intro r4 u4 H locs hp hB
          obtain rfl : r4 = (vp_updL (vp_updL (vp_updL nu ((5 * t) + 0) (nu (5 * f9 + 0))) ((5 * t) + 1) (nu (5 * f9 + 1))) ((5 * t) + 2) (nu (5 * f9 + 2))) (5 * f9 + 3) := hp
          replace hB : zB D A s ([(q, .inr (8, mO ad o z)), ((ad 3), .inl (ka 1, 200, .inr (.inl (vp_updL (vp_updL (vp_updL nu ((5 * t) + 0) (nu (5 * f9 + 0))) ((5 * t) + 1) (nu (5 * f9 + 1))) ((5 * t) + 2) (nu (5 * f9 + 2))))))]) H locs := hB
          refine ztopl (y := nu (5 * f9 + 3)) (by simp only [vp_updL]; repeat rw [if_neg (by omega)]) ?_
          refine zlast hF hB 1 rfl ((5 * t) + 3) (rfl) (by omega) (by decide) dX8_moves_22 ?_
          clear hB
          try clear locs
          try clear H
          intro H locs hB
          replace hB : zB D A s ([(q, .inr (8, mO ad o z)), ((ad 3), .inl (ka 1, 200, .inr (.inl (vp_updL (vp_updL (vp_updL (vp_updL nu ((5 * t) + 0) (nu (5 * f9 + 0))) ((5 * t) + 1) (nu (5 * f9 + 1))) ((5 * t) + 2) (nu (5 * f9 + 2))) ((5 * t) + 3) (nu (5 * f9 + 3))))))]) H locs := hB
          refine lv_iinc (v := (4 : Int32)) (lv' := [(3, .int (4 : Int32)), (0, .ref q), (1, .int (nI t)), (2, .int (nI f9))]) hx hb dX8_moves_23 hl (k := 0) rfl (by decide) (by decide) rfl ?_
          clear hl
          clear ls
          intro ls hl
          refine lv_goto (tgt := 2) hx hb dX8_moves_26 (by decide) ?_
          refine lv_iload_n hx hb dX8_moves_2 rfl (lv_at hl 0 rfl) ?_
          refine lv_iconst (v := 5) hx hb dX8_moves_3 (by decide) ?_
          refine lv_icmp_ge (tgt := 29) hx hb dX8_moves_4 (by decide) (fun h4 => ?_) (fun h4 => ?_)
          · skip
            exact absurd h4 (by decide)
          · skip
            refine lv_aload_n hx hb dX8_moves_7 rfl (lv_at hl 1 rfl) ?_
            refine zget zf_X8_20 hF hB 0 rfl rfl dX8_moves_8 ?_
            refine lv_iconst (v := 5) hx hb dX8_moves_11 (by decide) ?_
            refine lv_iload_n hx hb dX8_moves_12 rfl (lv_at hl 2 rfl) ?_
            refine lv_imul hx hb dX8_moves_13 ?_
            refine ztopi (y := nI (5 * t)) (pk_mul 5 t) ?_
            refine lv_iload_n hx hb dX8_moves_14 rfl (lv_at hl 0 rfl) ?_
            refine lv_iadd hx hb dX8_moves_15 ?_
            refine ztopi (y := nI ((5 * t) + 4)) (nI_add (5 * t) 4) ?_
            refine lv_aload_n hx hb dX8_moves_16 rfl (lv_at hl 1 rfl) ?_
            refine lv_iload_n hx hb dX8_moves_17 rfl (lv_at hl 3 rfl) ?_
            refine lv_iload_n hx hb dX8_moves_18 rfl (lv_at hl 0 rfl) ?_
            refine zVl zm_X8_120 hF hB (c_X8_at l D ka kb q ad o z (vp_updL (vp_updL (vp_updL (vp_updL nu ((5 * t) + 0) (nu (5 * f9 + 0))) ((5 * t) + 1) (nu (5 * f9 + 1))) ((5 * t) + 2) (nu (5 * f9 + 2))) ((5 * t) + 3) (nu (5 * f9 + 3))) f9 4 (by omega) (by decide)) [0, 1] rfl (by decide) [q, (ad 3)] (fun _ => rfl) rfl 0 8 rfl rfl rfl ⟨Nat.le_of_ble_eq_true rfl, Nat.le_of_ble_eq_true rfl⟩ rfl hl.1 (Nat.le_of_ble_eq_true rfl) ⟨Nat.le_refl _, Nat.le_refl _⟩ dX8_moves_19 ?_
            clear hB
            try clear locs
            try clear H
            intro r5 u5 H locs hp hB
            obtain rfl : r5 = (vp_updL (vp_updL (vp_updL (vp_updL nu ((5 * t) + 0) (nu (5 * f9 + 0))) ((5 * t) + 1) (nu (5 * f9 + 1))) ((5 * t) + 2) (nu (5 * f9 + 2))) ((5 * t) + 3) (nu (5 * f9 + 3))) (5 * f9 + 4) := hp
            replace hB : zB D A s ([(q, .inr (8, mO ad o z)), ((ad 3), .inl (ka 1, 200, .inr (.inl (vp_updL (vp_updL (vp_updL (vp_updL nu ((5 * t) + 0) (nu (5 * f9 + 0))) ((5 * t) + 1) (nu (5 * f9 + 1))) ((5 * t) + 2) (nu (5 * f9 + 2))) ((5 * t) + 3) (nu (5 * f9 + 3))))))]) H locs := hB
            refine ztopl (y := nu (5 * f9 + 4)) (by simp only [vp_updL]; repeat rw [if_neg (by omega)]) ?_
            refine zlast hF hB 1 rfl ((5 * t) + 4) (rfl) (by omega) (by decide) dX8_moves_22 ?_
            clear hB
            try clear locs
            try clear H
            intro H locs hB
            replace hB : zB D A s ([(q, .inr (8, mO ad o z)), ((ad 3), .inl (ka 1, 200, .inr (.inl (vp_updL (vp_updL (vp_updL (vp_updL (vp_updL nu ((5 * t) + 0) (nu (5 * f9 + 0))) ((5 * t) + 1) (nu (5 * f9 + 1))) ((5 * t) + 2) (nu (5 * f9 + 2))) ((5 * t) + 3) (nu (5 * f9 + 3))) ((5 * t) + 4) (nu (5 * f9 + 4))))))]) H locs := hB
            refine lv_iinc (v := (5 : Int32)) (lv' := [(3, .int (5 : Int32)), (0, .ref q), (1, .int (nI t)), (2, .int (nI f9))]) hx hb dX8_moves_23 hl (k := 0) rfl (by decide) (by decide) rfl ?_
            clear hl
            clear ls
            intro ls hl
            refine lv_goto (tgt := 2) hx hb dX8_moves_26 (by decide) ?_
            refine lv_iload_n hx hb dX8_moves_2 rfl (lv_at hl 0 rfl) ?_
            refine lv_iconst (v := 5) hx hb dX8_moves_3 (by decide) ?_
            refine lv_icmp_ge (tgt := 29) hx hb dX8_moves_4 (by decide) (fun h4 => ?_) (fun h4 => ?_)
            · skip
              exact zretv hF hB () (trivial) (rfl) dX8_moves_29 hQ
            · skip
              exact absurd (by decide) h4

set_option maxHeartbeats 4000000 in
set_option maxRecDepth 100000 in
theorem c_X8_put (l : Launch) (D : va_G) (ka : Nat → ClassId) (kb : Nat → Nat) (q : Nat) (ad : Nat → Nat) (o : Bool) (z : mZ) (nu : Nat → Int64) (rr : Int32) (a : Int32) (b : Int32) (c9 : Int32) (e9 : Int32) (d : Int32)  : zI l D ka kb yX8_put cX8_put 7 .int 2 63 [.ref q, .int rr, .int a, .int b, .int c9, .int e9, .int d] ([(q, .inr (8, mO ad o z)), ((ad 3), .inl (ka 1, 200, .inr (.inl nu)))]) (fun (r : Int32) (_ : Unit) => r = if inI rr 6 = true ∧ 1 ≤ d then 1 else (-2 : Int32)) (fun (_ : Unit) => [(q, .inr (8, mO ad o z)), ((ad 3), .inl (ka 1, 200, .inr (.inl (if inI rr 6 = true ∧ 1 ≤ d then setN nu rr.toInt.toNat (lowN a.toInt64 b.toInt64 c9.toInt64 e9.toInt64 d.toInt64) else nu))))]) := by
  refine zI.mk RX8 (by decide +kernel) rfl (Nat.le_of_ble_eq_true rfl) ?_
  intro p e s m below meth c A ls args Q hQ hx hb hF hB hl
  replace hl : lv_has ls 7 [(0, .ref q), (1, .int rr), (2, .int a), (3, .int b), (4, .int c9), (5, .int e9), (6, .int d)] := hl
  refine lv_iload_n hx hb dX8_put_0 rfl (lv_at hl 1 rfl) ?_
  refine zSi zm_X8_162 hF hB (c_X8_isRegister l D ka kb rr ) [] rfl (by decide) [] (fun _ => rfl) rfl rfl ⟨Nat.le_of_ble_eq_true rfl, Nat.le_of_ble_eq_true rfl⟩ rfl hl.1 (Nat.le_of_ble_eq_true rfl) ⟨Nat.le_refl _, Nat.le_refl _⟩ dX8_put_1 ?_
  clear hB
  try clear locs
  try clear H
  intro r1 u1 H locs hp hB
  obtain rfl : r1 = bI (inI rr 6) := hp
  replace hB : zB D A s ([(q, .inr (8, mO ad o z)), ((ad 3), .inl (ka 1, 200, .inr (.inl nu)))]) H locs := hB
  refine lv_if_eq (tgt := 13) hx hb dX8_put_4 (by decide) (fun h4 => ?_) (fun h4 => ?_)
  · skip
    have hok : ¬ (inI rr 6 = true ∧ 1 ≤ d) := fun e8 => by rw [bI_eq0 h4] at e8; exact absurd e8.1 (by decide)
    refine lv_bipush (v := -2) hx hb dX8_put_13 (by decide) ?_
    exact zreti hF hB () (by rw [if_neg hok]) (by rw [if_neg hok]) (rfl) dX8_put_15 hQ
  · skip
    have hi1 : inI rr 6 = true := bI_ne0 h4
    obtain ⟨i, hi2, hi3⟩ := inI_of hi1 (by decide)
    subst hi3
    refine lv_iload hx hb dX8_put_7 (lv_at hl 6 rfl) ?_
    refine lv_iconst (v := 1) hx hb dX8_put_9 (by decide) ?_
    refine lv_icmp_ge (tgt := 16) hx hb dX8_put_10 (by decide) (fun h10 => ?_) (fun h10 => ?_)
    · skip
      have hok : inI (nI i) 6 = true ∧ 1 ≤ d := ⟨hi1, h10⟩
      have hd1 : 0 < d.toInt64.toInt := by rw [Int32.toInt_toInt64]; have := Int32.le_iff_toInt_le.mp h10; have e8 : (1 : Int32).toInt = 1 := rfl; omega
      refine lv_aload_n hx hb dX8_put_16 rfl (lv_at hl 0 rfl) ?_
      refine lv_iload_n hx hb dX8_put_17 rfl (lv_at hl 1 rfl) ?_
      refine lv_iload_n hx hb dX8_put_18 rfl (lv_at hl 2 rfl) ?_
      refine lv_i2l (v := a.toInt64) hx hb dX8_put_19 rfl ?_
      refine lv_iload_n hx hb dX8_put_20 rfl (lv_at hl 3 rfl) ?_
      refine lv_i2l (v := b.toInt64) hx hb dX8_put_21 rfl ?_
      refine lv_iload hx hb dX8_put_22 (lv_at hl 4 rfl) ?_
      refine lv_i2l (v := c9.toInt64) hx hb dX8_put_24 rfl ?_
      refine lv_iload hx hb dX8_put_25 (lv_at hl 5 rfl) ?_
      refine lv_i2l (v := e9.toInt64) hx hb dX8_put_27 rfl ?_
      refine lv_iload hx hb dX8_put_28 (lv_at hl 6 rfl) ?_
      refine lv_i2l (v := d.toInt64) hx hb dX8_put_30 rfl ?_
      refine zVv zm_X8_134 hF hB (c_X8_lays l D ka kb q ad o z nu i a.toInt64 b.toInt64 c9.toInt64 e9.toInt64 d.toInt64 (by omega) (hd1)) [0, 1] rfl (by decide) [q, (ad 3)] (fun _ => rfl) rfl 0 8 rfl rfl rfl ⟨Nat.le_of_ble_eq_true rfl, Nat.le_of_ble_eq_true rfl⟩ rfl hl.1 (Nat.le_of_ble_eq_true rfl) ⟨Nat.le_refl _, Nat.le_refl _⟩ dX8_put_31 ?_
      clear hB
      try clear locs
      try clear H
      intro u2 H locs hp hB
      replace hB : zB D A s ([(q, .inr (8, mO ad o z)), ((ad 3), .inl (ka 1, 200, .inr (.inl (setN nu i (lowN a.toInt64 b.toInt64 c9.toInt64 e9.toInt64 d.toInt64)))))]) H locs := hB
      refine lv_iconst (v := 1) hx hb dX8_put_34 (by decide) ?_
      exact zreti hF hB () (by rw [if_pos hok]) (by rw [if_pos hok, nI_toInt (by omega)] <;> rfl) (rfl) dX8_put_35 hQ
    · skip
      have hok : ¬ (inI (nI i) 6 = true ∧ 1 ≤ d) := fun e8 => h10 e8.2
      refine lv_bipush (v := -2) hx hb dX8_put_13 (by decide) ?_
      exact zreti hF hB () (by rw [if_neg hok]) (by rw [if_neg hok]) (rfl) dX8_put_15 hQ
