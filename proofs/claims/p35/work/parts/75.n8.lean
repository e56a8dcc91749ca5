def kI (kp : Nat → Bool) : Nat → Int32 := fun j => bI (kp j)
def fgB (kp : Nat → Bool) (n : Nat) : Nat → Bool := fun j => if j < n then false else kp j
theorem fg_0 {kp : Nat → Bool} : fgB kp 0 = kp := funext fun j => if_neg (Nat.not_lt_zero j)
theorem fg_s {kp : Nat → Bool} {k : Nat} : upd (kI (fgB kp k)) k 0 = kI (fgB kp (k + 1)) := funext fun j => by
  unfold kI fgB upd
  by_cases h : j = k
  · rw [if_pos h, if_pos (by omega)]; rfl
  · rw [if_neg h]
    show bI (if j < k then false else kp j) = bI (if j < k + 1 then false else kp j)
    by_cases h2 : j < k
    · rw [if_pos h2, if_pos (by omega)]
    · rw [if_neg h2, if_neg (by omega)]
def ktS (kp : Nat → Bool) : Nat → Int32
  | 0 => 0
  | n + 1 => ktS kp n + bI (kp n)
set_option maxHeartbeats 4000000 in
set_option maxRecDepth 100000 in
theorem c_X0_setting (l : Launch) (D : va_G) (ka : Nat → ClassId) (kb : Nat → Nat) (bd : Nat → Nat) (na : Nat → Nat) (st : Nat → Int32) (b : Nat) (p9 : Nat) (w9 : Nat) (hb2 : b < 2) (hp9 : p9 < 2) (hw9 : w9 < 2) : zI l D ka kb yX0_setting cX0_setting 4 .int 0 0 [.ref (bd 3), .int (nI b), .int (nI p9), .int (nI w9)] ([((bd 3), .inr (0, [.ref (bd 12), .ref (bd 13), .ref (bd 14), .ref (bd 15), .ref (bd 16), .ref (bd 17), .ref (na 21), .ref (na 22), .ref (na 23), .ref (na 24)])), ((bd 13), .inl (ka 0, 8, .inl st))]) (fun (r : Int32) (_ : Unit) => r = st (2 * (2 * b + p9) + w9)) (fun (_ : Unit) => [((bd 3), .inr (0, [.ref (bd 12), .ref (bd 13), .ref (bd 14), .ref (bd 15), .ref (bd 16), .ref (bd 17), .ref (na 21), .ref (na 22), .ref (na 23), .ref (na 24)])), ((bd 13), .inl (ka 0, 8, .inl st))]) := by
  refine zI.mk RX0 (by decide +kernel) rfl (Nat.le_of_ble_eq_true rfl) ?_
  intro p e s m below meth c A ls args Q hQ hx hb hF hB hl
  replace hl : lv_has ls 4 [(0, .ref (bd 3)), (1, .int (nI b)), (2, .int (nI p9)), (3, .int (nI w9))] := hl
  refine lv_aload_n hx hb dX0_setting_0 rfl (lv_at hl 0 rfl) ?_
  refine zget zf_X0_18 hF hB 0 rfl rfl dX0_setting_1 ?_
  refine lv_iconst (v := 2) hx hb dX0_setting_4 (by decide) ?_
  refine lv_iconst (v := 2) hx hb dX0_setting_5 (by decide) ?_
  refine lv_iload_n hx hb dX0_setting_6 rfl (lv_at hl 1 rfl) ?_
  refine lv_imul hx hb dX0_setting_7 ?_
  refine ztopi (y := nI (2 * b)) (pk_mul 2 b) ?_
  refine lv_iload_n hx hb dX0_setting_8 rfl (lv_at hl 2 rfl) ?_
  refine lv_iadd hx hb dX0_setting_9 ?_
  refine ztopi (y := nI ((2 * b) + p9)) (nI_add (2 * b) p9) ?_
  refine lv_imul hx hb dX0_setting_10 ?_
  refine ztopi (y := nI (2 * ((2 * b) + p9))) (pk_mul 2 ((2 * b) + p9)) ?_
  refine lv_iload_n hx hb dX0_setting_11 rfl (lv_at hl 3 rfl) ?_
  refine lv_iadd hx hb dX0_setting_12 ?_
  refine ztopi (y := nI ((2 * ((2 * b) + p9)) + w9)) (nI_add (2 * ((2 * b) + p9)) w9) ?_
  refine ziald hF hB 1 rfl ((2 * ((2 * b) + p9)) + w9) (rfl) (by omega) (by decide) (v := (st ((2 * ((2 * b) + p9)) + w9))) (rfl) dX0_setting_13 ?_
  exact zreti hF hB () (rfl) (rfl) (rfl) dX0_setting_14 hQ

set_option maxHeartbeats 4000000 in
set_option maxRecDepth 100000 in
theorem c_X0_forget (l : Launch) (D : va_G) (ka : Nat → ClassId) (kb : Nat → Nat) (bd : Nat → Nat) (na : Nat → Nat) (kp : Nat → Bool)  : zV l D ka kb yX0_forget cX0_forget 2 0 0 [.ref (bd 3)] ([((bd 3), .inr (0, [.ref (bd 12), .ref (bd 13), .ref (bd 14), .ref (bd 15), .ref (bd 16), .ref (bd 17), .ref (na 21), .ref (na 22), .ref (na 23), .ref (na 24)])), ((bd 14), .inl (ka 2, 3, .inl (kI kp)))]) (fun (_ : Unit) => True) (fun (_ : Unit) => [((bd 3), .inr (0, [.ref (bd 12), .ref (bd 13), .ref (bd 14), .ref (bd 15), .ref (bd 16), .ref (bd 17), .ref (na 21), .ref (na 22), .ref (na 23), .ref (na 24)])), ((bd 14), .inl (ka 2, 3, .inl (kI (fgB kp 3))))]) := by
  refine zV.mk RX0 (by decide +kernel) rfl (Nat.le_of_ble_eq_true rfl) ?_
  intro p e s m below meth c A ls args Q hQ hx hb hF hB hl
  replace hl : lv_has ls 2 [(0, .ref (bd 3))] := hl
  refine lv_iconst (v := 0) hx hb dX0_forget_0 (by decide) ?_
  refine lv_istore_n (lv' := [(1, .int (0 : Int32)), (0, .ref (bd 3))]) hx hb dX0_forget_1 rfl hl (by decide) rfl ?_
  clear hl
  clear ls
  intro ls hl
  have lp2 : ∀ (fl : Nat) (kc : Nat), (hk : kc ≤ 3) → 3 - kc < fl → ∀ (H : Heap) (locs : List Loc), zB D A s ([((bd 3), .inr (0, [.ref (bd 12), .ref (bd 13), .ref (bd 14), .ref (bd 15), .ref (bd 16), .ref (bd 17), .ref (na 21), .ref (na 22), .ref (na 23), .ref (na 24)])), ((bd 14), .inl (ka 2, 3, .inl (kI (fgB kp kc))))]) H locs → ∀ ls : Array Slot, lv_has ls 2 [(1, .int (nI kc)), (0, .ref (bd 3))] → W p l e (zRm 0 0 0 0) s m args below meth c H locs 0 0 Q (F0 m 2 ls []) := by
    intro fl
    induction fl with
    | zero => intro kc hk hfl; exact absurd hfl (Nat.not_lt_zero _)
    | succ fl ih2 =>
      intro kc hk hfl2 H locs hB ls hl
      refine lv_iload_n hx hb dX0_forget_2 rfl (lv_at hl 0 rfl) ?_
      refine lv_iconst (v := 3) hx hb dX0_forget_3 (by decide) ?_
      refine lv_icmp_ge (tgt := 20) hx hb dX0_forget_4 (by decide) (fun h4 => ?_) (fun h4 => ?_)
      · skip
        have hk2 : kc = 3 := by have := (nI_leI (a := 3) (b := kc) (by decide) (by omega)).mp h4; omega
        exact zretv hF hB () (trivial) (by rw [hk2]) dX0_forget_20 hQ
      · skip
        have hk2 : kc < 3 := Nat.not_le.mp (fun e9 => h4 ((nI_leI (a := 3) (b := kc) (by decide) (by omega)).mpr e9))
        refine lv_aload_n hx hb dX0_forget_7 rfl (lv_at hl 1 rfl) ?_
        refine zget zf_X0_22 hF hB 0 rfl rfl dX0_forget_8 ?_
        refine lv_iload_n hx hb dX0_forget_11 rfl (lv_at hl 0 rfl) ?_
        refine lv_iconst (v := 0) hx hb dX0_forget_12 (by decide) ?_
        refine zzast hF hB 1 rfl kc (rfl) (by omega) (by decide) rfl dX0_forget_13 ?_
        clear hB
        try clear locs
        try clear H
        intro H locs hB
        replace hB : zB D A s ([((bd 3), .inr (0, [.ref (bd 12), .ref (bd 13), .ref (bd 14), .ref (bd 15), .ref (bd 16), .ref (bd 17), .ref (na 21), .ref (na 22), .ref (na 23), .ref (na 24)])), ((bd 14), .inl (ka 2, 3, .inl (kI (fgB kp (kc + 1)))))]) H locs := (by have e9 := hB; rw [fg_s] at e9; exact e9)
        refine lv_iinc (v := nI (kc + 1)) (lv' := [(1, .int (nI (kc + 1))), (0, .ref (bd 3))]) hx hb dX0_forget_14 hl (k := 0) rfl (nI_1 _) (by decide) rfl ?_
        clear hl
        clear ls
        intro ls hl
        refine lv_goto (tgt := 2) hx hb dX0_forget_17 (by decide) ?_
        exact ih2 (kc + 1) (by omega) (by omega) _ _ (hB) _ (lv_sub hl [0, 1] rfl)
  exact lp2 (3 - 0 + 1) 0 (Nat.zero_le _) (by omega) _ _ (by rw [fg_0]; exact hB) _ (lv_sub hl [0, 1] rfl)

set_option maxHeartbeats 4000000 in
set_option maxRecDepth 100000 in
theorem c_X0_tell (l : Launch) (D : va_G) (ka : Nat → ClassId) (kb : Nat → Nat) (bd : Nat → Nat) (na : Nat → Nat) (st : Nat → Int32) (kp : Nat → Bool) (b : Nat) (p9 : Nat) (w9 : Nat) (v : Int32) (hb2 : b < 2) (hp9 : p9 < 2) (hw9 : w9 < 2) : zV l D ka kb yX0_tell cX0_tell 5 1 21 [.ref (bd 3), .int (nI b), .int (nI p9), .int (nI w9), .int v] ([((bd 3), .inr (0, [.ref (bd 12), .ref (bd 13), .ref (bd 14), .ref (bd 15), .ref (bd 16), .ref (bd 17), .ref (na 21), .ref (na 22), .ref (na 23), .ref (na 24)])), ((bd 13), .inl (ka 0, 8, .inl st)), ((bd 14), .inl (ka 2, 3, .inl (kI kp)))]) (fun (_ : Unit) => True) (fun (_ : Unit) => [((bd 3), .inr (0, [.ref (bd 12), .ref (bd 13), .ref (bd 14), .ref (bd 15), .ref (bd 16), .ref (bd 17), .ref (na 21), .ref (na 22), .ref (na 23), .ref (na 24)])), ((bd 13), .inl (ka 0, 8, .inl (upd st (2 * (2 * b + p9) + w9) v))), ((bd 14), .inl (ka 2, 3, .inl (kI (fgB kp 3))))]) := by
  refine zV.mk RX0 (by decide +kernel) rfl (Nat.le_of_ble_eq_true rfl) ?_
  intro p e s m below meth c A ls args Q hQ hx hb hF hB hl
  replace hl : lv_has ls 5 [(0, .ref (bd 3)), (1, .int (nI b)), (2, .int (nI p9)), (3, .int (nI w9)), (4, .int v)] := hl
  refine lv_aload_n hx hb dX0_tell_0 rfl (lv_at hl 0 rfl) ?_
  refine zget zf_X0_18 hF hB 0 rfl rfl dX0_tell_1 ?_
  refine lv_iconst (v := 2) hx hb dX0_tell_4 (by decide) ?_
  refine lv_iconst (v := 2) hx hb dX0_tell_5 (by decide) ?_
  refine lv_iload_n hx hb dX0_tell_6 rfl (lv_at hl 1 rfl) ?_
  refine lv_imul hx hb dX0_tell_7 ?_
  refine ztopi (y := nI (2 * b)) (pk_mul 2 b) ?_
  refine lv_iload_n hx hb dX0_tell_8 rfl (lv_at hl 2 rfl) ?_
  refine lv_iadd hx hb dX0_tell_9 ?_
  refine ztopi (y := nI ((2 * b) + p9)) (nI_add (2 * b) p9) ?_
  refine lv_imul hx hb dX0_tell_10 ?_
  refine ztopi (y := nI (2 * ((2 * b) + p9))) (pk_mul 2 ((2 * b) + p9)) ?_
  refine lv_iload_n hx hb dX0_tell_11 rfl (lv_at hl 3 rfl) ?_
  refine lv_iadd hx hb dX0_tell_12 ?_
  refine ztopi (y := nI ((2 * ((2 * b) + p9)) + w9)) (nI_add (2 * ((2 * b) + p9)) w9) ?_
  refine lv_iload hx hb dX0_tell_13 (lv_at hl 4 rfl) ?_
  refine ziast hF hB 1 rfl ((2 * ((2 * b) + p9)) + w9) (rfl) (by omega) (by decide) dX0_tell_15 ?_
  clear hB
  try clear locs
  try clear H
  intro H locs hB
  replace hB : zB D A s ([((bd 3), .inr (0, [.ref (bd 12), .ref (bd 13), .ref (bd 14), .ref (bd 15), .ref (bd 16), .ref (bd 17), .ref (na 21), .ref (na 22), .ref (na 23), .ref (na 24)])), ((bd 13), .inl (ka 0, 8, .inl (upd st ((2 * ((2 * b) + p9)) + w9) v))), ((bd 14), .inl (ka 2, 3, .inl (kI kp)))]) H locs := hB
  refine lv_aload_n hx hb dX0_tell_16 rfl (lv_at hl 0 rfl) ?_
  refine zVv zm_X0_52 hF hB (c_X0_forget l D ka kb bd na kp ) [0, 2] rfl (by decide) [(bd 3), (bd 14)] (fun _ => rfl) rfl 0 0 rfl rfl rfl ⟨Nat.le_of_ble_eq_true rfl, Nat.le_of_ble_eq_true rfl⟩ rfl hl.1 (Nat.le_of_ble_eq_true rfl) ⟨Nat.le_refl _, Nat.le_refl _⟩ dX0_tell_17 ?_
  clear hB
  try clear locs
  try clear H
  intro u1 H locs hp hB
  replace hB : zB D A s ([((bd 3), .inr (0, [.ref (bd 12), .ref (bd 13), .ref (bd 14), .ref (bd 15), .ref (bd 16), .ref (bd 17), .ref (na 21), .ref (na 22), .ref (na 23), .ref (na 24)])), ((bd 13), .inl (ka 0, 8, .inl (upd st ((2 * ((2 * b) + p9)) + w9) v))), ((bd 14), .inl (ka 2, 3, .inl (kI (fgB kp 3))))]) H locs := hB
  exact zretv hF hB () (trivial) (rfl) dX0_tell_20 hQ

set_option maxHeartbeats 4000000 in
set_option maxRecDepth 100000 in
theorem c_X0_isKept (l : Launch) (D : va_G) (ka : Nat → ClassId) (kb : Nat → Nat) (bd : Nat → Nat) (na : Nat → Nat) (kp : Nat → Bool) (k : Nat) (hk : k < 3) : zI l D ka kb yX0_isKept cX0_isKept 2 .boolean 0 0 [.ref (bd 3), .int (nI k)] ([((bd 3), .inr (0, [.ref (bd 12), .ref (bd 13), .ref (bd 14), .ref (bd 15), .ref (bd 16), .ref (bd 17), .ref (na 21), .ref (na 22), .ref (na 23), .ref (na 24)])), ((bd 14), .inl (ka 2, 3, .inl (kI kp)))]) (fun (r : Int32) (_ : Unit) => r = bI (kp k)) (fun (_ : Unit) => [((bd 3), .inr (0, [.ref (bd 12), .ref (bd 13), .ref (bd 14), .ref (bd 15), .ref (bd 16), .ref (bd 17), .ref (na 21), .ref (na 22), .ref (na 23), .ref (na 24)])), ((bd 14), .inl (ka 2, 3, .inl (kI kp)))]) := by
  refine zI.mk RX0 (by decide +kernel) rfl (Nat.le_of_ble_eq_true rfl) ?_
  intro p e s m below meth c A ls args Q hQ hx hb hF hB hl
  replace hl : lv_has ls 2 [(0, .ref (bd 3)), (1, .int (nI k))] := hl
  refine lv_aload_n hx hb dX0_isKept_0 rfl (lv_at hl 0 rfl) ?_
  refine zget zf_X0_22 hF hB 0 rfl rfl dX0_isKept_1 ?_
  refine lv_iload_n hx hb dX0_isKept_4 rfl (lv_at hl 1 rfl) ?_
  refine zzald hF hB 1 rfl k (rfl) (by omega) (by decide) (v := ((kI kp) k)) (rfl) dX0_isKept_5 ?_
  exact zreti hF hB () (rfl) (rfl) (zbI_n _) dX0_isKept_6 hQ

set_option maxHeartbeats 4000000 in
set_option maxRecDepth 100000 in
theorem c_X0_keptTrials (l : Launch) (D : va_G) (ka : Nat → ClassId) (kb : Nat → Nat) (bd : Nat → Nat) (na : Nat → Nat) (kp : Nat → Bool)  : zI l D ka kb yX0_keptTrials cX0_keptTrials 3 .int 0 0 [.ref (bd 3)] ([((bd 3), .inr (0, [.ref (bd 12), .ref (bd 13), .ref (bd 14), .ref (bd 15), .ref (bd 16), .ref (bd 17), .ref (na 21), .ref (na 22), .ref (na 23), .ref (na 24)])), ((bd 14), .inl (ka 2, 3, .inl (kI kp)))]) (fun (r : Int32) (_ : Unit) => r = ktS kp 3) (fun (_ : Unit) => [((bd 3), .inr (0, [.ref (bd 12), .ref (bd 13), .ref (bd 14), .ref (bd 15), .ref (bd 16), .ref (bd 17), .ref (na 21), .ref (na 22), .ref (na 23), .ref (na 24)])), ((bd 14), .inl (ka 2, 3, .inl (kI kp)))]) := by
  refine zI.mk RX0 (by decide +kernel) rfl (Nat.le_of_ble_eq_true rfl) ?_
  intro p e s m below meth c A ls args Q hQ hx hb hF hB hl
  replace hl : lv_has ls 3 [(0, .ref (bd 3))] := hl
  refine lv_iconst (v := 0) hx hb dX0_keptTrials_0 (by decide) ?_
  refine lv_istore_n (lv' := [(1, .int (0 : Int32)), (0, .ref (bd 3))]) hx hb dX0_keptTrials_1 rfl hl (by decide) rfl ?_
  clear hl
  clear ls
  intro ls hl
  refine lv_iconst (v := 0) hx hb dX0_keptTrials_2 (by decide) ?_
  refine lv_istore_n (lv' := [(2, .int (0 : Int32)), (1, .int (0 : Int32)), (0, .ref (bd 3))]) hx hb dX0_keptTrials_3 rfl hl (by decide) rfl ?_
  clear hl
  clear ls
  intro ls hl
  have lp4 : ∀ (fl : Nat) (kc : Nat) (nc : Int32), (hk : kc ≤ 3) → (hn : nc = ktS kp kc) → 3 - kc < fl → ∀ (H : Heap) (locs : List Loc), zB D A s ([((bd 3), .inr (0, [.ref (bd 12), .ref (bd 13), .ref (bd 14), .ref (bd 15), .ref (bd 16), .ref (bd 17), .ref (na 21), .ref (na 22), .ref (na 23), .ref (na 24)])), ((bd 14), .inl (ka 2, 3, .inl (kI kp)))]) H locs → ∀ ls : Array Slot, lv_has ls 3 [(1, .int nc), (2, .int (nI kc)), (0, .ref (bd 3))] → W p l e (zRm 0 0 0 0) s m args below meth c H locs 0 0 Q (F0 m 4 ls []) := by
    intro fl
    induction fl with
    | zero => intro kc nc hk hn hfl; exact absurd hfl (Nat.not_lt_zero _)
    | succ fl ih4 =>
      intro kc nc hk hn hfl4 H locs hB ls hl
      refine lv_iload_n hx hb dX0_keptTrials_4 rfl (lv_at hl 1 rfl) ?_
      refine lv_iconst (v := 3) hx hb dX0_keptTrials_5 (by decide) ?_
      refine lv_icmp_ge (tgt := 32) hx hb dX0_keptTrials_6 (by decide) (fun h6 => ?_) (fun h6 => ?_)
      · skip
        have hk2 : kc = 3 := by have := (nI_leI (a := 3) (b := kc) (by decide) (by omega)).mp h6; omega
        refine lv_iload_n hx hb dX0_keptTrials_32 rfl (lv_at hl 0 rfl) ?_
        exact zreti hF hB () (by rw [hn, hk2]) (rfl) (rfl) dX0_keptTrials_33 hQ
      · skip
        have hk2 : kc < 3 := Nat.not_le.mp (fun e9 => h6 ((nI_leI (a := 3) (b := kc) (by decide) (by omega)).mpr e9))
        refine lv_iload_n hx hb dX0_keptTrials_9 rfl (lv_at hl 0 rfl) ?_
        refine lv_aload_n hx hb dX0_keptTrials_10 rfl (lv_at hl 2 rfl) ?_
        refine zget zf_X0_22 hF hB 0 rfl rfl dX0_keptTrials_11 ?_
        refine lv_iload_n hx hb dX0_keptTrials_14 rfl (lv_at hl 1 rfl) ?_
        refine zzald hF hB 1 rfl kc (rfl) (by omega) (by decide) (v := ((kI kp) kc)) (rfl) dX0_keptTrials_15 ?_
        refine lv_if_eq (tgt := 23) hx hb dX0_keptTrials_16 (by decide) (fun h16 => ?_) (fun h16 => ?_)
        · skip
          refine lv_iconst (v := 0) hx hb dX0_keptTrials_23 (by decide) ?_
          refine lv_iadd hx hb dX0_keptTrials_24 ?_
          refine lv_istore_n (lv' := [(1, .int (nc + (0 : Int32))), (2, .int (nI kc)), (0, .ref (bd 3))]) hx hb dX0_keptTrials_25 rfl hl (by decide) rfl ?_
          clear hl
          clear ls
          intro ls hl
          refine lv_iinc (v := nI (kc + 1)) (lv' := [(2, .int (nI (kc + 1))), (1, .int (nc + (0 : Int32))), (0, .ref (bd 3))]) hx hb dX0_keptTrials_26 hl (k := 1) rfl (nI_1 _) (by decide) rfl ?_
          clear hl
          clear ls
          intro ls hl
          refine lv_goto (tgt := 4) hx hb dX0_keptTrials_29 (by decide) ?_
          exact ih4 (kc + 1) (nc + (0 : Int32)) (by omega) (by rw [ktS, hn, show kp kc = false from bI_eq0 h16] <;> rfl) (by omega) _ _ (hB) _ (lv_sub hl [1, 0, 2] rfl)
        · skip
          refine lv_iconst (v := 1) hx hb dX0_keptTrials_19 (by decide) ?_
          refine lv_goto (tgt := 24) hx hb dX0_keptTrials_20 (by decide) ?_
          refine lv_iadd hx hb dX0_keptTrials_24 ?_
          refine lv_istore_n (lv' := [(1, .int (nc + (1 : Int32))), (2, .int (nI kc)), (0, .ref (bd 3))]) hx hb dX0_keptTrials_25 rfl hl (by decide) rfl ?_
          clear hl
          clear ls
          intro ls hl
          refine lv_iinc (v := nI (kc + 1)) (lv' := [(2, .int (nI (kc + 1))), (1, .int (nc + (1 : Int32))), (0, .ref (bd 3))]) hx hb dX0_keptTrials_26 hl (k := 1) rfl (nI_1 _) (by decide) rfl ?_
          clear hl
          clear ls
          intro ls hl
          refine lv_goto (tgt := 4) hx hb dX0_keptTrials_29 (by decide) ?_
          exact ih4 (kc + 1) (nc + (1 : Int32)) (by omega) (by rw [ktS, hn, show kp kc = true from bI_ne0 h16] <;> rfl) (by omega) _ _ (hB) _ (lv_sub hl [1, 0, 2] rfl)
  exact lp4 (3 - 0 + 1) 0 (0 : Int32) (Nat.zero_le _) (rfl) (by omega) _ _ (hB) _ (lv_sub hl [1, 0, 2] rfl)

set_option maxHeartbeats 4000000 in
set_option maxRecDepth 100000 in
theorem c_X0_readingOf (l : Launch) (D : va_G) (ka : Nat → ClassId) (kb : Nat → Nat) (bd : Nat → Nat) (na : Nat → Nat) (k : Nat) (b : Nat) (hk : k < 3) (hb2 : b < 2) : zR l D ka kb yX0_readingOf cX0_readingOf 3 (.object "RotorBalancer$Num") 0 0 [.ref (bd 3), .int (nI k), .int (nI b)] ([((bd 3), .inr (0, [.ref (bd 12), .ref (bd 13), .ref (bd 14), .ref (bd 15), .ref (bd 16), .ref (bd 17), .ref (na 21), .ref (na 22), .ref (na 23), .ref (na 24)])), ((bd 15), .inl (ka 3, 6, .inr (.inr (.inr (.inr (nR na 8))))))]) (fun (_ : Unit) => True) (fun (_ : Unit) => na (8 + (2 * k + b))) (fun (_ : Unit) => [((bd 3), .inr (0, [.ref (bd 12), .ref (bd 13), .ref (bd 14), .ref (bd 15), .ref (bd 16), .ref (bd 17), .ref (na 21), .ref (na 22), .ref (na 23), .ref (na 24)])), ((bd 15), .inl (ka 3, 6, .inr (.inr (.inr (.inr (nR na 8))))))]) := by
  refine zR.mk RX0 (by decide +kernel) rfl (Nat.le_of_ble_eq_true rfl) ?_
  intro p e s m below meth c A ls args Q hQ hx hb hF hB hl
  replace hl : lv_has ls 3 [(0, .ref (bd 3)), (1, .int (nI k)), (2, .int (nI b))] := hl
  refine lv_aload_n hx hb dX0_readingOf_0 rfl (lv_at hl 0 rfl) ?_
  refine zget zf_X0_28 hF hB 0 rfl rfl dX0_readingOf_1 ?_
  refine lv_iconst (v := 2) hx hb dX0_readingOf_4 (by decide) ?_
  refine lv_iload_n hx hb dX0_readingOf_5 rfl (lv_at hl 1 rfl) ?_
  refine lv_imul hx hb dX0_readingOf_6 ?_
  refine ztopi (y := nI (2 * k)) (pk_mul 2 k) ?_
  refine lv_iload_n hx hb dX0_readingOf_7 rfl (lv_at hl 2 rfl) ?_
  refine lv_iadd hx hb dX0_readingOf_8 ?_
  refine ztopi (y := nI ((2 * k) + b)) (nI_add (2 * k) b) ?_
  refine zaald hF hB 1 rfl (t0 := 3) rfl ((2 * k) + b) (rfl) (by omega) (by decide) (r := na (8 + ((2 * k) + b))) (rfl) dX0_readingOf_9 ?_
  exact zretr hF hB () (trivial) (rfl) (rfl) dX0_readingOf_10 hQ

