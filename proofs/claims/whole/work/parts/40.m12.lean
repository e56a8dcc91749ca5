noncomputable def trK (k m a : Int32) : Bool := dB (inI k 3 = true ∧ (k = 0 ∨ (inM m = true ∧ inI a 12 = true)))
/-- a plane's part of the reading by a trial, and that reading, bearing b -/
def r2T (k m a : Int32) (L : Nat) (mo an pl ho ga lg : Nat → Int32) (b p : Nat) : N5 := rd2 (pulI p L mo an pl ho) (if aN k = p + 1 then m.toInt else 0) (if aN k = 0 then 0 else aN a) (ga (2 * b + p)).toInt (aN (lg (2 * b + p)))
def rdT (k m a : Int32) (L : Nat) (mo an pl ho ga lg : Nat → Int32) (b : Nat) : N5 := sumV false (r2T k m a L mo an pl ho ga lg b 0) (r2T k m a L mo an pl ho ga lg b 1)
set_option maxHeartbeats 4000000 in
set_option maxRecDepth 100000 in
theorem c_X8_trial (l : Launch) (D : va_G) (ka : Nat → ClassId) (kb : Nat → Nat) (q : Nat) (ad : Nat → Nat) (o : Bool) (z : mZ) (pu : Nat → Int64) (L : Nat) (mo : Nat → Int32) (an : Nat → Int32) (pl : Nat → Int32) (ho : Nat → Int32) (nu : Nat → Int64) (ga : Nat → Int32) (lg : Nat → Int32) (pm : Nat → Int32) (pa : Nat → Int32) (kq : Int32) (mq : Int32) (aq : Int32) (hL : z.2.1 = nI L) (hok : okL L mo an pl) (hoh : okH ho) (hga : ∀ i, i < 4 → 0 ≤ (ga i).toInt ∧ (ga i).toInt ≤ 9) (hlg : ∀ i, i < 4 → ∃ l9, l9 < 12 ∧ lg i = nI l9) : zI l D ka kb yX8_trial cX8_trial 6 .int 4 112 [.ref q, .int kq, .int mq, .int aq] ([(q, .inr (8, mO ad o z)), ((ad 9), .inl (ka 1, 4, .inr (.inl pu))), ((ad 4), .inl (ka 0, 8, .inl mo)), ((ad 5), .inl (ka 0, 8, .inl an)), ((ad 6), .inl (ka 0, 8, .inl pl)), ((ad 7), .inl (ka 0, 24, .inl ho)), ((ad 3), .inl (ka 1, 200, .inr (.inl nu))), ((ad 10), .inl (ka 0, 4, .inl ga)), ((ad 11), .inl (ka 0, 4, .inl lg)), ((ad 12), .inl (ka 0, 3, .inl pm)), ((ad 13), .inl (ka 0, 3, .inl pa))]) (fun (r : Int32) (u : Bool × (Nat → Int64) × (Nat → Int64)) => r = (if trK kq mq aq = true then bcnt (z.2.2.2.2.1 ||| ((1 : Int32) <<< (kq &&& 31))) 12 else -2) ∧ (trK kq mq aq = false → u.2.2 = nu) ∧ (trK kq mq aq = true → keepN [20, 21, 22, 23, 24, 25, 6 + 2 * aN kq, 6 + 2 * aN kq + 1] nu u.2.2 ∧ ∀ b9, b9 < 2 → getN u.2.2 (6 + 2 * aN kq + b9) = rdT kq mq aq L mo an pl ho ga lg b9)) (fun (u : Bool × (Nat → Int64) × (Nat → Int64)) => [(q, .inr (8, mX ad (bI u.1) z.1 z.2.1 z.2.2.1 z.2.2.2.1 (if trK kq mq aq = true then (z.2.2.2.2.1 ||| ((1 : Int32) <<< (kq &&& 31))) else z.2.2.2.2.1) z.2.2.2.2.2.1 z.2.2.2.2.2.2.1 z.2.2.2.2.2.2.2)), ((ad 9), .inl (ka 1, 4, .inr (.inl u.2.1))), ((ad 4), .inl (ka 0, 8, .inl mo)), ((ad 5), .inl (ka 0, 8, .inl an)), ((ad 6), .inl (ka 0, 8, .inl pl)), ((ad 7), .inl (ka 0, 24, .inl ho)), ((ad 3), .inl (ka 1, 200, .inr (.inl u.2.2))), ((ad 10), .inl (ka 0, 4, .inl ga)), ((ad 11), .inl (ka 0, 4, .inl lg)), ((ad 12), .inl (ka 0, 3, .inl (if trK kq mq aq = true then upd pm (aN kq) (if aN kq = 0 then 0 else mq) else pm))), ((ad 13), .inl (ka 0, 3, .inl (if trK kq mq aq = true then upd pa (aN kq) (if aN kq = 0 then 0 else aq) else pa)))]) := by
  refine zI.mk RX8 (by decide +kernel) rfl (Nat.le_of_ble_eq_true rfl) ?_
  intro p e s m below meth c A ls args Q hQ hx hb hF hB hl
  replace hl : lv_has ls 6 [(0, .ref q), (1, .int kq), (2, .int mq), (3, .int aq)] := hl
  refine lv_iload_n hx hb dX8_trial_0 rfl (lv_at hl 1 rfl) ?_
  refine lv_i2l (v := kq.toInt64) hx hb dX8_trial_1 rfl ?_
  refine lv_lconst (v := 0) hx hb dX8_trial_2 (by decide) ?_
  refine zldc2 (v := (2 : Int64)) ww_26_6 hF dX8_trial_3 ?_
  refine zSi zm_X8_72 hF hB (c_X8_in l D ka kb kq.toInt64 (0 : Int64) (2 : Int64) ) [] rfl (by decide) [] (fun _ => rfl) rfl rfl ⟨Nat.le_of_ble_eq_true rfl, Nat.le_of_ble_eq_true rfl⟩ rfl hl.1 (Nat.le_of_ble_eq_true rfl) ⟨Nat.le_refl _, Nat.le_refl _⟩ dX8_trial_6 ?_
  clear hB
  try clear locs
  try clear H
  intro r1 u1 H locs hp hB
  obtain rfl : r1 = bI (zin kq.toInt64 (0 : Int64) (2 : Int64)) := hp
  replace hB : zB D A s ([(q, .inr (8, mO ad o z)), ((ad 9), .inl (ka 1, 4, .inr (.inl pu))), ((ad 4), .inl (ka 0, 8, .inl mo)), ((ad 5), .inl (ka 0, 8, .inl an)), ((ad 6), .inl (ka 0, 8, .inl pl)), ((ad 7), .inl (ka 0, 24, .inl ho)), ((ad 3), .inl (ka 1, 200, .inr (.inl nu))), ((ad 10), .inl (ka 0, 4, .inl ga)), ((ad 11), .inl (ka 0, 4, .inl lg)), ((ad 12), .inl (ka 0, 3, .inl pm)), ((ad 13), .inl (ka 0, 3, .inl pa))]) H locs := hB
  refine lv_if_eq (tgt := 35) hx hb dX8_trial_9 (by decide) (fun h9 => ?_) (fun h9 => ?_)
  · skip
    have hs9 : inI kq 3 = false := (zin_inI kq 3 (by decide) (by decide)).symm.trans (bI_eq0 h9)
    refine lv_bipush (v := -2) hx hb dX8_trial_35 (by decide) ?_
    have hk9 : trK kq mq aq = false := dB_f.mpr (fun e8 => by rw [hs9] at e8; exact absurd e8.1 (by decide))
    exact zreti hF hB (o, pu, nu) (⟨by rw [if_neg (by rw [hk9]; decide)], fun _ => rfl, fun e8 => by rw [hk9] at e8; exact absurd e8 (by decide)⟩) (by rw [hk9] <;> rfl) (rfl) dX8_trial_37 hQ
  · skip
    have hs9 : inI kq 3 = true := (zin_inI kq 3 (by decide) (by decide)).symm.trans (bI_ne0 h9)
    obtain ⟨k, hk92, hk93⟩ := inI_of hs9 (by decide)
    subst hk93
    have rk : aN (nI k) = k := aNn hk92 (by decide)
    have hbd : ∀ p, p < 2 → bdP (pulI p L mo an pl ho) := fun p h => pulI_bd h hok hoh
    refine lv_iload_n hx hb dX8_trial_12 rfl (lv_at hl 1 rfl) ?_
    refine lv_if_le (tgt := 38) hx hb dX8_trial_13 (by decide) (fun h13 => ?_) (fun h13 => ?_)
    · skip
      have hk0 : k = 0 := by have := (nI_leI (a := k) (b := 0) (by omega) (by decide)).mp h13; omega
      have hk9 : trK (nI k) mq aq = true := dB_t.mpr ⟨hs9, Or.inl (by rw [hk0]; rfl)⟩
      have hap : (if aN (nI k) = 0 then 0 else aN aq) < 12 := by rw [rk, if_pos hk0]; decide
      have hyp : ∀ p, 0 ≤ (if aN (nI k) = p + 1 then mq.toInt else 0) ∧ (if aN (nI k) = p + 1 then mq.toInt else 0) ≤ 99 := fun p => by rw [rk, if_neg (by omega)]; decide
      refine lv_aload_n hx hb dX8_trial_38 rfl (lv_at hl 0 rfl) ?_
      refine zget zf_X8_47 hF hB 0 rfl rfl dX8_trial_39 ?_
      refine lv_iload_n hx hb dX8_trial_42 rfl (lv_at hl 1 rfl) ?_
      refine lv_iload_n hx hb dX8_trial_43 rfl (lv_at hl 1 rfl) ?_
      refine lv_if_ne (tgt := 51) hx hb dX8_trial_44 (by decide) (fun h44 => ?_) (fun h44 => ?_)
      · skip
        exact absurd (by rw [hk0]; rfl) h44
      · skip
        refine lv_iconst (v := 0) hx hb dX8_trial_47 (by decide) ?_
        refine lv_goto (tgt := 52) hx hb dX8_trial_48 (by decide) ?_
        refine ziast hF hB 9 rfl k (rfl) (by omega) (by decide) dX8_trial_52 ?_
        clear hB
        try clear locs
        try clear H
        intro H locs hB
        replace hB : zB D A s ([(q, .inr (8, mO ad o z)), ((ad 9), .inl (ka 1, 4, .inr (.inl pu))), ((ad 4), .inl (ka 0, 8, .inl mo)), ((ad 5), .inl (ka 0, 8, .inl an)), ((ad 6), .inl (ka 0, 8, .inl pl)), ((ad 7), .inl (ka 0, 24, .inl ho)), ((ad 3), .inl (ka 1, 200, .inr (.inl nu))), ((ad 10), .inl (ka 0, 4, .inl ga)), ((ad 11), .inl (ka 0, 4, .inl lg)), ((ad 12), .inl (ka 0, 3, .inl (upd pm k (0 : Int32)))), ((ad 13), .inl (ka 0, 3, .inl pa))]) H locs := hB
        refine lv_aload_n hx hb dX8_trial_53 rfl (lv_at hl 0 rfl) ?_
        refine zget zf_X8_50 hF hB 0 rfl rfl dX8_trial_54 ?_
        refine lv_iload_n hx hb dX8_trial_57 rfl (lv_at hl 1 rfl) ?_
        refine lv_iload_n hx hb dX8_trial_58 rfl (lv_at hl 1 rfl) ?_
        refine lv_if_ne (tgt := 66) hx hb dX8_trial_59 (by decide) (fun h59 => ?_) (fun h59 => ?_)
        · skip
          exact absurd (by rw [hk0]; rfl) h59
        · skip
          refine lv_iconst (v := 0) hx hb dX8_trial_62 (by decide) ?_
          refine lv_goto (tgt := 67) hx hb dX8_trial_63 (by decide) ?_
          refine ziast hF hB 10 rfl k (rfl) (by omega) (by decide) dX8_trial_67 ?_
          clear hB
          try clear locs
          try clear H
          intro H locs hB
          replace hB : zB D A s ([(q, .inr (8, mO ad o z)), ((ad 9), .inl (ka 1, 4, .inr (.inl pu))), ((ad 4), .inl (ka 0, 8, .inl mo)), ((ad 5), .inl (ka 0, 8, .inl an)), ((ad 6), .inl (ka 0, 8, .inl pl)), ((ad 7), .inl (ka 0, 24, .inl ho)), ((ad 3), .inl (ka 1, 200, .inr (.inl nu))), ((ad 10), .inl (ka 0, 4, .inl ga)), ((ad 11), .inl (ka 0, 4, .inl lg)), ((ad 12), .inl (ka 0, 3, .inl (upd pm k (0 : Int32)))), ((ad 13), .inl (ka 0, 3, .inl (upd pa k (0 : Int32))))]) H locs := hB
          refine lv_aload_n hx hb dX8_trial_68 rfl (lv_at hl 0 rfl) ?_
          refine lv_iconst (v := 0) hx hb dX8_trial_69 (by decide) ?_
          refine zput_f zp_X8_105 hF hB 0 rfl (rfl) (rfl) (Nat.le_of_ble_eq_true rfl) dX8_trial_70 ?_
          clear hB
          try clear locs
          try clear H
          intro H locs hB
          replace hB : zB D A s ([(q, .inr (8, mX ad (0 : Int32) z.1 z.2.1 z.2.2.1 z.2.2.2.1 z.2.2.2.2.1 z.2.2.2.2.2.1 z.2.2.2.2.2.2.1 z.2.2.2.2.2.2.2)), ((ad 9), .inl (ka 1, 4, .inr (.inl pu))), ((ad 4), .inl (ka 0, 8, .inl mo)), ((ad 5), .inl (ka 0, 8, .inl an)), ((ad 6), .inl (ka 0, 8, .inl pl)), ((ad 7), .inl (ka 0, 24, .inl ho)), ((ad 3), .inl (ka 1, 200, .inr (.inl nu))), ((ad 10), .inl (ka 0, 4, .inl ga)), ((ad 11), .inl (ka 0, 4, .inl lg)), ((ad 12), .inl (ka 0, 3, .inl (upd pm k (0 : Int32)))), ((ad 13), .inl (ka 0, 3, .inl (upd pa k (0 : Int32))))]) H locs := hB
          refine lv_iconst (v := 0) hx hb dX8_trial_73 (by decide) ?_
          refine lv_istore (lv' := [(4, .int (0 : Int32)), (0, .ref q), (1, .int (nI k)), (2, .int mq), (3, .int aq)]) hx hb dX8_trial_74 hl (by decide) rfl ?_
          clear hl
          clear ls
          intro ls hl
          have lp76 : ∀ (fl : Nat) (b : Nat) (nn : Nat → Int64) (pv : Nat → Int64), (hbl : b ≤ 2) → (KN : keepN [20, 21, 22, 23, 24, 25, 6 + 2 * aN (nI k), 6 + 2 * aN (nI k) + 1] nu nn) → (hR3 : ∀ b9, b9 < b → getN nn (6 + 2 * k + b9) = rdT (nI k) mq aq L mo an pl ho ga lg b9) → 2 - b < fl → ∀ (H : Heap) (locs : List Loc), zB D A s ([(q, .inr (8, mX ad (0 : Int32) z.1 z.2.1 z.2.2.1 z.2.2.2.1 z.2.2.2.2.1 z.2.2.2.2.2.1 z.2.2.2.2.2.2.1 z.2.2.2.2.2.2.2)), ((ad 9), .inl (ka 1, 4, .inr (.inl pv))), ((ad 4), .inl (ka 0, 8, .inl mo)), ((ad 5), .inl (ka 0, 8, .inl an)), ((ad 6), .inl (ka 0, 8, .inl pl)), ((ad 7), .inl (ka 0, 24, .inl ho)), ((ad 3), .inl (ka 1, 200, .inr (.inl nn))), ((ad 10), .inl (ka 0, 4, .inl ga)), ((ad 11), .inl (ka 0, 4, .inl lg)), ((ad 12), .inl (ka 0, 3, .inl (upd pm k (0 : Int32)))), ((ad 13), .inl (ka 0, 3, .inl (upd pa k (0 : Int32))))]) H locs → ∀ ls : Array Slot, lv_has ls 6 [(4, .int (nI b)), (0, .ref q), (1, .int (nI k)), (2, .int mq), (3, .int aq)] → W p l e (zRm 4 112 0 0) s m args below meth c H locs 0 0 Q (F0 m 76 ls []) := by
            intro fl
            induction fl with
            | zero => intro b nn pv hbl KN hR3 hfl; exact absurd hfl (Nat.not_lt_zero _)
            | succ fl ih76 =>
              intro b nn pv hbl KN hR3 hfl76 H locs hB ls hl
              refine lv_iload hx hb dX8_trial_76 (lv_at hl 0 rfl) ?_
              refine lv_iconst (v := 2) hx hb dX8_trial_78 (by decide) ?_
              refine lv_icmp_ge (tgt := 210) hx hb dX8_trial_79 (by decide) (fun h79 => ?_) (fun h79 => ?_)
              · skip
                have hb2 : b = 2 := by have := (nI_leI (a := 2) (b := b) (by decide) (by omega)).mp h79; omega
                subst hb2
                refine lv_aload_n hx hb dX8_trial_210 rfl (lv_at hl 1 rfl) ?_
                refine lv_dup hx hb dX8_trial_211 rfl ?_
                refine zget zf_X8_213 hF hB 0 rfl rfl dX8_trial_212 ?_
                refine lv_iconst (v := 1) hx hb dX8_trial_215 (by decide) ?_
                refine lv_iload_n hx hb dX8_trial_216 rfl (lv_at hl 2 rfl) ?_
                refine lv_ishl hx hb dX8_trial_217 ?_
                refine lv_ior hx hb dX8_trial_218 ?_
                refine lv_topi (fun tr2 htr2 => ?_)
                refine zput_f zp_X8_213 hF hB 0 rfl (rfl) (rfl) (Nat.le_of_ble_eq_true rfl) dX8_trial_219 ?_
                clear hB
                try clear locs
                try clear H
                intro H locs hB
                replace hB : zB D A s ([(q, .inr (8, mX ad (0 : Int32) z.1 z.2.1 z.2.2.1 z.2.2.2.1 tr2 z.2.2.2.2.2.1 z.2.2.2.2.2.2.1 z.2.2.2.2.2.2.2)), ((ad 9), .inl (ka 1, 4, .inr (.inl pv))), ((ad 4), .inl (ka 0, 8, .inl mo)), ((ad 5), .inl (ka 0, 8, .inl an)), ((ad 6), .inl (ka 0, 8, .inl pl)), ((ad 7), .inl (ka 0, 24, .inl ho)), ((ad 3), .inl (ka 1, 200, .inr (.inl nn))), ((ad 10), .inl (ka 0, 4, .inl ga)), ((ad 11), .inl (ka 0, 4, .inl lg)), ((ad 12), .inl (ka 0, 3, .inl (upd pm k (0 : Int32)))), ((ad 13), .inl (ka 0, 3, .inl (upd pa k (0 : Int32))))]) H locs := hB
                refine lv_aload_n hx hb dX8_trial_222 rfl (lv_at hl 1 rfl) ?_
                refine zVi zm_X8_261 hF hB (c_X8_kept l D ka kb q ad false (z.1, z.2.1, z.2.2.1, z.2.2.2.1, tr2, z.2.2.2.2.2.1, z.2.2.2.2.2.2.1, z.2.2.2.2.2.2.2) ) [0] rfl (by decide) [q] (fun _ => rfl) rfl 0 8 rfl rfl rfl ⟨Nat.le_of_ble_eq_true rfl, Nat.le_of_ble_eq_true rfl⟩ rfl hl.1 (Nat.le_of_ble_eq_true rfl) ⟨Nat.le_refl _, Nat.le_refl _⟩ dX8_trial_223 ?_
                clear hB
                try clear locs
                try clear H
                intro r2 u2 H locs hp hB
                obtain rfl : r2 = bcnt (z.1, z.2.1, z.2.2.1, z.2.2.2.1, tr2, z.2.2.2.2.2.1, z.2.2.2.2.2.2.1, z.2.2.2.2.2.2.2).2.2.2.2.1 12 := hp
                replace hB : zB D A s ([(q, .inr (8, mX ad (0 : Int32) z.1 z.2.1 z.2.2.1 z.2.2.2.1 tr2 z.2.2.2.2.2.1 z.2.2.2.2.2.2.1 z.2.2.2.2.2.2.2)), ((ad 9), .inl (ka 1, 4, .inr (.inl pv))), ((ad 4), .inl (ka 0, 8, .inl mo)), ((ad 5), .inl (ka 0, 8, .inl an)), ((ad 6), .inl (ka 0, 8, .inl pl)), ((ad 7), .inl (ka 0, 24, .inl ho)), ((ad 3), .inl (ka 1, 200, .inr (.inl nn))), ((ad 10), .inl (ka 0, 4, .inl ga)), ((ad 11), .inl (ka 0, 4, .inl lg)), ((ad 12), .inl (ka 0, 3, .inl (upd pm k (0 : Int32)))), ((ad 13), .inl (ka 0, 3, .inl (upd pa k (0 : Int32))))]) H locs := hB
                exact zreti hF hB (false, pv, nn) (⟨by rw [if_pos hk9, ← htr2], fun e8 => absurd (hk9.symm.trans e8) (by decide), fun _ => ⟨KN, fun b9 hb9 => by rw [rk]; exact hR3 b9 (by omega)⟩⟩) (by rw [hk9, rk, ← htr2, hk0] <;> rfl) (rfl) dX8_trial_226 hQ
              · skip
                have hb2 : b < 2 := Nat.not_le.mp (fun e9 => h79 ((nI_leI (a := 2) (b := b) (by decide) (by omega)).mpr e9))
                refine lv_iconst (v := 0) hx hb dX8_trial_82 (by decide) ?_
                refine lv_istore (lv' := [(5, .int (0 : Int32)), (4, .int (nI b)), (0, .ref q), (1, .int (nI k)), (2, .int mq), (3, .int aq)]) hx hb dX8_trial_83 hl (by decide) rfl ?_
                clear hl
                clear ls
                intro ls hl
                have lp85 : ∀ (fl : Nat) (p9 : Nat) (nn : Nat → Int64) (pv : Nat → Int64), (hpl : p9 ≤ 2) → (KN : keepN [20, 21, 22, 23, 24, 25, 6 + 2 * aN (nI k), 6 + 2 * aN (nI k) + 1] nu nn) → (hR3 : ∀ b9, b9 < b → getN nn (6 + 2 * k + b9) = rdT (nI k) mq aq L mo an pl ho ga lg b9) → (hR2 : ∀ p, p < p9 → getN nn (24 + p) = r2T (nI k) mq aq L mo an pl ho ga lg b p) → 2 - p9 < fl → ∀ (H : Heap) (locs : List Loc), zB D A s ([(q, .inr (8, mX ad (0 : Int32) z.1 z.2.1 z.2.2.1 z.2.2.2.1 z.2.2.2.2.1 z.2.2.2.2.2.1 z.2.2.2.2.2.2.1 z.2.2.2.2.2.2.2)), ((ad 9), .inl (ka 1, 4, .inr (.inl pv))), ((ad 4), .inl (ka 0, 8, .inl mo)), ((ad 5), .inl (ka 0, 8, .inl an)), ((ad 6), .inl (ka 0, 8, .inl pl)), ((ad 7), .inl (ka 0, 24, .inl ho)), ((ad 3), .inl (ka 1, 200, .inr (.inl nn))), ((ad 10), .inl (ka 0, 4, .inl ga)), ((ad 11), .inl (ka 0, 4, .inl lg)), ((ad 12), .inl (ka 0, 3, .inl (upd pm k (0 : Int32)))), ((ad 13), .inl (ka 0, 3, .inl (upd pa k (0 : Int32))))]) H locs → ∀ ls : Array Slot, lv_has ls 6 [(4, .int (nI b)), (5, .int (nI p9)), (0, .ref q), (1, .int (nI k)), (2, .int mq), (3, .int aq)] → W p l e (zRm 4 112 0 0) s m args below meth c H locs 0 0 Q (F0 m 85 ls []) := by
                  intro fl
                  induction fl with
                  | zero => intro p9 nn pv hpl KN hR3 hR2 hfl; exact absurd hfl (Nat.not_lt_zero _)
                  | succ fl ih85 =>
                    intro p9 nn pv hpl KN hR3 hR2 hfl85 H locs hB ls hl
                    refine lv_iload hx hb dX8_trial_85 (lv_at hl 1 rfl) ?_
                    refine lv_iconst (v := 2) hx hb dX8_trial_87 (by decide) ?_
                    refine lv_icmp_ge (tgt := 186) hx hb dX8_trial_88 (by decide) (fun h88 => ?_) (fun h88 => ?_)
                    · skip
                      have hp2 : p9 = 2 := by have := (nI_leI (a := 2) (b := p9) (by decide) (by omega)).mp h88; omega
                      have T0 := hR2 0 (by omega)
                      have T1 := hR2 1 (by omega)
                      obtain ⟨l0, hl0, e0⟩ := hlg (2 * b + 0) (by omega)
                      obtain ⟨l1, hl1, e1⟩ := hlg (2 * b + 1) (by omega)
                      have X0 := rd2_o (hbd 0 (by decide)) hap (hyp 0) (hga (2 * b + 0) (by omega)) (l := aN (lg (2 * b + 0))) (by rw [e0, aNn hl0 (by decide)]; exact hl0)
                      have X1 := rd2_o (hbd 1 (by decide)) hap (hyp 1) (hga (2 * b + 1) (by omega)) (l := aN (lg (2 * b + 1))) (by rw [e1, aNn hl1 (by decide)]; exact hl1)
                      rw [show rd2 _ _ _ _ _ = r2T (nI k) mq aq L mo an pl ho ga lg b 0 from rfl] at X0
                      rw [show rd2 _ _ _ _ _ = r2T (nI k) mq aq L mo an pl ho ga lg b 1 from rfl] at X1
                      refine lv_aload_n hx hb dX8_trial_186 rfl (lv_at hl 2 rfl) ?_
                      refine lv_bipush (v := 6) hx hb dX8_trial_187 (by decide) ?_
                      refine lv_iconst (v := 2) hx hb dX8_trial_189 (by decide) ?_
                      refine lv_iload_n hx hb dX8_trial_190 rfl (lv_at hl 3 rfl) ?_
                      refine lv_imul hx hb dX8_trial_191 ?_
                      refine ztopi (y := nI (2 * k)) (pk_mul 2 k) ?_
                      refine lv_iadd hx hb dX8_trial_192 ?_
                      refine ztopi (y := nI (6 + (2 * k))) (nI_add 6 (2 * k)) ?_
                      refine lv_iload hx hb dX8_trial_193 (lv_at hl 0 rfl) ?_
                      refine lv_iadd hx hb dX8_trial_195 ?_
                      refine ztopi (y := nI ((6 + (2 * k)) + b)) (nI_add (6 + (2 * k)) b) ?_
                      refine lv_bipush (v := 24) hx hb dX8_trial_196 (by decide) ?_
                      refine lv_bipush (v := 25) hx hb dX8_trial_198 (by decide) ?_
                      refine lv_iconst (v := 0) hx hb dX8_trial_200 (by decide) ?_
                      refine zVv zm_X8_170 hF hB (c_X8_sum l D ka kb q ad false z nn ((6 + (2 * k)) + b) 24 25 false (by omega) (by decide) (by decide) (by
                          have e8 := (X0.2).2.2.2.2
                          rw [show nn (5 * 24 + 4) = (r2T (nI k) mq aq L mo an pl ho ga lg b 0).2.2.2.2 from congrArg (fun v : N5 => v.2.2.2.2) T0]
                          omega) (by
                          have e8 := (X1.2).2.2.2.2
                          rw [show nn (5 * 25 + 4) = (r2T (nI k) mq aq L mo an pl ho ga lg b 1).2.2.2.2 from congrArg (fun v : N5 => v.2.2.2.2) T1]
                          omega)) [0, 6] rfl (by decide) [q, (ad 3)] (fun _ => rfl) rfl 0 8 rfl rfl rfl ⟨Nat.le_of_ble_eq_true rfl, Nat.le_of_ble_eq_true rfl⟩ rfl hl.1 (Nat.le_of_ble_eq_true rfl) ⟨Nat.le_refl _, Nat.le_refl _⟩ dX8_trial_201 ?_
                      clear hB
                      try clear locs
                      try clear H
                      intro u3 H locs hp hB
                      replace hB : zB D A s ([(q, .inr (8, mO ad (false || sumO false (getN nn 24) (getN nn 25)) z)), ((ad 9), .inl (ka 1, 4, .inr (.inl pv))), ((ad 4), .inl (ka 0, 8, .inl mo)), ((ad 5), .inl (ka 0, 8, .inl an)), ((ad 6), .inl (ka 0, 8, .inl pl)), ((ad 7), .inl (ka 0, 24, .inl ho)), ((ad 3), .inl (ka 1, 200, .inr (.inl (if (false || sumO false (getN nn 24) (getN nn 25)) = true then nn else setN nn ((6 + (2 * k)) + b) (sumV false (getN nn 24) (getN nn 25)))))), ((ad 10), .inl (ka 0, 4, .inl ga)), ((ad 11), .inl (ka 0, 4, .inl lg)), ((ad 12), .inl (ka 0, 3, .inl (upd pm k (0 : Int32)))), ((ad 13), .inl (ka 0, 3, .inl (upd pa k (0 : Int32))))]) H locs := hB
                      have ho9 : (false || sumO false (getN nn 24) (getN nn 25)) = false := by rw [T0, T1]; exact (sum_bd X0.2 X1.2 (by omega) (by omega) (by omega)).1
                      rw [ho9, if_neg Bool.false_ne_true] at hB
                      replace hB : zB D A s ([(q, .inr (8, mO ad false z)), ((ad 9), .inl (ka 1, 4, .inr (.inl pv))), ((ad 4), .inl (ka 0, 8, .inl mo)), ((ad 5), .inl (ka 0, 8, .inl an)), ((ad 6), .inl (ka 0, 8, .inl pl)), ((ad 7), .inl (ka 0, 24, .inl ho)), ((ad 3), .inl (ka 1, 200, .inr (.inl (setN nn ((6 + (2 * k)) + b) (sumV false (getN nn 24) (getN nn 25)))))), ((ad 10), .inl (ka 0, 4, .inl ga)), ((ad 11), .inl (ka 0, 4, .inl lg)), ((ad 12), .inl (ka 0, 3, .inl (upd pm k (0 : Int32)))), ((ad 13), .inl (ka 0, 3, .inl (upd pa k (0 : Int32))))]) H locs := hB
                      generalize hn6 : (setN nn ((6 + (2 * k)) + b) (sumV false (getN nn 24) (getN nn 25))) = n6 at hB
                      have E6 : getN n6 (6 + 2 * k + b) = rdT (nI k) mq aq L mo an pl ho ga lg b := by rw [← hn6, getN_same, T0, T1]; rfl
                      clear ho9
                      have K6 : keepN [20, 21, 22, 23, 24, 25, 6 + 2 * aN (nI k), 6 + 2 * aN (nI k) + 1] nu n6 := by rw [← hn6]; exact KN.set (by rw [rk]; rcases (show b = 0 ∨ b = 1 by omega) with e8 | e8 <;> rw [e8] <;> simp) _
                      refine lv_iinc (v := nI (b + 1)) (lv' := [(4, .int (nI (b + 1))), (5, .int (nI p9)), (0, .ref q), (1, .int (nI k)), (2, .int mq), (3, .int aq)]) hx hb dX8_trial_204 hl (k := 0) rfl (nI_1 _) (by decide) rfl ?_
                      clear hl
                      clear ls
                      intro ls hl
                      refine lv_goto (tgt := 76) hx hb dX8_trial_207 (by decide) ?_
                      exact ih76 (b + 1) n6 pv (by omega) (K6) (fun b9 h9 => by
                              by_cases e8 : b9 = b
                              · rw [e8]; exact E6
                              · rw [← hn6, getN_ne _ _ _ _ (by omega)]; exact hR3 b9 (by omega)) (by omega) _ _ (hB) _ (lv_sub hl [0, 2, 3, 4, 5] rfl)
                    · skip
                      have hp2 : p9 < 2 := Nat.not_le.mp (fun e9 => h88 ((nI_leI (a := 2) (b := p9) (by decide) (by omega)).mpr e9))
                      obtain ⟨l9, hl9, hle⟩ := hlg (2 * b + p9) (by omega)
                      refine lv_aload_n hx hb dX8_trial_91 rfl (lv_at hl 2 rfl) ?_
                      refine lv_bipush (v := 20) hx hb dX8_trial_92 (by decide) ?_
                      refine lv_iload hx hb dX8_trial_94 (lv_at hl 1 rfl) ?_
                      refine zVv zm_X8_255 hF hB (c_X8_pullTo l D ka kb q ad false z pv 20 p9 L mo an pl ho nn (by decide) (hp2) (hL) (hok) (hoh)) [0, 1, 2, 3, 4, 5, 6] rfl (by decide) [q, (ad 9), (ad 4), (ad 5), (ad 6), (ad 7), (ad 3)] (fun _ => rfl) rfl 0 8 rfl rfl rfl ⟨Nat.le_of_ble_eq_true rfl, Nat.le_of_ble_eq_true rfl⟩ rfl hl.1 (Nat.le_of_ble_eq_true rfl) ⟨Nat.le_refl _, Nat.le_refl _⟩ dX8_trial_96 ?_
                      clear hB
                      try clear locs
                      try clear H
                      intro u4 H locs hp hB
                      obtain ⟨pu24, rfl⟩ : ∃ z, z = u4 := ⟨_, rfl⟩
                      have hp4 : True := hp
                      have HPP := hp4
                      replace hB : zB D A s ([(q, .inr (8, mX ad (0 : Int32) z.1 z.2.1 z.2.2.1 z.2.2.2.1 z.2.2.2.2.1 z.2.2.2.2.2.1 z.2.2.2.2.2.2.1 z.2.2.2.2.2.2.2)), ((ad 9), .inl (ka 1, 4, .inr (.inl pu24))), ((ad 4), .inl (ka 0, 8, .inl mo)), ((ad 5), .inl (ka 0, 8, .inl an)), ((ad 6), .inl (ka 0, 8, .inl pl)), ((ad 7), .inl (ka 0, 24, .inl ho)), ((ad 3), .inl (ka 1, 200, .inr (.inl (setN nn 20 (plN (pulI p9 L mo an pl ho)))))), ((ad 10), .inl (ka 0, 4, .inl ga)), ((ad 11), .inl (ka 0, 4, .inl lg)), ((ad 12), .inl (ka 0, 3, .inl (upd pm k (0 : Int32)))), ((ad 13), .inl (ka 0, 3, .inl (upd pa k (0 : Int32))))]) H locs := hB
                      generalize hn1 : (setN nn 20 (plN (pulI p9 L mo an pl ho))) = n1 at hB
                      have A1 : getN n1 20 = plN (pulI p9 L mo an pl ho) := by rw [← hn1, getN_same]
                      refine lv_aload_n hx hb dX8_trial_99 rfl (lv_at hl 2 rfl) ?_
                      refine lv_bipush (v := 21) hx hb dX8_trial_100 (by decide) ?_
                      refine lv_aload_n hx hb dX8_trial_102 rfl (lv_at hl 2 rfl) ?_
                      refine zget zf_X8_50 hF hB 0 rfl rfl dX8_trial_103 ?_
                      refine lv_iload_n hx hb dX8_trial_106 rfl (lv_at hl 3 rfl) ?_
                      refine ziald hF hB 10 rfl k (rfl) (by omega) (by decide) (v := (nI (if aN (nI k) = 0 then 0 else aN aq))) (by show upd pa k _ k = _; rw [show upd pa k _ k = _ from if_pos rfl, rk, if_pos hk0]; rfl) dX8_trial_107 ?_
                      refine lv_iload_n hx hb dX8_trial_108 rfl (lv_at hl 3 rfl) ?_
                      refine lv_iload hx hb dX8_trial_109 (lv_at hl 1 rfl) ?_
                      refine lv_iconst (v := 1) hx hb dX8_trial_111 (by decide) ?_
                      refine lv_iadd hx hb dX8_trial_112 ?_
                      refine ztopi (y := nI (p9 + 1)) (nI_add p9 1) ?_
                      refine lv_icmp_ne (tgt := 121) hx hb dX8_trial_113 (by decide) (fun h113 => ?_) (fun h113 => ?_)
                      · skip
                        have hy9 : (if aN (nI k) = p9 + 1 then mq.toInt else 0) = 0 := by rw [rk, if_neg (fun e8 => h113 (by rw [e8]))]
                        refine lv_lconst (v := 0) hx hb dX8_trial_121 (by decide) ?_
                        refine ztopl (y := Int64.ofInt (if aN (nI k) = p9 + 1 then mq.toInt else 0)) (by rw [hy9]; rfl) ?_
                        refine zVv zm_X8_258 hF hB (c_X8_wayTo l D ka kb q ad false z n1 21 (if aN (nI k) = 0 then 0 else aN aq) (if aN (nI k) = p9 + 1 then mq.toInt else 0) (by decide) (hap)) [0, 6] rfl (by decide) [q, (ad 3)] (fun _ => rfl) rfl 0 8 rfl rfl rfl ⟨Nat.le_of_ble_eq_true rfl, Nat.le_of_ble_eq_true rfl⟩ rfl hl.1 (Nat.le_of_ble_eq_true rfl) ⟨Nat.le_refl _, Nat.le_refl _⟩ dX8_trial_122 ?_
                        clear hB
                        try clear locs
                        try clear H
                        intro u5 H locs hp hB
                        replace hB : zB D A s ([(q, .inr (8, mX ad (0 : Int32) z.1 z.2.1 z.2.2.1 z.2.2.2.1 z.2.2.2.2.1 z.2.2.2.2.2.1 z.2.2.2.2.2.2.1 z.2.2.2.2.2.2.2)), ((ad 9), .inl (ka 1, 4, .inr (.inl pu24))), ((ad 4), .inl (ka 0, 8, .inl mo)), ((ad 5), .inl (ka 0, 8, .inl an)), ((ad 6), .inl (ka 0, 8, .inl pl)), ((ad 7), .inl (ka 0, 24, .inl ho)), ((ad 3), .inl (ka 1, 200, .inr (.inl (setN n1 21 (wyN (if aN (nI k) = p9 + 1 then mq.toInt else 0) (if aN (nI k) = 0 then 0 else aN aq)))))), ((ad 10), .inl (ka 0, 4, .inl ga)), ((ad 11), .inl (ka 0, 4, .inl lg)), ((ad 12), .inl (ka 0, 3, .inl (upd pm k (0 : Int32)))), ((ad 13), .inl (ka 0, 3, .inl (upd pa k (0 : Int32))))]) H locs := hB
                        generalize hn2 : (setN n1 21 (wyN (if aN (nI k) = p9 + 1 then mq.toInt else 0) (if aN (nI k) = 0 then 0 else aN aq))) = n2 at hB
                        have A2 : getN n2 20 = plN (pulI p9 L mo an pl ho) := by rw [← hn2, getN_ne _ _ _ _ (by decide)]; exact A1
                        have B2 : getN n2 21 = wyN (if aN (nI k) = p9 + 1 then mq.toInt else 0) (if aN (nI k) = 0 then 0 else aN aq) := by rw [← hn2, getN_same]
                        refine lv_aload_n hx hb dX8_trial_125 rfl (lv_at hl 2 rfl) ?_
                        refine lv_bipush (v := 22) hx hb dX8_trial_126 (by decide) ?_
                        refine lv_bipush (v := 20) hx hb dX8_trial_128 (by decide) ?_
                        refine lv_bipush (v := 21) hx hb dX8_trial_130 (by decide) ?_
                        refine lv_iconst (v := 0) hx hb dX8_trial_132 (by decide) ?_
                        refine zVv zm_X8_170 hF hB (c_X8_sum l D ka kb q ad false z n2 22 20 21 false (by decide) (by decide) (by decide) (by
                            have e8 := (plN_bd (hbd p9 hp2)).2.2.2.2
                            rw [show n2 (5 * 20 + 4) = (plN (pulI p9 L mo an pl ho)).2.2.2.2 from congrArg (fun v : N5 => v.2.2.2.2) A2]
                            omega) (by
                            have e8 := (wyN_bd (y := (if aN (nI k) = p9 + 1 then mq.toInt else 0)) (Y := 99) hap (by have := hyp p9; omega) (by decide)).2.2.2.2
                            rw [show n2 (5 * 21 + 4) = (wyN (if aN (nI k) = p9 + 1 then mq.toInt else 0) (if aN (nI k) = 0 then 0 else aN aq)).2.2.2.2 from congrArg (fun v : N5 => v.2.2.2.2) B2]
                            omega)) [0, 6] rfl (by decide) [q, (ad 3)] (fun _ => rfl) rfl 0 8 rfl rfl rfl ⟨Nat.le_of_ble_eq_true rfl, Nat.le_of_ble_eq_true rfl⟩ rfl hl.1 (Nat.le_of_ble_eq_true rfl) ⟨Nat.le_refl _, Nat.le_refl _⟩ dX8_trial_133 ?_
                        clear hB
                        try clear locs
                        try clear H
                        intro u6 H locs hp hB
                        replace hB : zB D A s ([(q, .inr (8, mO ad (false || sumO false (getN n2 20) (getN n2 21)) z)), ((ad 9), .inl (ka 1, 4, .inr (.inl pu24))), ((ad 4), .inl (ka 0, 8, .inl mo)), ((ad 5), .inl (ka 0, 8, .inl an)), ((ad 6), .inl (ka 0, 8, .inl pl)), ((ad 7), .inl (ka 0, 24, .inl ho)), ((ad 3), .inl (ka 1, 200, .inr (.inl (if (false || sumO false (getN n2 20) (getN n2 21)) = true then n2 else setN n2 22 (sumV false (getN n2 20) (getN n2 21)))))), ((ad 10), .inl (ka 0, 4, .inl ga)), ((ad 11), .inl (ka 0, 4, .inl lg)), ((ad 12), .inl (ka 0, 3, .inl (upd pm k (0 : Int32)))), ((ad 13), .inl (ka 0, 3, .inl (upd pa k (0 : Int32))))]) H locs := hB
                        have ho9 : (false || sumO false (getN n2 20) (getN n2 21)) = false := by rw [A2, B2]; exact (rd1_o (hbd p9 hp2) hap (hyp p9)).1
                        rw [ho9, if_neg Bool.false_ne_true] at hB
                        replace hB : zB D A s ([(q, .inr (8, mO ad false z)), ((ad 9), .inl (ka 1, 4, .inr (.inl pu24))), ((ad 4), .inl (ka 0, 8, .inl mo)), ((ad 5), .inl (ka 0, 8, .inl an)), ((ad 6), .inl (ka 0, 8, .inl pl)), ((ad 7), .inl (ka 0, 24, .inl ho)), ((ad 3), .inl (ka 1, 200, .inr (.inl (setN n2 22 (sumV false (getN n2 20) (getN n2 21)))))), ((ad 10), .inl (ka 0, 4, .inl ga)), ((ad 11), .inl (ka 0, 4, .inl lg)), ((ad 12), .inl (ka 0, 3, .inl (upd pm k (0 : Int32)))), ((ad 13), .inl (ka 0, 3, .inl (upd pa k (0 : Int32))))]) H locs := hB
                        generalize hn3 : (setN n2 22 (sumV false (getN n2 20) (getN n2 21))) = n3 at hB
                        have C3 : getN n3 22 = rd1 (pulI p9 L mo an pl ho) (if aN (nI k) = p9 + 1 then mq.toInt else 0) (if aN (nI k) = 0 then 0 else aN aq) := by rw [← hn3, getN_same, A2, B2]; rfl
                        clear ho9
                        refine lv_aload_n hx hb dX8_trial_136 rfl (lv_at hl 2 rfl) ?_
                        refine lv_bipush (v := 23) hx hb dX8_trial_137 (by decide) ?_
                        refine lv_aload_n hx hb dX8_trial_139 rfl (lv_at hl 2 rfl) ?_
                        refine zget zf_X8_44 hF hB 0 rfl rfl dX8_trial_140 ?_
                        refine lv_iconst (v := 2) hx hb dX8_trial_143 (by decide) ?_
                        refine lv_iload hx hb dX8_trial_144 (lv_at hl 0 rfl) ?_
                        refine lv_imul hx hb dX8_trial_146 ?_
                        refine ztopi (y := nI (2 * b)) (pk_mul 2 b) ?_
                        refine lv_iload hx hb dX8_trial_147 (lv_at hl 1 rfl) ?_
                        refine lv_iadd hx hb dX8_trial_149 ?_
                        refine ztopi (y := nI ((2 * b) + p9)) (nI_add (2 * b) p9) ?_
                        refine ziald hF hB 8 rfl ((2 * b) + p9) (rfl) (by omega) (by decide) (v := (nI (aN (lg (2 * b + p9))))) (by rw [hle, aNn hl9 (by decide)]) dX8_trial_150 ?_
                        refine lv_aload_n hx hb dX8_trial_151 rfl (lv_at hl 2 rfl) ?_
                        refine zget zf_X8_41 hF hB 0 rfl rfl dX8_trial_152 ?_
                        refine lv_iconst (v := 2) hx hb dX8_trial_155 (by decide) ?_
                        refine lv_iload hx hb dX8_trial_156 (lv_at hl 0 rfl) ?_
                        refine lv_imul hx hb dX8_trial_158 ?_
                        refine ztopi (y := nI (2 * b)) (pk_mul 2 b) ?_
                        refine lv_iload hx hb dX8_trial_159 (lv_at hl 1 rfl) ?_
                        refine lv_iadd hx hb dX8_trial_161 ?_
                        refine ztopi (y := nI ((2 * b) + p9)) (nI_add (2 * b) p9) ?_
                        refine ziald hF hB 7 rfl ((2 * b) + p9) (rfl) (by omega) (by decide) (v := (ga ((2 * b) + p9))) (rfl) dX8_trial_162 ?_
                        refine lv_i2l (v := (ga ((2 * b) + p9)).toInt64) hx hb dX8_trial_163 rfl ?_
                        refine ztopl (y := Int64.ofInt (ga (2 * b + p9)).toInt) (i64_w _) ?_
                        refine zVv zm_X8_258 hF hB (c_X8_wayTo l D ka kb q ad false z n3 23 (aN (lg (2 * b + p9))) ((ga (2 * b + p9)).toInt) (by decide) (by rw [hle, aNn hl9 (by decide)]; exact hl9)) [0, 6] rfl (by decide) [q, (ad 3)] (fun _ => rfl) rfl 0 8 rfl rfl rfl ⟨Nat.le_of_ble_eq_true rfl, Nat.le_of_ble_eq_true rfl⟩ rfl hl.1 (Nat.le_of_ble_eq_true rfl) ⟨Nat.le_refl _, Nat.le_refl _⟩ dX8_trial_164 ?_
                        clear hB
                        try clear locs
                        try clear H
                        intro u7 H locs hp hB
                        replace hB : zB D A s ([(q, .inr (8, mO ad false z)), ((ad 9), .inl (ka 1, 4, .inr (.inl pu24))), ((ad 4), .inl (ka 0, 8, .inl mo)), ((ad 5), .inl (ka 0, 8, .inl an)), ((ad 6), .inl (ka 0, 8, .inl pl)), ((ad 7), .inl (ka 0, 24, .inl ho)), ((ad 3), .inl (ka 1, 200, .inr (.inl (setN n3 23 (wyN ((ga (2 * b + p9)).toInt) (aN (lg (2 * b + p9)))))))), ((ad 10), .inl (ka 0, 4, .inl ga)), ((ad 11), .inl (ka 0, 4, .inl lg)), ((ad 12), .inl (ka 0, 3, .inl (upd pm k (0 : Int32)))), ((ad 13), .inl (ka 0, 3, .inl (upd pa k (0 : Int32))))]) H locs := hB
                        generalize hn4 : (setN n3 23 (wyN ((ga (2 * b + p9)).toInt) (aN (lg (2 * b + p9))))) = n4 at hB
                        have C4 : getN n4 22 = rd1 (pulI p9 L mo an pl ho) (if aN (nI k) = p9 + 1 then mq.toInt else 0) (if aN (nI k) = 0 then 0 else aN aq) := by rw [← hn4, getN_ne _ _ _ _ (by decide)]; exact C3
                        have D4 : getN n4 23 = wyN (ga (2 * b + p9)).toInt (aN (lg (2 * b + p9))) := by rw [← hn4, getN_same, hle, aNn hl9 (by decide)]
                        refine lv_aload_n hx hb dX8_trial_167 rfl (lv_at hl 2 rfl) ?_
                        refine lv_bipush (v := 24) hx hb dX8_trial_168 (by decide) ?_
                        refine lv_iload hx hb dX8_trial_170 (lv_at hl 1 rfl) ?_
                        refine lv_iadd hx hb dX8_trial_172 ?_
                        refine ztopi (y := nI (24 + p9)) (nI_add 24 p9) ?_
                        refine lv_bipush (v := 22) hx hb dX8_trial_173 (by decide) ?_
                        refine lv_bipush (v := 23) hx hb dX8_trial_175 (by decide) ?_
                        refine zVv zm_X8_148 hF hB (c_X8_product l D ka kb q ad false z n4 (24 + p9) 22 23 (by omega) (by decide) (by decide) (by
                            have e8 := ((rd1_o (hbd p9 hp2) hap (hyp p9)).2).2.2.2.2
                            rw [show n4 (5 * 22 + 4) = (rd1 (pulI p9 L mo an pl ho) (if aN (nI k) = p9 + 1 then mq.toInt else 0) (if aN (nI k) = 0 then 0 else aN aq)).2.2.2.2 from congrArg (fun v : N5 => v.2.2.2.2) C4]
                            omega) (by
                            have e8 := (wyN_bd (y := (ga (2 * b + p9)).toInt) (Y := 9) (a := aN (lg (2 * b + p9))) (by rw [hle, aNn hl9 (by decide)]; exact hl9) (by have := hga (2 * b + p9) (by omega); omega) (by decide)).2.2.2.2
                            rw [show n4 (5 * 23 + 4) = (wyN (ga (2 * b + p9)).toInt (aN (lg (2 * b + p9)))).2.2.2.2 from congrArg (fun v : N5 => v.2.2.2.2) D4]
                            omega)) [0, 6] rfl (by decide) [q, (ad 3)] (fun _ => rfl) rfl 0 8 rfl rfl rfl ⟨Nat.le_of_ble_eq_true rfl, Nat.le_of_ble_eq_true rfl⟩ rfl hl.1 (Nat.le_of_ble_eq_true rfl) ⟨Nat.le_refl _, Nat.le_refl _⟩ dX8_trial_177 ?_
                        clear hB
                        try clear locs
                        try clear H
                        intro u8 H locs hp hB
                        replace hB : zB D A s ([(q, .inr (8, mO ad (false || prodO (getN n4 22) (getN n4 23)) z)), ((ad 9), .inl (ka 1, 4, .inr (.inl pu24))), ((ad 4), .inl (ka 0, 8, .inl mo)), ((ad 5), .inl (ka 0, 8, .inl an)), ((ad 6), .inl (ka 0, 8, .inl pl)), ((ad 7), .inl (ka 0, 24, .inl ho)), ((ad 3), .inl (ka 1, 200, .inr (.inl (if (false || prodO (getN n4 22) (getN n4 23)) = true then n4 else setN n4 (24 + p9) (prodV (getN n4 22) (getN n4 23)))))), ((ad 10), .inl (ka 0, 4, .inl ga)), ((ad 11), .inl (ka 0, 4, .inl lg)), ((ad 12), .inl (ka 0, 3, .inl (upd pm k (0 : Int32)))), ((ad 13), .inl (ka 0, 3, .inl (upd pa k (0 : Int32))))]) H locs := hB
                        have ho9 : (false || prodO (getN n4 22) (getN n4 23)) = false := by rw [C4, D4]; exact (rd2_o (hbd p9 hp2) hap (hyp p9) (hga (2 * b + p9) (by omega)) (l := aN (lg (2 * b + p9))) (by rw [hle, aNn hl9 (by decide)]; exact hl9)).1
                        rw [ho9, if_neg Bool.false_ne_true] at hB
                        replace hB : zB D A s ([(q, .inr (8, mO ad false z)), ((ad 9), .inl (ka 1, 4, .inr (.inl pu24))), ((ad 4), .inl (ka 0, 8, .inl mo)), ((ad 5), .inl (ka 0, 8, .inl an)), ((ad 6), .inl (ka 0, 8, .inl pl)), ((ad 7), .inl (ka 0, 24, .inl ho)), ((ad 3), .inl (ka 1, 200, .inr (.inl (setN n4 (24 + p9) (prodV (getN n4 22) (getN n4 23)))))), ((ad 10), .inl (ka 0, 4, .inl ga)), ((ad 11), .inl (ka 0, 4, .inl lg)), ((ad 12), .inl (ka 0, 3, .inl (upd pm k (0 : Int32)))), ((ad 13), .inl (ka 0, 3, .inl (upd pa k (0 : Int32))))]) H locs := hB
                        generalize hn5 : (setN n4 (24 + p9) (prodV (getN n4 22) (getN n4 23))) = n5 at hB
                        have E5 : getN n5 (24 + p9) = r2T (nI k) mq aq L mo an pl ho ga lg b p9 := by rw [← hn5, getN_same, C4, D4]; rfl
                        clear ho9
                        have O5 : ∀ i, i ≠ 20 → i ≠ 21 → i ≠ 22 → i ≠ 23 → i ≠ 24 + p9 → getN n5 i = getN nn i := fun i i0 i1 i2 i3 i4 => by rw [← hn5, getN_ne _ _ _ _ i4, ← hn4, getN_ne _ _ _ _ i3, ← hn3, getN_ne _ _ _ _ i2, ← hn2, getN_ne _ _ _ _ i1, ← hn1, getN_ne _ _ _ _ i0]
                        have K5 : keepN [20, 21, 22, 23, 24, 25, 6 + 2 * aN (nI k), 6 + 2 * aN (nI k) + 1] nu n5 := by rw [← hn5, ← hn4, ← hn3, ← hn2, ← hn1]; exact ((((KN.set (by simp) _).set (by simp) _).set (by simp) _).set (by simp) _).set (by rcases (show p9 = 0 ∨ p9 = 1 by omega) with e8 | e8 <;> rw [e8] <;> simp) _
                        refine lv_iinc (v := nI (p9 + 1)) (lv' := [(5, .int (nI (p9 + 1))), (4, .int (nI b)), (0, .ref q), (1, .int (nI k)), (2, .int mq), (3, .int aq)]) hx hb dX8_trial_180 hl (k := 1) rfl (nI_1 _) (by decide) rfl ?_
                        clear hl
                        clear ls
                        intro ls hl
                        refine lv_goto (tgt := 85) hx hb dX8_trial_183 (by decide) ?_
                        exact ih85 (p9 + 1) n5 pu24 (by omega) (K5) (fun b9 h9 => by rw [O5 _ (by omega) (by omega) (by omega) (by omega) (by omega)]; exact hR3 b9 h9) (fun p h9 => by
                                by_cases e8 : p = p9
                                · rw [e8]; exact E5
                                · rw [O5 _ (by omega) (by omega) (by omega) (by omega) (by omega)]; exact hR2 p (by omega)) (by omega) _ _ (hB) _ (lv_sub hl [1, 0, 2, 3, 4, 5] rfl)
                      · skip
                        have hy9 : (if aN (nI k) = p9 + 1 then mq.toInt else 0) = mq.toInt := by rw [rk, if_pos ((nI_eq (by omega) (by omega)).mp h113)]
                        refine lv_iload_n hx hb dX8_trial_116 rfl (lv_at hl 4 rfl) ?_
                        refine lv_i2l (v := mq.toInt64) hx hb dX8_trial_117 rfl ?_
                        refine ztopl (y := Int64.ofInt (if aN (nI k) = p9 + 1 then mq.toInt else 0)) (by rw [hy9]; exact i64_w _) ?_
                        refine lv_goto (tgt := 122) hx hb dX8_trial_118 (by decide) ?_
                        refine zVv zm_X8_258 hF hB (c_X8_wayTo l D ka kb q ad false z n1 21 (if aN (nI k) = 0 then 0 else aN aq) (if aN (nI k) = p9 + 1 then mq.toInt else 0) (by decide) (hap)) [0, 6] rfl (by decide) [q, (ad 3)] (fun _ => rfl) rfl 0 8 rfl rfl rfl ⟨Nat.le_of_ble_eq_true rfl, Nat.le_of_ble_eq_true rfl⟩ rfl hl.1 (Nat.le_of_ble_eq_true rfl) ⟨Nat.le_refl _, Nat.le_refl _⟩ dX8_trial_122 ?_
                        clear hB
                        try clear locs
                        try clear H
                        intro u9 H locs hp hB
                        replace hB : zB D A s ([(q, .inr (8, mX ad (0 : Int32) z.1 z.2.1 z.2.2.1 z.2.2.2.1 z.2.2.2.2.1 z.2.2.2.2.2.1 z.2.2.2.2.2.2.1 z.2.2.2.2.2.2.2)), ((ad 9), .inl (ka 1, 4, .inr (.inl pu24))), ((ad 4), .inl (ka 0, 8, .inl mo)), ((ad 5), .inl (ka 0, 8, .inl an)), ((ad 6), .inl (ka 0, 8, .inl pl)), ((ad 7), .inl (ka 0, 24, .inl ho)), ((ad 3), .inl (ka 1, 200, .inr (.inl (setN n1 21 (wyN (if aN (nI k) = p9 + 1 then mq.toInt else 0) (if aN (nI k) = 0 then 0 else aN aq)))))), ((ad 10), .inl (ka 0, 4, .inl ga)), ((ad 11), .inl (ka 0, 4, .inl lg)), ((ad 12), .inl (ka 0, 3, .inl (upd pm k (0 : Int32)))), ((ad 13), .inl (ka 0, 3, .inl (upd pa k (0 : Int32))))]) H locs := hB
                        generalize hn2 : (setN n1 21 (wyN (if aN (nI k) = p9 + 1 then mq.toInt else 0) (if aN (nI k) = 0 then 0 else aN aq))) = n2 at hB
                        have A2 : getN n2 20 = plN (pulI p9 L mo an pl ho) := by rw [← hn2, getN_ne _ _ _ _ (by decide)]; exact A1
                        have B2 : getN n2 21 = wyN (if aN (nI k) = p9 + 1 then mq.toInt else 0) (if aN (nI k) = 0 then 0 else aN aq) := by rw [← hn2, getN_same]
                        refine lv_aload_n hx hb dX8_trial_125 rfl (lv_at hl 2 rfl) ?_
                        refine lv_bipush (v := 22) hx hb dX8_trial_126 (by decide) ?_
                        refine lv_bipush (v := 20) hx hb dX8_trial_128 (by decide) ?_
                        refine lv_bipush (v := 21) hx hb dX8_trial_130 (by decide) ?_
                        refine lv_iconst (v := 0) hx hb dX8_trial_132 (by decide) ?_
                        refine zVv zm_X8_170 hF hB (c_X8_sum l D ka kb q ad false z n2 22 20 21 false (by decide) (by decide) (by decide) (by
                            have e8 := (plN_bd (hbd p9 hp2)).2.2.2.2
                            rw [show n2 (5 * 20 + 4) = (plN (pulI p9 L mo an pl ho)).2.2.2.2 from congrArg (fun v : N5 => v.2.2.2.2) A2]
                            omega) (by
                            have e8 := (wyN_bd (y := (if aN (nI k) = p9 + 1 then mq.toInt else 0)) (Y := 99) hap (by have := hyp p9; omega) (by decide)).2.2.2.2
                            rw [show n2 (5 * 21 + 4) = (wyN (if aN (nI k) = p9 + 1 then mq.toInt else 0) (if aN (nI k) = 0 then 0 else aN aq)).2.2.2.2 from congrArg (fun v : N5 => v.2.2.2.2) B2]
                            omega)) [0, 6] rfl (by decide) [q, (ad 3)] (fun _ => rfl) rfl 0 8 rfl rfl rfl ⟨Nat.le_of_ble_eq_true rfl, Nat.le_of_ble_eq_true rfl⟩ rfl hl.1 (Nat.le_of_ble_eq_true rfl) ⟨Nat.le_refl _, Nat.le_refl _⟩ dX8_trial_133 ?_
                        clear hB
                        try clear locs
                        try clear H
                        intro u10 H locs hp hB
                        replace hB : zB D A s ([(q, .inr (8, mO ad (false || sumO false (getN n2 20) (getN n2 21)) z)), ((ad 9), .inl (ka 1, 4, .inr (.inl pu24))), ((ad 4), .inl (ka 0, 8, .inl mo)), ((ad 5), .inl (ka 0, 8, .inl an)), ((ad 6), .inl (ka 0, 8, .inl pl)), ((ad 7), .inl (ka 0, 24, .inl ho)), ((ad 3), .inl (ka 1, 200, .inr (.inl (if (false || sumO false (getN n2 20) (getN n2 21)) = true then n2 else setN n2 22 (sumV false (getN n2 20) (getN n2 21)))))), ((ad 10), .inl (ka 0, 4, .inl ga)), ((ad 11), .inl (ka 0, 4, .inl lg)), ((ad 12), .inl (ka 0, 3, .inl (upd pm k (0 : Int32)))), ((ad 13), .inl (ka 0, 3, .inl (upd pa k (0 : Int32))))]) H locs := hB
                        have ho9 : (false || sumO false (getN n2 20) (getN n2 21)) = false := by rw [A2, B2]; exact (rd1_o (hbd p9 hp2) hap (hyp p9)).1
                        rw [ho9, if_neg Bool.false_ne_true] at hB
                        replace hB : zB D A s ([(q, .inr (8, mO ad false z)), ((ad 9), .inl (ka 1, 4, .inr (.inl pu24))), ((ad 4), .inl (ka 0, 8, .inl mo)), ((ad 5), .inl (ka 0, 8, .inl an)), ((ad 6), .inl (ka 0, 8, .inl pl)), ((ad 7), .inl (ka 0, 24, .inl ho)), ((ad 3), .inl (ka 1, 200, .inr (.inl (setN n2 22 (sumV false (getN n2 20) (getN n2 21)))))), ((ad 10), .inl (ka 0, 4, .inl ga)), ((ad 11), .inl (ka 0, 4, .inl lg)), ((ad 12), .inl (ka 0, 3, .inl (upd pm k (0 : Int32)))), ((ad 13), .inl (ka 0, 3, .inl (upd pa k (0 : Int32))))]) H locs := hB
                        generalize hn3 : (setN n2 22 (sumV false (getN n2 20) (getN n2 21))) = n3 at hB
                        have C3 : getN n3 22 = rd1 (pulI p9 L mo an pl ho) (if aN (nI k) = p9 + 1 then mq.toInt else 0) (if aN (nI k) = 0 then 0 else aN aq) := by rw [← hn3, getN_same, A2, B2]; rfl
                        clear ho9
                        refine lv_aload_n hx hb dX8_trial_136 rfl (lv_at hl 2 rfl) ?_
                        refine lv_bipush (v := 23) hx hb dX8_trial_137 (by decide) ?_
                        refine lv_aload_n hx hb dX8_trial_139 rfl (lv_at hl 2 rfl) ?_
                        refine zget zf_X8_44 hF hB 0 rfl rfl dX8_trial_140 ?_
                        refine lv_iconst (v := 2) hx hb dX8_trial_143 (by decide) ?_
                        refine lv_iload hx hb dX8_trial_144 (lv_at hl 0 rfl) ?_
                        refine lv_imul hx hb dX8_trial_146 ?_
                        refine ztopi (y := nI (2 * b)) (pk_mul 2 b) ?_
                        refine lv_iload hx hb dX8_trial_147 (lv_at hl 1 rfl) ?_
                        refine lv_iadd hx hb dX8_trial_149 ?_
                        refine ztopi (y := nI ((2 * b) + p9)) (nI_add (2 * b) p9) ?_
                        refine ziald hF hB 8 rfl ((2 * b) + p9) (rfl) (by omega) (by decide) (v := (nI (aN (lg (2 * b + p9))))) (by rw [hle, aNn hl9 (by decide)]) dX8_trial_150 ?_
                        refine lv_aload_n hx hb dX8_trial_151 rfl (lv_at hl 2 rfl) ?_
                        refine zget zf_X8_41 hF hB 0 rfl rfl dX8_trial_152 ?_
                        refine lv_iconst (v := 2) hx hb dX8_trial_155 (by decide) ?_
                        refine lv_iload hx hb dX8_trial_156 (lv_at hl 0 rfl) ?_
                        refine lv_imul hx hb dX8_trial_158 ?_
                        refine ztopi (y := nI (2 * b)) (pk_mul 2 b) ?_
                        refine lv_iload hx hb dX8_trial_159 (lv_at hl 1 rfl) ?_
                        refine lv_iadd hx hb dX8_trial_161 ?_
                        refine ztopi (y := nI ((2 * b) + p9)) (nI_add (2 * b) p9) ?_
                        refine ziald hF hB 7 rfl ((2 * b) + p9) (rfl) (by omega) (by decide) (v := (ga ((2 * b) + p9))) (rfl) dX8_trial_162 ?_
                        refine lv_i2l (v := (ga ((2 * b) + p9)).toInt64) hx hb dX8_trial_163 rfl ?_
                        refine ztopl (y := Int64.ofInt (ga (2 * b + p9)).toInt) (i64_w _) ?_
                        refine zVv zm_X8_258 hF hB (c_X8_wayTo l D ka kb q ad false z n3 23 (aN (lg (2 * b + p9))) ((ga (2 * b + p9)).toInt) (by decide) (by rw [hle, aNn hl9 (by decide)]; exact hl9)) [0, 6] rfl (by decide) [q, (ad 3)] (fun _ => rfl) rfl 0 8 rfl rfl rfl ⟨Nat.le_of_ble_eq_true rfl, Nat.le_of_ble_eq_true rfl⟩ rfl hl.1 (Nat.le_of_ble_eq_true rfl) ⟨Nat.le_refl _, Nat.le_refl _⟩ dX8_trial_164 ?_
                        clear hB
                        try clear locs
                        try clear H
                        intro u11 H locs hp hB
                        replace hB : zB D A s ([(q, .inr (8, mO ad false z)), ((ad 9), .inl (ka 1, 4, .inr (.inl pu24))), ((ad 4), .inl (ka 0, 8, .inl mo)), ((ad 5), .inl (ka 0, 8, .inl an)), ((ad 6), .inl (ka 0, 8, .inl pl)), ((ad 7), .inl (ka 0, 24, .inl ho)), ((ad 3), .inl (ka 1, 200, .inr (.inl (setN n3 23 (wyN ((ga (2 * b + p9)).toInt) (aN (lg (2 * b + p9)))))))), ((ad 10), .inl (ka 0, 4, .inl ga)), ((ad 11), .inl (ka 0, 4, .inl lg)), ((ad 12), .inl (ka 0, 3, .inl (upd pm k (0 : Int32)))), ((ad 13), .inl (ka 0, 3, .inl (upd pa k (0 : Int32))))]) H locs := hB
                        generalize hn4 : (setN n3 23 (wyN ((ga (2 * b + p9)).toInt) (aN (lg (2 * b + p9))))) = n4 at hB
                        have C4 : getN n4 22 = rd1 (pulI p9 L mo an pl ho) (if aN (nI k) = p9 + 1 then mq.toInt else 0) (if aN (nI k) = 0 then 0 else aN aq) := by rw [← hn4, getN_ne _ _ _ _ (by decide)]; exact C3
                        have D4 : getN n4 23 = wyN (ga (2 * b + p9)).toInt (aN (lg (2 * b + p9))) := by rw [← hn4, getN_same, hle, aNn hl9 (by decide)]
                        refine lv_aload_n hx hb dX8_trial_167 rfl (lv_at hl 2 rfl) ?_
                        refine lv_bipush (v := 24) hx hb dX8_trial_168 (by decide) ?_
                        refine lv_iload hx hb dX8_trial_170 (lv_at hl 1 rfl) ?_
                        refine lv_iadd hx hb dX8_trial_172 ?_
                        refine ztopi (y := nI (24 + p9)) (nI_add 24 p9) ?_
                        refine lv_bipush (v := 22) hx hb dX8_trial_173 (by decide) ?_
                        refine lv_bipush (v := 23) hx hb dX8_trial_175 (by decide) ?_
                        refine zVv zm_X8_148 hF hB (c_X8_product l D ka kb q ad false z n4 (24 + p9) 22 23 (by omega) (by decide) (by decide) (by
                            have e8 := ((rd1_o (hbd p9 hp2) hap (hyp p9)).2).2.2.2.2
                            rw [show n4 (5 * 22 + 4) = (rd1 (pulI p9 L mo an pl ho) (if aN (nI k) = p9 + 1 then mq.toInt else 0) (if aN (nI k) = 0 then 0 else aN aq)).2.2.2.2 from congrArg (fun v : N5 => v.2.2.2.2) C4]
                            omega) (by
                            have e8 := (wyN_bd (y := (ga (2 * b + p9)).toInt) (Y := 9) (a := aN (lg (2 * b + p9))) (by rw [hle, aNn hl9 (by decide)]; exact hl9) (by have := hga (2 * b + p9) (by omega); omega) (by decide)).2.2.2.2
                            rw [show n4 (5 * 23 + 4) = (wyN (ga (2 * b + p9)).toInt (aN (lg (2 * b + p9)))).2.2.2.2 from congrArg (fun v : N5 => v.2.2.2.2) D4]
                            omega)) [0, 6] rfl (by decide) [q, (ad 3)] (fun _ => rfl) rfl 0 8 rfl rfl rfl ⟨Nat.le_of_ble_eq_true rfl, Nat.le_of_ble_eq_true rfl⟩ rfl hl.1 (Nat.le_of_ble_eq_true rfl) ⟨Nat.le_refl _, Nat.le_refl _⟩ dX8_trial_177 ?_
                        clear hB
                        try clear locs
                        try clear H
                        intro u12 H locs hp hB
                        replace hB : zB D A s ([(q, .inr (8, mO ad (false || prodO (getN n4 22) (getN n4 23)) z)), ((ad 9), .inl (ka 1, 4, .inr (.inl pu24))), ((ad 4), .inl (ka 0, 8, .inl mo)), ((ad 5), .inl (ka 0, 8, .inl an)), ((ad 6), .inl (ka 0, 8, .inl pl)), ((ad 7), .inl (ka 0, 24, .inl ho)), ((ad 3), .inl (ka 1, 200, .inr (.inl (if (false || prodO (getN n4 22) (getN n4 23)) = true then n4 else setN n4 (24 + p9) (prodV (getN n4 22) (getN n4 23)))))), ((ad 10), .inl (ka 0, 4, .inl ga)), ((ad 11), .inl (ka 0, 4, .inl lg)), ((ad 12), .inl (ka 0, 3, .inl (upd pm k (0 : Int32)))), ((ad 13), .inl (ka 0, 3, .inl (upd pa k (0 : Int32))))]) H locs := hB
                        have ho9 : (false || prodO (getN n4 22) (getN n4 23)) = false := by rw [C4, D4]; exact (rd2_o (hbd p9 hp2) hap (hyp p9) (hga (2 * b + p9) (by omega)) (l := aN (lg (2 * b + p9))) (by rw [hle, aNn hl9 (by decide)]; exact hl9)).1
                        rw [ho9, if_neg Bool.false_ne_true] at hB
                        replace hB : zB D A s ([(q, .inr (8, mO ad false z)), ((ad 9), .inl (ka 1, 4, .inr (.inl pu24))), ((ad 4), .inl (ka 0, 8, .inl mo)), ((ad 5), .inl (ka 0, 8, .inl an)), ((ad 6), .inl (ka 0, 8, .inl pl)), ((ad 7), .inl (ka 0, 24, .inl ho)), ((ad 3), .inl (ka 1, 200, .inr (.inl (setN n4 (24 + p9) (prodV (getN n4 22) (getN n4 23)))))), ((ad 10), .inl (ka 0, 4, .inl ga)), ((ad 11), .inl (ka 0, 4, .inl lg)), ((ad 12), .inl (ka 0, 3, .inl (upd pm k (0 : Int32)))), ((ad 13), .inl (ka 0, 3, .inl (upd pa k (0 : Int32))))]) H locs := hB
                        generalize hn5 : (setN n4 (24 + p9) (prodV (getN n4 22) (getN n4 23))) = n5 at hB
                        have E5 : getN n5 (24 + p9) = r2T (nI k) mq aq L mo an pl ho ga lg b p9 := by rw [← hn5, getN_same, C4, D4]; rfl
                        clear ho9
                        have O5 : ∀ i, i ≠ 20 → i ≠ 21 → i ≠ 22 → i ≠ 23 → i ≠ 24 + p9 → getN n5 i = getN nn i := fun i i0 i1 i2 i3 i4 => by rw [← hn5, getN_ne _ _ _ _ i4, ← hn4, getN_ne _ _ _ _ i3, ← hn3, getN_ne _ _ _ _ i2, ← hn2, getN_ne _ _ _ _ i1, ← hn1, getN_ne _ _ _ _ i0]
                        have K5 : keepN [20, 21, 22, 23, 24, 25, 6 + 2 * aN (nI k), 6 + 2 * aN (nI k) + 1] nu n5 := by rw [← hn5, ← hn4, ← hn3, ← hn2, ← hn1]; exact ((((KN.set (by simp) _).set (by simp) _).set (by simp) _).set (by simp) _).set (by rcases (show p9 = 0 ∨ p9 = 1 by omega) with e8 | e8 <;> rw [e8] <;> simp) _
                        refine lv_iinc (v := nI (p9 + 1)) (lv' := [(5, .int (nI (p9 + 1))), (4, .int (nI b)), (0, .ref q), (1, .int (nI k)), (2, .int mq), (3, .int aq)]) hx hb dX8_trial_180 hl (k := 1) rfl (nI_1 _) (by decide) rfl ?_
                        clear hl
                        clear ls
                        intro ls hl
                        refine lv_goto (tgt := 85) hx hb dX8_trial_183 (by decide) ?_
                        exact ih85 (p9 + 1) n5 pu24 (by omega) (K5) (fun b9 h9 => by rw [O5 _ (by omega) (by omega) (by omega) (by omega) (by omega)]; exact hR3 b9 h9) (fun p h9 => by
                                by_cases e8 : p = p9
                                · rw [e8]; exact E5
                                · rw [O5 _ (by omega) (by omega) (by omega) (by omega) (by omega)]; exact hR2 p (by omega)) (by omega) _ _ (hB) _ (lv_sub hl [1, 0, 2, 3, 4, 5] rfl)
                exact lp85 (2 - 0 + 1) 0 nn pv (Nat.zero_le _) (KN) (hR3) (fun p h9 => absurd h9 (Nat.not_lt_zero _)) (by omega) _ _ (hB) _ (lv_sub hl [1, 0, 2, 3, 4, 5] rfl)
          exact lp76 (2 - 0 + 1) 0 nu pu (Nat.zero_le _) (keepN.rf) (fun b9 h9 => absurd h9 (Nat.not_lt_zero _)) (by omega) _ _ (hB) _ (lv_sub hl [0, 1, 2, 3, 4] rfl)
    · skip
      have hk0 : k ≠ 0 := fun e8 => h13 (by rw [e8]; exact (nI_leI (a := 0) (b := 0) (by decide) (by decide)).mpr (Nat.le_refl 0))
      have hkn : ¬ nI k = 0 := fun e8 => hk0 ((nI_eq (b := 0) (by omega) (by decide)).mp e8)
      refine lv_iload_n hx hb dX8_trial_16 rfl (lv_at hl 2 rfl) ?_
      refine lv_i2l (v := mq.toInt64) hx hb dX8_trial_17 rfl ?_
      refine lv_lconst (v := 1) hx hb dX8_trial_18 (by decide) ?_
      refine zldc2 (v := (99 : Int64)) ww_18_5 hF dX8_trial_19 ?_
      refine zSi zm_X8_72 hF hB (c_X8_in l D ka kb mq.toInt64 (1 : Int64) (99 : Int64) ) [] rfl (by decide) [] (fun _ => rfl) rfl rfl ⟨Nat.le_of_ble_eq_true rfl, Nat.le_of_ble_eq_true rfl⟩ rfl hl.1 (Nat.le_of_ble_eq_true rfl) ⟨Nat.le_refl _, Nat.le_refl _⟩ dX8_trial_22 ?_
      clear hB
      try clear locs
      try clear H
      intro r13 u13 H locs hp hB
      obtain rfl : r13 = bI (zin mq.toInt64 (1 : Int64) (99 : Int64)) := hp
      replace hB : zB D A s ([(q, .inr (8, mO ad o z)), ((ad 9), .inl (ka 1, 4, .inr (.inl pu))), ((ad 4), .inl (ka 0, 8, .inl mo)), ((ad 5), .inl (ka 0, 8, .inl an)), ((ad 6), .inl (ka 0, 8, .inl pl)), ((ad 7), .inl (ka 0, 24, .inl ho)), ((ad 3), .inl (ka 1, 200, .inr (.inl nu))), ((ad 10), .inl (ka 0, 4, .inl ga)), ((ad 11), .inl (ka 0, 4, .inl lg)), ((ad 12), .inl (ka 0, 3, .inl pm)), ((ad 13), .inl (ka 0, 3, .inl pa))]) H locs := hB
      refine lv_if_eq (tgt := 35) hx hb dX8_trial_25 (by decide) (fun h25 => ?_) (fun h25 => ?_)
      · skip
        have hm9 : inM mq = false := (zin_M mq).symm.trans (bI_eq0 h25)
        refine lv_bipush (v := -2) hx hb dX8_trial_35 (by decide) ?_
        have hk9 : trK (nI k) mq aq = false := dB_f.mpr (fun e8 => e8.2.elim (fun e7 => hkn (by rw [e7])) (fun e7 => by rw [hm9] at e7; exact absurd e7.1 (by decide)))
        exact zreti hF hB (o, pu, nu) (⟨by rw [if_neg (by rw [hk9]; decide)], fun _ => rfl, fun e8 => by rw [hk9] at e8; exact absurd e8 (by decide)⟩) (by rw [hk9] <;> rfl) (rfl) dX8_trial_37 hQ
      · skip
        have hm9 : inM mq = true := (zin_M mq).symm.trans (bI_ne0 h25)
        refine lv_iload_n hx hb dX8_trial_28 rfl (lv_at hl 3 rfl) ?_
        refine zSi zm_X8_218 hF hB (c_X8_isAngle l D ka kb aq ) [] rfl (by decide) [] (fun _ => rfl) rfl rfl ⟨Nat.le_of_ble_eq_true rfl, Nat.le_of_ble_eq_true rfl⟩ rfl hl.1 (Nat.le_of_ble_eq_true rfl) ⟨Nat.le_refl _, Nat.le_refl _⟩ dX8_trial_29 ?_
        clear hB
        try clear locs
        try clear H
        intro r14 u14 H locs hp hB
        obtain rfl : r14 = bI (inI aq 12) := hp
        replace hB : zB D A s ([(q, .inr (8, mO ad o z)), ((ad 9), .inl (ka 1, 4, .inr (.inl pu))), ((ad 4), .inl (ka 0, 8, .inl mo)), ((ad 5), .inl (ka 0, 8, .inl an)), ((ad 6), .inl (ka 0, 8, .inl pl)), ((ad 7), .inl (ka 0, 24, .inl ho)), ((ad 3), .inl (ka 1, 200, .inr (.inl nu))), ((ad 10), .inl (ka 0, 4, .inl ga)), ((ad 11), .inl (ka 0, 4, .inl lg)), ((ad 12), .inl (ka 0, 3, .inl pm)), ((ad 13), .inl (ka 0, 3, .inl pa))]) H locs := hB
        refine lv_if_ne (tgt := 38) hx hb dX8_trial_32 (by decide) (fun h32 => ?_) (fun h32 => ?_)
        · skip
          have ha91 : inI aq 12 = true := bI_ne0 h32
          obtain ⟨a9, ha9, ha93⟩ := inI_of ha91 (by decide)
          have hk9 : trK (nI k) mq aq = true := dB_t.mpr ⟨hs9, Or.inr ⟨hm9, ha91⟩⟩
          have hm99 := dB_t.mp hm9
          have ra9 : aN aq = a9 := by rw [ha93]; exact aNn ha9 (by decide)
          have hap : (if aN (nI k) = 0 then 0 else aN aq) < 12 := by rw [rk, if_neg hk0, ra9]; exact ha9
          have hyp : ∀ p, 0 ≤ (if aN (nI k) = p + 1 then mq.toInt else 0) ∧ (if aN (nI k) = p + 1 then mq.toInt else 0) ≤ 99 := fun p => by split <;> omega
          refine lv_aload_n hx hb dX8_trial_38 rfl (lv_at hl 0 rfl) ?_
          refine zget zf_X8_47 hF hB 0 rfl rfl dX8_trial_39 ?_
          refine lv_iload_n hx hb dX8_trial_42 rfl (lv_at hl 1 rfl) ?_
          refine lv_iload_n hx hb dX8_trial_43 rfl (lv_at hl 1 rfl) ?_
          refine lv_if_ne (tgt := 51) hx hb dX8_trial_44 (by decide) (fun h44 => ?_) (fun h44 => ?_)
          · skip
            refine lv_iload_n hx hb dX8_trial_51 rfl (lv_at hl 2 rfl) ?_
            refine ziast hF hB 9 rfl k (rfl) (by omega) (by decide) dX8_trial_52 ?_
            clear hB
            try clear locs
            try clear H
            intro H locs hB
            replace hB : zB D A s ([(q, .inr (8, mO ad o z)), ((ad 9), .inl (ka 1, 4, .inr (.inl pu))), ((ad 4), .inl (ka 0, 8, .inl mo)), ((ad 5), .inl (ka 0, 8, .inl an)), ((ad 6), .inl (ka 0, 8, .inl pl)), ((ad 7), .inl (ka 0, 24, .inl ho)), ((ad 3), .inl (ka 1, 200, .inr (.inl nu))), ((ad 10), .inl (ka 0, 4, .inl ga)), ((ad 11), .inl (ka 0, 4, .inl lg)), ((ad 12), .inl (ka 0, 3, .inl (upd pm k mq))), ((ad 13), .inl (ka 0, 3, .inl pa))]) H locs := hB
            refine lv_aload_n hx hb dX8_trial_53 rfl (lv_at hl 0 rfl) ?_
            refine zget zf_X8_50 hF hB 0 rfl rfl dX8_trial_54 ?_
            refine lv_iload_n hx hb dX8_trial_57 rfl (lv_at hl 1 rfl) ?_
            refine lv_iload_n hx hb dX8_trial_58 rfl (lv_at hl 1 rfl) ?_
            refine lv_if_ne (tgt := 66) hx hb dX8_trial_59 (by decide) (fun h59 => ?_) (fun h59 => ?_)
            · skip
              refine lv_iload_n hx hb dX8_trial_66 rfl (lv_at hl 3 rfl) ?_
              refine ziast hF hB 10 rfl k (rfl) (by omega) (by decide) dX8_trial_67 ?_
              clear hB
              try clear locs
              try clear H
              intro H locs hB
              replace hB : zB D A s ([(q, .inr (8, mO ad o z)), ((ad 9), .inl (ka 1, 4, .inr (.inl pu))), ((ad 4), .inl (ka 0, 8, .inl mo)), ((ad 5), .inl (ka 0, 8, .inl an)), ((ad 6), .inl (ka 0, 8, .inl pl)), ((ad 7), .inl (ka 0, 24, .inl ho)), ((ad 3), .inl (ka 1, 200, .inr (.inl nu))), ((ad 10), .inl (ka 0, 4, .inl ga)), ((ad 11), .inl (ka 0, 4, .inl lg)), ((ad 12), .inl (ka 0, 3, .inl (upd pm k mq))), ((ad 13), .inl (ka 0, 3, .inl (upd pa k aq)))]) H locs := hB
              refine lv_aload_n hx hb dX8_trial_68 rfl (lv_at hl 0 rfl) ?_
              refine lv_iconst (v := 0) hx hb dX8_trial_69 (by decide) ?_
              refine zput_f zp_X8_105 hF hB 0 rfl (rfl) (rfl) (Nat.le_of_ble_eq_true rfl) dX8_trial_70 ?_
              clear hB
              try clear locs
              try clear H
              intro H locs hB
              replace hB : zB D A s ([(q, .inr (8, mX ad (0 : Int32) z.1 z.2.1 z.2.2.1 z.2.2.2.1 z.2.2.2.2.1 z.2.2.2.2.2.1 z.2.2.2.2.2.2.1 z.2.2.2.2.2.2.2)), ((ad 9), .inl (ka 1, 4, .inr (.inl pu))), ((ad 4), .inl (ka 0, 8, .inl mo)), ((ad 5), .inl (ka 0, 8, .inl an)), ((ad 6), .inl (ka 0, 8, .inl pl)), ((ad 7), .inl (ka 0, 24, .inl ho)), ((ad 3), .inl (ka 1, 200, .inr (.inl nu))), ((ad 10), .inl (ka 0, 4, .inl ga)), ((ad 11), .inl (ka 0, 4, .inl lg)), ((ad 12), .inl (ka 0, 3, .inl (upd pm k mq))), ((ad 13), .inl (ka 0, 3, .inl (upd pa k aq)))]) H locs := hB
              refine lv_iconst (v := 0) hx hb dX8_trial_73 (by decide) ?_
              refine lv_istore (lv' := [(4, .int (0 : Int32)), (0, .ref q), (1, .int (nI k)), (2, .int mq), (3, .int aq)]) hx hb dX8_trial_74 hl (by decide) rfl ?_
              clear hl
              clear ls
              intro ls hl
              have lp76 : ∀ (fl : Nat) (b : Nat) (nn : Nat → Int64) (pv : Nat → Int64), (hbl : b ≤ 2) → (KN : keepN [20, 21, 22, 23, 24, 25, 6 + 2 * aN (nI k), 6 + 2 * aN (nI k) + 1] nu nn) → (hR3 : ∀ b9, b9 < b → getN nn (6 + 2 * k + b9) = rdT (nI k) mq aq L mo an pl ho ga lg b9) → 2 - b < fl → ∀ (H : Heap) (locs : List Loc), zB D A s ([(q, .inr (8, mX ad (0 : Int32) z.1 z.2.1 z.2.2.1 z.2.2.2.1 z.2.2.2.2.1 z.2.2.2.2.2.1 z.2.2.2.2.2.2.1 z.2.2.2.2.2.2.2)), ((ad 9), .inl (ka 1, 4, .inr (.inl pv))), ((ad 4), .inl (ka 0, 8, .inl mo)), ((ad 5), .inl (ka 0, 8, .inl an)), ((ad 6), .inl (ka 0, 8, .inl pl)), ((ad 7), .inl (ka 0, 24, .inl ho)), ((ad 3), .inl (ka 1, 200, .inr (.inl nn))), ((ad 10), .inl (ka 0, 4, .inl ga)), ((ad 11), .inl (ka 0, 4, .inl lg)), ((ad 12), .inl (ka 0, 3, .inl (upd pm k mq))), ((ad 13), .inl (ka 0, 3, .inl (upd pa k aq)))]) H locs → ∀ ls : Array Slot, lv_has ls 6 [(4, .int (nI b)), (0, .ref q), (1, .int (nI k)), (2, .int mq), (3, .int aq)] → W p l e (zRm 4 112 0 0) s m args below meth c H locs 0 0 Q (F0 m 76 ls []) := by
                intro fl
                induction fl with
                | zero => intro b nn pv hbl KN hR3 hfl; exact absurd hfl (Nat.not_lt_zero _)
                | succ fl ih76 =>
                  intro b nn pv hbl KN hR3 hfl76 H locs hB ls hl
                  refine lv_iload hx hb dX8_trial_76 (lv_at hl 0 rfl) ?_
                  refine lv_iconst (v := 2) hx hb dX8_trial_78 (by decide) ?_
                  refine lv_icmp_ge (tgt := 210) hx hb dX8_trial_79 (by decide) (fun h79 => ?_) (fun h79 => ?_)
                  · skip
                    have hb2 : b = 2 := by have := (nI_leI (a := 2) (b := b) (by decide) (by omega)).mp h79; omega
                    subst hb2
                    refine lv_aload_n hx hb dX8_trial_210 rfl (lv_at hl 1 rfl) ?_
                    refine lv_dup hx hb dX8_trial_211 rfl ?_
                    refine zget zf_X8_213 hF hB 0 rfl rfl dX8_trial_212 ?_
                    refine lv_iconst (v := 1) hx hb dX8_trial_215 (by decide) ?_
                    refine lv_iload_n hx hb dX8_trial_216 rfl (lv_at hl 2 rfl) ?_
                    refine lv_ishl hx hb dX8_trial_217 ?_
                    refine lv_ior hx hb dX8_trial_218 ?_
                    refine lv_topi (fun tr2 htr2 => ?_)
                    refine zput_f zp_X8_213 hF hB 0 rfl (rfl) (rfl) (Nat.le_of_ble_eq_true rfl) dX8_trial_219 ?_
                    clear hB
                    try clear locs
                    try clear H
                    intro H locs hB
                    replace hB : zB D A s ([(q, .inr (8, mX ad (0 : Int32) z.1 z.2.1 z.2.2.1 z.2.2.2.1 tr2 z.2.2.2.2.2.1 z.2.2.2.2.2.2.1 z.2.2.2.2.2.2.2)), ((ad 9), .inl (ka 1, 4, .inr (.inl pv))), ((ad 4), .inl (ka 0, 8, .inl mo)), ((ad 5), .inl (ka 0, 8, .inl an)), ((ad 6), .inl (ka 0, 8, .inl pl)), ((ad 7), .inl (ka 0, 24, .inl ho)), ((ad 3), .inl (ka 1, 200, .inr (.inl nn))), ((ad 10), .inl (ka 0, 4, .inl ga)), ((ad 11), .inl (ka 0, 4, .inl lg)), ((ad 12), .inl (ka 0, 3, .inl (upd pm k mq))), ((ad 13), .inl (ka 0, 3, .inl (upd pa k aq)))]) H locs := hB
                    refine lv_aload_n hx hb dX8_trial_222 rfl (lv_at hl 1 rfl) ?_
                    refine zVi zm_X8_261 hF hB (c_X8_kept l D ka kb q ad false (z.1, z.2.1, z.2.2.1, z.2.2.2.1, tr2, z.2.2.2.2.2.1, z.2.2.2.2.2.2.1, z.2.2.2.2.2.2.2) ) [0] rfl (by decide) [q] (fun _ => rfl) rfl 0 8 rfl rfl rfl ⟨Nat.le_of_ble_eq_true rfl, Nat.le_of_ble_eq_true rfl⟩ rfl hl.1 (Nat.le_of_ble_eq_true rfl) ⟨Nat.le_refl _, Nat.le_refl _⟩ dX8_trial_223 ?_
                    clear hB
                    try clear locs
                    try clear H
                    intro r15 u15 H locs hp hB
                    obtain rfl : r15 = bcnt (z.1, z.2.1, z.2.2.1, z.2.2.2.1, tr2, z.2.2.2.2.2.1, z.2.2.2.2.2.2.1, z.2.2.2.2.2.2.2).2.2.2.2.1 12 := hp
                    replace hB : zB D A s ([(q, .inr (8, mX ad (0 : Int32) z.1 z.2.1 z.2.2.1 z.2.2.2.1 tr2 z.2.2.2.2.2.1 z.2.2.2.2.2.2.1 z.2.2.2.2.2.2.2)), ((ad 9), .inl (ka 1, 4, .inr (.inl pv))), ((ad 4), .inl (ka 0, 8, .inl mo)), ((ad 5), .inl (ka 0, 8, .inl an)), ((ad 6), .inl (ka 0, 8, .inl pl)), ((ad 7), .inl (ka 0, 24, .inl ho)), ((ad 3), .inl (ka 1, 200, .inr (.inl nn))), ((ad 10), .inl (ka 0, 4, .inl ga)), ((ad 11), .inl (ka 0, 4, .inl lg)), ((ad 12), .inl (ka 0, 3, .inl (upd pm k mq))), ((ad 13), .inl (ka 0, 3, .inl (upd pa k aq)))]) H locs := hB
                    exact zreti hF hB (false, pv, nn) (⟨by rw [if_pos hk9, ← htr2], fun e8 => absurd (hk9.symm.trans e8) (by decide), fun _ => ⟨KN, fun b9 hb9 => by rw [rk]; exact hR3 b9 (by omega)⟩⟩) (by rw [hk9, rk, if_pos rfl, if_neg hk0, if_neg hk0, ← htr2] <;> rfl) (rfl) dX8_trial_226 hQ
                  · skip
                    have hb2 : b < 2 := Nat.not_le.mp (fun e9 => h79 ((nI_leI (a := 2) (b := b) (by decide) (by omega)).mpr e9))
                    refine lv_iconst (v := 0) hx hb dX8_trial_82 (by decide) ?_
                    refine lv_istore (lv' := [(5, .int (0 : Int32)), (4, .int (nI b)), (0, .ref q), (1, .int (nI k)), (2, .int mq), (3, .int aq)]) hx hb dX8_trial_83 hl (by decide) rfl ?_
                    clear hl
                    clear ls
                    intro ls hl
                    have lp85 : ∀ (fl : Nat) (p9 : Nat) (nn : Nat → Int64) (pv : Nat → Int64), (hpl : p9 ≤ 2) → (KN : keepN [20, 21, 22, 23, 24, 25, 6 + 2 * aN (nI k), 6 + 2 * aN (nI k) + 1] nu nn) → (hR3 : ∀ b9, b9 < b → getN nn (6 + 2 * k + b9) = rdT (nI k) mq aq L mo an pl ho ga lg b9) → (hR2 : ∀ p, p < p9 → getN nn (24 + p) = r2T (nI k) mq aq L mo an pl ho ga lg b p) → 2 - p9 < fl → ∀ (H : Heap) (locs : List Loc), zB D A s ([(q, .inr (8, mX ad (0 : Int32) z.1 z.2.1 z.2.2.1 z.2.2.2.1 z.2.2.2.2.1 z.2.2.2.2.2.1 z.2.2.2.2.2.2.1 z.2.2.2.2.2.2.2)), ((ad 9), .inl (ka 1, 4, .inr (.inl pv))), ((ad 4), .inl (ka 0, 8, .inl mo)), ((ad 5), .inl (ka 0, 8, .inl an)), ((ad 6), .inl (ka 0, 8, .inl pl)), ((ad 7), .inl (ka 0, 24, .inl ho)), ((ad 3), .inl (ka 1, 200, .inr (.inl nn))), ((ad 10), .inl (ka 0, 4, .inl ga)), ((ad 11), .inl (ka 0, 4, .inl lg)), ((ad 12), .inl (ka 0, 3, .inl (upd pm k mq))), ((ad 13), .inl (ka 0, 3, .inl (upd pa k aq)))]) H locs → ∀ ls : Array Slot, lv_has ls 6 [(4, .int (nI b)), (5, .int (nI p9)), (0, .ref q), (1, .int (nI k)), (2, .int mq), (3, .int aq)] → W p l e (zRm 4 112 0 0) s m args below meth c H locs 0 0 Q (F0 m 85 ls []) := by
                      intro fl
                      induction fl with
                      | zero => intro p9 nn pv hpl KN hR3 hR2 hfl; exact absurd hfl (Nat.not_lt_zero _)
                      | succ fl ih85 =>
                        intro p9 nn pv hpl KN hR3 hR2 hfl85 H locs hB ls hl
                        refine lv_iload hx hb dX8_trial_85 (lv_at hl 1 rfl) ?_
                        refine lv_iconst (v := 2) hx hb dX8_trial_87 (by decide) ?_
                        refine lv_icmp_ge (tgt := 186) hx hb dX8_trial_88 (by decide) (fun h88 => ?_) (fun h88 => ?_)
                        · skip
                          have hp2 : p9 = 2 := by have := (nI_leI (a := 2) (b := p9) (by decide) (by omega)).mp h88; omega
                          have T0 := hR2 0 (by omega)
                          have T1 := hR2 1 (by omega)
                          obtain ⟨l0, hl0, e0⟩ := hlg (2 * b + 0) (by omega)
                          obtain ⟨l1, hl1, e1⟩ := hlg (2 * b + 1) (by omega)
                          have X0 := rd2_o (hbd 0 (by decide)) hap (hyp 0) (hga (2 * b + 0) (by omega)) (l := aN (lg (2 * b + 0))) (by rw [e0, aNn hl0 (by decide)]; exact hl0)
                          have X1 := rd2_o (hbd 1 (by decide)) hap (hyp 1) (hga (2 * b + 1) (by omega)) (l := aN (lg (2 * b + 1))) (by rw [e1, aNn hl1 (by decide)]; exact hl1)
                          rw [show rd2 _ _ _ _ _ = r2T (nI k) mq aq L mo an pl ho ga lg b 0 from rfl] at X0
                          rw [show rd2 _ _ _ _ _ = r2T (nI k) mq aq L mo an pl ho ga lg b 1 from rfl] at X1
                          refine lv_aload_n hx hb dX8_trial_186 rfl (lv_at hl 2 rfl) ?_
                          refine lv_bipush (v := 6) hx hb dX8_trial_187 (by decide) ?_
                          refine lv_iconst (v := 2) hx hb dX8_trial_189 (by decide) ?_
                          refine lv_iload_n hx hb dX8_trial_190 rfl (lv_at hl 3 rfl) ?_
                          refine lv_imul hx hb dX8_trial_191 ?_
                          refine ztopi (y := nI (2 * k)) (pk_mul 2 k) ?_
                          refine lv_iadd hx hb dX8_trial_192 ?_
                          refine ztopi (y := nI (6 + (2 * k))) (nI_add 6 (2 * k)) ?_
                          refine lv_iload hx hb dX8_trial_193 (lv_at hl 0 rfl) ?_
                          refine lv_iadd hx hb dX8_trial_195 ?_
                          refine ztopi (y := nI ((6 + (2 * k)) + b)) (nI_add (6 + (2 * k)) b) ?_
                          refine lv_bipush (v := 24) hx hb dX8_trial_196 (by decide) ?_
                          refine lv_bipush (v := 25) hx hb dX8_trial_198 (by decide) ?_
                          refine lv_iconst (v := 0) hx hb dX8_trial_200 (by decide) ?_
                          refine zVv zm_X8_170 hF hB (c_X8_sum l D ka kb q ad false z nn ((6 + (2 * k)) + b) 24 25 false (by omega) (by decide) (by decide) (by
                              have e8 := (X0.2).2.2.2.2
                              rw [show nn (5 * 24 + 4) = (r2T (nI k) mq aq L mo an pl ho ga lg b 0).2.2.2.2 from congrArg (fun v : N5 => v.2.2.2.2) T0]
                              omega) (by
                              have e8 := (X1.2).2.2.2.2
                              rw [show nn (5 * 25 + 4) = (r2T (nI k) mq aq L mo an pl ho ga lg b 1).2.2.2.2 from congrArg (fun v : N5 => v.2.2.2.2) T1]
                              omega)) [0, 6] rfl (by decide) [q, (ad 3)] (fun _ => rfl) rfl 0 8 rfl rfl rfl ⟨Nat.le_of_ble_eq_true rfl, Nat.le_of_ble_eq_true rfl⟩ rfl hl.1 (Nat.le_of_ble_eq_true rfl) ⟨Nat.le_refl _, Nat.le_refl _⟩ dX8_trial_201 ?_
                          clear hB
                          try clear locs
                          try clear H
                          intro u16 H locs hp hB
                          replace hB : zB D A s ([(q, .inr (8, mO ad (false || sumO false (getN nn 24) (getN nn 25)) z)), ((ad 9), .inl (ka 1, 4, .inr (.inl pv))), ((ad 4), .inl (ka 0, 8, .inl mo)), ((ad 5), .inl (ka 0, 8, .inl an)), ((ad 6), .inl (ka 0, 8, .inl pl)), ((ad 7), .inl (ka 0, 24, .inl ho)), ((ad 3), .inl (ka 1, 200, .inr (.inl (if (false || sumO false (getN nn 24) (getN nn 25)) = true then nn else setN nn ((6 + (2 * k)) + b) (sumV false (getN nn 24) (getN nn 25)))))), ((ad 10), .inl (ka 0, 4, .inl ga)), ((ad 11), .inl (ka 0, 4, .inl lg)), ((ad 12), .inl (ka 0, 3, .inl (upd pm k mq))), ((ad 13), .inl (ka 0, 3, .inl (upd pa k aq)))]) H locs := hB
                          have ho9 : (false || sumO false (getN nn 24) (getN nn 25)) = false := by rw [T0, T1]; exact (sum_bd X0.2 X1.2 (by omega) (by omega) (by omega)).1
                          rw [ho9, if_neg Bool.false_ne_true] at hB
                          replace hB : zB D A s ([(q, .inr (8, mO ad false z)), ((ad 9), .inl (ka 1, 4, .inr (.inl pv))), ((ad 4), .inl (ka 0, 8, .inl mo)), ((ad 5), .inl (ka 0, 8, .inl an)), ((ad 6), .inl (ka 0, 8, .inl pl)), ((ad 7), .inl (ka 0, 24, .inl ho)), ((ad 3), .inl (ka 1, 200, .inr (.inl (setN nn ((6 + (2 * k)) + b) (sumV false (getN nn 24) (getN nn 25)))))), ((ad 10), .inl (ka 0, 4, .inl ga)), ((ad 11), .inl (ka 0, 4, .inl lg)), ((ad 12), .inl (ka 0, 3, .inl (upd pm k mq))), ((ad 13), .inl (ka 0, 3, .inl (upd pa k aq)))]) H locs := hB
                          generalize hn6 : (setN nn ((6 + (2 * k)) + b) (sumV false (getN nn 24) (getN nn 25))) = n6 at hB
                          have E6 : getN n6 (6 + 2 * k + b) = rdT (nI k) mq aq L mo an pl ho ga lg b := by rw [← hn6, getN_same, T0, T1]; rfl
                          clear ho9
                          have K6 : keepN [20, 21, 22, 23, 24, 25, 6 + 2 * aN (nI k), 6 + 2 * aN (nI k) + 1] nu n6 := by rw [← hn6]; exact KN.set (by rw [rk]; rcases (show b = 0 ∨ b = 1 by omega) with e8 | e8 <;> rw [e8] <;> simp) _
                          refine lv_iinc (v := nI (b + 1)) (lv' := [(4, .int (nI (b + 1))), (5, .int (nI p9)), (0, .ref q), (1, .int (nI k)), (2, .int mq), (3, .int aq)]) hx hb dX8_trial_204 hl (k := 0) rfl (nI_1 _) (by decide) rfl ?_
                          clear hl
                          clear ls
                          intro ls hl
                          refine lv_goto (tgt := 76) hx hb dX8_trial_207 (by decide) ?_
                          exact ih76 (b + 1) n6 pv (by omega) (K6) (fun b9 h9 => by
                                  by_cases e8 : b9 = b
                                  · rw [e8]; exact E6
                                  · rw [← hn6, getN_ne _ _ _ _ (by omega)]; exact hR3 b9 (by omega)) (by omega) _ _ (hB) _ (lv_sub hl [0, 2, 3, 4, 5] rfl)
                        · skip
                          have hp2 : p9 < 2 := Nat.not_le.mp (fun e9 => h88 ((nI_leI (a := 2) (b := p9) (by decide) (by omega)).mpr e9))
                          obtain ⟨l9, hl9, hle⟩ := hlg (2 * b + p9) (by omega)
                          refine lv_aload_n hx hb dX8_trial_91 rfl (lv_at hl 2 rfl) ?_
                          refine lv_bipush (v := 20) hx hb dX8_trial_92 (by decide) ?_
                          refine lv_iload hx hb dX8_trial_94 (lv_at hl 1 rfl) ?_
                          refine zVv zm_X8_255 hF hB (c_X8_pullTo l D ka kb q ad false z pv 20 p9 L mo an pl ho nn (by decide) (hp2) (hL) (hok) (hoh)) [0, 1, 2, 3, 4, 5, 6] rfl (by decide) [q, (ad 9), (ad 4), (ad 5), (ad 6), (ad 7), (ad 3)] (fun _ => rfl) rfl 0 8 rfl rfl rfl ⟨Nat.le_of_ble_eq_true rfl, Nat.le_of_ble_eq_true rfl⟩ rfl hl.1 (Nat.le_of_ble_eq_true rfl) ⟨Nat.le_refl _, Nat.le_refl _⟩ dX8_trial_96 ?_
                          clear hB
                          try clear locs
                          try clear H
                          intro u17 H locs hp hB
                          obtain ⟨pu217, rfl⟩ : ∃ z, z = u17 := ⟨_, rfl⟩
                          have hp17 : True := hp
                          have HPP := hp17
                          replace hB : zB D A s ([(q, .inr (8, mX ad (0 : Int32) z.1 z.2.1 z.2.2.1 z.2.2.2.1 z.2.2.2.2.1 z.2.2.2.2.2.1 z.2.2.2.2.2.2.1 z.2.2.2.2.2.2.2)), ((ad 9), .inl (ka 1, 4, .inr (.inl pu217))), ((ad 4), .inl (ka 0, 8, .inl mo)), ((ad 5), .inl (ka 0, 8, .inl an)), ((ad 6), .inl (ka 0, 8, .inl pl)), ((ad 7), .inl (ka 0, 24, .inl ho)), ((ad 3), .inl (ka 1, 200, .inr (.inl (setN nn 20 (plN (pulI p9 L mo an pl ho)))))), ((ad 10), .inl (ka 0, 4, .inl ga)), ((ad 11), .inl (ka 0, 4, .inl lg)), ((ad 12), .inl (ka 0, 3, .inl (upd pm k mq))), ((ad 13), .inl (ka 0, 3, .inl (upd pa k aq)))]) H locs := hB
                          generalize hn1 : (setN nn 20 (plN (pulI p9 L mo an pl ho))) = n1 at hB
                          have A1 : getN n1 20 = plN (pulI p9 L mo an pl ho) := by rw [← hn1, getN_same]
                          refine lv_aload_n hx hb dX8_trial_99 rfl (lv_at hl 2 rfl) ?_
                          refine lv_bipush (v := 21) hx hb dX8_trial_100 (by decide) ?_
                          refine lv_aload_n hx hb dX8_trial_102 rfl (lv_at hl 2 rfl) ?_
                          refine zget zf_X8_50 hF hB 0 rfl rfl dX8_trial_103 ?_
                          refine lv_iload_n hx hb dX8_trial_106 rfl (lv_at hl 3 rfl) ?_
                          refine ziald hF hB 10 rfl k (rfl) (by omega) (by decide) (v := (nI (if aN (nI k) = 0 then 0 else aN aq))) (by show upd pa k _ k = _; rw [show upd pa k _ k = _ from if_pos rfl, rk, if_neg hk0, ra9, ha93]) dX8_trial_107 ?_
                          refine lv_iload_n hx hb dX8_trial_108 rfl (lv_at hl 3 rfl) ?_
                          refine lv_iload hx hb dX8_trial_109 (lv_at hl 1 rfl) ?_
                          refine lv_iconst (v := 1) hx hb dX8_trial_111 (by decide) ?_
                          refine lv_iadd hx hb dX8_trial_112 ?_
                          refine ztopi (y := nI (p9 + 1)) (nI_add p9 1) ?_
                          refine lv_icmp_ne (tgt := 121) hx hb dX8_trial_113 (by decide) (fun h113 => ?_) (fun h113 => ?_)
                          · skip
                            have hy9 : (if aN (nI k) = p9 + 1 then mq.toInt else 0) = 0 := by rw [rk, if_neg (fun e8 => h113 (by rw [e8]))]
                            refine lv_lconst (v := 0) hx hb dX8_trial_121 (by decide) ?_
                            refine ztopl (y := Int64.ofInt (if aN (nI k) = p9 + 1 then mq.toInt else 0)) (by rw [hy9]; rfl) ?_
                            refine zVv zm_X8_258 hF hB (c_X8_wayTo l D ka kb q ad false z n1 21 (if aN (nI k) = 0 then 0 else aN aq) (if aN (nI k) = p9 + 1 then mq.toInt else 0) (by decide) (hap)) [0, 6] rfl (by decide) [q, (ad 3)] (fun _ => rfl) rfl 0 8 rfl rfl rfl ⟨Nat.le_of_ble_eq_true rfl, Nat.le_of_ble_eq_true rfl⟩ rfl hl.1 (Nat.le_of_ble_eq_true rfl) ⟨Nat.le_refl _, Nat.le_refl _⟩ dX8_trial_122 ?_
                            clear hB
                            try clear locs
                            try clear H
                            intro u18 H locs hp hB
                            replace hB : zB D A s ([(q, .inr (8, mX ad (0 : Int32) z.1 z.2.1 z.2.2.1 z.2.2.2.1 z.2.2.2.2.1 z.2.2.2.2.2.1 z.2.2.2.2.2.2.1 z.2.2.2.2.2.2.2)), ((ad 9), .inl (ka 1, 4, .inr (.inl pu217))), ((ad 4), .inl (ka 0, 8, .inl mo)), ((ad 5), .inl (ka 0, 8, .inl an)), ((ad 6), .inl (ka 0, 8, .inl pl)), ((ad 7), .inl (ka 0, 24, .inl ho)), ((ad 3), .inl (ka 1, 200, .inr (.inl (setN n1 21 (wyN (if aN (nI k) = p9 + 1 then mq.toInt else 0) (if aN (nI k) = 0 then 0 else aN aq)))))), ((ad 10), .inl (ka 0, 4, .inl ga)), ((ad 11), .inl (ka 0, 4, .inl lg)), ((ad 12), .inl (ka 0, 3, .inl (upd pm k mq))), ((ad 13), .inl (ka 0, 3, .inl (upd pa k aq)))]) H locs := hB
                            generalize hn2 : (setN n1 21 (wyN (if aN (nI k) = p9 + 1 then mq.toInt else 0) (if aN (nI k) = 0 then 0 else aN aq))) = n2 at hB
                            have A2 : getN n2 20 = plN (pulI p9 L mo an pl ho) := by rw [← hn2, getN_ne _ _ _ _ (by decide)]; exact A1
                            have B2 : getN n2 21 = wyN (if aN (nI k) = p9 + 1 then mq.toInt else 0) (if aN (nI k) = 0 then 0 else aN aq) := by rw [← hn2, getN_same]
                            refine lv_aload_n hx hb dX8_trial_125 rfl (lv_at hl 2 rfl) ?_
                            refine lv_bipush (v := 22) hx hb dX8_trial_126 (by decide) ?_
                            refine lv_bipush (v := 20) hx hb dX8_trial_128 (by decide) ?_
                            refine lv_bipush (v := 21) hx hb dX8_trial_130 (by decide) ?_
                            refine lv_iconst (v := 0) hx hb dX8_trial_132 (by decide) ?_
                            refine zVv zm_X8_170 hF hB (c_X8_sum l D ka kb q ad false z n2 22 20 21 false (by decide) (by decide) (by decide) (by
                                have e8 := (plN_bd (hbd p9 hp2)).2.2.2.2
                                rw [show n2 (5 * 20 + 4) = (plN (pulI p9 L mo an pl ho)).2.2.2.2 from congrArg (fun v : N5 => v.2.2.2.2) A2]
                                omega) (by
                                have e8 := (wyN_bd (y := (if aN (nI k) = p9 + 1 then mq.toInt else 0)) (Y := 99) hap (by have := hyp p9; omega) (by decide)).2.2.2.2
                                rw [show n2 (5 * 21 + 4) = (wyN (if aN (nI k) = p9 + 1 then mq.toInt else 0) (if aN (nI k) = 0 then 0 else aN aq)).2.2.2.2 from congrArg (fun v : N5 => v.2.2.2.2) B2]
                                omega)) [0, 6] rfl (by decide) [q, (ad 3)] (fun _ => rfl) rfl 0 8 rfl rfl rfl ⟨Nat.le_of_ble_eq_true rfl, Nat.le_of_ble_eq_true rfl⟩ rfl hl.1 (Nat.le_of_ble_eq_true rfl) ⟨Nat.le_refl _, Nat.le_refl _⟩ dX8_trial_133 ?_
                            clear hB
                            try clear locs
                            try clear H
                            intro u19 H locs hp hB
                            replace hB : zB D A s ([(q, .inr (8, mO ad (false || sumO false (getN n2 20) (getN n2 21)) z)), ((ad 9), .inl (ka 1, 4, .inr (.inl pu217))), ((ad 4), .inl (ka 0, 8, .inl mo)), ((ad 5), .inl (ka 0, 8, .inl an)), ((ad 6), .inl (ka 0, 8, .inl pl)), ((ad 7), .inl (ka 0, 24, .inl ho)), ((ad 3), .inl (ka 1, 200, .inr (.inl (if (false || sumO false (getN n2 20) (getN n2 21)) = true then n2 else setN n2 22 (sumV false (getN n2 20) (getN n2 21)))))), ((ad 10), .inl (ka 0, 4, .inl ga)), ((ad 11), .inl (ka 0, 4, .inl lg)), ((ad 12), .inl (ka 0, 3, .inl (upd pm k mq))), ((ad 13), .inl (ka 0, 3, .inl (upd pa k aq)))]) H locs := hB
                            have ho9 : (false || sumO false (getN n2 20) (getN n2 21)) = false := by rw [A2, B2]; exact (rd1_o (hbd p9 hp2) hap (hyp p9)).1
                            rw [ho9, if_neg Bool.false_ne_true] at hB
                            replace hB : zB D A s ([(q, .inr (8, mO ad false z)), ((ad 9), .inl (ka 1, 4, .inr (.inl pu217))), ((ad 4), .inl (ka 0, 8, .inl mo)), ((ad 5), .inl (ka 0, 8, .inl an)), ((ad 6), .inl (ka 0, 8, .inl pl)), ((ad 7), .inl (ka 0, 24, .inl ho)), ((ad 3), .inl (ka 1, 200, .inr (.inl (setN n2 22 (sumV false (getN n2 20) (getN n2 21)))))), ((ad 10), .inl (ka 0, 4, .inl ga)), ((ad 11), .inl (ka 0, 4, .inl lg)), ((ad 12), .inl (ka 0, 3, .inl (upd pm k mq))), ((ad 13), .inl (ka 0, 3, .inl (upd pa k aq)))]) H locs := hB
                            generalize hn3 : (setN n2 22 (sumV false (getN n2 20) (getN n2 21))) = n3 at hB
                            have C3 : getN n3 22 = rd1 (pulI p9 L mo an pl ho) (if aN (nI k) = p9 + 1 then mq.toInt else 0) (if aN (nI k) = 0 then 0 else aN aq) := by rw [← hn3, getN_same, A2, B2]; rfl
                            clear ho9
                            refine lv_aload_n hx hb dX8_trial_136 rfl (lv_at hl 2 rfl) ?_
                            refine lv_bipush (v := 23) hx hb dX8_trial_137 (by decide) ?_
                            refine lv_aload_n hx hb dX8_trial_139 rfl (lv_at hl 2 rfl) ?_
                            refine zget zf_X8_44 hF hB 0 rfl rfl dX8_trial_140 ?_
                            refine lv_iconst (v := 2) hx hb dX8_trial_143 (by decide) ?_
                            refine lv_iload hx hb dX8_trial_144 (lv_at hl 0 rfl) ?_
                            refine lv_imul hx hb dX8_trial_146 ?_
                            refine ztopi (y := nI (2 * b)) (pk_mul 2 b) ?_
                            refine lv_iload hx hb dX8_trial_147 (lv_at hl 1 rfl) ?_
                            refine lv_iadd hx hb dX8_trial_149 ?_
                            refine ztopi (y := nI ((2 * b) + p9)) (nI_add (2 * b) p9) ?_
                            refine ziald hF hB 8 rfl ((2 * b) + p9) (rfl) (by omega) (by decide) (v := (nI (aN (lg (2 * b + p9))))) (by rw [hle, aNn hl9 (by decide)]) dX8_trial_150 ?_
                            refine lv_aload_n hx hb dX8_trial_151 rfl (lv_at hl 2 rfl) ?_
                            refine zget zf_X8_41 hF hB 0 rfl rfl dX8_trial_152 ?_
                            refine lv_iconst (v := 2) hx hb dX8_trial_155 (by decide) ?_
                            refine lv_iload hx hb dX8_trial_156 (lv_at hl 0 rfl) ?_
                            refine lv_imul hx hb dX8_trial_158 ?_
                            refine ztopi (y := nI (2 * b)) (pk_mul 2 b) ?_
                            refine lv_iload hx hb dX8_trial_159 (lv_at hl 1 rfl) ?_
                            refine lv_iadd hx hb dX8_trial_161 ?_
                            refine ztopi (y := nI ((2 * b) + p9)) (nI_add (2 * b) p9) ?_
                            refine ziald hF hB 7 rfl ((2 * b) + p9) (rfl) (by omega) (by decide) (v := (ga ((2 * b) + p9))) (rfl) dX8_trial_162 ?_
                            refine lv_i2l (v := (ga ((2 * b) + p9)).toInt64) hx hb dX8_trial_163 rfl ?_
                            refine ztopl (y := Int64.ofInt (ga (2 * b + p9)).toInt) (i64_w _) ?_
                            refine zVv zm_X8_258 hF hB (c_X8_wayTo l D ka kb q ad false z n3 23 (aN (lg (2 * b + p9))) ((ga (2 * b + p9)).toInt) (by decide) (by rw [hle, aNn hl9 (by decide)]; exact hl9)) [0, 6] rfl (by decide) [q, (ad 3)] (fun _ => rfl) rfl 0 8 rfl rfl rfl ⟨Nat.le_of_ble_eq_true rfl, Nat.le_of_ble_eq_true rfl⟩ rfl hl.1 (Nat.le_of_ble_eq_true rfl) ⟨Nat.le_refl _, Nat.le_refl _⟩ dX8_trial_164 ?_
                            clear hB
                            try clear locs
                            try clear H
                            intro u20 H locs hp hB
                            replace hB : zB D A s ([(q, .inr (8, mO ad false z)), ((ad 9), .inl (ka 1, 4, .inr (.inl pu217))), ((ad 4), .inl (ka 0, 8, .inl mo)), ((ad 5), .inl (ka 0, 8, .inl an)), ((ad 6), .inl (ka 0, 8, .inl pl)), ((ad 7), .inl (ka 0, 24, .inl ho)), ((ad 3), .inl (ka 1, 200, .inr (.inl (setN n3 23 (wyN ((ga (2 * b + p9)).toInt) (aN (lg (2 * b + p9)))))))), ((ad 10), .inl (ka 0, 4, .inl ga)), ((ad 11), .inl (ka 0, 4, .inl lg)), ((ad 12), .inl (ka 0, 3, .inl (upd pm k mq))), ((ad 13), .inl (ka 0, 3, .inl (upd pa k aq)))]) H locs := hB
                            generalize hn4 : (setN n3 23 (wyN ((ga (2 * b + p9)).toInt) (aN (lg (2 * b + p9))))) = n4 at hB
                            have C4 : getN n4 22 = rd1 (pulI p9 L mo an pl ho) (if aN (nI k) = p9 + 1 then mq.toInt else 0) (if aN (nI k) = 0 then 0 else aN aq) := by rw [← hn4, getN_ne _ _ _ _ (by decide)]; exact C3
                            have D4 : getN n4 23 = wyN (ga (2 * b + p9)).toInt (aN (lg (2 * b + p9))) := by rw [← hn4, getN_same, hle, aNn hl9 (by decide)]
                            refine lv_aload_n hx hb dX8_trial_167 rfl (lv_at hl 2 rfl) ?_
                            refine lv_bipush (v := 24) hx hb dX8_trial_168 (by decide) ?_
                            refine lv_iload hx hb dX8_trial_170 (lv_at hl 1 rfl) ?_
                            refine lv_iadd hx hb dX8_trial_172 ?_
                            refine ztopi (y := nI (24 + p9)) (nI_add 24 p9) ?_
                            refine lv_bipush (v := 22) hx hb dX8_trial_173 (by decide) ?_
                            refine lv_bipush (v := 23) hx hb dX8_trial_175 (by decide) ?_
                            refine zVv zm_X8_148 hF hB (c_X8_product l D ka kb q ad false z n4 (24 + p9) 22 23 (by omega) (by decide) (by decide) (by
                                have e8 := ((rd1_o (hbd p9 hp2) hap (hyp p9)).2).2.2.2.2
                                rw [show n4 (5 * 22 + 4) = (rd1 (pulI p9 L mo an pl ho) (if aN (nI k) = p9 + 1 then mq.toInt else 0) (if aN (nI k) = 0 then 0 else aN aq)).2.2.2.2 from congrArg (fun v : N5 => v.2.2.2.2) C4]
                                omega) (by
                                have e8 := (wyN_bd (y := (ga (2 * b + p9)).toInt) (Y := 9) (a := aN (lg (2 * b + p9))) (by rw [hle, aNn hl9 (by decide)]; exact hl9) (by have := hga (2 * b + p9) (by omega); omega) (by decide)).2.2.2.2
                                rw [show n4 (5 * 23 + 4) = (wyN (ga (2 * b + p9)).toInt (aN (lg (2 * b + p9)))).2.2.2.2 from congrArg (fun v : N5 => v.2.2.2.2) D4]
                                omega)) [0, 6] rfl (by decide) [q, (ad 3)] (fun _ => rfl) rfl 0 8 rfl rfl rfl ⟨Nat.le_of_ble_eq_true rfl, Nat.le_of_ble_eq_true rfl⟩ rfl hl.1 (Nat.le_of_ble_eq_true rfl) ⟨Nat.le_refl _, Nat.le_refl _⟩ dX8_trial_177 ?_
                            clear hB
                            try clear locs
                            try clear H
                            intro u21 H locs hp hB
                            replace hB : zB D A s ([(q, .inr (8, mO ad (false || prodO (getN n4 22) (getN n4 23)) z)), ((ad 9), .inl (ka 1, 4, .inr (.inl pu217))), ((ad 4), .inl (ka 0, 8, .inl mo)), ((ad 5), .inl (ka 0, 8, .inl an)), ((ad 6), .inl (ka 0, 8, .inl pl)), ((ad 7), .inl (ka 0, 24, .inl ho)), ((ad 3), .inl (ka 1, 200, .inr (.inl (if (false || prodO (getN n4 22) (getN n4 23)) = true then n4 else setN n4 (24 + p9) (prodV (getN n4 22) (getN n4 23)))))), ((ad 10), .inl (ka 0, 4, .inl ga)), ((ad 11), .inl (ka 0, 4, .inl lg)), ((ad 12), .inl (ka 0, 3, .inl (upd pm k mq))), ((ad 13), .inl (ka 0, 3, .inl (upd pa k aq)))]) H locs := hB
                            have ho9 : (false || prodO (getN n4 22) (getN n4 23)) = false := by rw [C4, D4]; exact (rd2_o (hbd p9 hp2) hap (hyp p9) (hga (2 * b + p9) (by omega)) (l := aN (lg (2 * b + p9))) (by rw [hle, aNn hl9 (by decide)]; exact hl9)).1
                            rw [ho9, if_neg Bool.false_ne_true] at hB
                            replace hB : zB D A s ([(q, .inr (8, mO ad false z)), ((ad 9), .inl (ka 1, 4, .inr (.inl pu217))), ((ad 4), .inl (ka 0, 8, .inl mo)), ((ad 5), .inl (ka 0, 8, .inl an)), ((ad 6), .inl (ka 0, 8, .inl pl)), ((ad 7), .inl (ka 0, 24, .inl ho)), ((ad 3), .inl (ka 1, 200, .inr (.inl (setN n4 (24 + p9) (prodV (getN n4 22) (getN n4 23)))))), ((ad 10), .inl (ka 0, 4, .inl ga)), ((ad 11), .inl (ka 0, 4, .inl lg)), ((ad 12), .inl (ka 0, 3, .inl (upd pm k mq))), ((ad 13), .inl (ka 0, 3, .inl (upd pa k aq)))]) H locs := hB
                            generalize hn5 : (setN n4 (24 + p9) (prodV (getN n4 22) (getN n4 23))) = n5 at hB
                            have E5 : getN n5 (24 + p9) = r2T (nI k) mq aq L mo an pl ho ga lg b p9 := by rw [← hn5, getN_same, C4, D4]; rfl
                            clear ho9
                            have O5 : ∀ i, i ≠ 20 → i ≠ 21 → i ≠ 22 → i ≠ 23 → i ≠ 24 + p9 → getN n5 i = getN nn i := fun i i0 i1 i2 i3 i4 => by rw [← hn5, getN_ne _ _ _ _ i4, ← hn4, getN_ne _ _ _ _ i3, ← hn3, getN_ne _ _ _ _ i2, ← hn2, getN_ne _ _ _ _ i1, ← hn1, getN_ne _ _ _ _ i0]
                            have K5 : keepN [20, 21, 22, 23, 24, 25, 6 + 2 * aN (nI k), 6 + 2 * aN (nI k) + 1] nu n5 := by rw [← hn5, ← hn4, ← hn3, ← hn2, ← hn1]; exact ((((KN.set (by simp) _).set (by simp) _).set (by simp) _).set (by simp) _).set (by rcases (show p9 = 0 ∨ p9 = 1 by omega) with e8 | e8 <;> rw [e8] <;> simp) _
                            refine lv_iinc (v := nI (p9 + 1)) (lv' := [(5, .int (nI (p9 + 1))), (4, .int (nI b)), (0, .ref q), (1, .int (nI k)), (2, .int mq), (3, .int aq)]) hx hb dX8_trial_180 hl (k := 1) rfl (nI_1 _) (by decide) rfl ?_
                            clear hl
                            clear ls
                            intro ls hl
                            refine lv_goto (tgt := 85) hx hb dX8_trial_183 (by decide) ?_
                            exact ih85 (p9 + 1) n5 pu217 (by omega) (K5) (fun b9 h9 => by rw [O5 _ (by omega) (by omega) (by omega) (by omega) (by omega)]; exact hR3 b9 h9) (fun p h9 => by
                                    by_cases e8 : p = p9
                                    · rw [e8]; exact E5
                                    · rw [O5 _ (by omega) (by omega) (by omega) (by omega) (by omega)]; exact hR2 p (by omega)) (by omega) _ _ (hB) _ (lv_sub hl [1, 0, 2, 3, 4, 5] rfl)
                          · skip
                            have hy9 : (if aN (nI k) = p9 + 1 then mq.toInt else 0) = mq.toInt := by rw [rk, if_pos ((nI_eq (by omega) (by omega)).mp h113)]
                            refine lv_iload_n hx hb dX8_trial_116 rfl (lv_at hl 4 rfl) ?_
                            refine lv_i2l (v := mq.toInt64) hx hb dX8_trial_117 rfl ?_
                            refine ztopl (y := Int64.ofInt (if aN (nI k) = p9 + 1 then mq.toInt else 0)) (by rw [hy9]; exact i64_w _) ?_
                            refine lv_goto (tgt := 122) hx hb dX8_trial_118 (by decide) ?_
                            refine zVv zm_X8_258 hF hB (c_X8_wayTo l D ka kb q ad false z n1 21 (if aN (nI k) = 0 then 0 else aN aq) (if aN (nI k) = p9 + 1 then mq.toInt else 0) (by decide) (hap)) [0, 6] rfl (by decide) [q, (ad 3)] (fun _ => rfl) rfl 0 8 rfl rfl rfl ⟨Nat.le_of_ble_eq_true rfl, Nat.le_of_ble_eq_true rfl⟩ rfl hl.1 (Nat.le_of_ble_eq_true rfl) ⟨Nat.le_refl _, Nat.le_refl _⟩ dX8_trial_122 ?_
                            clear hB
                            try clear locs
                            try clear H
                            intro u22 H locs hp hB
                            replace hB : zB D A s ([(q, .inr (8, mX ad (0 : Int32) z.1 z.2.1 z.2.2.1 z.2.2.2.1 z.2.2.2.2.1 z.2.2.2.2.2.1 z.2.2.2.2.2.2.1 z.2.2.2.2.2.2.2)), ((ad 9), .inl (ka 1, 4, .inr (.inl pu217))), ((ad 4), .inl (ka 0, 8, .inl mo)), ((ad 5), .inl (ka 0, 8, .inl an)), ((ad 6), .inl (ka 0, 8, .inl pl)), ((ad 7), .inl (ka 0, 24, .inl ho)), ((ad 3), .inl (ka 1, 200, .inr (.inl (setN n1 21 (wyN (if aN (nI k) = p9 + 1 then mq.toInt else 0) (if aN (nI k) = 0 then 0 else aN aq)))))), ((ad 10), .inl (ka 0, 4, .inl ga)), ((ad 11), .inl (ka 0, 4, .inl lg)), ((ad 12), .inl (ka 0, 3, .inl (upd pm k mq))), ((ad 13), .inl (ka 0, 3, .inl (upd pa k aq)))]) H locs := hB
                            generalize hn2 : (setN n1 21 (wyN (if aN (nI k) = p9 + 1 then mq.toInt else 0) (if aN (nI k) = 0 then 0 else aN aq))) = n2 at hB
                            have A2 : getN n2 20 = plN (pulI p9 L mo an pl ho) := by rw [← hn2, getN_ne _ _ _ _ (by decide)]; exact A1
                            have B2 : getN n2 21 = wyN (if aN (nI k) = p9 + 1 then mq.toInt else 0) (if aN (nI k) = 0 then 0 else aN aq) := by rw [← hn2, getN_same]
                            refine lv_aload_n hx hb dX8_trial_125 rfl (lv_at hl 2 rfl) ?_
                            refine lv_bipush (v := 22) hx hb dX8_trial_126 (by decide) ?_
                            refine lv_bipush (v := 20) hx hb dX8_trial_128 (by decide) ?_
                            refine lv_bipush (v := 21) hx hb dX8_trial_130 (by decide) ?_
                            refine lv_iconst (v := 0) hx hb dX8_trial_132 (by decide) ?_
                            refine zVv zm_X8_170 hF hB (c_X8_sum l D ka kb q ad false z n2 22 20 21 false (by decide) (by decide) (by decide) (by
                                have e8 := (plN_bd (hbd p9 hp2)).2.2.2.2
                                rw [show n2 (5 * 20 + 4) = (plN (pulI p9 L mo an pl ho)).2.2.2.2 from congrArg (fun v : N5 => v.2.2.2.2) A2]
                                omega) (by
                                have e8 := (wyN_bd (y := (if aN (nI k) = p9 + 1 then mq.toInt else 0)) (Y := 99) hap (by have := hyp p9; omega) (by decide)).2.2.2.2
                                rw [show n2 (5 * 21 + 4) = (wyN (if aN (nI k) = p9 + 1 then mq.toInt else 0) (if aN (nI k) = 0 then 0 else aN aq)).2.2.2.2 from congrArg (fun v : N5 => v.2.2.2.2) B2]
                                omega)) [0, 6] rfl (by decide) [q, (ad 3)] (fun _ => rfl) rfl 0 8 rfl rfl rfl ⟨Nat.le_of_ble_eq_true rfl, Nat.le_of_ble_eq_true rfl⟩ rfl hl.1 (Nat.le_of_ble_eq_true rfl) ⟨Nat.le_refl _, Nat.le_refl _⟩ dX8_trial_133 ?_
                            clear hB
                            try clear locs
                            try clear H
                            intro u23 H locs hp hB
                            replace hB : zB D A s ([(q, .inr (8, mO ad (false || sumO false (getN n2 20) (getN n2 21)) z)), ((ad 9), .inl (ka 1, 4, .inr (.inl pu217))), ((ad 4), .inl (ka 0, 8, .inl mo)), ((ad 5), .inl (ka 0, 8, .inl an)), ((ad 6), .inl (ka 0, 8, .inl pl)), ((ad 7), .inl (ka 0, 24, .inl ho)), ((ad 3), .inl (ka 1, 200, .inr (.inl (if (false || sumO false (getN n2 20) (getN n2 21)) = true then n2 else setN n2 22 (sumV false (getN n2 20) (getN n2 21)))))), ((ad 10), .inl (ka 0, 4, .inl ga)), ((ad 11), .inl (ka 0, 4, .inl lg)), ((ad 12), .inl (ka 0, 3, .inl (upd pm k mq))), ((ad 13), .inl (ka 0, 3, .inl (upd pa k aq)))]) H locs := hB
                            have ho9 : (false || sumO false (getN n2 20) (getN n2 21)) = false := by rw [A2, B2]; exact (rd1_o (hbd p9 hp2) hap (hyp p9)).1
                            rw [ho9, if_neg Bool.false_ne_true] at hB
                            replace hB : zB D A s ([(q, .inr (8, mO ad false z)), ((ad 9), .inl (ka 1, 4, .inr (.inl pu217))), ((ad 4), .inl (ka 0, 8, .inl mo)), ((ad 5), .inl (ka 0, 8, .inl an)), ((ad 6), .inl (ka 0, 8, .inl pl)), ((ad 7), .inl (ka 0, 24, .inl ho)), ((ad 3), .inl (ka 1, 200, .inr (.inl (setN n2 22 (sumV false (getN n2 20) (getN n2 21)))))), ((ad 10), .inl (ka 0, 4, .inl ga)), ((ad 11), .inl (ka 0, 4, .inl lg)), ((ad 12), .inl (ka 0, 3, .inl (upd pm k mq))), ((ad 13), .inl (ka 0, 3, .inl (upd pa k aq)))]) H locs := hB
                            generalize hn3 : (setN n2 22 (sumV false (getN n2 20) (getN n2 21))) = n3 at hB
                            have C3 : getN n3 22 = rd1 (pulI p9 L mo an pl ho) (if aN (nI k) = p9 + 1 then mq.toInt else 0) (if aN (nI k) = 0 then 0 else aN aq) := by rw [← hn3, getN_same, A2, B2]; rfl
                            clear ho9
                            refine lv_aload_n hx hb dX8_trial_136 rfl (lv_at hl 2 rfl) ?_
                            refine lv_bipush (v := 23) hx hb dX8_trial_137 (by decide) ?_
                            refine lv_aload_n hx hb dX8_trial_139 rfl (lv_at hl 2 rfl) ?_
                            refine zget zf_X8_44 hF hB 0 rfl rfl dX8_trial_140 ?_
                            refine lv_iconst (v := 2) hx hb dX8_trial_143 (by decide) ?_
                            refine lv_iload hx hb dX8_trial_144 (lv_at hl 0 rfl) ?_
                            refine lv_imul hx hb dX8_trial_146 ?_
                            refine ztopi (y := nI (2 * b)) (pk_mul 2 b) ?_
                            refine lv_iload hx hb dX8_trial_147 (lv_at hl 1 rfl) ?_
                            refine lv_iadd hx hb dX8_trial_149 ?_
                            refine ztopi (y := nI ((2 * b) + p9)) (nI_add (2 * b) p9) ?_
                            refine ziald hF hB 8 rfl ((2 * b) + p9) (rfl) (by omega) (by decide) (v := (nI (aN (lg (2 * b + p9))))) (by rw [hle, aNn hl9 (by decide)]) dX8_trial_150 ?_
                            refine lv_aload_n hx hb dX8_trial_151 rfl (lv_at hl 2 rfl) ?_
                            refine zget zf_X8_41 hF hB 0 rfl rfl dX8_trial_152 ?_
                            refine lv_iconst (v := 2) hx hb dX8_trial_155 (by decide) ?_
                            refine lv_iload hx hb dX8_trial_156 (lv_at hl 0 rfl) ?_
                            refine lv_imul hx hb dX8_trial_158 ?_
                            refine ztopi (y := nI (2 * b)) (pk_mul 2 b) ?_
                            refine lv_iload hx hb dX8_trial_159 (lv_at hl 1 rfl) ?_
                            refine lv_iadd hx hb dX8_trial_161 ?_
                            refine ztopi (y := nI ((2 * b) + p9)) (nI_add (2 * b) p9) ?_
                            refine ziald hF hB 7 rfl ((2 * b) + p9) (rfl) (by omega) (by decide) (v := (ga ((2 * b) + p9))) (rfl) dX8_trial_162 ?_
                            refine lv_i2l (v := (ga ((2 * b) + p9)).toInt64) hx hb dX8_trial_163 rfl ?_
                            refine ztopl (y := Int64.ofInt (ga (2 * b + p9)).toInt) (i64_w _) ?_
                            refine zVv zm_X8_258 hF hB (c_X8_wayTo l D ka kb q ad false z n3 23 (aN (lg (2 * b + p9))) ((ga (2 * b + p9)).toInt) (by decide) (by rw [hle, aNn hl9 (by decide)]; exact hl9)) [0, 6] rfl (by decide) [q, (ad 3)] (fun _ => rfl) rfl 0 8 rfl rfl rfl ⟨Nat.le_of_ble_eq_true rfl, Nat.le_of_ble_eq_true rfl⟩ rfl hl.1 (Nat.le_of_ble_eq_true rfl) ⟨Nat.le_refl _, Nat.le_refl _⟩ dX8_trial_164 ?_
                            clear hB
                            try clear locs
                            try clear H
                            intro u24 H locs hp hB
                            replace hB : zB D A s ([(q, .inr (8, mO ad false z)), ((ad 9), .inl (ka 1, 4, .inr (.inl pu217))), ((ad 4), .inl (ka 0, 8, .inl mo)), ((ad 5), .inl (ka 0, 8, .inl an)), ((ad 6), .inl (ka 0, 8, .inl pl)), ((ad 7), .inl (ka 0, 24, .inl ho)), ((ad 3), .inl (ka 1, 200, .inr (.inl (setN n3 23 (wyN ((ga (2 * b + p9)).toInt) (aN (lg (2 * b + p9)))))))), ((ad 10), .inl (ka 0, 4, .inl ga)), ((ad 11), .inl (ka 0, 4, .inl lg)), ((ad 12), .inl (ka 0, 3, .inl (upd pm k mq))), ((ad 13), .inl (ka 0, 3, .inl (upd pa k aq)))]) H locs := hB
                            generalize hn4 : (setN n3 23 (wyN ((ga (2 * b + p9)).toInt) (aN (lg (2 * b + p9))))) = n4 at hB
                            have C4 : getN n4 22 = rd1 (pulI p9 L mo an pl ho) (if aN (nI k) = p9 + 1 then mq.toInt else 0) (if aN (nI k) = 0 then 0 else aN aq) := by rw [← hn4, getN_ne _ _ _ _ (by decide)]; exact C3
                            have D4 : getN n4 23 = wyN (ga (2 * b + p9)).toInt (aN (lg (2 * b + p9))) := by rw [← hn4, getN_same, hle, aNn hl9 (by decide)]
                            refine lv_aload_n hx hb dX8_trial_167 rfl (lv_at hl 2 rfl) ?_
                            refine lv_bipush (v := 24) hx hb dX8_trial_168 (by decide) ?_
                            refine lv_iload hx hb dX8_trial_170 (lv_at hl 1 rfl) ?_
                            refine lv_iadd hx hb dX8_trial_172 ?_
                            refine ztopi (y := nI (24 + p9)) (nI_add 24 p9) ?_
                            refine lv_bipush (v := 22) hx hb dX8_trial_173 (by decide) ?_
                            refine lv_bipush (v := 23) hx hb dX8_trial_175 (by decide) ?_
                            refine zVv zm_X8_148 hF hB (c_X8_product l D ka kb q ad false z n4 (24 + p9) 22 23 (by omega) (by decide) (by decide) (by
                                have e8 := ((rd1_o (hbd p9 hp2) hap (hyp p9)).2).2.2.2.2
                                rw [show n4 (5 * 22 + 4) = (rd1 (pulI p9 L mo an pl ho) (if aN (nI k) = p9 + 1 then mq.toInt else 0) (if aN (nI k) = 0 then 0 else aN aq)).2.2.2.2 from congrArg (fun v : N5 => v.2.2.2.2) C4]
                                omega) (by
                                have e8 := (wyN_bd (y := (ga (2 * b + p9)).toInt) (Y := 9) (a := aN (lg (2 * b + p9))) (by rw [hle, aNn hl9 (by decide)]; exact hl9) (by have := hga (2 * b + p9) (by omega); omega) (by decide)).2.2.2.2
                                rw [show n4 (5 * 23 + 4) = (wyN (ga (2 * b + p9)).toInt (aN (lg (2 * b + p9)))).2.2.2.2 from congrArg (fun v : N5 => v.2.2.2.2) D4]
                                omega)) [0, 6] rfl (by decide) [q, (ad 3)] (fun _ => rfl) rfl 0 8 rfl rfl rfl ⟨Nat.le_of_ble_eq_true rfl, Nat.le_of_ble_eq_true rfl⟩ rfl hl.1 (Nat.le_of_ble_eq_true rfl) ⟨Nat.le_refl _, Nat.le_refl _⟩ dX8_trial_177 ?_
                            clear hB
                            try clear locs
                            try clear H
                            intro u25 H locs hp hB
                            replace hB : zB D A s ([(q, .inr (8, mO ad (false || prodO (getN n4 22) (getN n4 23)) z)), ((ad 9), .inl (ka 1, 4, .inr (.inl pu217))), ((ad 4), .inl (ka 0, 8, .inl mo)), ((ad 5), .inl (ka 0, 8, .inl an)), ((ad 6), .inl (ka 0, 8, .inl pl)), ((ad 7), .inl (ka 0, 24, .inl ho)), ((ad 3), .inl (ka 1, 200, .inr (.inl (if (false || prodO (getN n4 22) (getN n4 23)) = true then n4 else setN n4 (24 + p9) (prodV (getN n4 22) (getN n4 23)))))), ((ad 10), .inl (ka 0, 4, .inl ga)), ((ad 11), .inl (ka 0, 4, .inl lg)), ((ad 12), .inl (ka 0, 3, .inl (upd pm k mq))), ((ad 13), .inl (ka 0, 3, .inl (upd pa k aq)))]) H locs := hB
                            have ho9 : (false || prodO (getN n4 22) (getN n4 23)) = false := by rw [C4, D4]; exact (rd2_o (hbd p9 hp2) hap (hyp p9) (hga (2 * b + p9) (by omega)) (l := aN (lg (2 * b + p9))) (by rw [hle, aNn hl9 (by decide)]; exact hl9)).1
                            rw [ho9, if_neg Bool.false_ne_true] at hB
                            replace hB : zB D A s ([(q, .inr (8, mO ad false z)), ((ad 9), .inl (ka 1, 4, .inr (.inl pu217))), ((ad 4), .inl (ka 0, 8, .inl mo)), ((ad 5), .inl (ka 0, 8, .inl an)), ((ad 6), .inl (ka 0, 8, .inl pl)), ((ad 7), .inl (ka 0, 24, .inl ho)), ((ad 3), .inl (ka 1, 200, .inr (.inl (setN n4 (24 + p9) (prodV (getN n4 22) (getN n4 23)))))), ((ad 10), .inl (ka 0, 4, .inl ga)), ((ad 11), .inl (ka 0, 4, .inl lg)), ((ad 12), .inl (ka 0, 3, .inl (upd pm k mq))), ((ad 13), .inl (ka 0, 3, .inl (upd pa k aq)))]) H locs := hB
                            generalize hn5 : (setN n4 (24 + p9) (prodV (getN n4 22) (getN n4 23))) = n5 at hB
                            have E5 : getN n5 (24 + p9) = r2T (nI k) mq aq L mo an pl ho ga lg b p9 := by rw [← hn5, getN_same, C4, D4]; rfl
                            clear ho9
                            have O5 : ∀ i, i ≠ 20 → i ≠ 21 → i ≠ 22 → i ≠ 23 → i ≠ 24 + p9 → getN n5 i = getN nn i := fun i i0 i1 i2 i3 i4 => by rw [← hn5, getN_ne _ _ _ _ i4, ← hn4, getN_ne _ _ _ _ i3, ← hn3, getN_ne _ _ _ _ i2, ← hn2, getN_ne _ _ _ _ i1, ← hn1, getN_ne _ _ _ _ i0]
                            have K5 : keepN [20, 21, 22, 23, 24, 25, 6 + 2 * aN (nI k), 6 + 2 * aN (nI k) + 1] nu n5 := by rw [← hn5, ← hn4, ← hn3, ← hn2, ← hn1]; exact ((((KN.set (by simp) _).set (by simp) _).set (by simp) _).set (by simp) _).set (by rcases (show p9 = 0 ∨ p9 = 1 by omega) with e8 | e8 <;> rw [e8] <;> simp) _
                            refine lv_iinc (v := nI (p9 + 1)) (lv' := [(5, .int (nI (p9 + 1))), (4, .int (nI b)), (0, .ref q), (1, .int (nI k)), (2, .int mq), (3, .int aq)]) hx hb dX8_trial_180 hl (k := 1) rfl (nI_1 _) (by decide) rfl ?_
                            clear hl
                            clear ls
                            intro ls hl
                            refine lv_goto (tgt := 85) hx hb dX8_trial_183 (by decide) ?_
                            exact ih85 (p9 + 1) n5 pu217 (by omega) (K5) (fun b9 h9 => by rw [O5 _ (by omega) (by omega) (by omega) (by omega) (by omega)]; exact hR3 b9 h9) (fun p h9 => by
                                    by_cases e8 : p = p9
                                    · rw [e8]; exact E5
                                    · rw [O5 _ (by omega) (by omega) (by omega) (by omega) (by omega)]; exact hR2 p (by omega)) (by omega) _ _ (hB) _ (lv_sub hl [1, 0, 2, 3, 4, 5] rfl)
                    exact lp85 (2 - 0 + 1) 0 nn pv (Nat.zero_le _) (KN) (hR3) (fun p h9 => absurd h9 (Nat.not_lt_zero _)) (by omega) _ _ (hB) _ (lv_sub hl [1, 0, 2, 3, 4, 5] rfl)
              exact lp76 (2 - 0 + 1) 0 nu pu (Nat.zero_le _) (keepN.rf) (fun b9 h9 => absurd h9 (Nat.not_lt_zero _)) (by omega) _ _ (hB) _ (lv_sub hl [0, 1, 2, 3, 4] rfl)
            · skip
              exact absurd h59 hkn
          · skip
            exact absurd h44 hkn
        · skip
          refine lv_bipush (v := -2) hx hb dX8_trial_35 (by decide) ?_
          have hk9 : trK (nI k) mq aq = false := dB_f.mpr (fun e8 => e8.2.elim (fun e7 => hkn (by rw [e7])) (fun e7 => by rw [bI_eq0 h32] at e7; exact absurd e7.2 (by decide)))
          exact zreti hF hB (o, pu, nu) (⟨by rw [if_neg (by rw [hk9]; decide)], fun _ => rfl, fun e8 => by rw [hk9] at e8; exact absurd e8 (by decide)⟩) (by rw [hk9] <;> rfl) (rfl) dX8_trial_37 hQ
