theorem ctV_n {z : mZ} {L : Nat} {mo an pl ho : Nat → Int32} {k : Nat} (h : k < 9) : ctV z L mo an pl ho (nI k) = ctW z L mo an pl ho k := by
  have h1 := ct_in (kq := nI k) (nI_toInt (by omega)) h
  rw [ctV, if_pos h1.1, h1.2]
noncomputable def dgA (z : mZ) (L : Nat) (mo an pl ho : Nat → Int32) : Nat → Int64
  | 0 => 17
  | k + 1 => 31 * dgA z L mo an pl ho k + (ctW z L mo an pl ho k).toInt64
def dgN (nu : Nat → Int64) (d : Int64) : Nat → Int64
  | 0 => d
  | k + 1 => 31 * dgN nu d k + nu k
noncomputable def dgP (z : mZ) (L : Nat) (mo an pl ho le : Nat → Int32) (d : Int64) : Nat → Int64
  | 0 => d
  | p + 1 => ptV z.2.2.1 z.2.2.2.1.toInt (pulI p L mo an pl ho) le ho p (dgP z L mo an pl ho le d p)
noncomputable def rbX (tr : Int32) (nu : Nat → Int64) (k b c : Nat) : Int64 := if kpB tr k = true then cmp5 (getN nu (6 + 2 * k + b)) c else lMin - (-3 : Int32).toInt64
noncomputable def dgC (tr : Int32) (nu : Nat → Int64) (k b : Nat) (d : Int64) : Nat → Int64
  | 0 => d
  | c + 1 => 31 * dgC tr nu k b d c + rbX tr nu k b c
noncomputable def dgB2 (tr : Int32) (nu : Nat → Int64) (k : Nat) (d : Int64) : Nat → Int64
  | 0 => d
  | b + 1 => dgC tr nu k b (dgB2 tr nu k d b) 5
noncomputable def dgK (tr : Int32) (nu : Nat → Int64) (d : Int64) : Nat → Int64
  | 0 => d
  | k + 1 => dgB2 tr nu k (dgK tr nu d k) 2
noncomputable def dgV (z : mZ) (nu : Nat → Int64) (L : Nat) (mo an pl ho le : Nat → Int32) : Int64 := dgK z.2.2.2.2.1 nu (dgP z L mo an pl ho le (dgN nu (dgA z L mo an pl ho 8) 30) 2) 3
set_option maxHeartbeats 4000000 in
set_option maxRecDepth 100000 in
theorem c_X8_digest (l : Launch) (D : va_G) (ka : Nat → ClassId) (kb : Nat → Nat) (q : Nat) (ad : Nat → Nat) (o : Bool) (z : mZ) (nu : Nat → Int64) (pu : Nat → Int64) (L : Nat) (mo : Nat → Int32) (an : Nat → Int32) (pl : Nat → Int32) (ho : Nat → Int32) (le : Nat → Int32) (b0 : Int) (b1 : Int) (sa : Nat → Int32) (ss : Nat → Int32) (ba : Nat → Int32) (bz : Nat → Int32) (hL : z.2.1 = nI L) (hok : okL L mo an pl) (hoh : okH ho) (hli : 0 ≤ z.2.2.2.1.toInt ∧ z.2.2.2.1.toInt ≤ 99) (hbs : z.2.2.2.2.2.2.1 = Int64.ofInt b0) (hbr : z.2.2.2.2.2.2.2 = Int64.ofInt b1) (hb01 : (0 ≤ b0 ∧ b0 ≤ 1270000000) ∧ (-730000000 ≤ b1 ∧ b1 ≤ 730000000)) : zL l D ka kb yX8_digest cX8_digest 6 9 223 [.ref q] ([(q, .inr (8, mO ad o z)), ((ad 9), .inl (ka 1, 4, .inr (.inl pu))), ((ad 4), .inl (ka 0, 8, .inl mo)), ((ad 5), .inl (ka 0, 8, .inl an)), ((ad 6), .inl (ka 0, 8, .inl pl)), ((ad 7), .inl (ka 0, 24, .inl ho)), ((ad 8), .inl (ka 0, 2, .inl le)), ((ad 14), .inl (ka 0, 4, .inl sa)), ((ad 15), .inl (ka 0, 4, .inl ss)), ((ad 16), .inl (ka 0, 4, .inl ba)), ((ad 17), .inl (ka 0, 4, .inl bz)), ((ad 3), .inl (ka 1, 200, .inr (.inl nu)))]) (fun (r : Int64) (u : (Nat → Int64) × (Nat → Int64) × (Nat → Int32) × (Nat → Int32) × bT) => r = dgV z nu L mo an pl ho le ∧ keepN [29] nu u.2.1 ∧ bB ((-1 : Int32), u.2.2.2.2.2)) (fun (u : (Nat → Int64) × (Nat → Int64) × (Nat → Int32) × (Nat → Int32) × bT) => [(q, .inr (8, mX ad (bI o) z.1 z.2.1 z.2.2.1 z.2.2.2.1 z.2.2.2.2.1 u.2.2.2.2.1 (Int64.ofInt u.2.2.2.2.2.1) (Int64.ofInt u.2.2.2.2.2.2.1))), ((ad 9), .inl (ka 1, 4, .inr (.inl u.1))), ((ad 4), .inl (ka 0, 8, .inl mo)), ((ad 5), .inl (ka 0, 8, .inl an)), ((ad 6), .inl (ka 0, 8, .inl pl)), ((ad 7), .inl (ka 0, 24, .inl ho)), ((ad 8), .inl (ka 0, 2, .inl le)), ((ad 14), .inl (ka 0, 4, .inl u.2.2.1)), ((ad 15), .inl (ka 0, 4, .inl u.2.2.2.1)), ((ad 16), .inl (ka 0, 4, .inl u.2.2.2.2.2.2.2.1)), ((ad 17), .inl (ka 0, 4, .inl u.2.2.2.2.2.2.2.2)), ((ad 3), .inl (ka 1, 200, .inr (.inl u.2.1)))]) := by
  refine zL.mk RX8 (by decide +kernel) rfl (Nat.le_of_ble_eq_true rfl) ?_
  intro p e s m below meth c A ls args Q hQ hx hb hF hB hl
  replace hl : lv_has ls 6 [(0, .ref q)] := hl
  refine zldc2 (v := (17 : Int64)) ww_44_12 hF dX8_digest_0 ?_
  refine lv_lstore_n (lv' := [(1, .long (17 : Int64)), (0, .ref q)]) hx hb dX8_digest_3 rfl hl (by decide) rfl ?_
  clear hl
  clear ls
  intro ls hl
  refine lv_iconst (v := 0) hx hb dX8_digest_4 (by decide) ?_
  refine lv_istore_n (lv' := [(3, .int (0 : Int32)), (1, .long (17 : Int64)), (0, .ref q)]) hx hb dX8_digest_5 rfl hl (by decide) rfl ?_
  clear hl
  clear ls
  intro ls hl
  have lp6 : ∀ (fl : Nat) (ic : Nat) (pu1 : Nat → Int64), (hi : ic ≤ 8) → 8 - ic < fl → ∀ (H : Heap) (locs : List Loc), zB D A s ([(q, .inr (8, mO ad o z)), ((ad 9), .inl (ka 1, 4, .inr (.inl pu1))), ((ad 4), .inl (ka 0, 8, .inl mo)), ((ad 5), .inl (ka 0, 8, .inl an)), ((ad 6), .inl (ka 0, 8, .inl pl)), ((ad 7), .inl (ka 0, 24, .inl ho)), ((ad 8), .inl (ka 0, 2, .inl le)), ((ad 14), .inl (ka 0, 4, .inl sa)), ((ad 15), .inl (ka 0, 4, .inl ss)), ((ad 16), .inl (ka 0, 4, .inl ba)), ((ad 17), .inl (ka 0, 4, .inl bz)), ((ad 3), .inl (ka 1, 200, .inr (.inl nu)))]) H locs → ∀ ls : Array Slot, lv_has ls 6 [(1, .long (dgA z L mo an pl ho ic)), (3, .int (nI ic)), (0, .ref q)] → W p l e (zRm 9 223 0 0) s m args below meth c H locs 0 0 Q (F0 m 6 ls []) := by
    intro fl
    induction fl with
    | zero => intro ic pu1 hi hfl; exact absurd hfl (Nat.not_lt_zero _)
    | succ fl ih6 =>
      intro ic pu1 hi hfl6 H locs hB ls hl
      refine lv_iload_n hx hb dX8_digest_6 rfl (lv_at hl 1 rfl) ?_
      refine lv_bipush (v := 8) hx hb dX8_digest_7 (by decide) ?_
      refine lv_icmp_ge (tgt := 31) hx hb dX8_digest_9 (by decide) (fun h9 => ?_) (fun h9 => ?_)
      · skip
        have hi2 : ic = 8 := by have := (nI_leI (a := 8) (b := ic) (by decide) (by omega)).mp h9; omega
        subst hi2
        refine lv_iconst (v := 0) hx hb dX8_digest_31 (by decide) ?_
        refine lv_istore_n (lv' := [(3, .int (0 : Int32)), (1, .long (dgA z L mo an pl ho 8)), (0, .ref q)]) hx hb dX8_digest_32 rfl hl (by decide) rfl ?_
        clear hl
        clear ls
        intro ls hl
        have lp33 : ∀ (fl : Nat) (jn : Nat), (hj : jn ≤ 30) → 30 - jn < fl → ∀ (H : Heap) (locs : List Loc), zB D A s ([(q, .inr (8, mO ad o z)), ((ad 9), .inl (ka 1, 4, .inr (.inl pu1))), ((ad 4), .inl (ka 0, 8, .inl mo)), ((ad 5), .inl (ka 0, 8, .inl an)), ((ad 6), .inl (ka 0, 8, .inl pl)), ((ad 7), .inl (ka 0, 24, .inl ho)), ((ad 8), .inl (ka 0, 2, .inl le)), ((ad 14), .inl (ka 0, 4, .inl sa)), ((ad 15), .inl (ka 0, 4, .inl ss)), ((ad 16), .inl (ka 0, 4, .inl ba)), ((ad 17), .inl (ka 0, 4, .inl bz)), ((ad 3), .inl (ka 1, 200, .inr (.inl nu)))]) H locs → ∀ ls : Array Slot, lv_has ls 6 [(1, .long (dgN nu (dgA z L mo an pl ho 8) jn)), (3, .int (nI jn)), (0, .ref q)] → W p l e (zRm 9 223 0 0) s m args below meth c H locs 0 0 Q (F0 m 33 ls []) := by
          intro fl
          induction fl with
          | zero => intro jn hj hfl; exact absurd hfl (Nat.not_lt_zero _)
          | succ fl ih33 =>
            intro jn hj hfl33 H locs hB ls hl
            refine lv_iload_n hx hb dX8_digest_33 rfl (lv_at hl 1 rfl) ?_
            refine lv_bipush (v := 30) hx hb dX8_digest_34 (by decide) ?_
            refine lv_icmp_ge (tgt := 58) hx hb dX8_digest_36 (by decide) (fun h36 => ?_) (fun h36 => ?_)
            · skip
              have hj2 : jn = 30 := by have := (nI_leI (a := 30) (b := jn) (by decide) (by omega)).mp h36; omega
              subst hj2
              refine lv_iconst (v := 0) hx hb dX8_digest_58 (by decide) ?_
              refine lv_istore_n (lv' := [(3, .int (0 : Int32)), (1, .long (dgN nu (dgA z L mo an pl ho 8) 30)), (0, .ref q)]) hx hb dX8_digest_59 rfl hl (by decide) rfl ?_
              clear hl
              clear ls
              intro ls hl
              have lp60 : ∀ (fl : Nat) (pp : Nat) (pu3 : Nat → Int64) (nu3 : Nat → Int64) (sa3 : Nat → Int32) (ss3 : Nat → Int32) (bb : bT), (hp : pp ≤ 2) → (hkn : keepN [29] nu nu3) → (hB9 : bB ((-1 : Int32), bb.2)) → 2 - pp < fl → ∀ (H : Heap) (locs : List Loc), zB D A s ([(q, .inr (8, mX ad (bI o) z.1 z.2.1 z.2.2.1 z.2.2.2.1 z.2.2.2.2.1 bb.1 (Int64.ofInt bb.2.1) (Int64.ofInt bb.2.2.1))), ((ad 9), .inl (ka 1, 4, .inr (.inl pu3))), ((ad 4), .inl (ka 0, 8, .inl mo)), ((ad 5), .inl (ka 0, 8, .inl an)), ((ad 6), .inl (ka 0, 8, .inl pl)), ((ad 7), .inl (ka 0, 24, .inl ho)), ((ad 8), .inl (ka 0, 2, .inl le)), ((ad 14), .inl (ka 0, 4, .inl sa3)), ((ad 15), .inl (ka 0, 4, .inl ss3)), ((ad 16), .inl (ka 0, 4, .inl bb.2.2.2.1)), ((ad 17), .inl (ka 0, 4, .inl bb.2.2.2.2)), ((ad 3), .inl (ka 1, 200, .inr (.inl nu3)))]) H locs → ∀ ls : Array Slot, lv_has ls 6 [(1, .long (dgP z L mo an pl ho le (dgN nu (dgA z L mo an pl ho 8) 30) pp)), (3, .int (nI pp)), (0, .ref q)] → W p l e (zRm 9 223 0 0) s m args below meth c H locs 0 0 Q (F0 m 60 ls []) := by
                intro fl
                induction fl with
                | zero => intro pp pu3 nu3 sa3 ss3 bb hp hkn hB9 hfl; exact absurd hfl (Nat.not_lt_zero _)
                | succ fl ih60 =>
                  intro pp pu3 nu3 sa3 ss3 bb hp hkn hB9 hfl60 H locs hB ls hl
                  refine lv_iload_n hx hb dX8_digest_60 rfl (lv_at hl 1 rfl) ?_
                  refine lv_iconst (v := 2) hx hb dX8_digest_61 (by decide) ?_
                  refine lv_icmp_ge (tgt := 78) hx hb dX8_digest_62 (by decide) (fun h62 => ?_) (fun h62 => ?_)
                  · skip
                    have hp2 : pp = 2 := by have := (nI_leI (a := 2) (b := pp) (by decide) (by omega)).mp h62; omega
                    subst hp2
                    refine lv_iconst (v := 0) hx hb dX8_digest_78 (by decide) ?_
                    refine lv_istore_n (lv' := [(3, .int (0 : Int32)), (1, .long (dgP z L mo an pl ho le (dgN nu (dgA z L mo an pl ho 8) 30) 2)), (0, .ref q)]) hx hb dX8_digest_79 rfl hl (by decide) rfl ?_
                    clear hl
                    clear ls
                    intro ls hl
                    have lp80 : ∀ (fl : Nat) (kk : Nat), (hkk : kk ≤ 3) → 3 - kk < fl → ∀ (H : Heap) (locs : List Loc), zB D A s ([(q, .inr (8, mX ad (bI o) z.1 z.2.1 z.2.2.1 z.2.2.2.1 z.2.2.2.2.1 bb.1 (Int64.ofInt bb.2.1) (Int64.ofInt bb.2.2.1))), ((ad 9), .inl (ka 1, 4, .inr (.inl pu3))), ((ad 4), .inl (ka 0, 8, .inl mo)), ((ad 5), .inl (ka 0, 8, .inl an)), ((ad 6), .inl (ka 0, 8, .inl pl)), ((ad 7), .inl (ka 0, 24, .inl ho)), ((ad 8), .inl (ka 0, 2, .inl le)), ((ad 14), .inl (ka 0, 4, .inl sa3)), ((ad 15), .inl (ka 0, 4, .inl ss3)), ((ad 16), .inl (ka 0, 4, .inl bb.2.2.2.1)), ((ad 17), .inl (ka 0, 4, .inl bb.2.2.2.2)), ((ad 3), .inl (ka 1, 200, .inr (.inl nu3)))]) H locs → ∀ ls : Array Slot, lv_has ls 6 [(1, .long (dgK z.2.2.2.2.1 nu (dgP z L mo an pl ho le (dgN nu (dgA z L mo an pl ho 8) 30) 2) kk)), (3, .int (nI kk)), (0, .ref q)] → W p l e (zRm 9 223 0 0) s m args below meth c H locs 0 0 Q (F0 m 80 ls []) := by
                      intro fl
                      induction fl with
                      | zero => intro kk hkk hfl; exact absurd hfl (Nat.not_lt_zero _)
                      | succ fl ih80 =>
                        intro kk hkk hfl80 H locs hB ls hl
                        refine lv_iload_n hx hb dX8_digest_80 rfl (lv_at hl 1 rfl) ?_
                        refine lv_iconst (v := 3) hx hb dX8_digest_81 (by decide) ?_
                        refine lv_icmp_ge (tgt := 137) hx hb dX8_digest_82 (by decide) (fun h82 => ?_) (fun h82 => ?_)
                        · skip
                          have hkk2 : kk = 3 := by have := (nI_leI (a := 3) (b := kk) (by decide) (by omega)).mp h82; omega
                          subst hkk2
                          refine lv_lload_n hx hb dX8_digest_137 rfl (lv_at hl 0 rfl) ?_
                          exact zretl hF hB (pu3, nu3, sa3, ss3, bb) (⟨rfl, hkn, hB9⟩) (rfl) dX8_digest_138 hQ
                        · skip
                          have hkk2 : kk < 3 := Nat.not_le.mp (fun e9 => h82 ((nI_leI (a := 3) (b := kk) (by decide) (by omega)).mpr e9))
                          refine lv_iconst (v := 0) hx hb dX8_digest_85 (by decide) ?_
                          refine lv_istore (lv' := [(4, .int (0 : Int32)), (1, .long (dgK z.2.2.2.2.1 nu (dgP z L mo an pl ho le (dgN nu (dgA z L mo an pl ho 8) 30) 2) kk)), (3, .int (nI kk)), (0, .ref q)]) hx hb dX8_digest_86 hl (by decide) rfl ?_
                          clear hl
                          clear ls
                          intro ls hl
                          have lp88 : ∀ (fl : Nat) (bc : Nat), (hbc : bc ≤ 2) → 2 - bc < fl → ∀ (H : Heap) (locs : List Loc), zB D A s ([(q, .inr (8, mX ad (bI o) z.1 z.2.1 z.2.2.1 z.2.2.2.1 z.2.2.2.2.1 bb.1 (Int64.ofInt bb.2.1) (Int64.ofInt bb.2.2.1))), ((ad 9), .inl (ka 1, 4, .inr (.inl pu3))), ((ad 4), .inl (ka 0, 8, .inl mo)), ((ad 5), .inl (ka 0, 8, .inl an)), ((ad 6), .inl (ka 0, 8, .inl pl)), ((ad 7), .inl (ka 0, 24, .inl ho)), ((ad 8), .inl (ka 0, 2, .inl le)), ((ad 14), .inl (ka 0, 4, .inl sa3)), ((ad 15), .inl (ka 0, 4, .inl ss3)), ((ad 16), .inl (ka 0, 4, .inl bb.2.2.2.1)), ((ad 17), .inl (ka 0, 4, .inl bb.2.2.2.2)), ((ad 3), .inl (ka 1, 200, .inr (.inl nu3)))]) H locs → ∀ ls : Array Slot, lv_has ls 6 [(1, .long (dgB2 z.2.2.2.2.1 nu kk (dgK z.2.2.2.2.1 nu (dgP z L mo an pl ho le (dgN nu (dgA z L mo an pl ho 8) 30) 2) kk) bc)), (4, .int (nI bc)), (3, .int (nI kk)), (0, .ref q)] → W p l e (zRm 9 223 0 0) s m args below meth c H locs 0 0 Q (F0 m 88 ls []) := by
                            intro fl
                            induction fl with
                            | zero => intro bc hbc hfl; exact absurd hfl (Nat.not_lt_zero _)
                            | succ fl ih88 =>
                              intro bc hbc hfl88 H locs hB ls hl
                              refine lv_iload hx hb dX8_digest_88 (lv_at hl 1 rfl) ?_
                              refine lv_iconst (v := 2) hx hb dX8_digest_90 (by decide) ?_
                              refine lv_icmp_ge (tgt := 131) hx hb dX8_digest_91 (by decide) (fun h91 => ?_) (fun h91 => ?_)
                              · skip
                                have hbc2 : bc = 2 := by have := (nI_leI (a := 2) (b := bc) (by decide) (by omega)).mp h91; omega
                                subst hbc2
                                refine lv_iinc (v := nI (kk + 1)) (lv' := [(3, .int (nI (kk + 1))), (1, .long (dgB2 z.2.2.2.2.1 nu kk (dgK z.2.2.2.2.1 nu (dgP z L mo an pl ho le (dgN nu (dgA z L mo an pl ho 8) 30) 2) kk) 2)), (4, .int (nI 2)), (0, .ref q)]) hx hb dX8_digest_131 hl (k := 2) rfl (nI_1 _) (by decide) rfl ?_
                                clear hl
                                clear ls
                                intro ls hl
                                refine lv_goto (tgt := 80) hx hb dX8_digest_134 (by decide) ?_
                                exact ih80 (kk + 1) (by omega) (by omega) _ _ (hB) _ (lv_sub hl [1, 0, 3] rfl)
                              · skip
                                have hbc2 : bc < 2 := Nat.not_le.mp (fun e9 => h91 ((nI_leI (a := 2) (b := bc) (by decide) (by omega)).mpr e9))
                                refine lv_iconst (v := 0) hx hb dX8_digest_94 (by decide) ?_
                                refine lv_istore (lv' := [(5, .int (0 : Int32)), (1, .long (dgB2 z.2.2.2.2.1 nu kk (dgK z.2.2.2.2.1 nu (dgP z L mo an pl ho le (dgN nu (dgA z L mo an pl ho 8) 30) 2) kk) bc)), (4, .int (nI bc)), (3, .int (nI kk)), (0, .ref q)]) hx hb dX8_digest_95 hl (by decide) rfl ?_
                                clear hl
                                clear ls
                                intro ls hl
                                have lp97 : ∀ (fl : Nat) (cj : Nat), (hcj : cj ≤ 5) → 5 - cj < fl → ∀ (H : Heap) (locs : List Loc), zB D A s ([(q, .inr (8, mX ad (bI o) z.1 z.2.1 z.2.2.1 z.2.2.2.1 z.2.2.2.2.1 bb.1 (Int64.ofInt bb.2.1) (Int64.ofInt bb.2.2.1))), ((ad 9), .inl (ka 1, 4, .inr (.inl pu3))), ((ad 4), .inl (ka 0, 8, .inl mo)), ((ad 5), .inl (ka 0, 8, .inl an)), ((ad 6), .inl (ka 0, 8, .inl pl)), ((ad 7), .inl (ka 0, 24, .inl ho)), ((ad 8), .inl (ka 0, 2, .inl le)), ((ad 14), .inl (ka 0, 4, .inl sa3)), ((ad 15), .inl (ka 0, 4, .inl ss3)), ((ad 16), .inl (ka 0, 4, .inl bb.2.2.2.1)), ((ad 17), .inl (ka 0, 4, .inl bb.2.2.2.2)), ((ad 3), .inl (ka 1, 200, .inr (.inl nu3)))]) H locs → ∀ ls : Array Slot, lv_has ls 6 [(1, .long (dgC z.2.2.2.2.1 nu kk bc (dgB2 z.2.2.2.2.1 nu kk (dgK z.2.2.2.2.1 nu (dgP z L mo an pl ho le (dgN nu (dgA z L mo an pl ho 8) 30) 2) kk) bc) cj)), (5, .int (nI cj)), (4, .int (nI bc)), (3, .int (nI kk)), (0, .ref q)] → W p l e (zRm 9 223 0 0) s m args below meth c H locs 0 0 Q (F0 m 97 ls []) := by
                                  intro fl
                                  induction fl with
                                  | zero => intro cj hcj hfl; exact absurd hfl (Nat.not_lt_zero _)
                                  | succ fl ih97 =>
                                    intro cj hcj hfl97 H locs hB ls hl
                                    refine lv_iload hx hb dX8_digest_97 (lv_at hl 1 rfl) ?_
                                    refine lv_iconst (v := 5) hx hb dX8_digest_99 (by decide) ?_
                                    refine lv_icmp_ge (tgt := 125) hx hb dX8_digest_100 (by decide) (fun h100 => ?_) (fun h100 => ?_)
                                    · skip
                                      have hcj2 : cj = 5 := by have := (nI_leI (a := 5) (b := cj) (by decide) (by omega)).mp h100; omega
                                      subst hcj2
                                      refine lv_iinc (v := nI (bc + 1)) (lv' := [(4, .int (nI (bc + 1))), (1, .long (dgC z.2.2.2.2.1 nu kk bc (dgB2 z.2.2.2.2.1 nu kk (dgK z.2.2.2.2.1 nu (dgP z L mo an pl ho le (dgN nu (dgA z L mo an pl ho 8) 30) 2) kk) bc) 5)), (5, .int (nI 5)), (3, .int (nI kk)), (0, .ref q)]) hx hb dX8_digest_125 hl (k := 2) rfl (nI_1 _) (by decide) rfl ?_
                                      clear hl
                                      clear ls
                                      intro ls hl
                                      refine lv_goto (tgt := 88) hx hb dX8_digest_128 (by decide) ?_
                                      exact ih88 (bc + 1) (by omega) (by omega) _ _ (hB) _ (lv_sub hl [1, 0, 3, 4] rfl)
                                    · skip
                                      have hcj2 : cj < 5 := Nat.not_le.mp (fun e9 => h100 ((nI_leI (a := 5) (b := cj) (by decide) (by omega)).mpr e9))
                                      refine zldc2 (v := (31 : Int64)) ww_44_13 hF dX8_digest_103 ?_
                                      refine lv_lload_n hx hb dX8_digest_106 rfl (lv_at hl 0 rfl) ?_
                                      refine lv_lmul hx hb dX8_digest_107 ?_
                                      refine lv_aload_n hx hb dX8_digest_108 rfl (lv_at hl 4 rfl) ?_
                                      refine lv_iload_n hx hb dX8_digest_109 rfl (lv_at hl 3 rfl) ?_
                                      refine lv_iload hx hb dX8_digest_110 (lv_at hl 2 rfl) ?_
                                      refine lv_iload hx hb dX8_digest_112 (lv_at hl 1 rfl) ?_
                                      refine zVl zm_X8_268 hF hB (c_X8_readingBy l D ka kb q ad o (z.1, z.2.1, z.2.2.1, z.2.2.2.1, z.2.2.2.2.1, bb.1, (Int64.ofInt bb.2.1), (Int64.ofInt bb.2.2.1)) nu3 kk bc cj (hkk2) (hbc2) (hcj2)) [0, 11] rfl (by decide) [q, (ad 3)] (fun _ => rfl) rfl 0 8 rfl rfl rfl ⟨Nat.le_of_ble_eq_true rfl, Nat.le_of_ble_eq_true rfl⟩ rfl hl.1 (Nat.le_of_ble_eq_true rfl) ⟨Nat.le_refl _, Nat.le_refl _⟩ dX8_digest_114 ?_
                                      clear hB
                                      try clear locs
                                      try clear H
                                      intro r1 u1 H locs hp hB
                                      obtain rfl : r1 = (if kpB (z.1, z.2.1, z.2.2.1, z.2.2.2.1, z.2.2.2.2.1, bb.1, (Int64.ofInt bb.2.1), (Int64.ofInt bb.2.2.1)).2.2.2.2.1 kk = true then cmp5 (getN nu3 (6 + 2 * kk + bc)) cj else lMin - (-3 : Int32).toInt64) := hp
                                      replace hB : zB D A s ([(q, .inr (8, mX ad (bI o) z.1 z.2.1 z.2.2.1 z.2.2.2.1 z.2.2.2.2.1 bb.1 (Int64.ofInt bb.2.1) (Int64.ofInt bb.2.2.1))), ((ad 9), .inl (ka 1, 4, .inr (.inl pu3))), ((ad 4), .inl (ka 0, 8, .inl mo)), ((ad 5), .inl (ka 0, 8, .inl an)), ((ad 6), .inl (ka 0, 8, .inl pl)), ((ad 7), .inl (ka 0, 24, .inl ho)), ((ad 8), .inl (ka 0, 2, .inl le)), ((ad 14), .inl (ka 0, 4, .inl sa3)), ((ad 15), .inl (ka 0, 4, .inl ss3)), ((ad 16), .inl (ka 0, 4, .inl bb.2.2.2.1)), ((ad 17), .inl (ka 0, 4, .inl bb.2.2.2.2)), ((ad 3), .inl (ka 1, 200, .inr (.inl nu3)))]) H locs := hB
                                      refine ztopl (y := (rbX z.2.2.2.2.1 nu kk bc cj)) (by rw [rbX, hkn.get (by simp; omega)]) ?_
                                      refine lv_ladd hx hb dX8_digest_117 ?_
                                      refine ztopl (y := (dgC z.2.2.2.2.1 nu kk bc (dgB2 z.2.2.2.2.1 nu kk (dgK z.2.2.2.2.1 nu (dgP z L mo an pl ho le (dgN nu (dgA z L mo an pl ho 8) 30) 2) kk) bc) (cj + 1))) (rfl) ?_
                                      refine lv_lstore_n (lv' := [(1, .long (dgC z.2.2.2.2.1 nu kk bc (dgB2 z.2.2.2.2.1 nu kk (dgK z.2.2.2.2.1 nu (dgP z L mo an pl ho le (dgN nu (dgA z L mo an pl ho 8) 30) 2) kk) bc) (cj + 1))), (5, .int (nI cj)), (4, .int (nI bc)), (3, .int (nI kk)), (0, .ref q)]) hx hb dX8_digest_118 rfl hl (by decide) rfl ?_
                                      clear hl
                                      clear ls
                                      intro ls hl
                                      refine lv_iinc (v := nI (cj + 1)) (lv' := [(5, .int (nI (cj + 1))), (1, .long (dgC z.2.2.2.2.1 nu kk bc (dgB2 z.2.2.2.2.1 nu kk (dgK z.2.2.2.2.1 nu (dgP z L mo an pl ho le (dgN nu (dgA z L mo an pl ho 8) 30) 2) kk) bc) (cj + 1))), (4, .int (nI bc)), (3, .int (nI kk)), (0, .ref q)]) hx hb dX8_digest_119 hl (k := 1) rfl (nI_1 _) (by decide) rfl ?_
                                      clear hl
                                      clear ls
                                      intro ls hl
                                      refine lv_goto (tgt := 97) hx hb dX8_digest_122 (by decide) ?_
                                      exact ih97 (cj + 1) (by omega) (by omega) _ _ (hB) _ (lv_sub hl [1, 0, 2, 3, 4] rfl)
                                exact lp97 (5 - 0 + 1) 0 (Nat.zero_le _) (by omega) _ _ (hB) _ (lv_sub hl [1, 0, 2, 3, 4] rfl)
                          exact lp88 (2 - 0 + 1) 0 (Nat.zero_le _) (by omega) _ _ (hB) _ (lv_sub hl [1, 0, 2, 3] rfl)
                    exact lp80 (3 - 0 + 1) 0 (Nat.zero_le _) (by omega) _ _ (hB) _ (lv_sub hl [1, 0, 2] rfl)
                  · skip
                    have hp2 : pp < 2 := Nat.not_le.mp (fun e9 => h62 ((nI_leI (a := 2) (b := pp) (by decide) (by omega)).mpr e9))
                    refine lv_aload_n hx hb dX8_digest_65 rfl (lv_at hl 2 rfl) ?_
                    refine lv_lload_n hx hb dX8_digest_66 rfl (lv_at hl 0 rfl) ?_
                    refine lv_iload_n hx hb dX8_digest_67 rfl (lv_at hl 1 rfl) ?_
                    refine zVl zm_X8_338 hF hB (c_X8_planeTells l D ka kb q ad o (z.1, z.2.1, z.2.2.1, z.2.2.2.1, z.2.2.2.2.1, bb.1, (Int64.ofInt bb.2.1), (Int64.ofInt bb.2.2.1)) nu3 pu3 L mo an pl ho le (dgP z L mo an pl ho le (dgN nu (dgA z L mo an pl ho 8) 30) pp) pp bb.2.1 bb.2.2.1 sa3 ss3 bb.2.2.2.1 bb.2.2.2.2 (hp2) (hL) (hok) (hoh) (hli) (rfl) (rfl) (hB9)) [0, 1, 2, 3, 4, 5, 6, 7, 8, 9, 10, 11] rfl (by decide) [q, (ad 9), (ad 4), (ad 5), (ad 6), (ad 7), (ad 8), (ad 14), (ad 15), (ad 16), (ad 17), (ad 3)] (fun _ => rfl) rfl 0 8 rfl rfl rfl ⟨Nat.le_of_ble_eq_true rfl, Nat.le_of_ble_eq_true rfl⟩ rfl hl.1 (Nat.le_of_ble_eq_true rfl) ⟨Nat.le_refl _, Nat.le_refl _⟩ dX8_digest_68 ?_
                    clear hB
                    try clear locs
                    try clear H
                    intro r2 u2 H locs hp hB
                    obtain ⟨pu22, nu22, sa22, ss22, bb2⟩ := u2
                    have hp2 : r2 = ptV (z.1, z.2.1, z.2.2.1, z.2.2.2.1, z.2.2.2.2.1, bb.1, (Int64.ofInt bb.2.1), (Int64.ofInt bb.2.2.1)).2.2.1 (z.1, z.2.1, z.2.2.1, z.2.2.2.1, z.2.2.2.2.1, bb.1, (Int64.ofInt bb.2.1), (Int64.ofInt bb.2.2.1)).2.2.2.1.toInt (pulI pp L mo an pl ho) le ho pp (dgP z L mo an pl ho le (dgN nu (dgA z L mo an pl ho 8) 30) pp) ∧ keepN [29] nu3 nu22 ∧ bB ((-1 : Int32), bb2.2) := hp
                    have HPP := hp2
                    replace hB : zB D A s ([(q, .inr (8, mX ad (bI o) z.1 z.2.1 z.2.2.1 z.2.2.2.1 z.2.2.2.2.1 bb2.1 (Int64.ofInt bb2.2.1) (Int64.ofInt bb2.2.2.1))), ((ad 9), .inl (ka 1, 4, .inr (.inl pu22))), ((ad 4), .inl (ka 0, 8, .inl mo)), ((ad 5), .inl (ka 0, 8, .inl an)), ((ad 6), .inl (ka 0, 8, .inl pl)), ((ad 7), .inl (ka 0, 24, .inl ho)), ((ad 8), .inl (ka 0, 2, .inl le)), ((ad 14), .inl (ka 0, 4, .inl sa22)), ((ad 15), .inl (ka 0, 4, .inl ss22)), ((ad 16), .inl (ka 0, 4, .inl bb2.2.2.2.1)), ((ad 17), .inl (ka 0, 4, .inl bb2.2.2.2.2)), ((ad 3), .inl (ka 1, 200, .inr (.inl nu22)))]) H locs := hB
                    refine ztopl (y := (dgP z L mo an pl ho le (dgN nu (dgA z L mo an pl ho 8) 30) (pp + 1))) (HPP.1) ?_
                    refine lv_lstore_n (lv' := [(1, .long (dgP z L mo an pl ho le (dgN nu (dgA z L mo an pl ho 8) 30) (pp + 1))), (3, .int (nI pp)), (0, .ref q)]) hx hb dX8_digest_71 rfl hl (by decide) rfl ?_
                    clear hl
                    clear ls
                    intro ls hl
                    refine lv_iinc (v := nI (pp + 1)) (lv' := [(3, .int (nI (pp + 1))), (1, .long (dgP z L mo an pl ho le (dgN nu (dgA z L mo an pl ho 8) 30) (pp + 1))), (0, .ref q)]) hx hb dX8_digest_72 hl (k := 1) rfl (nI_1 _) (by decide) rfl ?_
                    clear hl
                    clear ls
                    intro ls hl
                    refine lv_goto (tgt := 60) hx hb dX8_digest_75 (by decide) ?_
                    exact ih60 (pp + 1) pu22 nu22 sa22 ss22 bb2 (by omega) (hkn.tr HPP.2.1) (HPP.2.2) (by omega) _ _ (hB) _ (lv_sub hl [1, 0, 2] rfl)
              exact lp60 (2 - 0 + 1) 0 pu1 nu sa ss (z.2.2.2.2.2.1, b0, b1, ba, bz) (Nat.zero_le _) (keepN.rf) (hb01) (by omega) _ _ (by rw [← hbs, ← hbr]; exact hB) _ (lv_sub hl [1, 0, 2] rfl)
            · skip
              have hj2 : jn < 30 := Nat.not_le.mp (fun e9 => h36 ((nI_leI (a := 30) (b := jn) (by decide) (by omega)).mpr e9))
              refine zldc2 (v := (31 : Int64)) ww_44_13 hF dX8_digest_39 ?_
              refine lv_lload_n hx hb dX8_digest_42 rfl (lv_at hl 0 rfl) ?_
              refine lv_lmul hx hb dX8_digest_43 ?_
              refine lv_aload_n hx hb dX8_digest_44 rfl (lv_at hl 2 rfl) ?_
              refine zget zf_X8_20 hF hB 0 rfl rfl dX8_digest_45 ?_
              refine lv_iload_n hx hb dX8_digest_48 rfl (lv_at hl 1 rfl) ?_
              refine zlald hF hB 11 rfl jn (rfl) (by omega) (by decide) (v := (nu jn)) (rfl) dX8_digest_49 ?_
              refine lv_ladd hx hb dX8_digest_50 ?_
              refine ztopl (y := (dgN nu (dgA z L mo an pl ho 8) (jn + 1))) (rfl) ?_
              refine lv_lstore_n (lv' := [(1, .long (dgN nu (dgA z L mo an pl ho 8) (jn + 1))), (3, .int (nI jn)), (0, .ref q)]) hx hb dX8_digest_51 rfl hl (by decide) rfl ?_
              clear hl
              clear ls
              intro ls hl
              refine lv_iinc (v := nI (jn + 1)) (lv' := [(3, .int (nI (jn + 1))), (1, .long (dgN nu (dgA z L mo an pl ho 8) (jn + 1))), (0, .ref q)]) hx hb dX8_digest_52 hl (k := 1) rfl (nI_1 _) (by decide) rfl ?_
              clear hl
              clear ls
              intro ls hl
              refine lv_goto (tgt := 33) hx hb dX8_digest_55 (by decide) ?_
              exact ih33 (jn + 1) (by omega) (by omega) _ _ (hB) _ (lv_sub hl [1, 0, 2] rfl)
        exact lp33 (30 - 0 + 1) 0 (Nat.zero_le _) (by omega) _ _ (hB) _ (lv_sub hl [1, 0, 2] rfl)
      · skip
        have hi2 : ic < 8 := Nat.not_le.mp (fun e9 => h9 ((nI_leI (a := 8) (b := ic) (by decide) (by omega)).mpr e9))
        refine zldc2 (v := (31 : Int64)) ww_44_13 hF dX8_digest_12 ?_
        refine lv_lload_n hx hb dX8_digest_15 rfl (lv_at hl 0 rfl) ?_
        refine lv_lmul hx hb dX8_digest_16 ?_
        refine lv_aload_n hx hb dX8_digest_17 rfl (lv_at hl 2 rfl) ?_
        refine lv_iload_n hx hb dX8_digest_18 rfl (lv_at hl 1 rfl) ?_
        refine zVi zm_X8_335 hF hB (c_X8_count l D ka kb q ad o z pu1 L mo an pl ho (nI ic) (hL) (hok) (hoh) (hli)) [0, 1, 2, 3, 4, 5] rfl (by decide) [q, (ad 9), (ad 4), (ad 5), (ad 6), (ad 7)] (fun _ => rfl) rfl 0 8 rfl rfl rfl ⟨Nat.le_of_ble_eq_true rfl, Nat.le_of_ble_eq_true rfl⟩ rfl hl.1 (Nat.le_of_ble_eq_true rfl) ⟨Nat.le_refl _, Nat.le_refl _⟩ dX8_digest_19 ?_
        clear hB
        try clear locs
        try clear H
        intro r3 u3 H locs hp hB
        obtain ⟨pu23, rfl⟩ : ∃ z, z = u3 := ⟨_, rfl⟩
        have hp3 : r3 = ctV z L mo an pl ho (nI ic) := hp
        have HPP := hp3
        replace hB : zB D A s ([(q, .inr (8, mO ad o z)), ((ad 9), .inl (ka 1, 4, .inr (.inl pu23))), ((ad 4), .inl (ka 0, 8, .inl mo)), ((ad 5), .inl (ka 0, 8, .inl an)), ((ad 6), .inl (ka 0, 8, .inl pl)), ((ad 7), .inl (ka 0, 24, .inl ho)), ((ad 8), .inl (ka 0, 2, .inl le)), ((ad 14), .inl (ka 0, 4, .inl sa)), ((ad 15), .inl (ka 0, 4, .inl ss)), ((ad 16), .inl (ka 0, 4, .inl ba)), ((ad 17), .inl (ka 0, 4, .inl bz)), ((ad 3), .inl (ka 1, 200, .inr (.inl nu)))]) H locs := hB
        refine ztopi (y := (ctW z L mo an pl ho ic)) (by rw [HPP]; exact ctV_n (by omega)) ?_
        refine lv_i2l (v := (ctW z L mo an pl ho ic).toInt64) hx hb dX8_digest_22 rfl ?_
        refine lv_ladd hx hb dX8_digest_23 ?_
        refine ztopl (y := (dgA z L mo an pl ho (ic + 1))) (rfl) ?_
        refine lv_lstore_n (lv' := [(1, .long (dgA z L mo an pl ho (ic + 1))), (3, .int (nI ic)), (0, .ref q)]) hx hb dX8_digest_24 rfl hl (by decide) rfl ?_
        clear hl
        clear ls
        intro ls hl
        refine lv_iinc (v := nI (ic + 1)) (lv' := [(3, .int (nI (ic + 1))), (1, .long (dgA z L mo an pl ho (ic + 1))), (0, .ref q)]) hx hb dX8_digest_25 hl (k := 1) rfl (nI_1 _) (by decide) rfl ?_
        clear hl
        clear ls
        intro ls hl
        refine lv_goto (tgt := 6) hx hb dX8_digest_28 (by decide) ?_
        exact ih6 (ic + 1) pu23 (by omega) (by omega) _ _ (hB) _ (lv_sub hl [1, 0, 2] rfl)
  exact lp6 (8 - 0 + 1) 0 pu (Nat.zero_le _) (by omega) _ _ (hB) _ (lv_sub hl [1, 0, 2] rfl)
