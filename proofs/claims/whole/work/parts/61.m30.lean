set_option maxHeartbeats 4000000 in
set_option maxRecDepth 100000 in
theorem c_X8_planeTells (l : Launch) (D : va_G) (ka : Nat → ClassId) (kb : Nat → Nat) (q : Nat) (ad : Nat → Nat) (o : Bool) (z : mZ) (nu : Nat → Int64) (pu : Nat → Int64) (L : Nat) (mo : Nat → Int32) (an : Nat → Int32) (pl : Nat → Int32) (ho : Nat → Int32) (le : Nat → Int32) (d9 : Int64) (p9 : Nat) (b0 : Int) (b1 : Int) (sa : Nat → Int32) (ss : Nat → Int32) (ba : Nat → Int32) (bz : Nat → Int32) (hp9 : p9 < 2) (hL : z.2.1 = nI L) (hok : okL L mo an pl) (hoh : okH ho) (hli : 0 ≤ z.2.2.2.1.toInt ∧ z.2.2.2.1.toInt ≤ 99) (hbs : z.2.2.2.2.2.2.1 = Int64.ofInt b0) (hbr : z.2.2.2.2.2.2.2 = Int64.ofInt b1) (hb01 : (0 ≤ b0 ∧ b0 ≤ 1270000000) ∧ (-730000000 ≤ b1 ∧ b1 ≤ 730000000)) : zL l D ka kb yX8_planeTells cX8_planeTells 7 8 197 [.ref q, .long d9, .int (nI p9)] ([(q, .inr (8, mO ad o z)), ((ad 9), .inl (ka 1, 4, .inr (.inl pu))), ((ad 4), .inl (ka 0, 8, .inl mo)), ((ad 5), .inl (ka 0, 8, .inl an)), ((ad 6), .inl (ka 0, 8, .inl pl)), ((ad 7), .inl (ka 0, 24, .inl ho)), ((ad 8), .inl (ka 0, 2, .inl le)), ((ad 14), .inl (ka 0, 4, .inl sa)), ((ad 15), .inl (ka 0, 4, .inl ss)), ((ad 16), .inl (ka 0, 4, .inl ba)), ((ad 17), .inl (ka 0, 4, .inl bz)), ((ad 3), .inl (ka 1, 200, .inr (.inl nu)))]) (fun (r : Int64) (u : (Nat → Int64) × (Nat → Int64) × (Nat → Int32) × (Nat → Int32) × bT) => r = ptV z.2.2.1 z.2.2.2.1.toInt (pulI p9 L mo an pl ho) le ho p9 d9 ∧ keepN [29] nu u.2.1 ∧ bB ((-1 : Int32), u.2.2.2.2.2)) (fun (u : (Nat → Int64) × (Nat → Int64) × (Nat → Int32) × (Nat → Int32) × bT) => [(q, .inr (8, mX ad (bI o) z.1 z.2.1 z.2.2.1 z.2.2.2.1 z.2.2.2.2.1 u.2.2.2.2.1 (Int64.ofInt u.2.2.2.2.2.1) (Int64.ofInt u.2.2.2.2.2.2.1))), ((ad 9), .inl (ka 1, 4, .inr (.inl u.1))), ((ad 4), .inl (ka 0, 8, .inl mo)), ((ad 5), .inl (ka 0, 8, .inl an)), ((ad 6), .inl (ka 0, 8, .inl pl)), ((ad 7), .inl (ka 0, 24, .inl ho)), ((ad 8), .inl (ka 0, 2, .inl le)), ((ad 14), .inl (ka 0, 4, .inl u.2.2.1)), ((ad 15), .inl (ka 0, 4, .inl u.2.2.2.1)), ((ad 16), .inl (ka 0, 4, .inl u.2.2.2.2.2.2.2.1)), ((ad 17), .inl (ka 0, 4, .inl u.2.2.2.2.2.2.2.2)), ((ad 3), .inl (ka 1, 200, .inr (.inl u.2.1)))]) := by
  refine zL.mk RX8 (by decide +kernel) rfl (Nat.le_of_ble_eq_true rfl) ?_
  intro p e s m below meth c A ls args Q hQ hx hb hF hB hl
  replace hl : lv_has ls 7 [(0, .ref q), (1, .long d9), (3, .int (nI p9))] := hl
  refine lv_lload_n hx hb dX8_planeTells_0 rfl (lv_at hl 1 rfl) ?_
  refine lv_lstore (lv' := [(4, .long d9), (0, .ref q), (1, .long d9), (3, .int (nI p9))]) hx hb dX8_planeTells_1 hl (by decide) rfl ?_
  clear hl
  clear ls
  intro ls hl
  refine lv_iconst (v := 0) hx hb dX8_planeTells_3 (by decide) ?_
  refine lv_istore (lv' := [(6, .int (0 : Int32)), (4, .long d9), (0, .ref q), (1, .long d9), (3, .int (nI p9))]) hx hb dX8_planeTells_4 hl (by decide) rfl ?_
  clear hl
  clear ls
  intro ls hl
  have lp6 : ∀ (fl : Nat) (kc : Nat) (pu1 : Nat → Int64) (nu1 : Nat → Int64), (hk : kc ≤ 10) → (hkn : keepN [29] nu nu1) → 10 - kc < fl → ∀ (H : Heap) (locs : List Loc), zB D A s ([(q, .inr (8, mO ad o z)), ((ad 9), .inl (ka 1, 4, .inr (.inl pu1))), ((ad 4), .inl (ka 0, 8, .inl mo)), ((ad 5), .inl (ka 0, 8, .inl an)), ((ad 6), .inl (ka 0, 8, .inl pl)), ((ad 7), .inl (ka 0, 24, .inl ho)), ((ad 8), .inl (ka 0, 2, .inl le)), ((ad 14), .inl (ka 0, 4, .inl sa)), ((ad 15), .inl (ka 0, 4, .inl ss)), ((ad 16), .inl (ka 0, 4, .inl ba)), ((ad 17), .inl (ka 0, 4, .inl bz)), ((ad 3), .inl (ka 1, 200, .inr (.inl nu1)))]) H locs → ∀ ls : Array Slot, lv_has ls 7 [(4, .long (ptA (pulI p9 L mo an pl ho) d9 kc)), (6, .int (nI kc)), (0, .ref q), (3, .int (nI p9))] → W p l e (zRm 8 197 0 0) s m args below meth c H locs 0 0 Q (F0 m 6 ls []) := by
    intro fl
    induction fl with
    | zero => intro kc pu1 nu1 hk hkn hfl; exact absurd hfl (Nat.not_lt_zero _)
    | succ fl ih6 =>
      intro kc pu1 nu1 hk hkn hfl6 H locs hB ls hl
      refine lv_iload hx hb dX8_planeTells_6 (lv_at hl 1 rfl) ?_
      refine lv_bipush (v := 10) hx hb dX8_planeTells_8 (by decide) ?_
      refine lv_icmp_ge (tgt := 35) hx hb dX8_planeTells_10 (by decide) (fun h10 => ?_) (fun h10 => ?_)
      · skip
        have hk2 : kc = 10 := by have := (nI_leI (a := 10) (b := kc) (by decide) (by omega)).mp h10; omega
        subst hk2
        refine lv_iconst (v := 0) hx hb dX8_planeTells_35 (by decide) ?_
        refine lv_istore (lv' := [(6, .int (0 : Int32)), (4, .long (ptA (pulI p9 L mo an pl ho) d9 10)), (0, .ref q), (3, .int (nI p9))]) hx hb dX8_planeTells_36 hl (by decide) rfl ?_
        clear hl
        clear ls
        intro ls hl
        have lp38 : ∀ (fl : Nat) (ja : Nat), (ha : ja ≤ 12) → 12 - ja < fl → ∀ (H : Heap) (locs : List Loc), zB D A s ([(q, .inr (8, mO ad o z)), ((ad 9), .inl (ka 1, 4, .inr (.inl pu1))), ((ad 4), .inl (ka 0, 8, .inl mo)), ((ad 5), .inl (ka 0, 8, .inl an)), ((ad 6), .inl (ka 0, 8, .inl pl)), ((ad 7), .inl (ka 0, 24, .inl ho)), ((ad 8), .inl (ka 0, 2, .inl le)), ((ad 14), .inl (ka 0, 4, .inl sa)), ((ad 15), .inl (ka 0, 4, .inl ss)), ((ad 16), .inl (ka 0, 4, .inl ba)), ((ad 17), .inl (ka 0, 4, .inl bz)), ((ad 3), .inl (ka 1, 200, .inr (.inl nu1)))]) H locs → ∀ ls : Array Slot, lv_has ls 7 [(4, .long (ptB (le p9) ho p9 (ptA (pulI p9 L mo an pl ho) d9 10) ja)), (6, .int (nI ja)), (0, .ref q), (3, .int (nI p9))] → W p l e (zRm 8 197 0 0) s m args below meth c H locs 0 0 Q (F0 m 38 ls []) := by
          intro fl
          induction fl with
          | zero => intro ja ha hfl; exact absurd hfl (Nat.not_lt_zero _)
          | succ fl ih38 =>
            intro ja ha hfl38 H locs hB ls hl
            refine lv_iload hx hb dX8_planeTells_38 (lv_at hl 1 rfl) ?_
            refine lv_bipush (v := 12) hx hb dX8_planeTells_40 (by decide) ?_
            refine lv_icmp_ge (tgt := 111) hx hb dX8_planeTells_42 (by decide) (fun h42 => ?_) (fun h42 => ?_)
            · skip
              have ha2 : ja = 12 := by have := (nI_leI (a := 12) (b := ja) (by decide) (by omega)).mp h42; omega
              subst ha2
              refine lv_iconst (v := 0) hx hb dX8_planeTells_111 (by decide) ?_
              refine lv_istore (lv' := [(6, .int (0 : Int32)), (4, .long (ptB (le p9) ho p9 (ptA (pulI p9 L mo an pl ho) d9 10) 12)), (0, .ref q), (3, .int (nI p9))]) hx hb dX8_planeTells_112 hl (by decide) rfl ?_
              clear hl
              clear ls
              intro ls hl
              have lp114 : ∀ (fl : Nat) (ic : Nat) (pu3 : Nat → Int64) (sa3 : Nat → Int32) (ss3 : Nat → Int32) (bb : bT), (hi : ic ≤ 3) → (hB9 : bB ((-1 : Int32), bb.2.1, bb.2.2.1, bb.2.2.2.1, bb.2.2.2.2)) → 3 - ic < fl → ∀ (H : Heap) (locs : List Loc), zB D A s ([(q, .inr (8, mX ad (bI o) z.1 z.2.1 z.2.2.1 z.2.2.2.1 z.2.2.2.2.1 bb.1 (Int64.ofInt bb.2.1) (Int64.ofInt bb.2.2.1))), ((ad 9), .inl (ka 1, 4, .inr (.inl pu3))), ((ad 4), .inl (ka 0, 8, .inl mo)), ((ad 5), .inl (ka 0, 8, .inl an)), ((ad 6), .inl (ka 0, 8, .inl pl)), ((ad 7), .inl (ka 0, 24, .inl ho)), ((ad 8), .inl (ka 0, 2, .inl le)), ((ad 14), .inl (ka 0, 4, .inl sa3)), ((ad 15), .inl (ka 0, 4, .inl ss3)), ((ad 16), .inl (ka 0, 4, .inl bb.2.2.2.1)), ((ad 17), .inl (ka 0, 4, .inl bb.2.2.2.2)), ((ad 3), .inl (ka 1, 200, .inr (.inl nu1)))]) H locs → ∀ ls : Array Slot, lv_has ls 7 [(4, .long (ptC (seB (pulI p9 L mo an pl ho) z.2.2.2.1.toInt (okC z.2.2.1 p9 le ho) 2) (ptB (le p9) ho p9 (ptA (pulI p9 L mo an pl ho) d9 10) 12) ic)), (6, .int (nI ic)), (0, .ref q), (3, .int (nI p9))] → W p l e (zRm 8 197 0 0) s m args below meth c H locs 0 0 Q (F0 m 114 ls []) := by
                intro fl
                induction fl with
                | zero => intro ic pu3 sa3 ss3 bb hi hB9 hfl; exact absurd hfl (Nat.not_lt_zero _)
                | succ fl ih114 =>
                  intro ic pu3 sa3 ss3 bb hi hB9 hfl114 H locs hB ls hl
                  refine lv_iload hx hb dX8_planeTells_114 (lv_at hl 1 rfl) ?_
                  refine lv_iconst (v := 3) hx hb dX8_planeTells_116 (by decide) ?_
                  refine lv_icmp_ge (tgt := 144) hx hb dX8_planeTells_117 (by decide) (fun h117 => ?_) (fun h117 => ?_)
                  · skip
                    have hi2 : ic = 3 := by have := (nI_leI (a := 3) (b := ic) (by decide) (by omega)).mp h117; omega
                    subst hi2
                    refine lv_lload hx hb dX8_planeTells_144 (lv_at hl 0 rfl) ?_
                    exact zretl hF hB (pu3, nu1, sa3, ss3, bb) (⟨rfl, hkn, hB9⟩) (rfl) dX8_planeTells_146 hQ
                  · skip
                    have hi2 : ic < 3 := Nat.not_le.mp (fun e9 => h117 ((nI_leI (a := 3) (b := ic) (by decide) (by omega)).mpr e9))
                    refine zldc2 (v := (31 : Int64)) ww_44_13 hF dX8_planeTells_120 ?_
                    refine lv_lload hx hb dX8_planeTells_123 (lv_at hl 0 rfl) ?_
                    refine lv_lmul hx hb dX8_planeTells_125 ?_
                    refine lv_aload_n hx hb dX8_planeTells_126 rfl (lv_at hl 2 rfl) ?_
                    refine lv_iload_n hx hb dX8_planeTells_127 rfl (lv_at hl 3 rfl) ?_
                    refine lv_iconst (v := 2) hx hb dX8_planeTells_128 (by decide) ?_
                    refine lv_iload hx hb dX8_planeTells_129 (lv_at hl 1 rfl) ?_
                    refine zVi zm_X8_302 hF hB (c_X8_fewestBy l D ka kb q ad o (z.1, z.2.1, z.2.2.1, z.2.2.2.1, z.2.2.2.2.1, bb.1, (Int64.ofInt bb.2.1), (Int64.ofInt bb.2.2.1)) pu3 L mo an pl ho le p9 2 ic bb.2.1 bb.2.2.1 sa3 ss3 bb.2.2.2.1 bb.2.2.2.2 (hp9) (hL) (hok) (hoh) (hli) (rfl) (rfl) (hB9) (by decide) (hi2)) [0, 1, 2, 3, 4, 5, 6, 7, 8, 9, 10] rfl (by decide) [q, (ad 9), (ad 4), (ad 5), (ad 6), (ad 7), (ad 8), (ad 14), (ad 15), (ad 16), (ad 17)] (fun _ => rfl) rfl 0 8 rfl rfl rfl ⟨Nat.le_of_ble_eq_true rfl, Nat.le_of_ble_eq_true rfl⟩ rfl hl.1 (Nat.le_of_ble_eq_true rfl) ⟨Nat.le_refl _, Nat.le_refl _⟩ dX8_planeTells_131 ?_
                    clear hB
                    try clear locs
                    try clear H
                    intro r1 u1 H locs hp hB
                    obtain ⟨pu21, sa21, ss21⟩ := u1
                    have hp1 : r1 = fwA ic (seS (fun n b => srR (okC (z.1, z.2.1, z.2.2.1, z.2.2.2.1, z.2.2.2.2.1, bb.1, (Int64.ofInt bb.2.1), (Int64.ofInt bb.2.2.1)).2.2.1 p9 le ho) (lkU (pulI p9 L mo an pl ho) (z.1, z.2.1, z.2.2.1, z.2.2.2.1, z.2.2.2.2.1, bb.1, (Int64.ofInt bb.2.1), (Int64.ofInt bb.2.2.1)).2.2.2.1.toInt) n 1 [] b) (2 + 1) ((-1 : Int32), bb.2.1, bb.2.2.1, bb.2.2.2.1, bb.2.2.2.2)) := hp
                    have HPP := hp1
                    replace hB : zB D A s ([(q, .inr (8, mX ad (bI o) z.1 z.2.1 z.2.2.1 z.2.2.2.1 z.2.2.2.2.1 ((seS (fun n b => srR (okC (z.1, z.2.1, z.2.2.1, z.2.2.2.1, z.2.2.2.2.1, bb.1, (Int64.ofInt bb.2.1), (Int64.ofInt bb.2.2.1)).2.2.1 p9 le ho) (lkU (pulI p9 L mo an pl ho) (z.1, z.2.1, z.2.2.1, z.2.2.2.1, z.2.2.2.2.1, bb.1, (Int64.ofInt bb.2.1), (Int64.ofInt bb.2.2.1)).2.2.2.1.toInt) n 1 [] b) (2 + 1) ((-1 : Int32), bb.2.1, bb.2.2.1, bb.2.2.2.1, bb.2.2.2.2)).1) (Int64.ofInt (seS (fun n b => srR (okC (z.1, z.2.1, z.2.2.1, z.2.2.2.1, z.2.2.2.2.1, bb.1, (Int64.ofInt bb.2.1), (Int64.ofInt bb.2.2.1)).2.2.1 p9 le ho) (lkU (pulI p9 L mo an pl ho) (z.1, z.2.1, z.2.2.1, z.2.2.2.1, z.2.2.2.2.1, bb.1, (Int64.ofInt bb.2.1), (Int64.ofInt bb.2.2.1)).2.2.2.1.toInt) n 1 [] b) (2 + 1) ((-1 : Int32), bb.2.1, bb.2.2.1, bb.2.2.2.1, bb.2.2.2.2)).2.1) (Int64.ofInt (seS (fun n b => srR (okC (z.1, z.2.1, z.2.2.1, z.2.2.2.1, z.2.2.2.2.1, bb.1, (Int64.ofInt bb.2.1), (Int64.ofInt bb.2.2.1)).2.2.1 p9 le ho) (lkU (pulI p9 L mo an pl ho) (z.1, z.2.1, z.2.2.1, z.2.2.2.1, z.2.2.2.2.1, bb.1, (Int64.ofInt bb.2.1), (Int64.ofInt bb.2.2.1)).2.2.2.1.toInt) n 1 [] b) (2 + 1) ((-1 : Int32), bb.2.1, bb.2.2.1, bb.2.2.2.1, bb.2.2.2.2)).2.2.1))), ((ad 9), .inl (ka 1, 4, .inr (.inl pu21))), ((ad 4), .inl (ka 0, 8, .inl mo)), ((ad 5), .inl (ka 0, 8, .inl an)), ((ad 6), .inl (ka 0, 8, .inl pl)), ((ad 7), .inl (ka 0, 24, .inl ho)), ((ad 8), .inl (ka 0, 2, .inl le)), ((ad 14), .inl (ka 0, 4, .inl sa21)), ((ad 15), .inl (ka 0, 4, .inl ss21)), ((ad 16), .inl (ka 0, 4, .inl ((seS (fun n b => srR (okC (z.1, z.2.1, z.2.2.1, z.2.2.2.1, z.2.2.2.2.1, bb.1, (Int64.ofInt bb.2.1), (Int64.ofInt bb.2.2.1)).2.2.1 p9 le ho) (lkU (pulI p9 L mo an pl ho) (z.1, z.2.1, z.2.2.1, z.2.2.2.1, z.2.2.2.2.1, bb.1, (Int64.ofInt bb.2.1), (Int64.ofInt bb.2.2.1)).2.2.2.1.toInt) n 1 [] b) (2 + 1) ((-1 : Int32), bb.2.1, bb.2.2.1, bb.2.2.2.1, bb.2.2.2.2)).2.2.2.1))), ((ad 17), .inl (ka 0, 4, .inl ((seS (fun n b => srR (okC (z.1, z.2.1, z.2.2.1, z.2.2.2.1, z.2.2.2.2.1, bb.1, (Int64.ofInt bb.2.1), (Int64.ofInt bb.2.2.1)).2.2.1 p9 le ho) (lkU (pulI p9 L mo an pl ho) (z.1, z.2.1, z.2.2.1, z.2.2.2.1, z.2.2.2.2.1, bb.1, (Int64.ofInt bb.2.1), (Int64.ofInt bb.2.2.1)).2.2.2.1.toInt) n 1 [] b) (2 + 1) ((-1 : Int32), bb.2.1, bb.2.2.1, bb.2.2.2.1, bb.2.2.2.2)).2.2.2.2))), ((ad 3), .inl (ka 1, 200, .inr (.inl nu1)))]) H locs := hB
                    have hB8 : bB (seS (fun n b => srR (okC z.2.2.1 p9 le ho) (lkU (pulI p9 L mo an pl ho) z.2.2.2.1.toInt) n 1 [] b) (2 + 1) ((-1 : Int32), bb.2.1, bb.2.2.1, bb.2.2.2.1, bb.2.2.2.2)) := seB_B (fun k hk => pulI_B hp9 hok hoh hk) (by decide) hB9
                    generalize (seS (fun n b => srR (okC z.2.2.1 p9 le ho) (lkU (pulI p9 L mo an pl ho) z.2.2.2.1.toInt) n 1 [] b) (2 + 1) ((-1 : Int32), bb.2.1, bb.2.2.1, bb.2.2.2.1, bb.2.2.2.2)) = bc at hB hB8
                    replace hB : zB D A s ([(q, .inr (8, mX ad (bI o) z.1 z.2.1 z.2.2.1 z.2.2.2.1 z.2.2.2.2.1 bc.1 (Int64.ofInt bc.2.1) (Int64.ofInt bc.2.2.1))), ((ad 9), .inl (ka 1, 4, .inr (.inl pu21))), ((ad 4), .inl (ka 0, 8, .inl mo)), ((ad 5), .inl (ka 0, 8, .inl an)), ((ad 6), .inl (ka 0, 8, .inl pl)), ((ad 7), .inl (ka 0, 24, .inl ho)), ((ad 8), .inl (ka 0, 2, .inl le)), ((ad 14), .inl (ka 0, 4, .inl sa21)), ((ad 15), .inl (ka 0, 4, .inl ss21)), ((ad 16), .inl (ka 0, 4, .inl bc.2.2.2.1)), ((ad 17), .inl (ka 0, 4, .inl bc.2.2.2.2)), ((ad 3), .inl (ka 1, 200, .inr (.inl nu1)))]) H locs := hB
                    refine ztopi (y := (fwA ic (seB (pulI p9 L mo an pl ho) z.2.2.2.1.toInt (okC z.2.2.1 p9 le ho) 2))) (by rw [HPP]; exact fwA_R (seB_R (by decide))) ?_
                    refine lv_i2l (v := (fwA ic (seB (pulI p9 L mo an pl ho) z.2.2.2.1.toInt (okC z.2.2.1 p9 le ho) 2)).toInt64) hx hb dX8_planeTells_134 rfl ?_
                    refine lv_ladd hx hb dX8_planeTells_135 ?_
                    refine ztopl (y := (ptC (seB (pulI p9 L mo an pl ho) z.2.2.2.1.toInt (okC z.2.2.1 p9 le ho) 2) (ptB (le p9) ho p9 (ptA (pulI p9 L mo an pl ho) d9 10) 12) (ic + 1))) (rfl) ?_
                    refine lv_lstore (lv' := [(4, .long (ptC (seB (pulI p9 L mo an pl ho) z.2.2.2.1.toInt (okC z.2.2.1 p9 le ho) 2) (ptB (le p9) ho p9 (ptA (pulI p9 L mo an pl ho) d9 10) 12) (ic + 1))), (6, .int (nI ic)), (0, .ref q), (3, .int (nI p9))]) hx hb dX8_planeTells_136 hl (by decide) rfl ?_
                    clear hl
                    clear ls
                    intro ls hl
                    refine lv_iinc (v := nI (ic + 1)) (lv' := [(6, .int (nI (ic + 1))), (4, .long (ptC (seB (pulI p9 L mo an pl ho) z.2.2.2.1.toInt (okC z.2.2.1 p9 le ho) 2) (ptB (le p9) ho p9 (ptA (pulI p9 L mo an pl ho) d9 10) 12) (ic + 1))), (0, .ref q), (3, .int (nI p9))]) hx hb dX8_planeTells_138 hl (k := 1) rfl (nI_1 _) (by decide) rfl ?_
                    clear hl
                    clear ls
                    intro ls hl
                    refine lv_goto (tgt := 114) hx hb dX8_planeTells_141 (by decide) ?_
                    exact ih114 (ic + 1) pu21 sa21 ss21 bc (by omega) (hB8) (by omega) _ _ (hB) _ (lv_sub hl [1, 0, 2, 3] rfl)
              exact lp114 (3 - 0 + 1) 0 pu1 sa ss (z.2.2.2.2.2.1, b0, b1, ba, bz) (Nat.zero_le _) (hb01) (by omega) _ _ (by rw [← hbs, ← hbr]; exact hB) _ (lv_sub hl [1, 0, 2, 3] rfl)
            · skip
              have ha2 : ja < 12 := Nat.not_le.mp (fun e9 => h42 ((nI_leI (a := 12) (b := ja) (by decide) (by omega)).mpr e9))
              refine zldc2 (v := (31 : Int64)) ww_44_13 hF dX8_planeTells_45 ?_
              refine lv_lload hx hb dX8_planeTells_48 (lv_at hl 0 rfl) ?_
              refine lv_lmul hx hb dX8_planeTells_50 ?_
              refine lv_aload_n hx hb dX8_planeTells_51 rfl (lv_at hl 2 rfl) ?_
              refine zget zf_X8_32 hF hB 0 rfl rfl dX8_planeTells_52 ?_
              refine lv_bipush (v := 12) hx hb dX8_planeTells_55 (by decide) ?_
              refine lv_iload_n hx hb dX8_planeTells_57 rfl (lv_at hl 3 rfl) ?_
              refine lv_imul hx hb dX8_planeTells_58 ?_
              refine ztopi (y := nI (12 * p9)) (pk_mul 12 p9) ?_
              refine lv_iload hx hb dX8_planeTells_59 (lv_at hl 1 rfl) ?_
              refine lv_iadd hx hb dX8_planeTells_61 ?_
              refine ztopi (y := nI ((12 * p9) + ja)) (nI_add (12 * p9) ja) ?_
              refine ziald hF hB 5 rfl ((12 * p9) + ja) (rfl) (by omega) (by decide) (v := (ho ((12 * p9) + ja))) (rfl) dX8_planeTells_62 ?_
              refine lv_i2l (v := (ho ((12 * p9) + ja)).toInt64) hx hb dX8_planeTells_63 rfl ?_
              refine lv_ladd hx hb dX8_planeTells_64 ?_
              refine lv_lstore (lv' := [(4, .long (((31 : Int64) * (ptB (le p9) ho p9 (ptA (pulI p9 L mo an pl ho) d9 10) ja)) + (ho ((12 * p9) + ja)).toInt64)), (6, .int (nI ja)), (0, .ref q), (3, .int (nI p9))]) hx hb dX8_planeTells_65 hl (by decide) rfl ?_
              clear hl
              clear ls
              intro ls hl
              refine zldc2 (v := (31 : Int64)) ww_44_13 hF dX8_planeTells_67 ?_
              refine lv_lload hx hb dX8_planeTells_70 (lv_at hl 0 rfl) ?_
              refine lv_lmul hx hb dX8_planeTells_72 ?_
              refine lv_aload_n hx hb dX8_planeTells_73 rfl (lv_at hl 2 rfl) ?_
              refine lv_iload_n hx hb dX8_planeTells_74 rfl (lv_at hl 3 rfl) ?_
              refine lv_iload hx hb dX8_planeTells_75 (lv_at hl 1 rfl) ?_
              refine lv_iconst (v := 5) hx hb dX8_planeTells_77 (by decide) ?_
              refine lv_iconst (v := 0) hx hb dX8_planeTells_78 (by decide) ?_
              refine zVi zm_X8_321 hF hB (c_X8_splitBy l D ka kb q ad o z nu1 le p9 ja (5 : Int32) 0 (hp9) (ha2) (by decide)) [0, 6, 11] rfl (by decide) [q, (ad 8), (ad 3)] (fun _ => rfl) rfl 0 8 rfl rfl rfl ⟨Nat.le_of_ble_eq_true rfl, Nat.le_of_ble_eq_true rfl⟩ rfl hl.1 (Nat.le_of_ble_eq_true rfl) ⟨Nat.le_refl _, Nat.le_refl _⟩ dX8_planeTells_79 ?_
              clear hB
              try clear locs
              try clear H
              intro r2 u2 H locs hp hB
              obtain rfl : r2 = (spZ (le p9) ja (5 : Int32) 0 nu1).1 := hp
              replace hB : zB D A s ([(q, .inr (8, mO ad o z)), ((ad 9), .inl (ka 1, 4, .inr (.inl pu1))), ((ad 4), .inl (ka 0, 8, .inl mo)), ((ad 5), .inl (ka 0, 8, .inl an)), ((ad 6), .inl (ka 0, 8, .inl pl)), ((ad 7), .inl (ka 0, 24, .inl ho)), ((ad 8), .inl (ka 0, 2, .inl le)), ((ad 14), .inl (ka 0, 4, .inl sa)), ((ad 15), .inl (ka 0, 4, .inl ss)), ((ad 16), .inl (ka 0, 4, .inl ba)), ((ad 17), .inl (ka 0, 4, .inl bz)), ((ad 3), .inl (ka 1, 200, .inr (.inl ((spZ (le p9) ja (5 : Int32) 0 nu1).2))))]) H locs := hB
              rw [spZ_2 (show nI (0 % 4) = 0 from rfl)] at hB
              replace hB : zB D A s ([(q, .inr (8, mO ad o z)), ((ad 9), .inl (ka 1, 4, .inr (.inl pu1))), ((ad 4), .inl (ka 0, 8, .inl mo)), ((ad 5), .inl (ka 0, 8, .inl an)), ((ad 6), .inl (ka 0, 8, .inl pl)), ((ad 7), .inl (ka 0, 24, .inl ho)), ((ad 8), .inl (ka 0, 2, .inl le)), ((ad 14), .inl (ka 0, 4, .inl sa)), ((ad 15), .inl (ka 0, 4, .inl ss)), ((ad 16), .inl (ka 0, 4, .inl ba)), ((ad 17), .inl (ka 0, 4, .inl bz)), ((ad 3), .inl (ka 1, 200, .inr (.inl nu1)))]) H locs := hB
              refine ztopi (y := (spR (le p9) ja 5 0)) (spZ_1) ?_
              refine lv_i2l (v := (spR (le p9) ja 5 0).toInt64) hx hb dX8_planeTells_82 rfl ?_
              refine lv_ladd hx hb dX8_planeTells_83 ?_
              refine lv_lstore (lv' := [(4, .long (((31 : Int64) * (((31 : Int64) * (ptB (le p9) ho p9 (ptA (pulI p9 L mo an pl ho) d9 10) ja)) + (ho ((12 * p9) + ja)).toInt64)) + (spR (le p9) ja 5 0).toInt64)), (6, .int (nI ja)), (0, .ref q), (3, .int (nI p9))]) hx hb dX8_planeTells_84 hl (by decide) rfl ?_
              clear hl
              clear ls
              intro ls hl
              refine zldc2 (v := (31 : Int64)) ww_44_13 hF dX8_planeTells_86 ?_
              refine lv_lload hx hb dX8_planeTells_89 (lv_at hl 0 rfl) ?_
              refine lv_lmul hx hb dX8_planeTells_91 ?_
              refine lv_aload_n hx hb dX8_planeTells_92 rfl (lv_at hl 2 rfl) ?_
              refine lv_iload_n hx hb dX8_planeTells_93 rfl (lv_at hl 3 rfl) ?_
              refine lv_iload hx hb dX8_planeTells_94 (lv_at hl 1 rfl) ?_
              refine lv_iconst (v := 5) hx hb dX8_planeTells_96 (by decide) ?_
              refine lv_iconst (v := 4) hx hb dX8_planeTells_97 (by decide) ?_
              refine zVi zm_X8_321 hF hB (c_X8_splitBy l D ka kb q ad o z nu1 le p9 ja (5 : Int32) 4 (hp9) (ha2) (by decide)) [0, 6, 11] rfl (by decide) [q, (ad 8), (ad 3)] (fun _ => rfl) rfl 0 8 rfl rfl rfl ⟨Nat.le_of_ble_eq_true rfl, Nat.le_of_ble_eq_true rfl⟩ rfl hl.1 (Nat.le_of_ble_eq_true rfl) ⟨Nat.le_refl _, Nat.le_refl _⟩ dX8_planeTells_98 ?_
              clear hB
              try clear locs
              try clear H
              intro r3 u3 H locs hp hB
              obtain rfl : r3 = (spZ (le p9) ja (5 : Int32) 4 nu1).1 := hp
              replace hB : zB D A s ([(q, .inr (8, mO ad o z)), ((ad 9), .inl (ka 1, 4, .inr (.inl pu1))), ((ad 4), .inl (ka 0, 8, .inl mo)), ((ad 5), .inl (ka 0, 8, .inl an)), ((ad 6), .inl (ka 0, 8, .inl pl)), ((ad 7), .inl (ka 0, 24, .inl ho)), ((ad 8), .inl (ka 0, 2, .inl le)), ((ad 14), .inl (ka 0, 4, .inl sa)), ((ad 15), .inl (ka 0, 4, .inl ss)), ((ad 16), .inl (ka 0, 4, .inl ba)), ((ad 17), .inl (ka 0, 4, .inl bz)), ((ad 3), .inl (ka 1, 200, .inr (.inl ((spZ (le p9) ja (5 : Int32) 4 nu1).2))))]) H locs := hB
              rw [spZ_2 (show nI (4 % 4) = 0 from rfl)] at hB
              replace hB : zB D A s ([(q, .inr (8, mO ad o z)), ((ad 9), .inl (ka 1, 4, .inr (.inl pu1))), ((ad 4), .inl (ka 0, 8, .inl mo)), ((ad 5), .inl (ka 0, 8, .inl an)), ((ad 6), .inl (ka 0, 8, .inl pl)), ((ad 7), .inl (ka 0, 24, .inl ho)), ((ad 8), .inl (ka 0, 2, .inl le)), ((ad 14), .inl (ka 0, 4, .inl sa)), ((ad 15), .inl (ka 0, 4, .inl ss)), ((ad 16), .inl (ka 0, 4, .inl ba)), ((ad 17), .inl (ka 0, 4, .inl bz)), ((ad 3), .inl (ka 1, 200, .inr (.inl nu1)))]) H locs := hB
              refine ztopi (y := (spR (le p9) ja 5 4)) (spZ_1) ?_
              refine lv_i2l (v := (spR (le p9) ja 5 4).toInt64) hx hb dX8_planeTells_101 rfl ?_
              refine lv_ladd hx hb dX8_planeTells_102 ?_
              refine lv_lstore (lv' := [(4, .long (((31 : Int64) * (((31 : Int64) * (((31 : Int64) * (ptB (le p9) ho p9 (ptA (pulI p9 L mo an pl ho) d9 10) ja)) + (ho ((12 * p9) + ja)).toInt64)) + (spR (le p9) ja 5 0).toInt64)) + (spR (le p9) ja 5 4).toInt64)), (6, .int (nI ja)), (0, .ref q), (3, .int (nI p9))]) hx hb dX8_planeTells_103 hl (by decide) rfl ?_
              clear hl
              clear ls
              intro ls hl
              refine lv_iinc (v := nI (ja + 1)) (lv' := [(6, .int (nI (ja + 1))), (4, .long (((31 : Int64) * (((31 : Int64) * (((31 : Int64) * (ptB (le p9) ho p9 (ptA (pulI p9 L mo an pl ho) d9 10) ja)) + (ho ((12 * p9) + ja)).toInt64)) + (spR (le p9) ja 5 0).toInt64)) + (spR (le p9) ja 5 4).toInt64)), (0, .ref q), (3, .int (nI p9))]) hx hb dX8_planeTells_105 hl (k := 1) rfl (nI_1 _) (by decide) rfl ?_
              clear hl
              clear ls
              intro ls hl
              refine lv_goto (tgt := 38) hx hb dX8_planeTells_108 (by decide) ?_
              exact ih38 (ja + 1) (by omega) (by omega) _ _ (hB) _ (lv_sub hl [1, 0, 2, 3] rfl)
        exact lp38 (12 - 0 + 1) 0 (Nat.zero_le _) (by omega) _ _ (hB) _ (lv_sub hl [1, 0, 2, 3] rfl)
      · skip
        have hk2 : kc < 10 := Nat.not_le.mp (fun e9 => h10 ((nI_leI (a := 10) (b := kc) (by decide) (by omega)).mpr e9))
        refine zldc2 (v := (31 : Int64)) ww_44_13 hF dX8_planeTells_13 ?_
        refine lv_lload hx hb dX8_planeTells_16 (lv_at hl 0 rfl) ?_
        refine lv_lmul hx hb dX8_planeTells_18 ?_
        refine lv_aload_n hx hb dX8_planeTells_19 rfl (lv_at hl 2 rfl) ?_
        refine lv_iload_n hx hb dX8_planeTells_20 rfl (lv_at hl 3 rfl) ?_
        refine lv_iload hx hb dX8_planeTells_21 (lv_at hl 1 rfl) ?_
        refine zVl zm_X8_245 hF hB (c_X8_pullBy l D ka kb q ad o z pu1 p9 kc L mo an pl ho nu1 (hp9) (hk2) (hL) (hok) (hoh)) [0, 1, 2, 3, 4, 5, 11] rfl (by decide) [q, (ad 9), (ad 4), (ad 5), (ad 6), (ad 7), (ad 3)] (fun _ => rfl) rfl 0 8 rfl rfl rfl ⟨Nat.le_of_ble_eq_true rfl, Nat.le_of_ble_eq_true rfl⟩ rfl hl.1 (Nat.le_of_ble_eq_true rfl) ⟨Nat.le_refl _, Nat.le_refl _⟩ dX8_planeTells_23 ?_
        clear hB
        try clear locs
        try clear H
        intro r4 u4 H locs hp hB
        obtain ⟨pu24, nu24⟩ := u4
        have hp4 : r4 = plV (pulI p9 L mo an pl ho) kc ∧ keepN [29] nu1 nu24 := hp
        have HPP := hp4
        replace hB : zB D A s ([(q, .inr (8, mO ad o z)), ((ad 9), .inl (ka 1, 4, .inr (.inl pu24))), ((ad 4), .inl (ka 0, 8, .inl mo)), ((ad 5), .inl (ka 0, 8, .inl an)), ((ad 6), .inl (ka 0, 8, .inl pl)), ((ad 7), .inl (ka 0, 24, .inl ho)), ((ad 8), .inl (ka 0, 2, .inl le)), ((ad 14), .inl (ka 0, 4, .inl sa)), ((ad 15), .inl (ka 0, 4, .inl ss)), ((ad 16), .inl (ka 0, 4, .inl ba)), ((ad 17), .inl (ka 0, 4, .inl bz)), ((ad 3), .inl (ka 1, 200, .inr (.inl nu24)))]) H locs := hB
        refine ztopl (y := plV (pulI p9 L mo an pl ho) kc) (HPP.1) ?_
        refine lv_ladd hx hb dX8_planeTells_26 ?_
        refine ztopl (y := (ptA (pulI p9 L mo an pl ho) d9 (kc + 1))) (rfl) ?_
        refine lv_lstore (lv' := [(4, .long (ptA (pulI p9 L mo an pl ho) d9 (kc + 1))), (6, .int (nI kc)), (0, .ref q), (3, .int (nI p9))]) hx hb dX8_planeTells_27 hl (by decide) rfl ?_
        clear hl
        clear ls
        intro ls hl
        refine lv_iinc (v := nI (kc + 1)) (lv' := [(6, .int (nI (kc + 1))), (4, .long (ptA (pulI p9 L mo an pl ho) d9 (kc + 1))), (0, .ref q), (3, .int (nI p9))]) hx hb dX8_planeTells_29 hl (k := 1) rfl (nI_1 _) (by decide) rfl ?_
        clear hl
        clear ls
        intro ls hl
        refine lv_goto (tgt := 6) hx hb dX8_planeTells_32 (by decide) ?_
        exact ih6 (kc + 1) pu24 nu24 (by omega) (hkn.tr HPP.2) (by omega) _ _ (hB) _ (lv_sub hl [1, 0, 2, 3] rfl)
  exact lp6 (10 - 0 + 1) 0 pu nu (Nat.zero_le _) (keepN.rf) (by omega) _ _ (hB) _ (lv_sub hl [1, 0, 2, 4] rfl)
