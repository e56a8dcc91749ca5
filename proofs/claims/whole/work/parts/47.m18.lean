/-- 0, 1, 2, .. holes, until a set is found -/
def seS (f : Nat → bT → bT) : Nat → bT → bT
  | 0, b => b
  | k + 1, b => if (seS f k b).1 = -1 then f k (seS f k b) else seS f k b
theorem seS_s {f : Nat → bT → bT} {k : Nat} {b : bT} : seS f (k + 1) b = if (seS f k b).1 = -1 then f k (seS f k b) else seS f k b := rfl
theorem seS_st {f : Nat → bT → bT} {i : Nat} {b : bT} (h : ¬ (seS f i b).1 = -1) : ∀ d j, j = i + d → seS f j b = seS f i b
  | 0, j, e => by rw [e]; rfl
  | d + 1, j, e => by
    rw [e, show i + (d + 1) = (i + d) + 1 by omega, seS_s, seS_st h d (i + d) rfl, if_neg h]
theorem inn_B {ok : Nat → Bool} {f : Nat → bT → bT} (h : ∀ c b, c < 120 → bB b → bB (f c b)) : ∀ k b, k ≤ 120 → bB b → bB (inn ok f k b)
  | 0, _, _, hb => hb
  | k + 1, b, hk, hb => by
    show bB (inn ok f k (if ok (119 - k) = true then f (119 - k) b else b))
    refine inn_B h k _ (by omega) ?_
    split
    · exact h _ _ (by omega) hb
    · exact hb
theorem srR_B {P : Nat → Int} {li : Int} {ok : Nat → Bool} (h : ∀ k, k < 4 → -(9000 * wB k) ≤ P k ∧ P k ≤ 9000 * wB k) : ∀ (r st : Nat) (pr : List Nat) (b : bT), (∀ c, c ∈ pr → c < 120) → pr.length + r ≤ 4 → bB b → bB (srR ok (lkU P li) r st pr b)
  | 0, _, pr, b, hc, hl, hb => lkU_B hb (prP_bd4 h hc (by omega))
  | r + 1, st, pr, b, hc, hl, hb => inn_B (fun c b hc2 hb => srR_B h r _ (c :: pr) b (fun d hd => by
      rcases List.mem_cons.mp hd with e | e
      · rw [e]; exact hc2
      · exact hc d e) (by show pr.length + 1 + r ≤ 4; omega) hb) _ b (by omega) hb
set_option maxHeartbeats 4000000 in
set_option maxRecDepth 100000 in
theorem c_X8_searches (l : Launch) (D : va_G) (ka : Nat → ClassId) (kb : Nat → Nat) (q : Nat) (ad : Nat → Nat) (o : Bool) (z : mZ) (pu : Nat → Int64) (L : Nat) (mo : Nat → Int32) (an : Nat → Int32) (pl : Nat → Int32) (ho : Nat → Int32) (le : Nat → Int32) (p9 : Nat) (w9 : Nat) (b0 : Int) (b1 : Int) (sa : Nat → Int32) (ss : Nat → Int32) (ba : Nat → Int32) (bz : Nat → Int32) (hp9 : p9 < 2) (hL : z.2.1 = nI L) (hok : okL L mo an pl) (hoh : okH ho) (hli : 0 ≤ z.2.2.2.1.toInt ∧ z.2.2.2.1.toInt ≤ 99) (hbs : z.2.2.2.2.2.2.1 = Int64.ofInt b0) (hbr : z.2.2.2.2.2.2.2 = Int64.ofInt b1) (hb01 : (0 ≤ b0 ∧ b0 ≤ 1270000000) ∧ (-730000000 ≤ b1 ∧ b1 ≤ 730000000)) (hn : w9 ≤ 4) : zV l D ka kb yX8_searches cX8_searches 4 6 148 [.ref q, .int (nI p9), .int (nI w9)] ([(q, .inr (8, mO ad o z)), ((ad 9), .inl (ka 1, 4, .inr (.inl pu))), ((ad 4), .inl (ka 0, 8, .inl mo)), ((ad 5), .inl (ka 0, 8, .inl an)), ((ad 6), .inl (ka 0, 8, .inl pl)), ((ad 7), .inl (ka 0, 24, .inl ho)), ((ad 8), .inl (ka 0, 2, .inl le)), ((ad 14), .inl (ka 0, 4, .inl sa)), ((ad 15), .inl (ka 0, 4, .inl ss)), ((ad 16), .inl (ka 0, 4, .inl ba)), ((ad 17), .inl (ka 0, 4, .inl bz))]) (fun (u : (Nat → Int64) × (Nat → Int32) × (Nat → Int32)) => True) (fun (u : (Nat → Int64) × (Nat → Int32) × (Nat → Int32)) => [(q, .inr (8, mX ad (bI o) z.1 z.2.1 z.2.2.1 z.2.2.2.1 z.2.2.2.2.1 ((seS (fun n b => srR (okC z.2.2.1 p9 le ho) (lkU (pulI p9 L mo an pl ho) z.2.2.2.1.toInt) n 1 [] b) (w9 + 1) ((-1 : Int32), b0, b1, ba, bz)).1) (Int64.ofInt (seS (fun n b => srR (okC z.2.2.1 p9 le ho) (lkU (pulI p9 L mo an pl ho) z.2.2.2.1.toInt) n 1 [] b) (w9 + 1) ((-1 : Int32), b0, b1, ba, bz)).2.1) (Int64.ofInt (seS (fun n b => srR (okC z.2.2.1 p9 le ho) (lkU (pulI p9 L mo an pl ho) z.2.2.2.1.toInt) n 1 [] b) (w9 + 1) ((-1 : Int32), b0, b1, ba, bz)).2.2.1))), ((ad 9), .inl (ka 1, 4, .inr (.inl u.1))), ((ad 4), .inl (ka 0, 8, .inl mo)), ((ad 5), .inl (ka 0, 8, .inl an)), ((ad 6), .inl (ka 0, 8, .inl pl)), ((ad 7), .inl (ka 0, 24, .inl ho)), ((ad 8), .inl (ka 0, 2, .inl le)), ((ad 14), .inl (ka 0, 4, .inl u.2.1)), ((ad 15), .inl (ka 0, 4, .inl u.2.2)), ((ad 16), .inl (ka 0, 4, .inl ((seS (fun n b => srR (okC z.2.2.1 p9 le ho) (lkU (pulI p9 L mo an pl ho) z.2.2.2.1.toInt) n 1 [] b) (w9 + 1) ((-1 : Int32), b0, b1, ba, bz)).2.2.2.1))), ((ad 17), .inl (ka 0, 4, .inl ((seS (fun n b => srR (okC z.2.2.1 p9 le ho) (lkU (pulI p9 L mo an pl ho) z.2.2.2.1.toInt) n 1 [] b) (w9 + 1) ((-1 : Int32), b0, b1, ba, bz)).2.2.2.2)))]) := by
  refine zV.mk RX8 (by decide +kernel) rfl (Nat.le_of_ble_eq_true rfl) ?_
  intro p e s m below meth c A ls args Q hQ hx hb hF hB hl
  replace hl : lv_has ls 4 [(0, .ref q), (1, .int (nI p9)), (2, .int (nI w9))] := hl
  refine lv_aload_n hx hb dX8_searches_0 rfl (lv_at hl 0 rfl) ?_
  refine lv_iconst (v := -1) hx hb dX8_searches_1 (by decide) ?_
  refine zput_f zp_X8_279 hF hB 0 rfl (rfl) (rfl) (Nat.le_of_ble_eq_true rfl) dX8_searches_2 ?_
  clear hB
  try clear locs
  try clear H
  intro H locs hB
  replace hB : zB D A s ([(q, .inr (8, mX ad (bI o) z.1 z.2.1 z.2.2.1 z.2.2.2.1 z.2.2.2.2.1 (-1 : Int32) z.2.2.2.2.2.2.1 z.2.2.2.2.2.2.2)), ((ad 9), .inl (ka 1, 4, .inr (.inl pu))), ((ad 4), .inl (ka 0, 8, .inl mo)), ((ad 5), .inl (ka 0, 8, .inl an)), ((ad 6), .inl (ka 0, 8, .inl pl)), ((ad 7), .inl (ka 0, 24, .inl ho)), ((ad 8), .inl (ka 0, 2, .inl le)), ((ad 14), .inl (ka 0, 4, .inl sa)), ((ad 15), .inl (ka 0, 4, .inl ss)), ((ad 16), .inl (ka 0, 4, .inl ba)), ((ad 17), .inl (ka 0, 4, .inl bz))]) H locs := hB
  refine lv_iconst (v := 0) hx hb dX8_searches_5 (by decide) ?_
  refine lv_istore_n (lv' := [(3, .int (0 : Int32)), (0, .ref q), (1, .int (nI p9)), (2, .int (nI w9))]) hx hb dX8_searches_6 rfl hl (by decide) rfl ?_
  clear hl
  clear ls
  intro ls hl
  have lp7 : ∀ (fl : Nat) (i : Nat) (bb : bT) (pv : Nat → Int64) (s1 : Nat → Int32) (s2 : Nat → Int32), (hi : i ≤ w9 + 1) → (hbb : bb = seS (fun n b => srR (okC z.2.2.1 p9 le ho) (lkU (pulI p9 L mo an pl ho) z.2.2.2.1.toInt) n 1 [] b) i ((-1 : Int32), b0, b1, ba, bz)) → (hB9 : bB bb) → w9 + 1 - i < fl → ∀ (H : Heap) (locs : List Loc), zB D A s ([(q, .inr (8, mX ad (bI o) z.1 z.2.1 z.2.2.1 z.2.2.2.1 z.2.2.2.2.1 bb.1 (Int64.ofInt bb.2.1) (Int64.ofInt bb.2.2.1))), ((ad 9), .inl (ka 1, 4, .inr (.inl pv))), ((ad 4), .inl (ka 0, 8, .inl mo)), ((ad 5), .inl (ka 0, 8, .inl an)), ((ad 6), .inl (ka 0, 8, .inl pl)), ((ad 7), .inl (ka 0, 24, .inl ho)), ((ad 8), .inl (ka 0, 2, .inl le)), ((ad 14), .inl (ka 0, 4, .inl s1)), ((ad 15), .inl (ka 0, 4, .inl s2)), ((ad 16), .inl (ka 0, 4, .inl bb.2.2.2.1)), ((ad 17), .inl (ka 0, 4, .inl bb.2.2.2.2))]) H locs → ∀ ls : Array Slot, lv_has ls 4 [(3, .int (nI i)), (0, .ref q), (1, .int (nI p9)), (2, .int (nI w9))] → W p l e (zRm 6 148 0 0) s m args below meth c H locs 0 0 Q (F0 m 7 ls []) := by
    intro fl
    induction fl with
    | zero => intro i bb pv s1 s2 hi hbb hB9 hfl; exact absurd hfl (Nat.not_lt_zero _)
    | succ fl ih7 =>
      intro i bb pv s1 s2 hi hbb hB9 hfl7 H locs hB ls hl
      refine lv_iload_n hx hb dX8_searches_7 rfl (lv_at hl 0 rfl) ?_
      refine lv_iload_n hx hb dX8_searches_8 rfl (lv_at hl 3 rfl) ?_
      refine lv_icmp_gt (tgt := 32) hx hb dX8_searches_9 (by decide) (fun h9 => ?_) (fun h9 => ?_)
      · skip
        have hi9 : w9 < i := Nat.not_le.mp (fun e9 => absurd ((nI_leI (by omega) (by omega)).mpr e9) (Int32.not_le.mpr h9))
        have hfin : bb = (seS (fun n b => srR (okC z.2.2.1 p9 le ho) (lkU (pulI p9 L mo an pl ho) z.2.2.2.1.toInt) n 1 [] b) (w9 + 1) ((-1 : Int32), b0, b1, ba, bz)) := by rw [hbb, show i = w9 + 1 by omega]
        exact zretv hF hB (pv, s1, s2) (trivial) (by rw [← hfin]) dX8_searches_32 hQ
      · skip
        have hi9 : i ≤ w9 := (nI_leI (by omega) (by omega)).mp (Int32.not_lt.mp h9)
        refine lv_aload_n hx hb dX8_searches_12 rfl (lv_at hl 1 rfl) ?_
        refine zget zf_X8_279 hF hB 0 rfl rfl dX8_searches_13 ?_
        refine lv_iconst (v := -1) hx hb dX8_searches_16 (by decide) ?_
        refine lv_icmp_ne (tgt := 32) hx hb dX8_searches_17 (by decide) (fun h17 => ?_) (fun h17 => ?_)
        · skip
          have hfin : bb = (seS (fun n b => srR (okC z.2.2.1 p9 le ho) (lkU (pulI p9 L mo an pl ho) z.2.2.2.1.toInt) n 1 [] b) (w9 + 1) ((-1 : Int32), b0, b1, ba, bz)) := by rw [hbb]; exact (seS_st (by rw [← hbb]; exact h17) (w9 + 1 - i) (w9 + 1) (by omega)).symm
          exact zretv hF hB (pv, s1, s2) (trivial) (by rw [← hfin]) dX8_searches_32 hQ
        · skip
          refine lv_aload_n hx hb dX8_searches_20 rfl (lv_at hl 1 rfl) ?_
          refine lv_iload_n hx hb dX8_searches_21 rfl (lv_at hl 2 rfl) ?_
          refine lv_iload_n hx hb dX8_searches_22 rfl (lv_at hl 0 rfl) ?_
          refine zVv zm_X8_296 hF hB (c_X8_tries l D ka kb q ad o (z.1, z.2.1, z.2.2.1, z.2.2.2.1, z.2.2.2.2.1, bb.1, (Int64.ofInt bb.2.1), (Int64.ofInt bb.2.2.1)) pv L mo an pl ho le p9 i bb.2.1 bb.2.2.1 s1 s2 bb.2.2.2.1 bb.2.2.2.2 (hp9) (hL) (hok) (hoh) (hli) (rfl) (rfl) (hB9) (by omega)) [0, 1, 2, 3, 4, 5, 6, 7, 8, 9, 10] rfl (by decide) [q, (ad 9), (ad 4), (ad 5), (ad 6), (ad 7), (ad 8), (ad 14), (ad 15), (ad 16), (ad 17)] (fun _ => rfl) rfl 0 8 rfl rfl rfl ⟨Nat.le_of_ble_eq_true rfl, Nat.le_of_ble_eq_true rfl⟩ rfl hl.1 (Nat.le_of_ble_eq_true rfl) ⟨Nat.le_refl _, Nat.le_refl _⟩ dX8_searches_23 ?_
          clear hB
          try clear locs
          try clear H
          intro u1 H locs hp hB
          obtain ⟨pu21, sa21, ss21⟩ := u1
          have hp1 : True := hp
          have HPP := hp1
          replace hB : zB D A s ([(q, .inr (8, mX ad (bI o) z.1 z.2.1 z.2.2.1 z.2.2.2.1 z.2.2.2.2.1 ((srR (okC (z.1, z.2.1, z.2.2.1, z.2.2.2.1, z.2.2.2.2.1, bb.1, (Int64.ofInt bb.2.1), (Int64.ofInt bb.2.2.1)).2.2.1 p9 le ho) (lkU (pulI p9 L mo an pl ho) (z.1, z.2.1, z.2.2.1, z.2.2.2.1, z.2.2.2.2.1, bb.1, (Int64.ofInt bb.2.1), (Int64.ofInt bb.2.2.1)).2.2.2.1.toInt) i 1 [] ((z.1, z.2.1, z.2.2.1, z.2.2.2.1, z.2.2.2.2.1, bb.1, (Int64.ofInt bb.2.1), (Int64.ofInt bb.2.2.1)).2.2.2.2.2.1, bb.2.1, bb.2.2.1, bb.2.2.2.1, bb.2.2.2.2)).1) (Int64.ofInt (srR (okC (z.1, z.2.1, z.2.2.1, z.2.2.2.1, z.2.2.2.2.1, bb.1, (Int64.ofInt bb.2.1), (Int64.ofInt bb.2.2.1)).2.2.1 p9 le ho) (lkU (pulI p9 L mo an pl ho) (z.1, z.2.1, z.2.2.1, z.2.2.2.1, z.2.2.2.2.1, bb.1, (Int64.ofInt bb.2.1), (Int64.ofInt bb.2.2.1)).2.2.2.1.toInt) i 1 [] ((z.1, z.2.1, z.2.2.1, z.2.2.2.1, z.2.2.2.2.1, bb.1, (Int64.ofInt bb.2.1), (Int64.ofInt bb.2.2.1)).2.2.2.2.2.1, bb.2.1, bb.2.2.1, bb.2.2.2.1, bb.2.2.2.2)).2.1) (Int64.ofInt (srR (okC (z.1, z.2.1, z.2.2.1, z.2.2.2.1, z.2.2.2.2.1, bb.1, (Int64.ofInt bb.2.1), (Int64.ofInt bb.2.2.1)).2.2.1 p9 le ho) (lkU (pulI p9 L mo an pl ho) (z.1, z.2.1, z.2.2.1, z.2.2.2.1, z.2.2.2.2.1, bb.1, (Int64.ofInt bb.2.1), (Int64.ofInt bb.2.2.1)).2.2.2.1.toInt) i 1 [] ((z.1, z.2.1, z.2.2.1, z.2.2.2.1, z.2.2.2.2.1, bb.1, (Int64.ofInt bb.2.1), (Int64.ofInt bb.2.2.1)).2.2.2.2.2.1, bb.2.1, bb.2.2.1, bb.2.2.2.1, bb.2.2.2.2)).2.2.1))), ((ad 9), .inl (ka 1, 4, .inr (.inl pu21))), ((ad 4), .inl (ka 0, 8, .inl mo)), ((ad 5), .inl (ka 0, 8, .inl an)), ((ad 6), .inl (ka 0, 8, .inl pl)), ((ad 7), .inl (ka 0, 24, .inl ho)), ((ad 8), .inl (ka 0, 2, .inl le)), ((ad 14), .inl (ka 0, 4, .inl sa21)), ((ad 15), .inl (ka 0, 4, .inl ss21)), ((ad 16), .inl (ka 0, 4, .inl ((srR (okC (z.1, z.2.1, z.2.2.1, z.2.2.2.1, z.2.2.2.2.1, bb.1, (Int64.ofInt bb.2.1), (Int64.ofInt bb.2.2.1)).2.2.1 p9 le ho) (lkU (pulI p9 L mo an pl ho) (z.1, z.2.1, z.2.2.1, z.2.2.2.1, z.2.2.2.2.1, bb.1, (Int64.ofInt bb.2.1), (Int64.ofInt bb.2.2.1)).2.2.2.1.toInt) i 1 [] ((z.1, z.2.1, z.2.2.1, z.2.2.2.1, z.2.2.2.2.1, bb.1, (Int64.ofInt bb.2.1), (Int64.ofInt bb.2.2.1)).2.2.2.2.2.1, bb.2.1, bb.2.2.1, bb.2.2.2.1, bb.2.2.2.2)).2.2.2.1))), ((ad 17), .inl (ka 0, 4, .inl ((srR (okC (z.1, z.2.1, z.2.2.1, z.2.2.2.1, z.2.2.2.2.1, bb.1, (Int64.ofInt bb.2.1), (Int64.ofInt bb.2.2.1)).2.2.1 p9 le ho) (lkU (pulI p9 L mo an pl ho) (z.1, z.2.1, z.2.2.1, z.2.2.2.1, z.2.2.2.2.1, bb.1, (Int64.ofInt bb.2.1), (Int64.ofInt bb.2.2.1)).2.2.2.1.toInt) i 1 [] ((z.1, z.2.1, z.2.2.1, z.2.2.2.1, z.2.2.2.2.1, bb.1, (Int64.ofInt bb.2.1), (Int64.ofInt bb.2.2.1)).2.2.2.2.2.1, bb.2.1, bb.2.2.1, bb.2.2.2.1, bb.2.2.2.2)).2.2.2.2)))]) H locs := hB
          refine lv_iinc (v := nI (i + 1)) (lv' := [(3, .int (nI (i + 1))), (0, .ref q), (1, .int (nI p9)), (2, .int (nI w9))]) hx hb dX8_searches_26 hl (k := 0) rfl (nI_1 _) (by decide) rfl ?_
          clear hl
          clear ls
          intro ls hl
          refine lv_goto (tgt := 7) hx hb dX8_searches_29 (by decide) ?_
          exact ih7 (i + 1) (srR (okC z.2.2.1 p9 le ho) (lkU (pulI p9 L mo an pl ho) z.2.2.2.1.toInt) i 1 [] bb) pu21 sa21 ss21 (by omega) (by rw [seS_s, if_pos (by rw [← hbb]; exact h17), ← hbb]) (srR_B (fun k hk => pulI_B hp9 hok hoh hk) i 1 [] bb (fun c h => absurd h List.not_mem_nil) (by show 0 + i ≤ 4; omega) hB9) (by omega) _ _ (hB) _ (lv_sub hl [0, 1, 2, 3] rfl)
  exact lp7 (w9 + 1 - 0 + 1) 0 ((-1 : Int32), b0, b1, ba, bz) pu sa ss (Nat.zero_le _) (rfl) (hb01) (by omega) _ _ (by rw [← hbs, ← hbr]; exact hB) _ (lv_sub hl [0, 1, 2, 3] rfl)
