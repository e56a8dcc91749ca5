theorem inn_Q {Q : bT → Prop} {ok : Nat → Bool} {f : Nat → bT → bT} (h : ∀ c b, Q b → Q (f c b)) : ∀ k b, Q b → Q (inn ok f k b)
  | 0, _, hb => hb
  | k + 1, b, hb => by
    show Q (inn ok f k (if ok (119 - k) = true then f (119 - k) b else b))
    refine inn_Q h k _ ?_
    split
    · exact h _ _ hb
    · exact hb
theorem srR_Q {Q : bT → Prop} {ok : Nat → Bool} {lk : List Nat → bT → bT} (h : ∀ pr b, pr.length ≤ 4 → Q b → Q (lk pr b)) : ∀ (r st : Nat) (pr : List Nat) (b : bT), pr.length + r ≤ 4 → Q b → Q (srR ok lk r st pr b)
  | 0, _, pr, b, hl, hb => h pr b (by omega) hb
  | r + 1, st, pr, b, hl, hb => inn_Q (fun c b hb => srR_Q h r _ (c :: pr) b (by show pr.length + 1 + r ≤ 4; omega) hb) _ b hb
theorem seS_Q {Q : bT → Prop} {f : Nat → bT → bT} (h : ∀ n b, n ≤ 4 → Q b → Q (f n b)) : ∀ k b, k ≤ 5 → Q b → Q (seS f k b)
  | 0, _, _, hb => hb
  | k + 1, b, hk, hb => by
    have h1 := seS_Q h k b (by omega) hb
    rw [seS_s]
    split
    · exact h k _ (by omega) h1
    · exact h1
def bK (b : bT) : Prop := b.1 = -1 ∨ ∃ k, k ≤ 4 ∧ b.1 = nI k
theorem seK {P : Nat → Int} {li b0 b1 : Int} {ok : Nat → Bool} {ba bz : Nat → Int32} {w : Nat} (h : w ≤ 4) : bK (seS (fun n b => srR ok (lkU P li) n 1 [] b) (w + 1) ((-1 : Int32), b0, b1, ba, bz)) := by
  refine seS_Q (fun n b hn hb => srR_Q (fun pr b hl hb => ?_) n 1 [] b (by show 0 + n ≤ 4; omega) hb) (w + 1) _ (by omega) (Or.inl rfl)
  unfold lkU
  split
  · exact Or.inr ⟨pr.length, hl, rfl⟩
  · exact hb
theorem bK_e {b : bT} (h : bK b) {i : Nat} (hi : i ≤ aN b.1) (h2 : b.1.toInt ≤ (nI i).toInt) : aN b.1 = i := by
  rcases h with e | ⟨k, hk, e⟩
  · rw [e, show aN (-1) = 0 from rfl] at hi
    rw [e, show aN (-1) = 0 from rfl]
    omega
  · rw [e, aNn (n := 5) (by omega) (by decide)] at hi
    rw [e, nI_toInt (by omega), nI_toInt (by omega)] at h2
    rw [e, aNn (n := 5) (by omega) (by decide)]
    omega
theorem bK_l {b : bT} (h : bK b) {i : Nat} (hi : i ≤ aN b.1) (h2 : (nI i).toInt < b.1.toInt) : i < aN b.1 ∧ aN b.1 ≤ 4 := by
  rcases h with e | ⟨k, hk, e⟩
  · rw [e, show aN (-1) = 0 from rfl] at hi
    rw [e, show i = 0 by omega] at h2
    exact absurd h2 (by decide)
  · rw [e, aNn (n := 5) (by omega) (by decide)] at hi
    rw [e, nI_toInt (by omega), nI_toInt (by omega)] at h2
    rw [e, aNn (n := 5) (by omega) (by decide)]
    omega
/-- the angles of the holes found as bits, their sizes as digits -/
def fwM (a : Nat → Int32) : Nat → Int32
  | 0 => 0
  | i + 1 => fwM a i ||| ((1 : Int32) <<< (a i &&& 31))
def fwZ (s : Nat → Int32) : Nat → Int32
  | 0 => 0
  | i + 1 => 10 * fwZ s i + s i
def fwA (c : Nat) (b : bT) : Int32 := if c = 0 then b.1 else if c = 1 then fwM b.2.2.2.1 (aN b.1) else fwZ b.2.2.2.2 (aN b.1)
set_option maxHeartbeats 4000000 in
set_option maxRecDepth 100000 in
theorem c_X8_fewestBy (l : Launch) (D : va_G) (ka : Nat → ClassId) (kb : Nat → Nat) (q : Nat) (ad : Nat → Nat) (o : Bool) (z : mZ) (pu : Nat → Int64) (L : Nat) (mo : Nat → Int32) (an : Nat → Int32) (pl : Nat → Int32) (ho : Nat → Int32) (le : Nat → Int32) (p9 : Nat) (w9 : Nat) (c9 : Nat) (b0 : Int) (b1 : Int) (sa : Nat → Int32) (ss : Nat → Int32) (ba : Nat → Int32) (bz : Nat → Int32) (hp9 : p9 < 2) (hL : z.2.1 = nI L) (hok : okL L mo an pl) (hoh : okH ho) (hli : 0 ≤ z.2.2.2.1.toInt ∧ z.2.2.2.1.toInt ≤ 99) (hbs : z.2.2.2.2.2.2.1 = Int64.ofInt b0) (hbr : z.2.2.2.2.2.2.2 = Int64.ofInt b1) (hb01 : (0 ≤ b0 ∧ b0 ≤ 1270000000) ∧ (-730000000 ≤ b1 ∧ b1 ≤ 730000000)) (hn : w9 ≤ 4) (hc3 : c9 < 3) : zI l D ka kb yX8_fewestBy cX8_fewestBy 7 .int 7 171 [.ref q, .int (nI p9), .int (nI w9), .int (nI c9)] ([(q, .inr (8, mO ad o z)), ((ad 9), .inl (ka 1, 4, .inr (.inl pu))), ((ad 4), .inl (ka 0, 8, .inl mo)), ((ad 5), .inl (ka 0, 8, .inl an)), ((ad 6), .inl (ka 0, 8, .inl pl)), ((ad 7), .inl (ka 0, 24, .inl ho)), ((ad 8), .inl (ka 0, 2, .inl le)), ((ad 14), .inl (ka 0, 4, .inl sa)), ((ad 15), .inl (ka 0, 4, .inl ss)), ((ad 16), .inl (ka 0, 4, .inl ba)), ((ad 17), .inl (ka 0, 4, .inl bz))]) (fun (r : Int32) (u : (Nat → Int64) × (Nat → Int32) × (Nat → Int32)) => r = fwA c9 (seS (fun n b => srR (okC z.2.2.1 p9 le ho) (lkU (pulI p9 L mo an pl ho) z.2.2.2.1.toInt) n 1 [] b) (w9 + 1) ((-1 : Int32), b0, b1, ba, bz))) (fun (u : (Nat → Int64) × (Nat → Int32) × (Nat → Int32)) => [(q, .inr (8, mX ad (bI o) z.1 z.2.1 z.2.2.1 z.2.2.2.1 z.2.2.2.2.1 ((seS (fun n b => srR (okC z.2.2.1 p9 le ho) (lkU (pulI p9 L mo an pl ho) z.2.2.2.1.toInt) n 1 [] b) (w9 + 1) ((-1 : Int32), b0, b1, ba, bz)).1) (Int64.ofInt (seS (fun n b => srR (okC z.2.2.1 p9 le ho) (lkU (pulI p9 L mo an pl ho) z.2.2.2.1.toInt) n 1 [] b) (w9 + 1) ((-1 : Int32), b0, b1, ba, bz)).2.1) (Int64.ofInt (seS (fun n b => srR (okC z.2.2.1 p9 le ho) (lkU (pulI p9 L mo an pl ho) z.2.2.2.1.toInt) n 1 [] b) (w9 + 1) ((-1 : Int32), b0, b1, ba, bz)).2.2.1))), ((ad 9), .inl (ka 1, 4, .inr (.inl u.1))), ((ad 4), .inl (ka 0, 8, .inl mo)), ((ad 5), .inl (ka 0, 8, .inl an)), ((ad 6), .inl (ka 0, 8, .inl pl)), ((ad 7), .inl (ka 0, 24, .inl ho)), ((ad 8), .inl (ka 0, 2, .inl le)), ((ad 14), .inl (ka 0, 4, .inl u.2.1)), ((ad 15), .inl (ka 0, 4, .inl u.2.2)), ((ad 16), .inl (ka 0, 4, .inl ((seS (fun n b => srR (okC z.2.2.1 p9 le ho) (lkU (pulI p9 L mo an pl ho) z.2.2.2.1.toInt) n 1 [] b) (w9 + 1) ((-1 : Int32), b0, b1, ba, bz)).2.2.2.1))), ((ad 17), .inl (ka 0, 4, .inl ((seS (fun n b => srR (okC z.2.2.1 p9 le ho) (lkU (pulI p9 L mo an pl ho) z.2.2.2.1.toInt) n 1 [] b) (w9 + 1) ((-1 : Int32), b0, b1, ba, bz)).2.2.2.2)))]) := by
  refine zI.mk RX8 (by decide +kernel) rfl (Nat.le_of_ble_eq_true rfl) ?_
  intro p e s m below meth c A ls args Q hQ hx hb hF hB hl
  replace hl : lv_has ls 7 [(0, .ref q), (1, .int (nI p9)), (2, .int (nI w9)), (3, .int (nI c9))] := hl
  refine lv_aload_n hx hb dX8_fewestBy_0 rfl (lv_at hl 0 rfl) ?_
  refine lv_iload_n hx hb dX8_fewestBy_1 rfl (lv_at hl 1 rfl) ?_
  refine lv_iload_n hx hb dX8_fewestBy_2 rfl (lv_at hl 2 rfl) ?_
  refine zVv zm_X8_299 hF hB (c_X8_searches l D ka kb q ad o z pu L mo an pl ho le p9 w9 b0 b1 sa ss ba bz (hp9) (hL) (hok) (hoh) (hli) (hbs) (hbr) (hb01) (hn)) [0, 1, 2, 3, 4, 5, 6, 7, 8, 9, 10] rfl (by decide) [q, (ad 9), (ad 4), (ad 5), (ad 6), (ad 7), (ad 8), (ad 14), (ad 15), (ad 16), (ad 17)] (fun _ => rfl) rfl 0 8 rfl rfl rfl ⟨Nat.le_of_ble_eq_true rfl, Nat.le_of_ble_eq_true rfl⟩ rfl hl.1 (Nat.le_of_ble_eq_true rfl) ⟨Nat.le_refl _, Nat.le_refl _⟩ dX8_fewestBy_3 ?_
  clear hB
  try clear locs
  try clear H
  intro u1 H locs hp hB
  obtain ⟨pu21, sa21, ss21⟩ := u1
  have hp1 : True := hp
  have HPP := hp1
  replace hB : zB D A s ([(q, .inr (8, mX ad (bI o) z.1 z.2.1 z.2.2.1 z.2.2.2.1 z.2.2.2.2.1 ((seS (fun n b => srR (okC z.2.2.1 p9 le ho) (lkU (pulI p9 L mo an pl ho) z.2.2.2.1.toInt) n 1 [] b) (w9 + 1) ((-1 : Int32), b0, b1, ba, bz)).1) (Int64.ofInt (seS (fun n b => srR (okC z.2.2.1 p9 le ho) (lkU (pulI p9 L mo an pl ho) z.2.2.2.1.toInt) n 1 [] b) (w9 + 1) ((-1 : Int32), b0, b1, ba, bz)).2.1) (Int64.ofInt (seS (fun n b => srR (okC z.2.2.1 p9 le ho) (lkU (pulI p9 L mo an pl ho) z.2.2.2.1.toInt) n 1 [] b) (w9 + 1) ((-1 : Int32), b0, b1, ba, bz)).2.2.1))), ((ad 9), .inl (ka 1, 4, .inr (.inl pu21))), ((ad 4), .inl (ka 0, 8, .inl mo)), ((ad 5), .inl (ka 0, 8, .inl an)), ((ad 6), .inl (ka 0, 8, .inl pl)), ((ad 7), .inl (ka 0, 24, .inl ho)), ((ad 8), .inl (ka 0, 2, .inl le)), ((ad 14), .inl (ka 0, 4, .inl sa21)), ((ad 15), .inl (ka 0, 4, .inl ss21)), ((ad 16), .inl (ka 0, 4, .inl ((seS (fun n b => srR (okC z.2.2.1 p9 le ho) (lkU (pulI p9 L mo an pl ho) z.2.2.2.1.toInt) n 1 [] b) (w9 + 1) ((-1 : Int32), b0, b1, ba, bz)).2.2.2.1))), ((ad 17), .inl (ka 0, 4, .inl ((seS (fun n b => srR (okC z.2.2.1 p9 le ho) (lkU (pulI p9 L mo an pl ho) z.2.2.2.1.toInt) n 1 [] b) (w9 + 1) ((-1 : Int32), b0, b1, ba, bz)).2.2.2.2)))]) H locs := hB
  generalize hbb : (seS (fun n b => srR (okC z.2.2.1 p9 le ho) (lkU (pulI p9 L mo an pl ho) z.2.2.2.1.toInt) n 1 [] b) (w9 + 1) ((-1 : Int32), b0, b1, ba, bz)) = bb at hB
  have hK : bK bb := by rw [← hbb]; exact seK (by omega)
  replace hB : zB D A s ([(q, .inr (8, mX ad (bI o) z.1 z.2.1 z.2.2.1 z.2.2.2.1 z.2.2.2.2.1 bb.1 (Int64.ofInt bb.2.1) (Int64.ofInt bb.2.2.1))), ((ad 9), .inl (ka 1, 4, .inr (.inl pu21))), ((ad 4), .inl (ka 0, 8, .inl mo)), ((ad 5), .inl (ka 0, 8, .inl an)), ((ad 6), .inl (ka 0, 8, .inl pl)), ((ad 7), .inl (ka 0, 24, .inl ho)), ((ad 8), .inl (ka 0, 2, .inl le)), ((ad 14), .inl (ka 0, 4, .inl sa21)), ((ad 15), .inl (ka 0, 4, .inl ss21)), ((ad 16), .inl (ka 0, 4, .inl bb.2.2.2.1)), ((ad 17), .inl (ka 0, 4, .inl bb.2.2.2.2))]) H locs := hB
  refine lv_iconst (v := 0) hx hb dX8_fewestBy_6 (by decide) ?_
  refine lv_istore (lv' := [(4, .int (0 : Int32)), (0, .ref q), (1, .int (nI p9)), (2, .int (nI w9)), (3, .int (nI c9))]) hx hb dX8_fewestBy_7 hl (by decide) rfl ?_
  clear hl
  clear ls
  intro ls hl
  refine lv_iconst (v := 0) hx hb dX8_fewestBy_9 (by decide) ?_
  refine lv_istore (lv' := [(5, .int (0 : Int32)), (4, .int (0 : Int32)), (0, .ref q), (1, .int (nI p9)), (2, .int (nI w9)), (3, .int (nI c9))]) hx hb dX8_fewestBy_10 hl (by decide) rfl ?_
  clear hl
  clear ls
  intro ls hl
  refine lv_iconst (v := 0) hx hb dX8_fewestBy_12 (by decide) ?_
  refine lv_istore (lv' := [(6, .int (0 : Int32)), (5, .int (0 : Int32)), (4, .int (0 : Int32)), (0, .ref q), (1, .int (nI p9)), (2, .int (nI w9)), (3, .int (nI c9))]) hx hb dX8_fewestBy_13 hl (by decide) rfl ?_
  clear hl
  clear ls
  intro ls hl
  have lp15 : ∀ (fl : Nat) (i : Nat), (hi : i ≤ aN bb.1) → 4 - i < fl → ∀ (H : Heap) (locs : List Loc), zB D A s ([(q, .inr (8, mX ad (bI o) z.1 z.2.1 z.2.2.1 z.2.2.2.1 z.2.2.2.2.1 bb.1 (Int64.ofInt bb.2.1) (Int64.ofInt bb.2.2.1))), ((ad 9), .inl (ka 1, 4, .inr (.inl pu21))), ((ad 4), .inl (ka 0, 8, .inl mo)), ((ad 5), .inl (ka 0, 8, .inl an)), ((ad 6), .inl (ka 0, 8, .inl pl)), ((ad 7), .inl (ka 0, 24, .inl ho)), ((ad 8), .inl (ka 0, 2, .inl le)), ((ad 14), .inl (ka 0, 4, .inl sa21)), ((ad 15), .inl (ka 0, 4, .inl ss21)), ((ad 16), .inl (ka 0, 4, .inl bb.2.2.2.1)), ((ad 17), .inl (ka 0, 4, .inl bb.2.2.2.2))]) H locs → ∀ ls : Array Slot, lv_has ls 7 [(6, .int (nI i)), (5, .int (fwZ bb.2.2.2.2 i)), (4, .int (fwM bb.2.2.2.1 i)), (0, .ref q), (3, .int (nI c9))] → W p l e (zRm 7 171 0 0) s m args below meth c H locs 0 0 Q (F0 m 15 ls []) := by
    intro fl
    induction fl with
    | zero => intro i hi hfl; exact absurd hfl (Nat.not_lt_zero _)
    | succ fl ih15 =>
      intro i hi hfl15 H locs hB ls hl
      refine lv_iload hx hb dX8_fewestBy_15 (lv_at hl 0 rfl) ?_
      refine lv_aload_n hx hb dX8_fewestBy_17 rfl (lv_at hl 3 rfl) ?_
      refine zget zf_X8_279 hF hB 0 rfl rfl dX8_fewestBy_18 ?_
      refine lv_icmp_ge (tgt := 59) hx hb dX8_fewestBy_21 (by decide) (fun h21 => ?_) (fun h21 => ?_)
      · skip
        have hie : aN bb.1 = i := bK_e hK hi (Int32.le_iff_toInt_le.mp h21)
        refine lv_iload_n hx hb dX8_fewestBy_59 rfl (lv_at hl 4 rfl) ?_
        refine lv_if_ne (tgt := 70) hx hb dX8_fewestBy_60 (by decide) (fun h60 => ?_) (fun h60 => ?_)
        · skip
          have hc0 : c9 ≠ 0 := fun e8 => h60 (by rw [e8]; rfl)
          refine lv_iload_n hx hb dX8_fewestBy_70 rfl (lv_at hl 4 rfl) ?_
          refine lv_iconst (v := 1) hx hb dX8_fewestBy_71 (by decide) ?_
          refine lv_icmp_ne (tgt := 80) hx hb dX8_fewestBy_72 (by decide) (fun h72 => ?_) (fun h72 => ?_)
          · skip
            have hc1 : c9 ≠ 1 := fun e8 => h72 (by rw [e8]; rfl)
            refine lv_iload hx hb dX8_fewestBy_80 (lv_at hl 1 rfl) ?_
            exact zreti hF hB (pu21, sa21, ss21) (by rw [hbb, fwA, if_neg hc0, if_neg hc1]; rw [hie]) (by rw [hbb]) (rfl) dX8_fewestBy_82 hQ
          · skip
            have hc1 : c9 = 1 := (nI_eq (b := 1) (by omega) (by decide)).mp h72
            refine lv_iload hx hb dX8_fewestBy_75 (lv_at hl 2 rfl) ?_
            refine lv_goto (tgt := 82) hx hb dX8_fewestBy_77 (by decide) ?_
            exact zreti hF hB (pu21, sa21, ss21) (by rw [hbb, fwA, if_neg hc0, if_pos hc1]; rw [hie]) (by rw [hbb]) (rfl) dX8_fewestBy_82 hQ
        · skip
          have hc0 : c9 = 0 := (nI_eq (b := 0) (by omega) (by decide)).mp h60
          refine lv_aload_n hx hb dX8_fewestBy_63 rfl (lv_at hl 3 rfl) ?_
          refine zget zf_X8_279 hF hB 0 rfl rfl dX8_fewestBy_64 ?_
          refine lv_goto (tgt := 82) hx hb dX8_fewestBy_67 (by decide) ?_
          exact zreti hF hB (pu21, sa21, ss21) (by rw [hbb, fwA, if_pos hc0]) (by rw [hbb]) (rfl) dX8_fewestBy_82 hQ
      · skip
        have hi2 : i < aN bb.1 ∧ aN bb.1 ≤ 4 := bK_l hK hi (Int32.lt_iff_toInt_lt.mp (Int32.not_le.mp h21))
        refine lv_iload hx hb dX8_fewestBy_24 (lv_at hl 2 rfl) ?_
        refine lv_iconst (v := 1) hx hb dX8_fewestBy_26 (by decide) ?_
        refine lv_aload_n hx hb dX8_fewestBy_27 rfl (lv_at hl 3 rfl) ?_
        refine zget zf_X8_59 hF hB 0 rfl rfl dX8_fewestBy_28 ?_
        refine lv_iload hx hb dX8_fewestBy_31 (lv_at hl 0 rfl) ?_
        refine ziald hF hB 9 rfl i (rfl) (by omega) (by decide) (v := (bb.2.2.2.1 i)) (rfl) dX8_fewestBy_33 ?_
        refine lv_ishl hx hb dX8_fewestBy_34 ?_
        refine lv_ior hx hb dX8_fewestBy_35 ?_
        refine ztopi (y := (fwM bb.2.2.2.1 (i + 1))) (rfl) ?_
        refine lv_istore (lv' := [(4, .int (fwM bb.2.2.2.1 (i + 1))), (6, .int (nI i)), (5, .int (fwZ bb.2.2.2.2 i)), (0, .ref q), (3, .int (nI c9))]) hx hb dX8_fewestBy_36 hl (by decide) rfl ?_
        clear hl
        clear ls
        intro ls hl
        refine lv_bipush (v := 10) hx hb dX8_fewestBy_38 (by decide) ?_
        refine lv_iload hx hb dX8_fewestBy_40 (lv_at hl 2 rfl) ?_
        refine lv_imul hx hb dX8_fewestBy_42 ?_
        refine lv_aload_n hx hb dX8_fewestBy_43 rfl (lv_at hl 3 rfl) ?_
        refine zget zf_X8_62 hF hB 0 rfl rfl dX8_fewestBy_44 ?_
        refine lv_iload hx hb dX8_fewestBy_47 (lv_at hl 1 rfl) ?_
        refine ziald hF hB 10 rfl i (rfl) (by omega) (by decide) (v := (bb.2.2.2.2 i)) (rfl) dX8_fewestBy_49 ?_
        refine lv_iadd hx hb dX8_fewestBy_50 ?_
        refine ztopi (y := (fwZ bb.2.2.2.2 (i + 1))) (rfl) ?_
        refine lv_istore (lv' := [(5, .int (fwZ bb.2.2.2.2 (i + 1))), (4, .int (fwM bb.2.2.2.1 (i + 1))), (6, .int (nI i)), (0, .ref q), (3, .int (nI c9))]) hx hb dX8_fewestBy_51 hl (by decide) rfl ?_
        clear hl
        clear ls
        intro ls hl
        refine lv_iinc (v := nI (i + 1)) (lv' := [(6, .int (nI (i + 1))), (5, .int (fwZ bb.2.2.2.2 (i + 1))), (4, .int (fwM bb.2.2.2.1 (i + 1))), (0, .ref q), (3, .int (nI c9))]) hx hb dX8_fewestBy_53 hl (k := 2) rfl (nI_1 _) (by decide) rfl ?_
        clear hl
        clear ls
        intro ls hl
        refine lv_goto (tgt := 15) hx hb dX8_fewestBy_56 (by decide) ?_
        exact ih15 (i + 1) (by omega) (by omega) _ _ (hB) _ (lv_sub hl [0, 1, 2, 3, 4] rfl)
  exact lp15 (4 - 0 + 1) 0 (Nat.zero_le _) (by omega) _ _ (hB) _ (lv_sub hl [0, 1, 2, 3, 6] rfl)
