noncomputable def dkK (p w : Int32) : Bool := dB (inI p 2 = true ∧ inI w 5 = true)
theorem if_an {p q : Prop} [Decidable p] [Decidable q] (h : p) {x y : Int32} : (if p ∧ q then x else y) = if q then x else y := by
  by_cases e : q
  · rw [if_pos ⟨h, e⟩, if_pos e]
  · rw [if_neg (fun e2 => e e2.2), if_neg e]
def dhS (p : Nat) (b : bT) : Nat → (Nat → Int32) → Nat → Int32
  | 0, ho => ho
  | i + 1, ho => upd (dhS p b i ho) (12 * p + aN (b.2.2.2.1 i)) (b.2.2.2.2 i)
def bA (b : bT) : Prop := ∀ i, i < aN b.1 → ∃ c, c < 120 ∧ b.2.2.2.1 i = nI (c / 10) ∧ b.2.2.2.2 i = nI (c % 10)
theorem ch_i {g g2 : Nat → Int32} : ∀ (pr : List Nat), (∀ c, c ∈ pr → c < 120) → ∀ i, i < pr.length → ∃ c, c < 120 ∧ chA pr g i = nI (c / 10) ∧ chZ pr g2 i = nI (c % 10)
  | [], _, i, h => absurd h (Nat.not_lt_zero _)
  | d :: tl, hc, i, h => by
    by_cases e : i = tl.length
    · exact ⟨d, hc d (List.mem_cons_self ..), if_pos e, if_pos e⟩
    · obtain ⟨c, h1, h2, h3⟩ := ch_i (g := g) (g2 := g2) tl (fun c h9 => hc c (List.mem_cons_of_mem _ h9)) i (by simp at h; omega)
      exact ⟨c, h1, (if_neg e).trans h2, (if_neg e).trans h3⟩
theorem inn_Q2 {Q : bT → Prop} {ok : Nat → Bool} {f : Nat → bT → bT} (h : ∀ c b, c < 120 → Q b → Q (f c b)) : ∀ k b, Q b → Q (inn ok f k b)
  | 0, _, hb => hb
  | k + 1, b, hb => by
    show Q (inn ok f k (if ok (119 - k) = true then f (119 - k) b else b))
    refine inn_Q2 h k _ ?_
    split
    · exact h _ _ (by omega) hb
    · exact hb
theorem srR_Q2 {Q : bT → Prop} {ok : Nat → Bool} {lk : List Nat → bT → bT} (h : ∀ pr b, (∀ c, c ∈ pr → c < 120) → pr.length ≤ 4 → Q b → Q (lk pr b)) : ∀ (r st : Nat) (pr : List Nat) (b : bT), (∀ c, c ∈ pr → c < 120) → pr.length + r ≤ 4 → Q b → Q (srR ok lk r st pr b)
  | 0, _, pr, b, hc, hl, hb => h pr b hc (by omega) hb
  | r + 1, st, pr, b, hc, hl, hb => inn_Q2 (fun c b hc2 hb => srR_Q2 h r _ (c :: pr) b (fun d hd => by
      rcases List.mem_cons.mp hd with e | e
      · rw [e]; exact hc2
      · exact hc d e) (by show pr.length + 1 + r ≤ 4; omega) hb) _ b hb
theorem seA {P : Nat → Int} {li b0 b1 : Int} {ok : Nat → Bool} {ba bz : Nat → Int32} {w : Nat} (h : w ≤ 4) : bA (seS (fun n b => srR ok (lkU P li) n 1 [] b) (w + 1) ((-1 : Int32), b0, b1, ba, bz)) := by
  refine seS_Q (fun n b hn hb => srR_Q2 (fun pr b hc hl hb => ?_) n 1 [] b (fun c h => absurd h List.not_mem_nil) (by show 0 + n ≤ 4; omega) hb) (w + 1) _ (by omega) (fun i hi => absurd hi (Nat.not_lt_zero _))
  unfold lkU
  split
  · intro i hi
    rw [show aN (nI pr.length) = pr.length from aNn (n := 5) (by omega) (by decide)] at hi
    exact ch_i pr hc i hi
  · exact hb
set_option maxHeartbeats 4000000 in
set_option maxRecDepth 100000 in
theorem c_X8_drillAll (l : Launch) (D : va_G) (ka : Nat → ClassId) (kb : Nat → Nat) (q : Nat) (ad : Nat → Nat) (o : Bool) (z : mZ) (pu : Nat → Int64) (L : Nat) (mo : Nat → Int32) (an : Nat → Int32) (pl : Nat → Int32) (ho : Nat → Int32) (le : Nat → Int32) (pq : Int32) (wq : Int32) (b0 : Int) (b1 : Int) (sa : Nat → Int32) (ss : Nat → Int32) (ba : Nat → Int32) (bz : Nat → Int32) (hL : z.2.1 = nI L) (hok : okL L mo an pl) (hoh : okH ho) (hli : 0 ≤ z.2.2.2.1.toInt ∧ z.2.2.2.1.toInt ≤ 99) (hbs : z.2.2.2.2.2.2.1 = Int64.ofInt b0) (hbr : z.2.2.2.2.2.2.2 = Int64.ofInt b1) (hb01 : (0 ≤ b0 ∧ b0 ≤ 1270000000) ∧ (-730000000 ≤ b1 ∧ b1 ≤ 730000000)) : zI l D ka kb yX8_drillAll cX8_drillAll 4 .int 7 171 [.ref q, .int pq, .int wq] ([(q, .inr (8, mO ad o z)), ((ad 9), .inl (ka 1, 4, .inr (.inl pu))), ((ad 4), .inl (ka 0, 8, .inl mo)), ((ad 5), .inl (ka 0, 8, .inl an)), ((ad 6), .inl (ka 0, 8, .inl pl)), ((ad 7), .inl (ka 0, 24, .inl ho)), ((ad 8), .inl (ka 0, 2, .inl le)), ((ad 14), .inl (ka 0, 4, .inl sa)), ((ad 15), .inl (ka 0, 4, .inl ss)), ((ad 16), .inl (ka 0, 4, .inl ba)), ((ad 17), .inl (ka 0, 4, .inl bz))]) (fun (r : Int32) (u : (Nat → Int64) × (Nat → Int32) × (Nat → Int32)) => r = (if dkK pq wq = true then (if (seS (fun n b => srR (okC z.2.2.1 (aN pq) le ho) (lkU (pulI (aN pq) L mo an pl ho) z.2.2.2.1.toInt) n 1 [] b) (aN wq + 1) ((-1 : Int32), b0, b1, ba, bz)).1 = -1 then (-3 : Int32) else (seS (fun n b => srR (okC z.2.2.1 (aN pq) le ho) (lkU (pulI (aN pq) L mo an pl ho) z.2.2.2.1.toInt) n 1 [] b) (aN wq + 1) ((-1 : Int32), b0, b1, ba, bz)).1) else (-2 : Int32))) (fun (u : (Nat → Int64) × (Nat → Int32) × (Nat → Int32)) => [(q, .inr (8, mX ad (bI o) z.1 z.2.1 z.2.2.1 z.2.2.2.1 (if dkK pq wq = true ∧ 0 < aN (seS (fun n b => srR (okC z.2.2.1 (aN pq) le ho) (lkU (pulI (aN pq) L mo an pl ho) z.2.2.2.1.toInt) n 1 [] b) (aN wq + 1) ((-1 : Int32), b0, b1, ba, bz)).1 then (0 : Int32) else z.2.2.2.2.1) ((if dkK pq wq = true then (seS (fun n b => srR (okC z.2.2.1 (aN pq) le ho) (lkU (pulI (aN pq) L mo an pl ho) z.2.2.2.1.toInt) n 1 [] b) (aN wq + 1) ((-1 : Int32), b0, b1, ba, bz)) else (z.2.2.2.2.2.1, b0, b1, ba, bz)).1) (Int64.ofInt (if dkK pq wq = true then (seS (fun n b => srR (okC z.2.2.1 (aN pq) le ho) (lkU (pulI (aN pq) L mo an pl ho) z.2.2.2.1.toInt) n 1 [] b) (aN wq + 1) ((-1 : Int32), b0, b1, ba, bz)) else (z.2.2.2.2.2.1, b0, b1, ba, bz)).2.1) (Int64.ofInt (if dkK pq wq = true then (seS (fun n b => srR (okC z.2.2.1 (aN pq) le ho) (lkU (pulI (aN pq) L mo an pl ho) z.2.2.2.1.toInt) n 1 [] b) (aN wq + 1) ((-1 : Int32), b0, b1, ba, bz)) else (z.2.2.2.2.2.1, b0, b1, ba, bz)).2.2.1))), ((ad 9), .inl (ka 1, 4, .inr (.inl u.1))), ((ad 4), .inl (ka 0, 8, .inl mo)), ((ad 5), .inl (ka 0, 8, .inl an)), ((ad 6), .inl (ka 0, 8, .inl pl)), ((ad 7), .inl (ka 0, 24, .inl (if dkK pq wq = true then dhS (aN pq) (seS (fun n b => srR (okC z.2.2.1 (aN pq) le ho) (lkU (pulI (aN pq) L mo an pl ho) z.2.2.2.1.toInt) n 1 [] b) (aN wq + 1) ((-1 : Int32), b0, b1, ba, bz)) (aN (seS (fun n b => srR (okC z.2.2.1 (aN pq) le ho) (lkU (pulI (aN pq) L mo an pl ho) z.2.2.2.1.toInt) n 1 [] b) (aN wq + 1) ((-1 : Int32), b0, b1, ba, bz)).1) ho else ho))), ((ad 8), .inl (ka 0, 2, .inl le)), ((ad 14), .inl (ka 0, 4, .inl u.2.1)), ((ad 15), .inl (ka 0, 4, .inl u.2.2)), ((ad 16), .inl (ka 0, 4, .inl ((if dkK pq wq = true then (seS (fun n b => srR (okC z.2.2.1 (aN pq) le ho) (lkU (pulI (aN pq) L mo an pl ho) z.2.2.2.1.toInt) n 1 [] b) (aN wq + 1) ((-1 : Int32), b0, b1, ba, bz)) else (z.2.2.2.2.2.1, b0, b1, ba, bz)).2.2.2.1))), ((ad 17), .inl (ka 0, 4, .inl ((if dkK pq wq = true then (seS (fun n b => srR (okC z.2.2.1 (aN pq) le ho) (lkU (pulI (aN pq) L mo an pl ho) z.2.2.2.1.toInt) n 1 [] b) (aN wq + 1) ((-1 : Int32), b0, b1, ba, bz)) else (z.2.2.2.2.2.1, b0, b1, ba, bz)).2.2.2.2)))]) := by
  refine zI.mk RX8 (by decide +kernel) rfl (Nat.le_of_ble_eq_true rfl) ?_
  intro p e s m below meth c A ls args Q hQ hx hb hF hB hl
  replace hl : lv_has ls 4 [(0, .ref q), (1, .int pq), (2, .int wq)] := hl
  refine lv_iload_n hx hb dX8_drillAll_0 rfl (lv_at hl 1 rfl) ?_
  refine zSi zm_X8_226 hF hB (c_X8_isTwo l D ka kb pq ) [] rfl (by decide) [] (fun _ => rfl) rfl rfl ⟨Nat.le_of_ble_eq_true rfl, Nat.le_of_ble_eq_true rfl⟩ rfl hl.1 (Nat.le_of_ble_eq_true rfl) ⟨Nat.le_refl _, Nat.le_refl _⟩ dX8_drillAll_1 ?_
  clear hB
  try clear locs
  try clear H
  intro r1 u1 H locs hp hB
  obtain rfl : r1 = bI (inI pq 2) := hp
  replace hB : zB D A s ([(q, .inr (8, mO ad o z)), ((ad 9), .inl (ka 1, 4, .inr (.inl pu))), ((ad 4), .inl (ka 0, 8, .inl mo)), ((ad 5), .inl (ka 0, 8, .inl an)), ((ad 6), .inl (ka 0, 8, .inl pl)), ((ad 7), .inl (ka 0, 24, .inl ho)), ((ad 8), .inl (ka 0, 2, .inl le)), ((ad 14), .inl (ka 0, 4, .inl sa)), ((ad 15), .inl (ka 0, 4, .inl ss)), ((ad 16), .inl (ka 0, 4, .inl ba)), ((ad 17), .inl (ka 0, 4, .inl bz))]) H locs := hB
  refine lv_if_eq (tgt := 19) hx hb dX8_drillAll_4 (by decide) (fun h4 => ?_) (fun h4 => ?_)
  · skip
    refine lv_bipush (v := -2) hx hb dX8_drillAll_19 (by decide) ?_
    have hk9 : ¬ dkK pq wq = true := by rw [show dkK pq wq = false from dB_f.mpr (fun e8 => by rw [bI_eq0 h4] at e8; exact absurd e8.1 (by decide))]; decide
    exact zreti hF hB (pu, sa, ss) (by rw [if_neg hk9]) (by rw [if_neg hk9, if_neg hk9, if_neg (fun e8 => hk9 e8.1), ← hbs, ← hbr] <;> rfl) (rfl) dX8_drillAll_21 hQ
  · skip
    have hpp1 : inI pq 2 = true := bI_ne0 h4
    obtain ⟨pp, hpp2, hpp3⟩ := inI_of hpp1 (by decide)
    subst hpp3
    have rpp : aN (nI pp) = pp := aNn hpp2 (by decide)
    refine lv_iload_n hx hb dX8_drillAll_7 rfl (lv_at hl 2 rfl) ?_
    refine lv_i2l (v := wq.toInt64) hx hb dX8_drillAll_8 rfl ?_
    refine lv_lconst (v := 0) hx hb dX8_drillAll_9 (by decide) ?_
    refine zldc2 (v := (4 : Int64)) ww_9_15 hF dX8_drillAll_10 ?_
    refine zSi zm_X8_72 hF hB (c_X8_in l D ka kb wq.toInt64 (0 : Int64) (4 : Int64) ) [] rfl (by decide) [] (fun _ => rfl) rfl rfl ⟨Nat.le_of_ble_eq_true rfl, Nat.le_of_ble_eq_true rfl⟩ rfl hl.1 (Nat.le_of_ble_eq_true rfl) ⟨Nat.le_refl _, Nat.le_refl _⟩ dX8_drillAll_13 ?_
    clear hB
    try clear locs
    try clear H
    intro r2 u2 H locs hp hB
    obtain rfl : r2 = bI (zin wq.toInt64 (0 : Int64) (4 : Int64)) := hp
    replace hB : zB D A s ([(q, .inr (8, mO ad o z)), ((ad 9), .inl (ka 1, 4, .inr (.inl pu))), ((ad 4), .inl (ka 0, 8, .inl mo)), ((ad 5), .inl (ka 0, 8, .inl an)), ((ad 6), .inl (ka 0, 8, .inl pl)), ((ad 7), .inl (ka 0, 24, .inl ho)), ((ad 8), .inl (ka 0, 2, .inl le)), ((ad 14), .inl (ka 0, 4, .inl sa)), ((ad 15), .inl (ka 0, 4, .inl ss)), ((ad 16), .inl (ka 0, 4, .inl ba)), ((ad 17), .inl (ka 0, 4, .inl bz))]) H locs := hB
    refine lv_if_ne (tgt := 22) hx hb dX8_drillAll_16 (by decide) (fun h16 => ?_) (fun h16 => ?_)
    · skip
      have hs5 : inI wq 5 = true := (zin_inI wq 5 (by decide) (by decide)).symm.trans (bI_ne0 h16)
      obtain ⟨ww, hww2, hww3⟩ := inI_of hs5 (by decide)
      subst hww3
      have rww : aN (nI ww) = ww := aNn hww2 (by decide)
      refine lv_aload_n hx hb dX8_drillAll_22 rfl (lv_at hl 0 rfl) ?_
      refine lv_iload_n hx hb dX8_drillAll_23 rfl (lv_at hl 1 rfl) ?_
      refine lv_iload_n hx hb dX8_drillAll_24 rfl (lv_at hl 2 rfl) ?_
      have hk9 : dkK (nI pp) (nI ww) = true := dB_t.mpr ⟨hpp1, hs5⟩
      refine zVv zm_X8_299 hF hB (c_X8_searches l D ka kb q ad o z pu L mo an pl ho le pp ww b0 b1 sa ss ba bz (hpp2) (hL) (hok) (hoh) (hli) (hbs) (hbr) (hb01) (by omega)) [0, 1, 2, 3, 4, 5, 6, 7, 8, 9, 10] rfl (by decide) [q, (ad 9), (ad 4), (ad 5), (ad 6), (ad 7), (ad 8), (ad 14), (ad 15), (ad 16), (ad 17)] (fun _ => rfl) rfl 0 8 rfl rfl rfl ⟨Nat.le_of_ble_eq_true rfl, Nat.le_of_ble_eq_true rfl⟩ rfl hl.1 (Nat.le_of_ble_eq_true rfl) ⟨Nat.le_refl _, Nat.le_refl _⟩ dX8_drillAll_25 ?_
      clear hB
      try clear locs
      try clear H
      intro u3 H locs hp hB
      obtain ⟨pu23, sa23, ss23⟩ := u3
      have hp3 : True := hp
      have HPP := hp3
      replace hB : zB D A s ([(q, .inr (8, mX ad (bI o) z.1 z.2.1 z.2.2.1 z.2.2.2.1 z.2.2.2.2.1 ((seS (fun n b => srR (okC z.2.2.1 pp le ho) (lkU (pulI pp L mo an pl ho) z.2.2.2.1.toInt) n 1 [] b) (ww + 1) ((-1 : Int32), b0, b1, ba, bz)).1) (Int64.ofInt (seS (fun n b => srR (okC z.2.2.1 pp le ho) (lkU (pulI pp L mo an pl ho) z.2.2.2.1.toInt) n 1 [] b) (ww + 1) ((-1 : Int32), b0, b1, ba, bz)).2.1) (Int64.ofInt (seS (fun n b => srR (okC z.2.2.1 pp le ho) (lkU (pulI pp L mo an pl ho) z.2.2.2.1.toInt) n 1 [] b) (ww + 1) ((-1 : Int32), b0, b1, ba, bz)).2.2.1))), ((ad 9), .inl (ka 1, 4, .inr (.inl pu23))), ((ad 4), .inl (ka 0, 8, .inl mo)), ((ad 5), .inl (ka 0, 8, .inl an)), ((ad 6), .inl (ka 0, 8, .inl pl)), ((ad 7), .inl (ka 0, 24, .inl ho)), ((ad 8), .inl (ka 0, 2, .inl le)), ((ad 14), .inl (ka 0, 4, .inl sa23)), ((ad 15), .inl (ka 0, 4, .inl ss23)), ((ad 16), .inl (ka 0, 4, .inl ((seS (fun n b => srR (okC z.2.2.1 pp le ho) (lkU (pulI pp L mo an pl ho) z.2.2.2.1.toInt) n 1 [] b) (ww + 1) ((-1 : Int32), b0, b1, ba, bz)).2.2.2.1))), ((ad 17), .inl (ka 0, 4, .inl ((seS (fun n b => srR (okC z.2.2.1 pp le ho) (lkU (pulI pp L mo an pl ho) z.2.2.2.1.toInt) n 1 [] b) (ww + 1) ((-1 : Int32), b0, b1, ba, bz)).2.2.2.2)))]) H locs := hB
      generalize hbb : (seS (fun n b => srR (okC z.2.2.1 pp le ho) (lkU (pulI pp L mo an pl ho) z.2.2.2.1.toInt) n 1 [] b) (ww + 1) ((-1 : Int32), b0, b1, ba, bz)) = bb at hB
      have hK : bK bb := by rw [← hbb]; exact seK (by omega)
      have hA : bA bb := by rw [← hbb]; exact seA (by omega)
      replace hB : zB D A s ([(q, .inr (8, mX ad (bI o) z.1 z.2.1 z.2.2.1 z.2.2.2.1 z.2.2.2.2.1 bb.1 (Int64.ofInt bb.2.1) (Int64.ofInt bb.2.2.1))), ((ad 9), .inl (ka 1, 4, .inr (.inl pu23))), ((ad 4), .inl (ka 0, 8, .inl mo)), ((ad 5), .inl (ka 0, 8, .inl an)), ((ad 6), .inl (ka 0, 8, .inl pl)), ((ad 7), .inl (ka 0, 24, .inl ho)), ((ad 8), .inl (ka 0, 2, .inl le)), ((ad 14), .inl (ka 0, 4, .inl sa23)), ((ad 15), .inl (ka 0, 4, .inl ss23)), ((ad 16), .inl (ka 0, 4, .inl bb.2.2.2.1)), ((ad 17), .inl (ka 0, 4, .inl bb.2.2.2.2))]) H locs := hB
      refine lv_aload_n hx hb dX8_drillAll_28 rfl (lv_at hl 0 rfl) ?_
      refine zget zf_X8_279 hF hB 0 rfl rfl dX8_drillAll_29 ?_
      refine lv_iconst (v := -1) hx hb dX8_drillAll_32 (by decide) ?_
      refine lv_icmp_ne (tgt := 39) hx hb dX8_drillAll_33 (by decide) (fun h33 => ?_) (fun h33 => ?_)
      · skip
        refine lv_iconst (v := 0) hx hb dX8_drillAll_39 (by decide) ?_
        refine lv_istore_n (lv' := [(3, .int (0 : Int32)), (0, .ref q), (1, .int (nI pp)), (2, .int (nI ww))]) hx hb dX8_drillAll_40 rfl hl (by decide) rfl ?_
        clear hl
        clear ls
        intro ls hl
        have lp41 : ∀ (fl : Nat) (i : Nat), (hi : i ≤ aN bb.1) → 4 - i < fl → ∀ (H : Heap) (locs : List Loc), zB D A s ([(q, .inr (8, mX ad (bI o) z.1 z.2.1 z.2.2.1 z.2.2.2.1 (if 0 < i then (0 : Int32) else z.2.2.2.2.1) bb.1 (Int64.ofInt bb.2.1) (Int64.ofInt bb.2.2.1))), ((ad 9), .inl (ka 1, 4, .inr (.inl pu23))), ((ad 4), .inl (ka 0, 8, .inl mo)), ((ad 5), .inl (ka 0, 8, .inl an)), ((ad 6), .inl (ka 0, 8, .inl pl)), ((ad 7), .inl (ka 0, 24, .inl (dhS pp bb i ho))), ((ad 8), .inl (ka 0, 2, .inl le)), ((ad 14), .inl (ka 0, 4, .inl sa23)), ((ad 15), .inl (ka 0, 4, .inl ss23)), ((ad 16), .inl (ka 0, 4, .inl bb.2.2.2.1)), ((ad 17), .inl (ka 0, 4, .inl bb.2.2.2.2))]) H locs → ∀ ls : Array Slot, lv_has ls 4 [(3, .int (nI i)), (0, .ref q), (1, .int (nI pp)), (2, .int (nI ww))] → W p l e (zRm 7 171 0 0) s m args below meth c H locs 0 0 Q (F0 m 41 ls []) := by
          intro fl
          induction fl with
          | zero => intro i hi hfl; exact absurd hfl (Nat.not_lt_zero _)
          | succ fl ih41 =>
            intro i hi hfl41 H locs hB ls hl
            refine lv_iload_n hx hb dX8_drillAll_41 rfl (lv_at hl 0 rfl) ?_
            refine lv_aload_n hx hb dX8_drillAll_42 rfl (lv_at hl 1 rfl) ?_
            refine zget zf_X8_279 hF hB 0 rfl rfl dX8_drillAll_43 ?_
            refine lv_icmp_ge (tgt := 81) hx hb dX8_drillAll_46 (by decide) (fun h46 => ?_) (fun h46 => ?_)
            · skip
              have hie : aN bb.1 = i := bK_e hK hi (Int32.le_iff_toInt_le.mp h46)
              refine lv_aload_n hx hb dX8_drillAll_81 rfl (lv_at hl 1 rfl) ?_
              refine zget zf_X8_279 hF hB 0 rfl rfl dX8_drillAll_82 ?_
              exact zreti hF hB (pu23, sa23, ss23) (by rw [if_pos hk9, rpp, rww, hbb, if_neg h33]) (by rw [if_pos hk9, if_pos hk9, rpp, rww, hbb, hie, if_an hk9] <;> rfl) (rfl) dX8_drillAll_85 hQ
            · skip
              have hi2 : i < aN bb.1 ∧ aN bb.1 ≤ 4 := bK_l hK hi (Int32.lt_iff_toInt_lt.mp (Int32.not_le.mp h46))
              obtain ⟨c9, hc9, hca, hcz⟩ := hA i hi2.1
              refine lv_aload_n hx hb dX8_drillAll_49 rfl (lv_at hl 1 rfl) ?_
              refine zget zf_X8_32 hF hB 0 rfl rfl dX8_drillAll_50 ?_
              refine lv_bipush (v := 12) hx hb dX8_drillAll_53 (by decide) ?_
              refine lv_iload_n hx hb dX8_drillAll_55 rfl (lv_at hl 2 rfl) ?_
              refine lv_imul hx hb dX8_drillAll_56 ?_
              refine ztopi (y := nI (12 * pp)) (pk_mul 12 pp) ?_
              refine lv_aload_n hx hb dX8_drillAll_57 rfl (lv_at hl 1 rfl) ?_
              refine zget zf_X8_59 hF hB 0 rfl rfl dX8_drillAll_58 ?_
              refine lv_iload_n hx hb dX8_drillAll_61 rfl (lv_at hl 0 rfl) ?_
              refine ziald hF hB 9 rfl i (rfl) (by omega) (by decide) (v := (nI (c9 / 10))) (hca) dX8_drillAll_62 ?_
              refine lv_iadd hx hb dX8_drillAll_63 ?_
              refine ztopi (y := nI ((12 * pp) + (c9 / 10))) (nI_add (12 * pp) (c9 / 10)) ?_
              refine lv_aload_n hx hb dX8_drillAll_64 rfl (lv_at hl 1 rfl) ?_
              refine zget zf_X8_62 hF hB 0 rfl rfl dX8_drillAll_65 ?_
              refine lv_iload_n hx hb dX8_drillAll_68 rfl (lv_at hl 0 rfl) ?_
              refine ziald hF hB 10 rfl i (rfl) (by omega) (by decide) (v := (bb.2.2.2.2 i)) (rfl) dX8_drillAll_69 ?_
              refine ziast hF hB 5 rfl ((12 * pp) + (c9 / 10)) (rfl) (by omega) (by decide) dX8_drillAll_70 ?_
              clear hB
              try clear locs
              try clear H
              intro H locs hB
              replace hB : zB D A s ([(q, .inr (8, mX ad (bI o) z.1 z.2.1 z.2.2.1 z.2.2.2.1 (if 0 < i then (0 : Int32) else z.2.2.2.2.1) bb.1 (Int64.ofInt bb.2.1) (Int64.ofInt bb.2.2.1))), ((ad 9), .inl (ka 1, 4, .inr (.inl pu23))), ((ad 4), .inl (ka 0, 8, .inl mo)), ((ad 5), .inl (ka 0, 8, .inl an)), ((ad 6), .inl (ka 0, 8, .inl pl)), ((ad 7), .inl (ka 0, 24, .inl (upd (dhS pp bb i ho) ((12 * pp) + (c9 / 10)) (bb.2.2.2.2 i)))), ((ad 8), .inl (ka 0, 2, .inl le)), ((ad 14), .inl (ka 0, 4, .inl sa23)), ((ad 15), .inl (ka 0, 4, .inl ss23)), ((ad 16), .inl (ka 0, 4, .inl bb.2.2.2.1)), ((ad 17), .inl (ka 0, 4, .inl bb.2.2.2.2))]) H locs := hB
              refine lv_aload_n hx hb dX8_drillAll_71 rfl (lv_at hl 1 rfl) ?_
              refine zVv zm_X8_223 hF hB (c_X8_forgets l D ka kb q ad o (z.1, z.2.1, z.2.2.1, z.2.2.2.1, (if 0 < i then (0 : Int32) else z.2.2.2.2.1), bb.1, (Int64.ofInt bb.2.1), (Int64.ofInt bb.2.2.1)) ) [0] rfl (by decide) [q] (fun _ => rfl) rfl 0 8 rfl rfl rfl ⟨Nat.le_of_ble_eq_true rfl, Nat.le_of_ble_eq_true rfl⟩ rfl hl.1 (Nat.le_of_ble_eq_true rfl) ⟨Nat.le_refl _, Nat.le_refl _⟩ dX8_drillAll_72 ?_
              clear hB
              try clear locs
              try clear H
              intro u4 H locs hp hB
              replace hB : zB D A s ([(q, .inr (8, mX ad (bI o) z.1 z.2.1 z.2.2.1 z.2.2.2.1 (0 : Int32) bb.1 (Int64.ofInt bb.2.1) (Int64.ofInt bb.2.2.1))), ((ad 9), .inl (ka 1, 4, .inr (.inl pu23))), ((ad 4), .inl (ka 0, 8, .inl mo)), ((ad 5), .inl (ka 0, 8, .inl an)), ((ad 6), .inl (ka 0, 8, .inl pl)), ((ad 7), .inl (ka 0, 24, .inl (upd (dhS pp bb i ho) ((12 * pp) + (c9 / 10)) (bb.2.2.2.2 i)))), ((ad 8), .inl (ka 0, 2, .inl le)), ((ad 14), .inl (ka 0, 4, .inl sa23)), ((ad 15), .inl (ka 0, 4, .inl ss23)), ((ad 16), .inl (ka 0, 4, .inl bb.2.2.2.1)), ((ad 17), .inl (ka 0, 4, .inl bb.2.2.2.2))]) H locs := hB
              refine lv_iinc (v := nI (i + 1)) (lv' := [(3, .int (nI (i + 1))), (0, .ref q), (1, .int (nI pp)), (2, .int (nI ww))]) hx hb dX8_drillAll_75 hl (k := 0) rfl (nI_1 _) (by decide) rfl ?_
              clear hl
              clear ls
              intro ls hl
              refine lv_goto (tgt := 41) hx hb dX8_drillAll_78 (by decide) ?_
              exact ih41 (i + 1) (by omega) (by omega) _ _ (by rw [if_pos (Nat.succ_pos i), dhS, hca, aNn (n := 12) (by omega) (by decide)]; exact hB) _ (lv_sub hl [0, 1, 2, 3] rfl)
        exact lp41 (4 - 0 + 1) 0 (Nat.zero_le _) (by omega) _ _ (by rw [if_neg (Nat.lt_irrefl 0)]; exact hB) _ (lv_sub hl [0, 1, 2, 3] rfl)
      · skip
        refine lv_bipush (v := -3) hx hb dX8_drillAll_36 (by decide) ?_
        exact zreti hF hB (pu23, sa23, ss23) (by rw [if_pos hk9, rpp, rww, hbb, if_pos h33]) (by rw [if_pos hk9, if_pos hk9, rpp, rww, hbb, if_neg (fun e8 => by have e7 := e8.2; rw [h33] at e7; exact absurd e7 (by decide)), h33] <;> rfl) (rfl) dX8_drillAll_38 hQ
    · skip
      have hs9 : inI wq 5 = false := (zin_inI wq 5 (by decide) (by decide)).symm.trans (bI_eq0 h16)
      refine lv_bipush (v := -2) hx hb dX8_drillAll_19 (by decide) ?_
      have hk9 : ¬ dkK (nI pp) wq = true := by rw [show dkK (nI pp) wq = false from dB_f.mpr (fun e8 => by rw [hs9] at e8; exact absurd e8.2 (by decide))]; decide
      exact zreti hF hB (pu, sa, ss) (by rw [if_neg hk9]) (by rw [if_neg hk9, if_neg hk9, if_neg (fun e8 => hk9 e8.1), ← hbs, ← hbr] <;> rfl) (rfl) dX8_drillAll_21 hQ
