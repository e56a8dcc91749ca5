/-! the rotor -/
theorem okL_lump {L : Nat} {mo an pl : Nat → Int32} {m a p : Int32} (h : okL L mo an pl) (hb : luB m a p L = true) : okL (L + 1) (upd mo L m) (upd an L a) (upd pl L p) := by
  obtain ⟨⟨h1, h2, h3⟩, h4⟩ := dB_t.mp hb
  refine ⟨by omega, fun i hi => ?_⟩
  unfold upd
  by_cases e : i = L
  · rw [if_pos e, if_pos e, if_pos e]
    have e3 := dB_t.mp h3
    exact ⟨dB_t.mp h1, ⟨aN a, inI_lt h2 (by decide)⟩, by omega, by omega⟩
  · rw [if_neg e, if_neg e, if_neg e]
    exact h.2 i (by omega)
theorem okL_less {L : Nat} {mo an pl : Nat → Int32} (h : okL L mo an pl) : okL (L - 1) mo an pl := ⟨by have := h.1; omega, fun i hi => h.2 i (by omega)⟩
theorem okH_upd {ho : Nat → Int32} {k : Nat} {s : Int32} (h : okH ho) (hs : 0 ≤ s.toInt ∧ s.toInt ≤ 9) : okH (upd ho k s) := fun j hj => by
  unfold upd
  split
  · exact hs
  · exact h j hj
theorem drB_s {p a s : Int32} {le ho : Nat → Int32} (h : drB p a s le ho = true) : 0 ≤ s.toInt ∧ s.toInt ≤ 9 := by
  have h1 := dB_t.mp ((dB_t.mp ((dB_t.mp h).1)).2.2)
  omega
theorem be_tie {ga lg st : Nat → Int32} {bq pq wq vq : Int32} (h : LFb ga lg st) :
    (if beK bq pq wq vq = true then st (2 * (2 * aN bq + aN pq) + aN wq) else -2) = beA bq pq wq vq ga lg ∧
    LFb (if beK bq pq wq vq = true ∧ aN wq = 0 then upd ga (2 * aN bq + aN pq) vq else ga) (if beK bq pq wq vq = true ∧ aN wq ≠ 0 then upd lg (2 * aN bq + aN pq) vq else lg) (if beK bq pq wq vq = true then upd st (2 * (2 * aN bq + aN pq) + aN wq) vq else st) := by
  unfold beA
  by_cases c : beK bq pq wq vq = true
  · obtain ⟨h1, h2, h3, h4⟩ := dB_t.mp c
    have k1 := (inI_lt h1 (by decide)).1
    have k2 := (inI_lt h2 (by decide)).1
    have k3 := (inI_lt h3 (by decide)).1
    have k4 := dB_t.mp h4
    rw [if_pos c, if_pos c, if_pos c]
    have hs := h.2.2 (2 * aN bq + aN pq) (by omega)
    by_cases w : aN wq = 0
    · rw [if_pos w, if_pos ⟨c, w⟩, if_neg (fun e => e.2 w), w]
      rw [if_pos w] at k4
      refine ⟨hs.1, fun i hi => ?_, h.2.1, fun j hj => ?_⟩
      · unfold upd
        split
        · exact k4
        · exact h.1 i hi
      · unfold upd
        refine ⟨?_, ?_⟩
        · by_cases e : j = 2 * aN bq + aN pq
          · rw [if_pos (by omega), if_pos e]
          · rw [if_neg (by omega), if_neg e]; exact (h.2.2 j hj).1
        · rw [if_neg (by omega)]; exact (h.2.2 j hj).2
    · have w1 : aN wq = 1 := by omega
      rw [if_neg w, if_neg (fun e => w e.2), if_pos ⟨c, w⟩, w1]
      rw [if_neg w] at k4
      refine ⟨hs.2, h.1, fun i hi => ?_, fun j hj => ?_⟩
      · unfold upd
        split
        · exact ⟨aN vq, by unfold aN; omega, ofNat_of (by omega)⟩
        · exact h.2.1 i hi
      · unfold upd
        refine ⟨?_, ?_⟩
        · rw [if_neg (by omega)]; exact (h.2.2 j hj).1
        · by_cases e : j = 2 * aN bq + aN pq
          · rw [if_pos (by omega), if_pos e]
          · rw [if_neg (by omega), if_neg e]; exact (h.2.2 j hj).2
  · rw [if_neg c, if_neg c, if_neg c, if_neg (fun e => c e.1), if_neg (fun e => c e.1)]
    exact ⟨rfl, h⟩
/-! a register put -/
theorem put_tie {N : Nat → N5} {nu : Nat → Int64} {rr : Int32} {V : N5} (h : LFn N nu) (c : inI rr 6 = true) (hv : 0 < V.2.2.2.2.toInt) : LFn (upN N (aN rr) V) (setN nu rr.toInt.toNat V) := by
  refine h.up (some (aN rr, V)) (fun k v e => by cases e; exact ⟨(inI_lt c (by decide)).1, hv⟩) (fun k _ => by rw [upG_s]; rfl) (fun j _ => by rw [upG_s]; rfl) (fun k _ => ?_)
  rw [upG_s]
  by_cases e : k = aN rr
  · rw [if_pos e, e]; exact getN_same _ _ _
  · rw [if_neg e]; exact getN_ne _ _ _ _ e
theorem put_k {N : Nat → N5} {kp : Nat → Bool} {tr rr : Int32} {pm pa : Nat → Int32} {V : N5} (h : LFk kp tr pm pa N) (c : inI rr 6 = true) : LFk kp tr pm pa (upN N (aN rr) V) := h.keep (fun k _ _ => upN_ne (by have := (inI_lt c (by decide)).1; omega))
theorem part_tie {N : Nat → N5} {nu : Nat → Int64} {rr pp : Int32} (h : LFn N nu) : (if inI rr 6 = true ∧ inI pp 5 = true then cmp5 (N (aN rr)) (aN pp) else lMin - (-2 : Int32).toInt64) = if inI rr 6 = true ∧ inI pp 5 = true then nu (5 * rr.toInt.toNat + pp.toInt.toNat) else lMin - (-2 : Int32).toInt64 := by
  by_cases c : inI rr 6 = true ∧ inI pp 5 = true
  · rw [if_pos c, if_pos c, h.2.1 _ (inI_lt c.1 (by decide)).1]
    exact (cmp5_get nu _ (inI_lt c.2 (by decide)).1).symm
  · rw [if_neg c, if_neg c]
/-! a trial -/
theorem rdT_d {k m a : Int32} {L : Nat} {mo an pl ho ga lg : Nat → Int32} {b : Nat} (hok : okL L mo an pl) (hoh : okH ho) (hga : ∀ i, i < 4 → 0 ≤ (ga i).toInt ∧ (ga i).toInt ≤ 9) (hlg : ∀ i, i < 4 → ∃ l9, l9 < 12 ∧ lg i = nI l9) (hb : b < 2) (h : trK k m a = true) : 0 < (rdT k m a L mo an pl ho ga lg b).2.2.2.2.toInt := by
  obtain ⟨h1, h2⟩ := dB_t.mp h
  have hl : ∀ i, i < 4 → aN (lg i) < 12 := fun i hi => by
    obtain ⟨x, x1, x2⟩ := hlg i hi
    rw [x2, aNn x1 (by decide)]; exact x1
  have hk := inI_lt h1 (by decide)
  have hm : aN k ≠ 0 → (1 ≤ m.toInt ∧ m.toInt ≤ 99) ∧ aN a < 12 := fun e => by
    rcases h2 with h2 | h2
    · rw [h2] at e; exact absurd rfl e
    · exact ⟨dB_t.mp h2.1, (inI_lt h2.2 (by decide)).1⟩
  have ha : (if aN k = 0 then 0 else aN a) < 12 := by
    split
    · decide
    · rename_i e; exact (hm e).2
  have hy : ∀ p, 0 ≤ (if aN k = p + 1 then m.toInt else 0) ∧ (if aN k = p + 1 then m.toInt else 0) ≤ 99 := fun p => by
    split
    · rename_i e
      have := (hm (by omega)).1
      omega
    · omega
  have h9 := (rd3_o (pulI_bd (p := 0) (by decide) hok hoh) (pulI_bd (p := 1) (by decide) hok hoh) ha (hy 0) (hy 1) (hga (2 * b + 0) (by omega)) (hga (2 * b + 1) (by omega)) (hl (2 * b + 0) (by omega)) (hl (2 * b + 1) (by omega))).2
  have h8 := h9.2.2.2.2.1
  exact h8
theorem trial_tie {kp : Nat → Bool} {tr : Int32} {pm pa : Nat → Int32} {N N' : Nat → N5} {nu nu' : Nat → Int64} {L : Nat} {mo an pl ho ga lg : Nat → Int32} {kq mq aq : Int32} (hn : LFn N nu) (hk : LFk kp tr pm pa N) (hok : okL L mo an pl) (hoh : okH ho) (hga : ∀ i, i < 4 → 0 ≤ (ga i).toInt ∧ (ga i).toInt ≤ 9) (hlg : ∀ i, i < 4 → ∃ l9, l9 < 12 ∧ lg i = nI l9) (h : trK kq mq aq = true)
    (h7 : (∀ k9, k9 ≠ 21 → k9 ≠ 22 → k9 ≠ 8 + (2 * aN kq + 0) → k9 ≠ 8 + (2 * aN kq + 1) → (k9 = 14 + aN kq → aN kq = 0) → N' k9 = N k9) ∧ (∀ b, b < 2 → N' (8 + (2 * aN kq + b)) = rdT kq mq aq L mo an pl ho ga lg b) ∧ (aN kq ≠ 0 → N' (14 + aN kq) = wyN mq.toInt (aN aq)))
    (h8 : keepN [20, 21, 22, 23, 24, 25, 6 + 2 * aN kq, 6 + 2 * aN kq + 1] nu nu' ∧ ∀ b9, b9 < 2 → getN nu' (6 + 2 * aN kq + b9) = rdT kq mq aq L mo an pl ho ga lg b9) :
    LFn N' nu' ∧ LFk (ktB kp (aN kq)) (tr ||| ((1 : Int32) <<< (kq &&& 31))) (upd pm (aN kq) (if aN kq = 0 then 0 else mq)) (upd pa (aN kq) (if aN kq = 0 then 0 else aq)) N' ∧ ktS (ktB kp (aN kq)) 3 = bcnt (tr ||| ((1 : Int32) <<< (kq &&& 31))) 12 := by
  obtain ⟨c1, c2⟩ := dB_t.mp h
  have kl := inI_lt c1 (by decide)
  have hm : aN kq ≠ 0 → (1 ≤ mq.toInt ∧ mq.toInt ≤ 99) ∧ inI aq 12 = true := fun e => by
    rcases c2 with c2 | c2
    · rw [c2] at e; exact absurd rfl e
    · exact ⟨dB_t.mp c2.1, c2.2⟩
  have keep8 : ∀ k, k < 12 → k ≠ 6 + 2 * aN kq → k ≠ 6 + 2 * aN kq + 1 → getN nu' k = getN nu k := fun k h1 h2 h3 => h8.1.get (by simp; omega)
  have hkk : LFk (ktB kp (aN kq)) (tr ||| ((1 : Int32) <<< (kq &&& 31))) (upd pm (aN kq) (if aN kq = 0 then 0 else mq)) (upd pa (aN kq) (if aN kq = 0 then 0 else aq)) N' := by
    obtain ⟨t, ht, et⟩ := hk.2.1
    have eb : ∀ j, j < 3 → kpB (tr ||| ((1 : Int32) <<< (kq &&& 31))) j = if j = aN kq then true else kpB tr j := fun j hj => by
      rw [et, kl.2, tr_set ht kl.1 hj, aNn kl.1 (by decide)]
    refine ⟨fun k h9 => ?_, ?_, fun k h9 k0 e => ?_, fun k k1 h9 e => ?_⟩
    · rw [eb k h9]
      unfold ktB
      rw [hk.1 k h9]
    · rw [et, kl.2]; exact tr_rng ht kl.1
    · unfold upd
      by_cases e9 : k = aN kq
      · rw [if_pos e9, if_pos e9, if_neg (by omega), if_neg (by omega)]
        have h1 := hm (by omega)
        exact ⟨h1.1, aN aq, inI_lt h1.2 (by decide)⟩
      · rw [if_neg e9, if_neg e9]
        rw [eb k h9, if_neg e9] at e
        exact hk.2.2.1 k h9 k0 e
    · unfold upd
      by_cases e9 : k = aN kq
      · rw [if_pos e9, if_pos e9, if_neg (by omega), if_neg (by omega), e9]
        exact h7.2.2 (by omega)
      · rw [if_neg e9, if_neg e9, h7.1 _ (by omega) (by omega) (by omega) (by omega) (by omega)]
        rw [eb k h9, if_neg e9] at e
        exact hk.2.2.2 k k1 h9 e
  refine ⟨⟨fun k hk9 => ?_, fun k hk9 => ?_, fun j hj => ?_⟩, hkk, hkk.sum⟩
  · by_cases e : k = 6 + 2 * aN kq
    · have := h8.2 0 (by decide)
      rw [e, show 6 + 2 * aN kq = 6 + 2 * aN kq + 0 from rfl, this]
      exact rdT_d hok hoh hga hlg (by decide) h
    · by_cases e2 : k = 6 + 2 * aN kq + 1
      · rw [e2, h8.2 1 (by decide)]
        exact rdT_d hok hoh hga hlg (by decide) h
      · rw [keep8 k hk9 e e2]; exact hn.1 k hk9
  · rw [h7.1 k (by omega) (by omega) (by omega) (by omega) (by omega), keep8 k (by omega) (by omega) (by omega)]
    exact hn.2.1 k hk9
  · by_cases e : j = 2 * aN kq
    · have h1 := h7.2.1 0 (by decide)
      have h2 := h8.2 0 (by decide)
      rw [e]
      exact h1.trans h2.symm
    · by_cases e2 : j = 2 * aN kq + 1
      · have h1 := h7.2.1 1 (by decide)
        have h2 := h8.2 1 (by decide)
        rw [e2, show 6 + (2 * aN kq + 1) = 6 + 2 * aN kq + 1 by omega]
        exact h1.trans h2.symm
      · rw [h7.1 _ (by omega) (by omega) (by omega) (by omega) (by omega), keep8 _ (by omega) (by omega) (by omega)]
        exact hn.2.2 j hj
/-! the search -/
theorem dhS_R {p : Nat} {b b2 : bT} {ho : Nat → Int32} : ∀ n, (∀ i, i < n → b.2.2.2.1 i = b2.2.2.2.1 i ∧ b.2.2.2.2 i = b2.2.2.2.2 i) → dhS p b n ho = dhS p b2 n ho
  | 0, _ => rfl
  | n + 1, h => by
    show upd (dhS p b n ho) (12 * p + aN (b.2.2.2.1 n)) (b.2.2.2.2 n) = upd (dhS p b2 n ho) (12 * p + aN (b2.2.2.2.1 n)) (b2.2.2.2.2 n)
    rw [(h n (by omega)).1, (h n (by omega)).2, dhS_R n (fun i hi => h i (by omega))]
theorem dhS_ok {p : Nat} {b : bT} {ho : Nat → Int32} (hA : bA b) (h : okH ho) : ∀ n, n ≤ aN b.1 → okH (dhS p b n ho)
  | 0, _ => h
  | n + 1, hn => by
    obtain ⟨c, h1, h2, h3⟩ := hA n (by omega)
    refine okH_upd (dhS_ok hA h n (by omega)) ?_
    rw [h3, nI_toInt (by omega)]
    omega
theorem bR_2 {b c d : bT} (h1 : bR b d) (h2 : bR c d) : b.1 = c.1 ∧ ∀ i, i < aN b.1 → b.2.2.2.1 i = c.2.2.2.1 i ∧ b.2.2.2.2 i = c.2.2.2.2 i := by
  have e1 : b.1 = c.1 := h1.1.trans h2.1.symm
  refine ⟨e1, fun i hi => ?_⟩
  by_cases e : b.1 = -1
  · rw [e] at hi; exact absurd hi (Nat.not_lt_zero _)
  · have x := (h1.2 e).2.2 i hi
    have y := (h2.2 (by rw [← e1]; exact e)).2.2 i (by rw [← e1]; exact hi)
    exact ⟨x.1.trans y.1.symm, x.2.trans y.2.symm⟩
theorem fw_tie {P : Nat → Int} {li : Int} {ok : Nat → Bool} {bb : bT} {b0 b1 : Int} {ba bz : Nat → Int32} {c w : Nat} (hw : w ≤ 4) : fwA c (seS (fun n b => srR ok (lkU P li) n 1 [] b) (w + 1) ((-1 : Int32), bb.2)) = fwA c (seS (fun n b => srR ok (lkU P li) n 1 [] b) (w + 1) ((-1 : Int32), b0, b1, ba, bz)) :=
  (fwA_R (seB_R hw)).trans (fwA_R (seB_R hw)).symm
theorem se_tie {P : Nat → Int} {li : Int} {ok : Nat → Bool} {bb : bT} {b0 b1 : Int} {ba bz : Nat → Int32} {w : Nat} (hw : w ≤ 4) : (seS (fun n b => srR ok (lkU P li) n 1 [] b) (w + 1) ((-1 : Int32), bb.2)).1 = (seS (fun n b => srR ok (lkU P li) n 1 [] b) (w + 1) ((-1 : Int32), b0, b1, ba, bz)).1 ∧
    ∀ i, i < aN (seS (fun n b => srR ok (lkU P li) n 1 [] b) (w + 1) ((-1 : Int32), bb.2)).1 → (seS (fun n b => srR ok (lkU P li) n 1 [] b) (w + 1) ((-1 : Int32), bb.2)).2.2.2.1 i = (seS (fun n b => srR ok (lkU P li) n 1 [] b) (w + 1) ((-1 : Int32), b0, b1, ba, bz)).2.2.2.1 i ∧ (seS (fun n b => srR ok (lkU P li) n 1 [] b) (w + 1) ((-1 : Int32), bb.2)).2.2.2.2 i = (seS (fun n b => srR ok (lkU P li) n 1 [] b) (w + 1) ((-1 : Int32), b0, b1, ba, bz)).2.2.2.2 i :=
  bR_2 (seB_R hw) (seB_R hw)
theorem spZ_k {m : Int32} {a : Nat} {mq : Int32} {cc : Nat} {nu : Nat → Int64} : keepN [29] nu (spZ m a mq cc nu).2 := by
  unfold spZ
  split
  · exact keepN.rf
  · split
    · exact keepN.rf
    · split
      · split <;> exact keepN.rf
      · split
        · exact keepN.set keepN.rf (by simp) _
        · exact keepN.set keepN.rf (by simp) _
theorem keep29 {nu u : Nat → Int64} (h : keepN [29] nu u) : ∀ k, k < 12 → getN u k = getN nu k := fun k hk => h.get (by simp; omega)
theorem keep38 {nu u : Nat → Int64} (h : keepN [38] nu u) : ∀ k, k < 12 → getN u k = getN nu k := fun k hk => h.get (by simp; omega)
