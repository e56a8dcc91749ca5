/-! the two states side by side: what they have in common, and that a call keeps it -/
def LFa (L : Nat) (mo an pl ho : Nat → Int32) (sz9 re9 : Int32) (sz : Nat → Int32) : Prop := okL L mo an pl ∧ okH ho ∧ (0 ≤ re9.toInt ∧ re9.toInt ≤ 99) ∧ szK sz9 = true ∧ okSz sz
def LFb (ga lg st : Nat → Int32) : Prop := (∀ i, i < 4 → 0 ≤ (ga i).toInt ∧ (ga i).toInt ≤ 9) ∧ (∀ i, i < 4 → ∃ l9, l9 < 12 ∧ lg i = nI l9) ∧ ∀ j, j < 4 → st (2 * j) = ga j ∧ st (2 * j + 1) = lg j
def LFc (bb : bT) (b0 b1 : Int) : Prop := bB bb ∧ ((0 ≤ b0 ∧ b0 ≤ 1270000000) ∧ (-730000000 ≤ b1 ∧ b1 ≤ 730000000))
def LFn (N : Nat → N5) (nu : Nat → Int64) : Prop := (∀ k, k < 12 → 0 < (getN nu k).2.2.2.2.toInt) ∧ (∀ k, k < 6 → N k = getN nu k) ∧ ∀ j, j < 6 → N (8 + j) = getN nu (6 + j)
def LFk (kp : Nat → Bool) (tr : Int32) (pm pa : Nat → Int32) (N : Nat → N5) : Prop := (∀ k, k < 3 → kp k = kpB tr k) ∧ (∃ t, t < 8 ∧ tr = nI t) ∧ (∀ k, k < 3 → k ≠ 0 → kpB tr k = true → (1 ≤ (pm k).toInt ∧ (pm k).toInt ≤ 99) ∧ ∃ a, a < 12 ∧ pa k = nI a) ∧ ∀ k, 1 ≤ k → k < 3 → kpB tr k = true → N (14 + k) = wyN (pm k).toInt (aN (pa k))
theorem upG_s (G : Nat → N5) (i : Nat) (v : N5) (k : Nat) : upG G (some (i, v)) k = if k = i then v else G k := rfl
theorem upG_n (G : Nat → N5) (k : Nat) : upG G none k = G k := rfl
theorem LFn.up {N N' : Nat → N5} {nu nu' : Nat → Int64} (h : LFn N nu) (u : Option (Nat × N5)) (hu : ∀ k v, u = some (k, v) → k < 6 ∧ 0 < v.2.2.2.2.toInt) (h1 : ∀ k, k < 6 → N' k = upG N u k) (h2 : ∀ j, j < 6 → N' (8 + j) = upG N u (8 + j)) (h3 : ∀ k, k < 12 → getN nu' k = upG (getN nu) u k) : LFn N' nu' := by
  cases u with
  | none => exact ⟨fun k hk => by rw [h3 k hk]; exact h.1 k hk, fun k hk => by rw [h1 k hk, h3 k (by omega)]; exact h.2.1 k hk, fun j hj => by rw [h2 j hj, h3 (6 + j) (by omega)]; exact h.2.2 j hj⟩
  | some q =>
    obtain ⟨i, v⟩ := q
    obtain ⟨hi, hv⟩ := hu i v rfl
    refine ⟨fun k hk => ?_, fun k hk => ?_, fun j hj => ?_⟩
    · rw [h3 k hk, upG_s]
      split
      · exact hv
      · exact h.1 k hk
    · rw [h1 k hk, h3 k (by omega), upG_s, upG_s]
      split
      · rfl
      · exact h.2.1 k hk
    · rw [h2 j hj, h3 (6 + j) (by omega), upG_s, upG_s, if_neg (by omega), if_neg (by omega)]
      exact h.2.2 j hj
theorem LFn.keep {N N' : Nat → N5} {nu nu' : Nat → Int64} (h : LFn N nu) (h1 : ∀ k, k < 6 → N' k = N k) (h2 : ∀ j, j < 6 → N' (8 + j) = N (8 + j)) (h3 : ∀ k, k < 12 → getN nu' k = getN nu k) : LFn N' nu' :=
  h.up none (fun _ _ e => by cases e) h1 h2 h3
theorem LFk.keep {kp : Nat → Bool} {tr : Int32} {pm pa : Nat → Int32} {N N' : Nat → N5} (h : LFk kp tr pm pa N) (h1 : ∀ k, 1 ≤ k → k < 3 → N' (14 + k) = N (14 + k)) : LFk kp tr pm pa N' :=
  ⟨h.1, h.2.1, h.2.2.1, fun k a b c => (h1 k a b).trans (h.2.2.2 k a b c)⟩
theorem kpB_0 : ∀ k, k < 3 → kpB 0 k = false := fun k hk => dB_f.mpr (by
  have e : ∀ k, k < 3 → ¬ lgX 0 k = 1 := by decide
  exact e k hk)
theorem LFk.fg {kp : Nat → Bool} {tr : Int32} {pm pa : Nat → Int32} {N : Nat → N5} (h : LFk kp tr pm pa N) : LFk (fgB kp 3) 0 pm pa N :=
  ⟨fun k hk => by rw [kpB_0 k hk]; exact if_pos hk, ⟨0, by decide, rfl⟩, fun k hk _ e => absurd ((kpB_0 k hk).symm.trans e) (by decide), fun k _ hk e => absurd ((kpB_0 k hk).symm.trans e) (by decide)⟩
theorem kp_bit {t k : Nat} : bI (kpB (nI t) k) = lgX (nI t) k := by
  by_cases e : lgX (nI t) k = 1
  · rw [show kpB (nI t) k = true from dB_t.mpr e, e]; rfl
  · rw [show kpB (nI t) k = false from dB_f.mpr e, Decidable.of_not_not (mt lgX_1 e)]; rfl
theorem LFk.sum {kp : Nat → Bool} {tr : Int32} {pm pa : Nat → Int32} {N : Nat → N5} (h : LFk kp tr pm pa N) : ktS kp 3 = bcnt tr 12 := by
  obtain ⟨t, ht, e⟩ := h.2.1
  have e3 : ktS kp 3 = 0 + bI (kp 0) + bI (kp 1) + bI (kp 2) := rfl
  rw [e3, h.1 0 (by decide), h.1 1 (by decide), h.1 2 (by decide), e, kp_bit, kp_bit, kp_bit]
  have e9 : ∀ t, t < 8 → 0 + lgX (nI t) 0 + lgX (nI t) 1 + lgX (nI t) 2 = bcnt (nI t) 12 := by decide
  exact e9 t ht
theorem LFk.seven {kp : Nat → Bool} {tr : Int32} {pm pa : Nat → Int32} {N : Nat → N5} (h : LFk kp tr pm pa N) : ktS kp 3 < 3 ↔ ¬ tr = 7 := by
  rw [h.sum]
  obtain ⟨t, ht, e⟩ := h.2.1
  rw [e]
  have e9 : ∀ t, t < 8 → (bcnt (nI t) 12 < 3 ↔ ¬ nI t = 7) := by decide
  exact e9 t ht
/-- a trial kept: the bit is set -/
theorem tr_set {t k j : Nat} (ht : t < 8) (hk : k < 3) (hj : j < 3) : kpB (nI t ||| ((1 : Int32) <<< (nI k &&& 31))) j = if j = k then true else kpB (nI t) j := by
  have e9 : ∀ t, t < 8 → ∀ k, k < 3 → ∀ j, j < 3 → (lgX (nI t ||| ((1 : Int32) <<< (nI k &&& 31))) j = 1 ↔ (j = k ∨ lgX (nI t) j = 1)) := by decide
  have e8 := e9 t ht k hk j hj
  by_cases e : j = k
  · rw [if_pos e]
    exact dB_t.mpr (e8.mpr (Or.inl e))
  · rw [if_neg e]
    exact dB_c ⟨fun h => (e8.mp h).elim (fun h9 => absurd h9 e) id, fun h => e8.mpr (Or.inr h)⟩
theorem tr_rng {t k : Nat} (ht : t < 8) (hk : k < 3) : ∃ u, u < 8 ∧ (nI t ||| ((1 : Int32) <<< (nI k &&& 31))) = nI u := by
  have e9 : ∀ t, t < 8 → ∀ k, k < 3 → ∃ u, u < 8 ∧ (nI t ||| ((1 : Int32) <<< (nI k &&& 31))) = nI u := by decide
  exact e9 t ht k hk
theorem inI_lt {v : Int32} {n : Nat} (h : inI v n = true) (hn : n < 2 ^ 31) : aN v < n ∧ v = nI (aN v) := by
  obtain ⟨k, h1, h2⟩ := inI_of h hn
  subst h2
  rw [aNn h1 hn]
  exact ⟨h1, rfl⟩
theorem aN_i {v : Int32} : v.toInt.toNat = aN v := rfl
/-! count, reading, digest -/
theorem ct_tie {la sz re tr bm : Int32} {bs br : Int64} {L : Nat} {mo an pl ho pm pa : Nat → Int32} {kp : Nat → Bool} {N : Nat → N5} {kq : Int32} (h : LFk kp tr pm pa N) : (if inI kq 9 = true then ctK la sz re L mo an pl ho kp (aN kq) else -2) = ctV (la, nI L, sz, re, tr, bm, bs, br) L mo an pl ho kq := by
  unfold ctV
  by_cases c : inI kq 9 = true
  case neg => rw [if_neg c, if_neg c]
  rw [if_pos c, if_pos c]
  generalize aN kq = k
  match k with
  | 0 => rfl
  | 1 => rfl
  | 2 => rfl
  | 3 => exact h.sum
  | 4 => rfl
  | 5 => rfl
  | 6 => rfl
  | 7 => rfl
  | _ + 8 => rfl
theorem ctK_W {la sz re tr bm : Int32} {bs br : Int64} {L : Nat} {mo an pl ho pm pa : Nat → Int32} {kp : Nat → Bool} {N : Nat → N5} (h : LFk kp tr pm pa N) (k : Nat) (hk : k < 9) : ctK la sz re L mo an pl ho kp k = ctW (la, nI L, sz, re, tr, bm, bs, br) L mo an pl ho k := by
  have h2 := ct_tie (la := la) (sz := sz) (re := re) (bm := bm) (bs := bs) (br := br) (L := L) (mo := mo) (an := an) (pl := pl) (ho := ho) (kq := nI k) h
  unfold ctV at h2
  rw [if_pos (inI_nI hk (by decide)), if_pos (inI_nI hk (by decide)), aNn hk (by decide)] at h2
  exact h2
theorem nN_nu {N : Nat → N5} {nu : Nat → Int64} (h : LFn N nu) {j : Nat} (hj : j < 30) : nN N j = nu j := by
  unfold nN
  rw [h.2.1 (j / 5) (by omega), ← cmp5_get nu (j / 5) (by omega), show 5 * (j / 5) + j % 5 = j by omega]
theorem dgA_tie {la sz re tr bm : Int32} {bs br : Int64} {L : Nat} {mo an pl ho pm pa : Nat → Int32} {kp : Nat → Bool} {N : Nat → N5} (h : LFk kp tr pm pa N) : ∀ k, k ≤ 9 → dqA la sz re L mo an pl ho kp k = dgA (la, nI L, sz, re, tr, bm, bs, br) L mo an pl ho k
  | 0, _ => rfl
  | k + 1, hk => by
    show 31 * dqA la sz re L mo an pl ho kp k + (ctK la sz re L mo an pl ho kp k).toInt64 = 31 * dgA (la, nI L, sz, re, tr, bm, bs, br) L mo an pl ho k + (ctW (la, nI L, sz, re, tr, bm, bs, br) L mo an pl ho k).toInt64
    rw [dgA_tie (tr := tr) (bm := bm) (bs := bs) (br := br) h k (by omega), ctK_W (tr := tr) (bm := bm) (bs := bs) (br := br) h k (by omega)]
theorem dgN_tie {N : Nat → N5} {nu : Nat → Int64} (h : LFn N nu) {d : Int64} : ∀ k, k ≤ 30 → dgN (nN N) d k = dgN nu d k
  | 0, _ => rfl
  | k + 1, hk => by
    show 31 * dgN (nN N) d k + nN N k = 31 * dgN nu d k + nu k
    rw [dgN_tie h k (by omega), nN_nu h (by omega)]
theorem dgP_tie {z z2 : mZ} {L : Nat} {mo an pl ho le : Nat → Int32} {d : Int64} (h1 : z.2.2.1 = z2.2.2.1) (h2 : z.2.2.2.1 = z2.2.2.2.1) : ∀ p, dgP z L mo an pl ho le d p = dgP z2 L mo an pl ho le d p
  | 0 => rfl
  | p + 1 => by
    show ptV z.2.2.1 z.2.2.2.1.toInt _ le ho p (dgP z L mo an pl ho le d p) = ptV z2.2.2.1 z2.2.2.2.1.toInt _ le ho p (dgP z2 L mo an pl ho le d p)
    rw [h1, h2, dgP_tie h1 h2 p]
theorem rq_rb {kp : Nat → Bool} {tr : Int32} {pm pa : Nat → Int32} {N : Nat → N5} {nu : Nat → Int64} (hn : LFn N nu) (hk : LFk kp tr pm pa N) {k b c : Nat} (h1 : k < 3) (h2 : b < 2) : rqX kp N k b c = rbX tr nu k b c := by
  unfold rqX rbX
  rw [hk.1 k h1, hn.2.2 (2 * k + b) (by omega), show 6 + (2 * k + b) = 6 + 2 * k + b by omega]
theorem dqC_tie {kp : Nat → Bool} {tr : Int32} {pm pa : Nat → Int32} {N : Nat → N5} {nu : Nat → Int64} (hn : LFn N nu) (hk : LFk kp tr pm pa N) {k b : Nat} {d : Int64} (h1 : k < 3) (h2 : b < 2) : ∀ c, dqC kp N k b d c = dgC tr nu k b d c
  | 0 => rfl
  | c + 1 => by
    show 31 * dqC kp N k b d c + rqX kp N k b c = 31 * dgC tr nu k b d c + rbX tr nu k b c
    rw [dqC_tie hn hk h1 h2 c, rq_rb hn hk h1 h2]
theorem dqB_tie {kp : Nat → Bool} {tr : Int32} {pm pa : Nat → Int32} {N : Nat → N5} {nu : Nat → Int64} (hn : LFn N nu) (hk : LFk kp tr pm pa N) {k : Nat} {d : Int64} (h1 : k < 3) : ∀ b, b ≤ 2 → dqB kp N k d b = dgB2 tr nu k d b
  | 0, _ => rfl
  | b + 1, hb => by
    show dqC kp N k b (dqB kp N k d b) 5 = dgC tr nu k b (dgB2 tr nu k d b) 5
    rw [dqB_tie hn hk h1 b (by omega), dqC_tie hn hk h1 (by omega)]
theorem dqK_tie {kp : Nat → Bool} {tr : Int32} {pm pa : Nat → Int32} {N : Nat → N5} {nu : Nat → Int64} (hn : LFn N nu) (hk : LFk kp tr pm pa N) {d : Int64} : ∀ k, k ≤ 3 → dqK kp N d k = dgK tr nu d k
  | 0, _ => rfl
  | k + 1, h => by
    show dqB kp N k (dqK kp N d k) 2 = dgB2 tr nu k (dgK tr nu d k) 2
    rw [dqK_tie hn hk k (by omega), dqB_tie hn hk (by omega) 2 (Nat.le_refl _)]
theorem dg_tie {la sz re tr bm : Int32} {bs br : Int64} {L : Nat} {mo an pl ho le pm pa : Nat → Int32} {kp : Nat → Bool} {N : Nat → N5} {nu : Nat → Int64} (hn : LFn N nu) (hk : LFk kp tr pm pa N) : dqV la sz re L mo an pl ho le kp N = dgV (la, nI L, sz, re, tr, bm, bs, br) nu L mo an pl ho le := by
  unfold dqV dgV
  rw [dqK_tie hn hk 3 (Nat.le_refl _), dgA_tie (tr := tr) (bm := bm) (bs := bs) (br := br) hk 8 (by omega), dgN_tie hn 30 (Nat.le_refl _), dgP_tie (z := (la, nI L, sz, re, 0, 0, 0, 0)) (z2 := (la, nI L, sz, re, tr, bm, bs, br)) rfl rfl]
theorem rd_tie {kp : Nat → Bool} {tr : Int32} {pm pa : Nat → Int32} {N : Nat → N5} {nu : Nat → Int64} (hn : LFn N nu) (hk : LFk kp tr pm pa N) {kq bq cq : Int32} : (if rdK kq bq cq = true then (if kp (aN kq) = true then cmp5 (N (8 + (2 * aN kq + aN bq))) (aN cq) else lMin - (-3 : Int32).toInt64) else lMin - (-2 : Int32).toInt64) = rdW kq bq cq tr (getN nu) := by
  unfold rdW
  by_cases h : rdK kq bq cq = true
  · rw [if_pos h, if_pos h]
    have h2 := dB_t.mp h
    have k1 := (inI_lt h2.1 (by decide)).1
    have k2 := (inI_lt h2.2.1 (by decide)).1
    rw [hk.1 _ k1, hn.2.2 (2 * aN kq + aN bq) (by omega), show 6 + (2 * aN kq + aN bq) = 6 + 2 * aN kq + aN bq by omega]
  · rw [if_neg h, if_neg h]
/-! the registers' reckoning -/
theorem rk_c {w r s t : Int32} {G G2 : Nat → N5} (h : ∀ k, k < 6 → G k = G2 k) : rkV w r s t G = rkV w r s t G2 := by
  unfold rkV
  by_cases c : inI w 4 = true ∧ inI r 6 = true ∧ inI s 6 = true ∧ inI t 6 = true
  · rw [show G r.toInt.toNat = G2 r.toInt.toNat from h _ (inI_lt c.2.1 (by decide)).1, show G s.toInt.toNat = G2 s.toInt.toNat from h _ (inI_lt c.2.2.1 (by decide)).1]
  · rw [if_pos c, if_pos c]
theorem rk_d {w r s t : Int32} {G : Nat → N5} (h : ∀ k, k < 6 → 0 < (G k).2.2.2.2.toInt) : ∀ k v, (rkV w r s t G).2 = some (k, v) → k < 6 ∧ 0 < v.2.2.2.2.toInt := by
  intro k v e
  unfold rkV at e
  by_cases c : inI w 4 = true ∧ inI r 6 = true ∧ inI s 6 = true ∧ inI t 6 = true
  · rw [if_neg (fun e9 => e9 c)] at e
    have dr := h _ (inI_lt c.2.1 (by decide)).1
    have ds := h _ (inI_lt c.2.2.1 (by decide)).1
    by_cases c2 : w = 3 ∧ zeroN (G s.toInt.toNat) = true
    · rw [if_pos c2] at e; cases e
    · rw [if_neg c2] at e
      by_cases c3 : opO w (G r.toInt.toNat) (G s.toInt.toNat) = true
      · rw [if_pos c3] at e; cases e
      · rw [if_neg c3] at e
        have c4 : opO w (G r.toInt.toNat) (G s.toInt.toNat) = false := by
          cases h9 : opO w (G r.toInt.toNat) (G s.toInt.toNat) with
          | true => exact absurd h9 c3
          | false => rfl
        cases e
        refine ⟨(inI_lt c.2.2.2 (by decide)).1, ?_⟩
        unfold opO at c4
        unfold opV
        by_cases w2 : w < 2
        · rw [if_pos w2] at c4 ⊢
          exact sumV_d c4 dr ds
        · rw [if_neg w2] at c4 ⊢
          by_cases w3 : w = 2
          · rw [if_pos w3] at c4 ⊢
            exact prodV_d c4 dr ds
          · rw [if_neg w3] at c4 ⊢
            refine quoV_d c4 dr ?_
            have hw : w = 3 := by
              have h1 := (inI_lt c.1 (by decide))
              have e9 : ∀ k, k < 4 → ¬ nI k < 2 → ¬ nI k = 2 → nI k = 3 := by decide
              rw [h1.2] at w2 w3 ⊢
              exact e9 _ h1.1 w2 w3
            cases h9 : zeroN (G s.toInt.toNat) with
            | true => exact absurd ⟨hw, h9⟩ c2
            | false => rfl
  · rw [if_pos c] at e; cases e
theorem cmp_c {r s : Int32} {G G2 : Nat → N5} (h : ∀ k, k < 6 → G k = G2 k) : cmpV r s G = cmpV r s G2 := by
  unfold cmpV
  by_cases c : inI r 6 = true ∧ inI s 6 = true
  · rw [show G r.toInt.toNat = G2 r.toInt.toNat from h _ (inI_lt c.1 (by decide)).1, show G s.toInt.toNat = G2 s.toInt.toNat from h _ (inI_lt c.2 (by decide)).1]
  · rw [if_pos c, if_pos c]
/-! the unbalance found -/
theorem gC_tie {N : Nat → N5} {nu : Nat → Int64} (h : LFn N nu) : ∀ j, 6 ≤ j → j < 12 → gC N j = getN nu j := fun j h1 h2 => by
  have e := h.2.2 (j - 6) (by omega)
  rw [show 6 + (j - 6) = j by omega] at e
  rw [← e]
  show N (j + 2) = _
  rw [show j + 2 = 8 + (j - 6) by omega]
theorem efO_e {G G2 : Nat → N5} {m a : Nat → Int32} {p b : Nat} (hp : p < 2) (hb : b < 2) (h : ∀ j, 6 ≤ j → j < 12 → G j = G2 j) : efO G m a p b = efO G2 m a p b := efO_c (h _ (by omega) (by omega)) (h _ (by omega) (by omega))
theorem efV_e {G G2 : Nat → N5} {m a : Nat → Int32} {p b : Nat} (hp : p < 2) (hb : b < 2) (h : ∀ j, 6 ≤ j → j < 12 → G j = G2 j) : efV G m a p b = efV G2 m a p b := efV_c (h _ (by omega) (by omega)) (h _ (by omega) (by omega))
theorem foO_e {G G2 : Nat → N5} {m a : Nat → Int32} (h : ∀ j, 6 ≤ j → j < 12 → G j = G2 j) : foO G m a = foO G2 m a := by
  unfold foO
  rw [efO_e (p := 0) (b := 0) (by decide) (by decide) h, efO_e (p := 0) (b := 1) (by decide) (by decide) h, efO_e (p := 1) (b := 0) (by decide) (by decide) h, efO_e (p := 1) (b := 1) (by decide) (by decide) h, efV_e (p := 0) (b := 0) (by decide) (by decide) h, efV_e (p := 0) (b := 1) (by decide) (by decide) h, efV_e (p := 1) (b := 0) (by decide) (by decide) h, efV_e (p := 1) (b := 1) (by decide) (by decide) h]
theorem foD_e {G G2 : Nat → N5} {m a : Nat → Int32} (h : ∀ j, 6 ≤ j → j < 12 → G j = G2 j) : foD G m a = foD G2 m a := by
  unfold foD
  rw [efV_e (p := 0) (b := 0) (by decide) (by decide) h, efV_e (p := 0) (b := 1) (by decide) (by decide) h, efV_e (p := 1) (b := 0) (by decide) (by decide) h, efV_e (p := 1) (b := 1) (by decide) (by decide) h]
theorem fnO_e {p : Int32} {G G2 : Nat → N5} {m a : Nat → Int32} (h : ∀ j, 6 ≤ j → j < 12 → G j = G2 j) : fnO p G m a = fnO p G2 m a := by
  unfold fnO
  rw [efV_e (p := 0) (b := 0) (by decide) (by decide) h, efV_e (p := 0) (b := 1) (by decide) (by decide) h, efV_e (p := 1) (b := 0) (by decide) (by decide) h, efV_e (p := 1) (b := 1) (by decide) (by decide) h, h 6 (by decide) (by decide), h 7 (by decide) (by decide)]
theorem fnV_e {p : Int32} {G G2 : Nat → N5} {m a : Nat → Int32} (h : ∀ j, 6 ≤ j → j < 12 → G j = G2 j) : fnV p G m a = fnV p G2 m a := by
  unfold fnV
  rw [efV_e (p := 0) (b := 0) (by decide) (by decide) h, efV_e (p := 0) (b := 1) (by decide) (by decide) h, efV_e (p := 1) (b := 0) (by decide) (by decide) h, efV_e (p := 1) (b := 1) (by decide) (by decide) h, h 6 (by decide) (by decide), h 7 (by decide) (by decide)]
theorem fnO_i {p : Int32} {G : Nat → N5} {m a : Nat → Int32} (h : inI p 2 = true) : fnO (nI (aN p)) G m a = fnO p G m a := by rw [← (inI_lt h (by decide)).2]
theorem fnV_i {p : Int32} {G : Nat → N5} {m a : Nat → Int32} (h : inI p 2 = true) : fnV (nI (aN p)) G m a = fnV p G m a := by rw [← (inI_lt h (by decide)).2]
theorem b_false {b : Bool} (h : ¬ b = true) : b = false := by cases b <;> simp_all
theorem fo_tie {kp : Nat → Bool} {tr : Int32} {pm pa : Nat → Int32} {N : Nat → N5} {nu : Nat → Int64} (hn : LFn N nu) (hk : LFk kp tr pm pa N) {pq rq r : Int32} (hr : r = (if foK pq rq = false then (-2 : Int32) else if ktS kp 3 < 3 then -3 else ubR (aN pq) (gC N) pm pa)) :
    r = (foW pq rq tr pm pa (getN nu)).1 ∧ (∀ k9, (if r = 1 ∧ k9 = aN rq then quoV (fnV pq (gC N) pm pa) (foD (gC N) pm pa) else N k9) = upG N (foW pq rq tr pm pa (getN nu)).2 k9) ∧ ∀ k v, (foW pq rq tr pm pa (getN nu)).2 = some (k, v) → k < 6 ∧ 0 < v.2.2.2.2.toInt := by
  have g := gC_tie hn
  unfold foW
  by_cases h1 : foK pq rq = false
  · rw [if_pos h1] at hr
    rw [if_pos h1, hr]
    exact ⟨rfl, fun k => if_neg (fun e => absurd e.1 (by decide)), fun k v e => by cases e⟩
  · have h1t : foK pq rq = true := by cases h9 : foK pq rq <;> simp_all
    have hp := (dB_t.mp h1t).1
    rw [if_neg h1] at hr
    rw [if_neg h1]
    by_cases h2 : ktS kp 3 < 3
    · rw [if_pos h2] at hr
      rw [if_pos (hk.seven.mp h2), hr]
      exact ⟨rfl, fun k => if_neg (fun e => absurd e.1 (by decide)), fun k v e => by cases e⟩
    · have h7 : tr = 7 := Decidable.of_not_not (fun e => h2 (hk.seven.mpr e))
      rw [if_neg h2] at hr
      rw [if_neg (fun e => e h7)]
      unfold ubR at hr
      rw [foO_e g, foD_e g, fnO_e g, fnV_e g, fnO_i hp, fnV_i hp] at hr
      rw [foD_e g, fnV_e g]
      by_cases h3 : foO (getN nu) pm pa = true
      · rw [if_pos h3] at hr ⊢
        rw [hr]
        exact ⟨rfl, fun k => if_neg (fun e => absurd e.1 (by decide)), fun k v e => by cases e⟩
      · rw [if_neg h3] at hr ⊢
        by_cases h4 : zeroN (foD (getN nu) pm pa) = true
        · rw [if_pos h4] at hr ⊢
          rw [hr]
          exact ⟨rfl, fun k => if_neg (fun e => absurd e.1 (by decide)), fun k v e => by cases e⟩
        · rw [if_neg h4] at hr ⊢
          by_cases h5 : (fnO pq (getN nu) pm pa || quoO (fnV pq (getN nu) pm pa) (foD (getN nu) pm pa)) = true
          · rw [if_pos h5] at hr ⊢
            rw [hr]
            exact ⟨rfl, fun k => if_neg (fun e => absurd e.1 (by decide)), fun k v e => by cases e⟩
          · rw [if_neg h5] at hr ⊢
            rw [hr]
            refine ⟨rfl, fun k => ?_, fun k v e => ?_⟩
            · rw [upG_s]
              by_cases e : k = aN rq
              · rw [if_pos ⟨rfl, e⟩, if_pos e]
              · rw [if_neg (fun e9 => e e9.2), if_neg e]
            · cases e
              refine ⟨(inI_lt (dB_t.mp h1t).2 (by decide)).1, ?_⟩
              have h5' := b_false h5
              rw [Bool.or_eq_false_iff] at h5'
              have h3' := b_false h3
              unfold foO at h3'
              simp only [Bool.or_eq_false_iff] at h3'
              obtain ⟨⟨⟨⟨o0, o1⟩, o2⟩, o3⟩, _⟩ := h3'
              have hm : ∀ k, k < 3 → k ≠ 0 → (1 ≤ (pm k).toInt ∧ (pm k).toInt ≤ 99) ∧ aN (pa k) < 12 := fun k a b => by
                obtain ⟨m1, x, x1, x2⟩ := hk.2.2.1 k a b (by rw [h7]; exact kpB_7 k a)
                exact ⟨m1, by rw [x2, aNn x1 (by decide)]; exact x1⟩
              have e0 := efV_d o0 (hn.1 _ (by decide)) (hn.1 _ (by decide)) (hm 1 (by decide) (by decide)).2 (hm 1 (by decide) (by decide)).1
              have e1 := efV_d o1 (hn.1 _ (by decide)) (hn.1 _ (by decide)) (hm 1 (by decide) (by decide)).2 (hm 1 (by decide) (by decide)).1
              have e2 := efV_d o2 (hn.1 _ (by decide)) (hn.1 _ (by decide)) (hm 2 (by decide) (by decide)).2 (hm 2 (by decide) (by decide)).1
              have e3 := efV_d o3 (hn.1 _ (by decide)) (hn.1 _ (by decide)) (hm 2 (by decide) (by decide)).2 (hm 2 (by decide) (by decide)).1
              exact quoV_d h5'.2 (fnV_d h5'.1 (hn.1 6 (by decide)) (hn.1 7 (by decide)) e0 e1 e2 e3) (b_false h4)
theorem ex_tie {kp : Nat → Bool} {tr : Int32} {pm pa : Nat → Int32} {N : Nat → N5} {nu : Nat → Int64} (hn : LFn N nu) (hk : LFk kp tr pm pa N) {pq bq rq r : Int32} (hr : r = (if exK pq bq rq = false then (-2 : Int32) else if ¬ (kp 0 = true ∧ kp (aN pq + 1) = true) then -3 else if efO (gC N) pm pa (aN pq) (aN bq) = true then -5 else 1)) :
    r = (exW pq bq rq tr pm pa (getN nu)).1 ∧ (∀ k9, (if r = 1 ∧ k9 = aN rq then efV (gC N) pm pa (aN pq) (aN bq) else N k9) = upG N (exW pq bq rq tr pm pa (getN nu)).2 k9) ∧ ∀ k v, (exW pq bq rq tr pm pa (getN nu)).2 = some (k, v) → k < 6 ∧ 0 < v.2.2.2.2.toInt := by
  have g := gC_tie hn
  unfold exW
  by_cases h1 : exK pq bq rq = false
  · rw [if_pos h1] at hr
    rw [if_pos h1, hr]
    exact ⟨rfl, fun k => if_neg (fun e => absurd e.1 (by decide)), fun k v e => by cases e⟩
  · have h1t : exK pq bq rq = true := by cases h9 : exK pq bq rq <;> simp_all
    have hp := (inI_lt (dB_t.mp h1t).1 (by decide)).1
    have hb := (inI_lt (dB_t.mp h1t).2.1 (by decide)).1
    rw [if_neg h1, hk.1 0 (by decide), hk.1 (aN pq + 1) (by omega), efO_e hp hb g] at hr
    rw [if_neg h1, efV_e hp hb g]
    by_cases h2 : kpB tr 0 = true ∧ kpB tr (aN pq + 1) = true
    · rw [if_neg (fun e => e h2)] at hr ⊢
      by_cases h3 : efO (getN nu) pm pa (aN pq) (aN bq) = true
      · rw [if_pos h3] at hr ⊢
        rw [hr]
        exact ⟨rfl, fun k => if_neg (fun e => absurd e.1 (by decide)), fun k v e => by cases e⟩
      · rw [if_neg h3] at hr ⊢
        rw [hr]
        refine ⟨rfl, fun k => ?_, fun k v e => ?_⟩
        · rw [upG_s]
          by_cases e : k = aN rq
          · rw [if_pos ⟨rfl, e⟩, if_pos e]
          · rw [if_neg (fun e9 => e e9.2), if_neg e]
        · cases e
          refine ⟨(inI_lt (dB_t.mp h1t).2.2 (by decide)).1, ?_⟩
          obtain ⟨m1, x, x1, x2⟩ := hk.2.2.1 (aN pq + 1) (by omega) (by omega) h2.2
          exact efV_d (b_false h3) (hn.1 _ (by omega)) (hn.1 _ (by omega)) (by rw [x2, aNn x1 (by decide)]; exact x1) m1
    · rw [if_pos h2] at hr ⊢
      rw [hr]
      exact ⟨rfl, fun k => if_neg (fun e => absurd e.1 (by decide)), fun k v e => by cases e⟩
/-! the sheets -/
theorem lk_0 {n i : Int32} {w : Nat} (h : lkF n i w = 0) : ¬ n = -1 ∧ 0 ≤ i.toInt ∧ i.toInt + (w : Int) ≤ n.toInt := by
  unfold lkF at h
  by_cases e : n = -1
  · rw [if_pos e] at h; exact absurd h (by decide)
  · rw [if_neg e] at h
    by_cases e2 : dB (0 ≤ i.toInt ∧ i.toInt + (w : Int) ≤ n.toInt) = true
    · exact ⟨e, dB_t.mp e2⟩
    · rw [if_neg e2] at h; exact absurd h (by decide)
theorem rdU_tie {rr ss ii : Int32} {sz : Nat → Int32} {x y : Nat → Nat → Int64} (hsz : okSz sz) (h : eqI x y) : rdU rr ss ii sz x = rdU rr ss ii sz y := by
  unfold rdU
  by_cases c : inI rr 6 = true ∧ inI ss 4 = true
  · have hc : ¬ ¬ (inI rr 6 = true ∧ inI ss 4 = true) := fun e => e c
    rw [if_neg hc, if_neg hc]
    by_cases c2 : lkF (sz ss.toInt.toNat) ii 4 = 0
    · rw [if_pos c2, if_pos c2]
      have h4 := (inI_lt c.2 (by decide)).1
      obtain ⟨e1, e2, e3⟩ := lk_0 c2
      have h5 := (hsz _ h4).resolve_left e1
      unfold aN at h4 h5
      rw [h _ _ h4 (by omega), h _ _ h4 (by omega), h _ _ h4 (by omega), h _ _ h4 (by omega)]
    · rw [if_neg c2, if_neg c2]
  · rw [if_pos c, if_pos c]
theorem rdU_d {rr ss ii : Int32} {sz : Nat → Int32} {x : Nat → Nat → Int64} : ∀ k v, rdU rr ss ii sz x = some (k, v) → k < 6 ∧ 0 < v.2.2.2.2.toInt := by
  intro k v e
  unfold rdU at e
  by_cases c : inI rr 6 = true ∧ inI ss 4 = true
  · rw [if_neg (fun e => e c)] at e
    by_cases c2 : lkF (sz ss.toInt.toNat) ii 4 = 0
    · rw [if_pos c2] at e
      cases e
      exact ⟨(inI_lt c.1 (by decide)).1, show 0 < (1 : Int64).toInt by decide⟩
    · rw [if_neg c2] at e; cases e
  · rw [if_pos c] at e; cases e
theorem gt_tie {ss ii : Int32} {sz : Nat → Int32} {x y : Nat → Nat → Int64} (hsz : okSz sz) (h : eqI x y) : gtA ss ii sz x = gtA ss ii sz y := by
  unfold gtA
  by_cases c : inI ss 4 = true
  · have hc : ¬ ¬ inI ss 4 = true := fun e => e c
    rw [if_neg hc, if_neg hc]
    by_cases c2 : lkF (sz ss.toInt.toNat) ii 1 = 0
    · rw [if_pos c2, if_pos c2]
      have h4 := (inI_lt c (by decide)).1
      obtain ⟨e1, e2, e3⟩ := lk_0 c2
      have h5 := (hsz _ h4).resolve_left e1
      unfold aN at h4 h5
      exact h _ _ h4 (by omega)
    · rw [if_neg c2, if_neg c2]
  · rw [if_pos c, if_pos c]
theorem sh_tie {s n : Int32} {x y x2 y2 : Nat → Nat → Int64} (h : eqI x y) (h1 : eqI x2 (shI s n x)) (h2 : eqI y2 (shI s n y)) : eqI x2 y2 := fun a j ha hj => by
  rw [h1 a j ha hj, h2 a j ha hj]
  unfold shI
  rw [h a j ha hj]
theorem ly_tie {s i v o : Int32} {sz : Nat → Int32} {x y x2 y2 : Nat → Nat → Int64} (h : eqI x y) (h1 : eqI x2 (lyI s i v o sz x)) (h2 : eqI y2 (lyI s i v o sz y)) : eqI x2 y2 := fun a j ha hj => by
  rw [h1 a j ha hj, h2 a j ha hj]
  unfold lyI
  rw [h a j ha hj]
theorem cpF_0 {s i t j n : Int32} {sz : Nat → Int32} (h : cpF s i t j n sz = 0) (hs : inI s 4 = true) (ht : inI t 4 = true) : ¬ sz s.toInt.toNat = -1 ∧ 0 ≤ i.toInt ∧ 0 ≤ j.toInt ∧ 0 ≤ n.toInt ∧ i.toInt + n.toInt ≤ (sz s.toInt.toNat).toInt := by
  unfold cpF at h
  rw [if_neg (fun e => e ⟨hs, ht⟩)] at h
  by_cases e : sz s.toInt.toNat = -1 ∨ sz t.toInt.toNat = -1
  · rw [if_pos e] at h; exact absurd h (by decide)
  · rw [if_neg e] at h
    by_cases e2 : dB (0 ≤ i.toInt ∧ 0 ≤ j.toInt ∧ 0 ≤ n.toInt ∧ i.toInt + n.toInt ≤ (sz s.toInt.toNat).toInt ∧ j.toInt + n.toInt ≤ (sz t.toInt.toNat).toInt) = true
    · have h9 := dB_t.mp e2
      exact ⟨fun e9 => e (Or.inl e9), h9.1, h9.2.1, h9.2.2.1, h9.2.2.2.1⟩
    · rw [if_neg e2] at h; exact absurd h (by decide)
theorem cp_tie {s i t j n : Int32} {sz : Nat → Int32} {x y x2 y2 : Nat → Nat → Int64} (hsz : okSz sz) (h : eqI x y) (h1 : eqI x2 (cpI s i t j n sz x)) (h2 : eqI y2 (cpI s i t j n sz y)) : eqI x2 y2 := fun a k ha hk => by
  rw [h1 a k ha hk, h2 a k ha hk]
  unfold cpI
  by_cases c : (inI s 4 = true ∧ inI t 4 = true ∧ cpF s i t j n sz = 0) ∧ a = t.toInt.toNat ∧ j.toInt.toNat ≤ k ∧ k < j.toInt.toNat + n.toInt.toNat
  · rw [if_pos c, if_pos c]
    have h4 := (inI_lt c.1.1 (by decide)).1
    obtain ⟨e1, e2, e3, e4, e5⟩ := cpF_0 c.1.2.2 c.1.1 c.1.2.1
    have h5 := (hsz _ h4).resolve_left e1
    unfold aN at h4 h5
    exact h _ _ h4 (by omega)
  · rw [if_neg c, if_neg c]
    exact h a k ha hk
theorem wrA_30 {s : Int32} {sz : Nat → Int32} (h : inI s 4 = true ∧ sz s.toInt.toNat ≠ -1) : (wrA s sz).toInt.toNat ≤ 30 := by
  unfold wrA
  rw [if_neg (fun e => e h.1), if_neg h.2]
  by_cases e : sz s.toInt.toNat < 30
  · rw [if_pos e]
    have e2 := (i32_lt_i _ _).mp e
    rw [show (30 : Int32).toInt = 30 from rfl] at e2
    omega
  · rw [if_neg e]; decide
theorem wr_tie {s : Int32} {sz : Nat → Int32} {N : Nat → N5} {nu : Nat → Int64} {x y x2 y2 : Nat → Nat → Int64} (hn : LFn N nu) (h : eqI x y) (h1 : eqI x2 (wrI s sz (nN N) x)) (h2 : eqI y2 (wrI s sz nu y)) : eqI x2 y2 := fun a j ha hj => by
  rw [h1 a j ha hj, h2 a j ha hj]
  unfold wrI
  by_cases c : (inI s 4 = true ∧ sz s.toInt.toNat ≠ -1) ∧ a = s.toInt.toNat ∧ j < (wrA s sz).toInt.toNat
  · rw [if_pos c, if_pos c]
    have := wrA_30 c.1
    exact nN_nu hn (by omega)
  · rw [if_neg c, if_neg c]
    exact h a j ha hj
theorem okSz_sh {s n : Int32} {sz : Nat → Int32} (h : okSz sz) : okSz (shS s n sz) := by
  unfold shS
  by_cases c : inI s 4 = true ∧ n ≤ 40 ∧ ¬ n < 0
  · rw [if_pos c]
    intro a ha
    unfold upd
    by_cases e : a = s.toInt.toNat
    · rw [if_pos e]
      have e1 := (i32_le_i _ _).mp c.2.1
      have e2 := mt (i32_lt_i _ _).mpr c.2.2
      rw [show (40 : Int32).toInt = 40 from rfl] at e1
      rw [show (0 : Int32).toInt = 0 from rfl] at e2
      exact Or.inr ⟨by omega, by omega⟩
    · rw [if_neg e]; exact h a ha
  · rw [if_neg c]; exact h
theorem okSz_lo {s : Int32} {sz : Nat → Int32} (h : okSz sz) : okSz (loS s sz) := by
  unfold loS
  by_cases c : inI s 4 = true ∧ sz s.toInt.toNat ≠ -1
  · rw [if_pos c]
    intro a ha
    unfold upd
    by_cases e : a = s.toInt.toNat
    · rw [if_pos e]; exact Or.inl rfl
    · rw [if_neg e]; exact h a ha
  · rw [if_neg c]; exact h
