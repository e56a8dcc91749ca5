/-! the class's search is the reference's -/
theorem pell : ∃ p q : Int, p * p = 3 * (q * q) + 1 ∧ 1000000000000000000000 < q ∧ 0 < p := ⟨53460456908408730071670997389697, 30865409187070168681093049526544, by decide, by decide, by decide⟩
theorem wI_nm : ∀ a, a < 12 → wI a 0 * wI a 0 + 3 * wI a 1 * wI a 1 + wI a 2 * wI a 2 + 3 * wI a 3 * wI a 3 = 4 ∧ wI a 0 * wI a 1 + wI a 2 * wI a 3 = 0 ∧ ((-2 ≤ wI a 0 ∧ wI a 0 ≤ 2) ∧ (-2 ≤ wI a 1 ∧ wI a 1 ≤ 2) ∧ (-2 ≤ wI a 2 ∧ wI a 2 ≤ 2) ∧ (-2 ≤ wI a 3 ∧ wI a 3 ≤ 2)) := by decide +kernel
theorem qu_ph {p q : Int} (hp : p * p = 3 * (q * q) + 1) (hq : 1000000000000000000000 < q) (hp0 : 0 < p) {P : Nat → Int} (hb : bdP P) (L : Int) : quB P L = true ↔ (sqI P 0 - 400 * L * L) * q + sqI P 1 * p ≤ 0 := by
  have h1 := sq_bd hb
  have h2 := sg_ph (a := sqI P 0 - 400 * L * L) (b := sqI P 1) hp (by omega) hp0 (by omega)
  exact (dB_t (p := sgI (sqI P 0 - 400 * L * L) (sqI P 1) ≤ 0)).trans h2
theorem qu_mono {P : Nat → Int} (hb : bdP P) {L M : Int} (h0 : 0 ≤ L) (h : L ≤ M) (hq : quB P L = true) : quB P M = true := by
  obtain ⟨p, q, h1, h2, h3⟩ := pell
  rw [qu_ph h1 h2 h3 hb] at hq ⊢
  have e1 : L * L ≤ M * M := Int.mul_le_mul h h h0 (by omega)
  have e2 : (sqI P 0 - 400 * M * M) * q ≤ (sqI P 0 - 400 * L * L) * q := Int.mul_le_mul_of_nonneg_right (by rw [Int.mul_assoc, Int.mul_assoc]; omega) (by omega)
  omega
theorem qu_tri {P P' : Nat → Int} {a : Nat} {L s : Int} (ha : a < 12) (hb : bdP P) (hb' : bdP P') (hL : 0 ≤ L) (hs : 0 ≤ s) (hP : ∀ k, k < 4 → P' k = P k + -10 * s * wI a k) (h : quB P' L = true) : quB P (L + s) = true := by
  obtain ⟨p, q, h1, h2, h3⟩ := pell
  rw [qu_ph h1 h2 h3 hb'] at h
  rw [qu_ph h1 h2 h3 hb]
  obtain ⟨n1, n2, c0, c1, c2, c3⟩ := wI_nm a ha
  obtain ⟨b0, b1, b2, b3⟩ := hb'
  have t := tri_ph h1 h2 h3 (L := L) (s := s) hL hs b0 (by omega) b2 (by omega) c0 c1 c2 c3 n1 n2 h
  have e : ∀ k, k < 4 → P k = P' k + 10 * s * wI a k := fun k hk => by rw [hP k hk]; grind
  show (P 0 * P 0 + 3 * P 1 * P 1 + P 2 * P 2 + 3 * P 3 * P 3 - 400 * (L + s) * (L + s)) * q + (2 * P 0 * P 1 + 2 * P 2 * P 3) * p ≤ 0
  rw [e 0 (by decide), e 1 (by decide), e 2 (by decide), e 3 (by decide)]
  exact t
theorem inn_id {ok : Nat → Bool} {f : Nat → bT → bT} : ∀ k b, k ≤ 120 → (∀ c b, 120 - k ≤ c → c < 120 → ok c = true → f c b = b) → inn ok f k b = b
  | 0, _, _, _ => rfl
  | k + 1, b, hk, h => by
    show inn ok f k (if ok (119 - k) = true then f (119 - k) b else b) = b
    have e : (if ok (119 - k) = true then f (119 - k) b else b) = b := by
      by_cases e : ok (119 - k) = true
      · rw [if_pos e]; exact h _ _ (by omega) (by omega) e
      · rw [if_neg e]
    rw [e]
    exact inn_id k b (by omega) (fun c b h1 h2 h3 => h c b (by omega) h2 h3)
/-- too far off for so many holes: nothing is found -/
theorem srR_no {P : Nat → Int} {li mz : Nat} {ok : Nat → Bool} (hPb : ∀ k, k < 4 → -(9000 * wB k) ≤ P k ∧ P k ≤ 9000 * wB k) (hok : ∀ c, c < 120 → ok c = true → c % 10 ≤ mz) : ∀ (r st : Nat) (pr : List Nat) (b : bT), (∀ c, c ∈ pr → c < 120) → pr.length + r ≤ 4 → quB (prP P pr) ((li + r * mz : Nat) : Int) = false → srR ok (lkU P (li : Int)) r st pr b = b
  | 0, st, pr, b, hc, hl, hq => by
    rw [srR_0]
    rw [Nat.zero_mul, Nat.add_zero] at hq
    exact lkU_n hq
  | r + 1, st, pr, b, hc, hl, hq => by
    show inn ok (fun c b => srR ok (lkU P (li : Int)) r (10 * (c / 10) + 10) (c :: pr) b) (120 - st) b = b
    refine inn_id _ b (by omega) (fun c b2 h1 h2 h3 => ?_)
    have hc2 : ∀ d, d ∈ c :: pr → d < 120 := fun d hd => by
      rcases List.mem_cons.mp hd with e | e
      · rw [e]; exact h2
      · exact hc d e
    refine srR_no hPb hok r _ (c :: pr) b2 hc2 (by show pr.length + 1 + r ≤ 4; omega) ?_
    cases hq2 : quB (prP P (c :: pr)) ((li + r * mz : Nat) : Int) with
    | false => rfl
    | true =>
      have b1 := prP_bd4 hPb hc (by omega)
      have b2 := prP_bd4 hPb hc2 (by show pr.length + 1 ≤ 4; omega)
      have t := qu_tri (P := prP P pr) (P' := prP P (c :: pr)) (a := c / 10) (L := ((li + r * mz : Nat) : Int)) (s := ((c % 10 : Nat) : Int)) (by omega) b1 b2 (by omega) (by omega) (fun k _ => rfl) hq2
      have m := qu_mono b1 (by omega) (show ((li + r * mz : Nat) : Int) + ((c % 10 : Nat) : Int) ≤ ((li + (r + 1) * mz : Nat) : Int) by
        have := hok c h2 h3
        have e : (r + 1) * mz = r * mz + mz := Nat.succ_mul r mz
        rw [e]; omega) t
      rw [m] at hq
      exact absurd hq (by decide)
/-- too few angles left -/
theorem srR_few {ok : Nat → Bool} {lk : List Nat → bT → bT} : ∀ (r k : Nat) (pr : List Nat) (b : bT), 12 < k + (r + 1) → srR ok lk (r + 1) (10 * k) pr b = b
  | 0, k, pr, b, h => by
    show inn ok (fun c b => srR ok lk 0 (10 * (c / 10) + 10) (c :: pr) b) (120 - 10 * k) b = b
    rw [show 120 - 10 * k = 0 by omega]
    rfl
  | r + 1, k, pr, b, h => by
    show inn ok (fun c b => srR ok lk (r + 1) (10 * (c / 10) + 10) (c :: pr) b) (120 - 10 * k) b = b
    refine inn_id _ b (by omega) (fun c b2 h1 h2 h3 => ?_)
    rw [show 10 * (c / 10) + 10 = 10 * (c / 10 + 1) by omega]
    exact srR_few r (c / 10 + 1) (c :: pr) b2 (by omega)
/-- codes one after the other -/
def stN (ok : Nat → Bool) (f : Nat → bT → bT) (c0 : Nat) : Nat → bT → bT
  | 0, b => b
  | j + 1, b => if ok (c0 + j) = true then f (c0 + j) (stN ok f c0 j b) else stN ok f c0 j b
theorem stN_1 {ok : Nat → Bool} {f : Nat → bT → bT} {c0 : Nat} : ∀ (j : Nat) (b : bT), stN ok f c0 (j + 1) b = stN ok f (c0 + 1) j (if ok c0 = true then f c0 b else b)
  | 0, b => rfl
  | j + 1, b => by
    have ih := stN_1 (ok := ok) (f := f) (c0 := c0) j b
    show (if ok (c0 + (j + 1)) = true then f (c0 + (j + 1)) (stN ok f c0 (j + 1) b) else stN ok f c0 (j + 1) b) = (if ok (c0 + 1 + j) = true then f (c0 + 1 + j) (stN ok f (c0 + 1) j _) else stN ok f (c0 + 1) j _)
    rw [ih, show c0 + 1 + j = c0 + (j + 1) by omega]
theorem inn_st {ok : Nat → Bool} {f : Nat → bT → bT} : ∀ (k : Nat) (b : bT), k ≤ 120 → inn ok f k b = stN ok f (120 - k) k b
  | 0, _, _ => rfl
  | k + 1, b, hk => by
    show inn ok f k (if ok (119 - k) = true then f (119 - k) b else b) = _
    rw [inn_st k _ (by omega), stN_1, show 120 - (k + 1) = 119 - k by omega, show 119 - k + 1 = 120 - k by omega]
theorem stN_add {ok : Nat → Bool} {f : Nat → bT → bT} {c0 i : Nat} : ∀ (j : Nat) (b : bT), stN ok f c0 (i + j) b = stN ok f (c0 + i) j (stN ok f c0 i b)
  | 0, _ => rfl
  | j + 1, b => by
    have ih := stN_add (ok := ok) (f := f) (c0 := c0) (i := i) j b
    show (if ok (c0 + (i + j)) = true then f (c0 + (i + j)) (stN ok f c0 (i + j) b) else stN ok f c0 (i + j) b) = (if ok (c0 + i + j) = true then f (c0 + i + j) (stN ok f (c0 + i) j (stN ok f c0 i b)) else stN ok f (c0 + i) j (stN ok f c0 i b))
    rw [ih, Nat.add_assoc]
theorem stN_id {ok : Nat → Bool} {f : Nat → bT → bT} {c0 : Nat} : ∀ (j : Nat) (b : bT), (∀ c b, c0 ≤ c → c < c0 + j → ok c = true → f c b = b) → stN ok f c0 j b = b
  | 0, _, _ => rfl
  | j + 1, b, h => by
    show (if ok (c0 + j) = true then f (c0 + j) (stN ok f c0 j b) else stN ok f c0 j b) = b
    rw [stN_id j b (fun c b h1 h2 h3 => h c b h1 (by omega) h3)]
    by_cases e : ok (c0 + j) = true
    · rw [if_pos e]; exact h _ _ (by omega) (by omega) e
    · rw [if_neg e]
theorem stN_cg {ok : Nat → Bool} {f g : Nat → bT → bT} {c0 : Nat} : ∀ (j : Nat) (b : bT), (∀ c b, c0 ≤ c → c < c0 + j → f c b = g c b) → stN ok f c0 j b = stN ok g c0 j b
  | 0, _, _ => rfl
  | j + 1, b, h => by
    show (if ok (c0 + j) = true then f (c0 + j) (stN ok f c0 j b) else stN ok f c0 j b) = (if ok (c0 + j) = true then g (c0 + j) (stN ok g c0 j b) else stN ok g c0 j b)
    rw [stN_cg j b (fun c b h1 h2 => h c b h1 (by omega)), h _ _ (by omega) (by omega)]
/-! the sizes listed are those told -/
def szC (v : Int32) : Prop := lgX v 0 = 0 ∧ ∀ k, k < 9 → lgX v (k + 1) = 1 → lzC v k < 3
theorem szC_k : ∀ k, k < 512 → (bcnt (nI (2 * k)) 12).toInt ≤ 3 → lgX (nI (2 * k)) 0 = 0 ∧ ∀ j, j < 9 → lgX (nI (2 * k)) (j + 1) = 1 → lzC (nI (2 * k)) j < 3 := by decide +kernel
theorem szC_of {v : Int32} (h : szK v = true) : szC v := by
  obtain ⟨h1, h2, h3⟩ := dB_t.mp h
  have e := sz_and (dB_t.mp h1) h2
  obtain ⟨k, hk, rfl⟩ := sz_rng e
  exact szC_k k hk (dB_t.mp h3).2
theorem lzC_mono (v : Int32) : ∀ j k, j ≤ k → lzC v j ≤ lzC v k
  | j, 0, h => by rw [show j = 0 by omega]; exact Nat.le_refl _
  | j, k + 1, h => by
    by_cases e : j = k + 1
    · rw [e]; exact Nat.le_refl _
    · have := lzC_mono v j k (by omega)
      show lzC v j ≤ (if lgX v (k + 1) = 1 ∧ lzC v k < 3 then lzC v k + 1 else lzC v k)
      split <;> omega
theorem lzS_st {v : Int32} {zs : Nat → Int32} : ∀ k j i, j ≤ k → i < lzC v j → lzS v zs k i = lzS v zs j i
  | 0, j, i, h, _ => by rw [show j = 0 by omega]
  | k + 1, j, i, h, hi => by
    by_cases e : j = k + 1
    · rw [e]
    · have ih := lzS_st (v := v) (zs := zs) k j i (by omega) hi
      have hm := lzC_mono v j k (by omega)
      show (if lgX v (k + 1) = 1 ∧ lzC v k < 3 then upd (lzS v zs k) (lzC v k) (nI (k + 1)) else lzS v zs k) i = _
      split
      · have e3 : upd (lzS v zs k) (lzC v k) (nI (k + 1)) i = lzS v zs k i := if_neg (by omega)
        rw [e3]; exact ih
      · exact ih
theorem lz_at {v : Int32} {zs : Nat → Int32} (h : szC v) {k : Nat} (hk : k < 9) (hb : lgX v (k + 1) = 1) : lzC v (k + 1) = lzC v k + 1 ∧ aN (lzS v zs 9 (lzC v k)) = k + 1 := by
  have h3 := h.2 k hk hb
  have e1 : lzC v (k + 1) = lzC v k + 1 := by
    show (if lgX v (k + 1) = 1 ∧ lzC v k < 3 then lzC v k + 1 else lzC v k) = _
    rw [if_pos ⟨hb, h3⟩]
  refine ⟨e1, ?_⟩
  rw [lzS_st 9 (k + 1) (lzC v k) (by omega) (by omega)]
  have e2 : lzS v zs (k + 1) (lzC v k) = nI (k + 1) := by
    show (if lgX v (k + 1) = 1 ∧ lzC v k < 3 then upd (lzS v zs k) (lzC v k) (nI (k + 1)) else lzS v zs k) (lzC v k) = _
    rw [if_pos ⟨hb, h3⟩]
    exact if_pos rfl
  rw [e2]
  exact aNn (n := 10) (by omega) (by decide)
theorem lz_no {v : Int32} {k : Nat} (hb : ¬ lgX v (k + 1) = 1) : lzC v (k + 1) = lzC v k := by
  show (if lgX v (k + 1) = 1 ∧ lzC v k < 3 then lzC v k + 1 else lzC v k) = _
  rw [if_neg (fun e => hb e.1)]
theorem mz_ge {v : Int32} {zs : Nat → Int32} (h : szC v) : ∀ k, k ≤ 9 → ∀ s, 1 ≤ s → s ≤ k → lgX v s = 1 → 1 ≤ lzC v k ∧ s ≤ aN (lzS v zs 9 (lzC v k - 1))
  | 0, _, s, h1, h2, _ => by omega
  | k + 1, hk, s, h1, h2, hs => by
    by_cases e : lgX v (k + 1) = 1
    · obtain ⟨e1, e2⟩ := lz_at (zs := zs) h (by omega) e
      rw [e1, show lzC v k + 1 - 1 = lzC v k by omega, e2]
      exact ⟨by omega, h2⟩
    · rw [lz_no e]
      exact mz_ge h k (by omega) s h1 (by by_cases e3 : s = k + 1; · rw [e3] at hs; exact absurd hs e
                                          · omega) hs
/-- the sizes of one open angle, by codes -/
theorem sz_st {v : Int32} {zs : Nat → Int32} {ok : Nat → Bool} {f : Nat → bT → bT} {a : Nat} (h : szC v) (hok : ∀ s, s < 10 → (ok (10 * a + s) = true ↔ lgX v s = 1)) (b : bT) : ∀ k, k ≤ 9 → stN ok f (10 * a) (k + 1) b = szF f a (fun i => aN (lzS v zs 9 i)) (lzC v k) b
  | 0, _ => by
    show (if ok (10 * a + 0) = true then f (10 * a + 0) b else b) = b
    rw [if_neg (fun e => by have e2 := (hok 0 (by decide)).mp e; rw [h.1] at e2; exact absurd e2 (by decide))]
  | k + 1, hk => by
    have ih := sz_st (zs := zs) (f := f) h hok b k (by omega)
    show (if ok (10 * a + (k + 1)) = true then f (10 * a + (k + 1)) (stN ok f (10 * a) (k + 1) b) else stN ok f (10 * a) (k + 1) b) = _
    rw [ih]
    by_cases e : lgX v (k + 1) = 1
    · obtain ⟨e1, e2⟩ := lz_at (zs := zs) h (by omega) e
      rw [if_pos ((hok _ (by omega)).mpr e), e1]
      show _ = f (10 * a + aN (lzS v zs 9 (lzC v k))) _
      rw [e2]
    · rw [if_neg (fun e3 => e ((hok _ (by omega)).mp e3)), lz_no e]
theorem an_st {v : Int32} {zs : Nat → Int32} {le ho : Nat → Int32} {p : Nat} {f : Nat → bT → bT} (h : szC v) {fm : Nat} (b : bT) : ∀ n, fm + n ≤ 12 → anF f (fun a9 => dB (lgX (opN (le p) p ho 12) a9 = 1)) (fun i => aN (lzS v zs 9 i)) (lzC v 9) fm n b = stN (okC v p le ho) f (10 * fm) (10 * n) b
  | 0, _ => rfl
  | n + 1, hn => by
    have ih := an_st (zs := zs) (le := le) (ho := ho) (p := p) (f := f) h (fm := fm) b n (by omega)
    rw [show 10 * (n + 1) = 10 * n + 10 by omega, stN_add, ← ih]
    show (if dB (lgX (opN (le p) p ho 12) (fm + n) = 1) = true then szF f (fm + n) (fun i => aN (lzS v zs 9 i)) (lzC v 9) _ else _) = _
    rw [show 10 * fm + 10 * n = 10 * (fm + n) by omega]
    by_cases e : lgX (opN (le p) p ho 12) (fm + n) = 1
    · rw [if_pos (dB_t.mpr e)]
      have hfr := opN_t (le := le) (ho := ho) (p := p) (show fm + n < 12 by omega) e
      refine (sz_st (zs := zs) h (fun s hs => ?_) _ 9 (Nat.le_refl _)).symm
      rw [okC, dB_t, show (10 * (fm + n) + s) % 10 = s by omega, show (10 * (fm + n) + s) / 10 = fm + n by omega]
      exact ⟨fun e3 => e3.1, fun e3 => ⟨e3, hfr⟩⟩
    · rw [if_neg (fun e2 => e (dB_t.mp e2))]
      have h0 : lgX (opN (le p) p ho 12) (fm + n) = 0 := by
        rcases and1_cases (opN (le p) p ho 12 >>> (nI (fm + n) &&& 31)) with e3 | e3
        · exact e3
        · exact absurd e3 e
      have hfr := opN_f (le := le) (ho := ho) (p := p) (show fm + n < 12 by omega) h0
      refine (stN_id 10 _ (fun c b2 h1 h2 h3 => ?_)).symm
      have e4 := (dB_t.mp h3).2
      rw [show c / 10 = fm + n by omega, hfr] at e4
      exact absurd e4 (by decide)
/-- the class's search and the reference's, chain by chain -/
theorem cl_sr {P : Nat → Int} {li : Nat} {v : Int32} {zs le ho : Nat → Int32} {p : Nat} (h : szC v) (hPb : ∀ k, k < 4 → -(9000 * wB k) ≤ P k ∧ P k ≤ 9000 * wB k) : ∀ (r fm : Nat) (pr : List Nat) (b : bT), (∀ c, c ∈ pr → c < 120) → pr.length + r ≤ 4 → fm ≤ 12 →
    clR P li (mzN (lzC v 9) (fun i => aN (lzS v zs 9 i))) (fun a9 => dB (lgX (opN (le p) p ho 12) a9 = 1)) (fun i => aN (lzS v zs 9 i)) (lzC v 9) r fm pr b = srR (okC v p le ho) (lkU P (li : Int)) r (10 * fm) pr b
  | 0, fm, pr, b, _, _, _ => by rw [clR, srR_0]
  | r + 1, fm, pr, b, hc, hl, hfm => by
    have hmz : ∀ c, c < 120 → okC v p le ho c = true → c % 10 ≤ mzN (lzC v 9) (fun i => aN (lzS v zs 9 i)) := fun c _ h2 => by
      have h3 := (dB_t.mp h2).1
      by_cases e0 : c % 10 = 0
      · omega
      · obtain ⟨g1, g2⟩ := mz_ge (zs := zs) h 9 (Nat.le_refl _) (c % 10) (by omega) (by omega) h3
        unfold mzN
        rw [if_neg (by omega)]
        exact g2
    rw [clR]
    cases hq : quB (prP P pr) ((li + (r + 1) * mzN (lzC v 9) (fun i => aN (lzS v zs 9 i)) : Nat) : Int) with
    | false =>
      rw [if_neg (by decide)]
      exact (srR_no hPb hmz (r + 1) (10 * fm) pr b hc hl hq).symm
    | true =>
      rw [if_pos rfl]
      show _ = inn (okC v p le ho) (fun c b => srR (okC v p le ho) (lkU P (li : Int)) r (10 * (c / 10) + 10) (c :: pr) b) (120 - 10 * fm) b
      rw [inn_st _ b (by omega)]
      have hcg : ∀ n, fm + n ≤ 12 → ∀ b, stN (okC v p le ho) (fun c b => clR P li (mzN (lzC v 9) (fun i => aN (lzS v zs 9 i))) (fun a9 => dB (lgX (opN (le p) p ho 12) a9 = 1)) (fun i => aN (lzS v zs 9 i)) (lzC v 9) r (c / 10 + 1) (c :: pr) b) (10 * fm) (10 * n) b = stN (okC v p le ho) (fun c b => srR (okC v p le ho) (lkU P (li : Int)) r (10 * (c / 10) + 10) (c :: pr) b) (10 * fm) (10 * n) b := fun n hn b => by
        refine stN_cg _ b (fun c b2 h1 h2 => ?_)
        rw [show 10 * (c / 10) + 10 = 10 * (c / 10 + 1) by omega]
        refine cl_sr h hPb r (c / 10 + 1) (c :: pr) b2 (fun d hd => ?_) (by show pr.length + 1 + r ≤ 4; omega) (by omega)
        rcases List.mem_cons.mp hd with e | e
        · rw [e]; omega
        · exact hc d e
      by_cases hf : fm ≤ 12 - r
      · rw [an_st h b (12 - r - fm) (by omega), hcg _ (by omega)]
        have e : 120 - (120 - 10 * fm) = 10 * fm := by omega
        rw [e, show 120 - 10 * fm = 10 * (12 - r - fm) + 10 * r by omega, stN_add]
        refine (stN_id _ _ (fun c b2 h1 h2 h3 => ?_)).symm
        cases r with
        | zero => omega
        | succ r =>
          show srR (okC v p le ho) (lkU P (li : Int)) (r + 1) (10 * (c / 10) + 10) (c :: pr) b2 = b2
          rw [show 10 * (c / 10) + 10 = 10 * (c / 10 + 1) by omega]
          exact srR_few r (c / 10 + 1) (c :: pr) b2 (by omega)
      · rw [show 12 - r - fm = 0 by omega]
        refine (stN_id _ _ (fun c b2 h1 h2 h3 => ?_)).symm
        cases r with
        | zero => omega
        | succ r =>
          show srR (okC v p le ho) (lkU P (li : Int)) (r + 1) (10 * (c / 10) + 10) (c :: pr) b2 = b2
          rw [show 10 * (c / 10) + 10 = 10 * (c / 10 + 1) by omega]
          exact srR_few r (c / 10 + 1) (c :: pr) b2 (by omega)
theorem inn_in {ok : Nat → Bool} {f : Nat → bT → bT} {k : Nat} {b : bT} : inn ok f (k + 1) b = inn ok f k (if ok (119 - k) = true then f (119 - k) b else b) := rfl
theorem srR_in {ok : Nat → Bool} {lk : List Nat → bT → bT} {r st : Nat} {pr : List Nat} {b : bT} : srR ok lk (r + 1) st pr b = inn ok (fun c b => srR ok lk r (10 * (c / 10) + 10) (c :: pr) b) (120 - st) b := rfl
theorem seS_cg {f g : Nat → bT → bT} : ∀ k b, k ≤ 5 → (∀ n b, n ≤ 4 → f n b = g n b) → seS f k b = seS g k b
  | 0, _, _, _ => rfl
  | k + 1, b, hk, h => by
    rw [seS_s, seS_s, seS_cg k b (by omega) h, h k _ (by omega)]
/-- the whole search -/
theorem cl_all {P : Nat → Int} {li : Nat} {v : Int32} {zs le ho : Nat → Int32} {p w : Nat} (h : szK v = true) (hPb : ∀ k, k < 4 → -(9000 * wB k) ≤ P k ∧ P k ≤ 9000 * wB k) (hw : w ≤ 4) (b : bT) :
    seS (fun n b => clR P li (mzN (lzC v 9) (fun i => aN (lzS v zs 9 i))) (fun a9 => dB (lgX (opN (le p) p ho 12) a9 = 1)) (fun i => aN (lzS v zs 9 i)) (lzC v 9) n 0 [] b) (w + 1) b = seS (fun n b => srR (okC v p le ho) (lkU P (li : Int)) n 1 [] b) (w + 1) b := by
  have hz := szC_of h
  refine seS_cg _ b (by omega) (fun n b hn => ?_)
  show clR P li _ _ _ _ n 0 [] b = srR (okC v p le ho) (lkU P (li : Int)) n 1 [] b
  rw [cl_sr hz hPb n 0 [] b (fun c h => absurd h List.not_mem_nil) (by show 0 + n ≤ 4; omega) (by omega)]
  cases n with
  | zero => rfl
  | succ n =>
    rw [srR_in, srR_in, show 10 * 0 = 0 from rfl, show 120 - 0 = 119 + 1 from rfl, show 120 - 1 = 119 from rfl, inn_in]
    congr 1
    exact if_neg (fun e => by have e2 := (dB_t.mp e).1; rw [show (119 - 119) % 10 = 0 from rfl, hz.1] at e2; exact absurd e2 (by decide))

