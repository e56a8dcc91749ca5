/-! holes drilled, filled, counted -/
theorem upd_eq (f : Nat → Int32) (k : Nat) (x : Int32) : upd f k x k = x := if_pos rfl
theorem upd_ne (f : Nat → Int32) (k : Nat) (x : Int32) {j : Nat} (h : j ≠ k) : upd f k x j = f j := if_neg h
theorem upd_back (f : Nat → Int32) (k : Nat) (y : Int32) : upd (upd f k y) k (f k) = f := funext fun j => by
  by_cases h : j = k
  · subst h; rw [upd_eq]
  · rw [upd_ne _ _ _ h, upd_ne _ _ _ h]
theorem siN_up {f g : Nat → Int} {a : Nat} (h : ∀ i, i ≠ a → g i = f i) (n : Nat) : siN g n = siN f n + (if a < n then g a - f a else 0) := by
  induction n with
  | zero => rw [if_neg (Nat.not_lt_zero _), Int.add_zero]; rfl
  | succ n ih =>
    rw [siN, siN, ih]
    by_cases e : n = a
    · subst e
      rw [if_neg (Nat.lt_irrefl _), if_pos (Nat.lt_succ_self _)]
      omega
    · rw [h n e]
      by_cases h2 : a < n
      · rw [if_pos h2, if_pos (by omega)]; omega
      · rw [if_neg h2, if_neg (by omega)]; omega
theorem holeS_up (p a k : Nat) (ho : Nat → Int32) (v : Int32) (n : Nat) : holeS p (upd ho (12 * p + a) v) k n = holeS p ho k n + (if a < n then -10 * (v.toInt - (ho (12 * p + a)).toInt) * wI a k else 0) := by
  unfold holeS
  rw [siN_up (f := fun j => -10 * (ho (12 * p + j)).toInt * wI j k) (a := a) (fun i hi => by rw [upd_ne _ _ _ (by omega)]), upd_eq]
  generalize wI a k = w
  generalize v.toInt = x
  generalize (ho (12 * p + a)).toInt = y
  congr 1
  split
  · grind
  · rfl
theorem pul_up {p a : Nat} (ha : a < 12) (L : Nat) (mo an pl ho : Nat → Int32) (v : Int32) (k : Nat) : pulI p L mo an pl (upd ho (12 * p + a) v) k = pulI p L mo an pl ho k + -10 * (v.toInt - (ho (12 * p + a)).toInt) * wI a k := by
  unfold pulI
  rw [holeS_up, if_pos ha]
  omega
def hoQ (p : Nat) (ho : Nat → Int32) : List Nat → Nat → Int32
  | [] => ho
  | c :: tl => upd (hoQ p ho tl) (12 * p + c / 10) (nI (c % 10))
theorem chA_top (c : Nat) (tl : List Nat) (g : Nat → Int32) : chA (c :: tl) g tl.length = nI (c / 10) := upd_eq _ _ _
theorem chZ_top (c : Nat) (tl : List Nat) (g : Nat → Int32) : chZ (c :: tl) g tl.length = nI (c % 10) := upd_eq _ _ _
theorem chA_tl (c : Nat) (tl : List Nat) (g : Nat → Int32) {i : Nat} (h : i < tl.length) : chA (c :: tl) g i = chA tl g i := upd_ne _ _ _ (by omega)
theorem chZ_tl (c : Nat) (tl : List Nat) (g : Nat → Int32) {i : Nat} (h : i < tl.length) : chZ (c :: tl) g i = chZ tl g i := upd_ne _ _ _ (by omega)
theorem dhS_q {p : Nat} {b : bT} {ho g g2 : Nat → Int32} : ∀ q : List Nat, (∀ c, c ∈ q → c < 120) → (∀ i, i < q.length → b.2.2.2.1 i = chA q g i ∧ b.2.2.2.2 i = chZ q g2 i) → dhS p b q.length ho = hoQ p ho q
  | [], _, _ => rfl
  | c :: tl, hc, h => by
    have h1 := h tl.length (by rw [List.length_cons]; omega)
    rw [chA_top, chZ_top] at h1
    have h2 := hc c List.mem_cons_self
    show upd (dhS p b tl.length ho) (12 * p + aN (b.2.2.2.1 tl.length)) (b.2.2.2.2 tl.length) = _
    rw [h1.1, h1.2, aN_nI (by omega), dhS_q (ho := ho) (g := g) (g2 := g2) tl (fun d hd => hc d (List.mem_cons_of_mem _ hd)) (fun i hi => by rw [← chA_tl c tl g hi, ← chZ_tl c tl g2 hi]; exact h i (by rw [List.length_cons]; omega))]
    rfl
theorem hoQ_ne {p : Nat} {ho : Nat → Int32} {i : Nat} : ∀ q : List Nat, (∀ c, c ∈ q → 12 * p + c / 10 ≠ i) → hoQ p ho q i = ho i
  | [], _ => rfl
  | c :: tl, h => by
    show upd (hoQ p ho tl) (12 * p + c / 10) (nI (c % 10)) i = ho i
    rw [upd_ne _ _ _ (fun e => h c List.mem_cons_self e.symm)]
    exact hoQ_ne tl (fun d hd => h d (List.mem_cons_of_mem _ hd))
def ndA (q : List Nat) : Prop := List.Pairwise (fun c d => c / 10 ≠ d / 10) q
theorem hoQ_at {p : Nat} {ho : Nat → Int32} : ∀ q : List Nat, ndA q → ∀ c, c ∈ q → hoQ p ho q (12 * p + c / 10) = nI (c % 10)
  | [], _, c, h => absurd h List.not_mem_nil
  | d :: tl, hn, c, h => by
    obtain ⟨n1, n2⟩ := List.pairwise_cons.mp hn
    rcases List.mem_cons.mp h with e | e
    · subst e; exact upd_eq _ _ _
    · show upd (hoQ p ho tl) (12 * p + d / 10) (nI (d % 10)) (12 * p + c / 10) = _
      rw [upd_ne _ _ _ (fun e9 => n1 c e (by omega))]
      exact hoQ_at tl n2 c e
theorem pul_q {p L : Nat} {mo an pl ho : Nat → Int32} (hz : ∀ j, j < 12 → ho (12 * p + j) = 0) : ∀ q : List Nat, ndA q → (∀ c, c ∈ q → c < 120) → pulI p L mo an pl (hoQ p ho q) = prP (pulI p L mo an pl ho) q
  | [], _, _ => rfl
  | c :: tl, hn, hc => by
    obtain ⟨n1, n2⟩ := List.pairwise_cons.mp hn
    have h2 := hc c List.mem_cons_self
    funext k
    show pulI p L mo an pl (upd (hoQ p ho tl) (12 * p + c / 10) (nI (c % 10))) k = prP (pulI p L mo an pl ho) tl k + -10 * ((c % 10 : Nat) : Int) * wI (c / 10) k
    rw [pul_up (by omega), pul_q hz tl n2 (fun d hd => hc d (List.mem_cons_of_mem _ hd)), hoQ_ne tl (fun d hd e => n1 d hd (by omega)), hz _ (by omega), nI_toInt (by omega), show (0 : Int32).toInt = 0 from rfl, Int.sub_zero]
theorem hcnt_up {p a : Nat} {ho : Nat → Int32} {v : Int32} (h0 : ho (12 * p + a) = 0) (hv : 0 < v.toInt) : ∀ n, hcnt p (upd ho (12 * p + a) v) n = hcnt p ho n + (if a < n then 1 else 0)
  | 0 => by rw [if_neg (Nat.not_lt_zero _)]; rfl
  | n + 1 => by
    have ih := hcnt_up h0 hv n
    show hcnt p (upd ho (12 * p + a) v) n + (if 0 < (upd ho (12 * p + a) v (12 * p + n)).toInt then 1 else 0) = (hcnt p ho n + (if 0 < (ho (12 * p + n)).toInt then 1 else 0)) + _
    rw [ih]
    by_cases e : n = a
    · subst e
      rw [if_neg (Nat.lt_irrefl _), if_pos (Nat.lt_succ_self _), upd_eq, if_pos hv, h0, if_neg (by decide)]
    · rw [upd_ne _ _ _ (by omega)]
      by_cases h : a < n
      · rw [if_pos h, if_pos (show a < n + 1 by omega)]; omega
      · rw [if_neg h, if_neg (show ¬ a < n + 1 by omega)]; omega
theorem hcnt_z {p : Nat} {ho : Nat → Int32} (hz : ∀ j, j < 12 → ho (12 * p + j) = 0) : ∀ n, n ≤ 12 → hcnt p ho n = 0
  | 0, _ => rfl
  | n + 1, h => by
    show hcnt p ho n + (if 0 < (ho (12 * p + n)).toInt then 1 else 0) = 0
    rw [hcnt_z hz n (by omega), hz n (by omega), if_neg (by decide)]
theorem hcnt_q {p : Nat} {ho : Nat → Int32} (hz : ∀ j, j < 12 → ho (12 * p + j) = 0) : ∀ q : List Nat, ndA q → (∀ c, c ∈ q → c < 120 ∧ 1 ≤ c % 10) → hcnt p (hoQ p ho q) 12 = q.length
  | [], _, _ => hcnt_z hz 12 (Nat.le_refl _)
  | c :: tl, hn, hc => by
    obtain ⟨n1, n2⟩ := List.pairwise_cons.mp hn
    have h2 := hc c List.mem_cons_self
    show hcnt p (upd (hoQ p ho tl) (12 * p + c / 10) (nI (c % 10))) 12 = tl.length + 1
    rw [hcnt_up (by rw [hoQ_ne tl (fun d hd e => n1 d hd (by omega))]; exact hz _ (by omega)) (by rw [nI_toInt (by omega)]; omega), if_pos (by omega), hcnt_q hz tl n2 (fun d hd => hc d (List.mem_cons_of_mem _ hd))]
theorem okH_q {p : Nat} {ho : Nat → Int32} (h : okH ho) : ∀ q : List Nat, okH (hoQ p ho q)
  | [] => h
  | c :: tl => fun j hj => by
    show 0 ≤ (upd (hoQ p ho tl) (12 * p + c / 10) (nI (c % 10)) j).toInt ∧ (upd (hoQ p ho tl) (12 * p + c / 10) (nI (c % 10)) j).toInt ≤ 9
    by_cases e : j = 12 * p + c / 10
    · rw [e, upd_eq, nI_toInt (by omega)]; omega
    · rw [upd_ne _ _ _ e]; exact okH_q h tl j hj
theorem okH_0 {ho : Nat → Int32} (h : okH ho) (i : Nat) : okH (upd ho i 0) := fun j hj => by
  by_cases e : j = i
  · rw [e, upd_eq]; decide
  · rw [upd_ne _ _ _ e]; exact h j hj
/-! bits of what is found -/
theorem lgX_or (x y : Int32) {k : Nat} (hk : k < 12) : lgX (x ||| y) k = 1 ↔ lgX x k = 1 ∨ lgX y k = 1 := by
  rw [lgX_bit _ hk, lgX_bit x hk, lgX_bit y hk, Int32.toBitVec_or, BitVec.getLsbD_or]
  cases x.toBitVec.getLsbD k <;> cases y.toBitVec.getLsbD k <;> decide
theorem lgX_sh : ∀ a, a < 12 → ∀ k, k < 12 → (lgX ((1 : Int32) <<< (nI a &&& 31)) k = 1 ↔ a = k) := by decide
theorem fwM_cg {a b : Nat → Int32} : ∀ n, (∀ i, i < n → a i = b i) → fwM a n = fwM b n
  | 0, _ => rfl
  | n + 1, h => by
    show fwM a n ||| ((1 : Int32) <<< (a n &&& 31)) = fwM b n ||| ((1 : Int32) <<< (b n &&& 31))
    rw [fwM_cg n (fun i hi => h i (by omega)), h n (by omega)]
theorem lgX_fw {g : Nat → Int32} {k : Nat} (hk : k < 12) : ∀ q : List Nat, (∀ c, c ∈ q → c < 120) → (lgX (fwM (chA q g) q.length) k = 1 ↔ ∃ c, c ∈ q ∧ c / 10 = k)
  | [], _ => by
    constructor
    · intro h
      have e : ∀ k, k < 12 → lgX 0 k ≠ 1 := by decide
      exact absurd h (e k hk)
    · rintro ⟨c, h, _⟩
      exact absurd h List.not_mem_nil
  | c :: tl, hc => by
    have h2 := hc c List.mem_cons_self
    show lgX (fwM (chA (c :: tl) g) tl.length ||| ((1 : Int32) <<< (chA (c :: tl) g tl.length &&& 31))) k = 1 ↔ _
    rw [lgX_or _ _ hk, chA_top, lgX_sh _ (by omega) k hk, fwM_cg tl.length (fun i hi => chA_tl c tl g hi), lgX_fw hk tl (fun d hd => hc d (List.mem_cons_of_mem _ hd))]
    constructor
    · rintro (⟨d, h1, h3⟩ | h)
      · exact ⟨d, List.mem_cons_of_mem _ h1, h3⟩
      · exact ⟨c, List.mem_cons_self, h⟩
    · rintro ⟨d, h1, h3⟩
      rcases List.mem_cons.mp h1 with e | e
      · rw [e] at h3; exact Or.inr h3
      · exact Or.inl ⟨d, e, h3⟩
/-! a hole less -/
theorem asc_w {ok : Nat → Bool} {s : List Nat} {st st2 : Nat} (h : asc ok st s) (h2 : st2 ≤ st) : asc ok st2 s := by
  cases s with
  | nil => trivial
  | cons c s => exact ⟨by have := h.1; omega, h.2.1, h.2.2.1, h.2.2.2⟩
theorem asc_rm {ok : Nat → Bool} {c : Nat} {s2 : List Nat} : ∀ (s1 : List Nat) (st : Nat), asc ok st (s1 ++ c :: s2) → asc ok st (s1 ++ s2)
  | [], st, h => asc_w h.2.2.2 (by have := h.1; omega)
  | d :: s1, st, h => ⟨h.1, h.2.1, h.2.2.1, asc_rm s1 _ h.2.2.2⟩
theorem asc_pw {ok : Nat → Bool} : ∀ (s : List Nat) (st : Nat), asc ok st s → List.Pairwise (fun c d => d / 10 ≠ c / 10) s
  | [], _, _ => List.Pairwise.nil
  | c :: s, st, h => List.pairwise_cons.mpr ⟨fun d hd => by have := (asc_lt s _ h.2.2.2 d hd).1; omega, asc_pw s _ h.2.2.2⟩
theorem asc_nd {ok : Nat → Bool} {s : List Nat} {st : Nat} (h : asc ok st s) : ndA s.reverse := List.pairwise_reverse.mpr (asc_pw s st h)
theorem prP_mid {P : Nat → Int} {c : Nat} {l2 : List Nat} (k : Nat) : ∀ l1 : List Nat, prP P (l1 ++ c :: l2) k = prP P (l1 ++ l2) k + -10 * ((c % 10 : Nat) : Int) * wI (c / 10) k
  | [] => rfl
  | d :: l1 => by
    show prP P (l1 ++ c :: l2) k + -10 * ((d % 10 : Nat) : Int) * wI (d / 10) k = prP P (l1 ++ l2) k + -10 * ((d % 10 : Nat) : Int) * wI (d / 10) k + _
    rw [prP_mid k l1]
    omega
/-- behind drilling what was found -/
theorem pl_rm {ok : Nat → Bool} {p L : Nat} {mo an pl ho : Nat → Int32} {li : Int} (hz : ∀ j, j < 12 → ho (12 * p + j) = 0) {s : List Nat} (hs : asc ok 1 s) {c : Nat} (hc : c ∈ s.reverse) (h : quB (pulI p L mo an pl (upd (hoQ p ho s.reverse) (12 * p + c / 10) 0)) li = true) : Qt ok (pulI p L mo an pl ho) li (s.length - 1) := by
  have hlt : ∀ c, c ∈ s.reverse → c < 120 := fun c hc => (asc_lt s 1 hs c (List.mem_reverse.mp hc)).2.1
  have hn := asc_nd hs
  obtain ⟨s1, s2, e⟩ := List.append_of_mem (List.mem_reverse.mp hc)
  refine ⟨s1 ++ s2, by rw [e, List.length_append, List.length_append, List.length_cons]; omega, asc_rm s1 1 (e ▸ hs), ?_⟩
  have hP : pulI p L mo an pl (upd (hoQ p ho s.reverse) (12 * p + c / 10) 0) = prP (pulI p L mo an pl ho) (s1 ++ s2).reverse := by
    funext k
    have h2 := hlt c hc
    rw [pul_up (by omega), pul_q hz _ hn hlt, hoQ_at _ hn c hc, nI_toInt (by omega), show (0 : Int32).toInt = 0 from rfl, e, List.reverse_append, List.reverse_cons, List.append_assoc, List.reverse_append]
    show prP (pulI p L mo an pl ho) (s2.reverse ++ c :: s1.reverse) k + _ = _
    rw [prP_mid]
    grind
  rw [← hP]
  exact h
theorem okC_sz {dr : Int32} (h : szK dr = true) {p : Nat} {le ho : Nat → Int32} {c : Nat} (hc : okC dr p le ho c = true) : 1 ≤ c % 10 := by
  have h1 := (dB_t.mp hc).1
  have h2 := (dB_t.mp h).2.1
  refine Nat.pos_of_ne_zero (fun e => ?_)
  rw [e] at h1
  have e0 : lgX dr 0 = dr &&& 1 := by
    have e1 : dr >>> (nI 0 &&& 31) = dr := by
      apply Int32.toBitVec_inj.mp
      rw [Int32.toBitVec_shiftRight]
      show dr.toBitVec.sshiftRight ((nI 0 &&& 31).toBitVec.smod 32).toNat = _
      rw [show ((nI 0 &&& 31).toBitVec.smod 32).toNat = 0 by decide, BitVec.sshiftRight_zero]
    unfold lgX
    rw [e1]
  rw [e0] at h1
  exact h2 h1
