theorem ctK_n {la sz re : Int32} {L : Nat} {mo an pl ho : Nat → Int32} {kp : Nat → Bool} {k : Nat} (h : k < 9) : (if inI (nI k) 9 = true then ctK la sz re L mo an pl ho kp (aN (nI k)) else -2) = ctK la sz re L mo an pl ho kp k := by
  rw [if_pos (inI_nI h (by decide)), aNn h (by decide)]
noncomputable def dqA (la sz re : Int32) (L : Nat) (mo an pl ho : Nat → Int32) (kp : Nat → Bool) : Nat → Int64
  | 0 => 17
  | k + 1 => 31 * dqA la sz re L mo an pl ho kp k + (ctK la sz re L mo an pl ho kp k).toInt64
theorem mx_dg' {N : Nat → N5} {d : Int64} {r : Nat} : ∀ k, k ≤ 5 → mxL (N r) (dgN (nN N) d (5 * r)) k = dgN (nN N) d (5 * r + k)
  | 0, _ => rfl
  | k + 1, h => by
    show 31 * mxL (N r) (dgN (nN N) d (5 * r)) k + cmp5 (N r) k = 31 * dgN (nN N) d (5 * r + k) + nN N (5 * r + k)
    rw [mx_dg' k (by omega), nN, show (5 * r + k) / 5 = r by omega, show (5 * r + k) % 5 = k by omega]
theorem mx_dg {N : Nat → N5} {d : Int64} {r : Nat} : mxL (N r) (dgN (nN N) d (5 * r)) 5 = dgN (nN N) d (5 * (r + 1)) := mx_dg' 5 (Nat.le_refl _)
noncomputable def rqX (kp : Nat → Bool) (N : Nat → N5) (k b c : Nat) : Int64 := if kp k = true then cmp5 (N (8 + (2 * k + b))) c else lMin - (-3 : Int32).toInt64
theorem rq_e {kp : Nat → Bool} {N M : Nat → N5} {k b c : Nat} (hk : k < 3) (hb : b < 2) (hc : c < 5) (h : ∀ k9, (k9 < 6 ∨ (8 ≤ k9 ∧ k9 < 34)) → M k9 = N k9) :
    (if rdK (nI k) (nI b) (nI c) = true then (if kp (aN (nI k)) = true then cmp5 (M (8 + (2 * aN (nI k) + aN (nI b)))) (aN (nI c)) else lMin - (-3 : Int32).toInt64) else lMin - (-2 : Int32).toInt64) = rqX kp N k b c := by
  rw [if_pos (show rdK (nI k) (nI b) (nI c) = true from dB_t.mpr ⟨inI_nI hk (by decide), inI_nI hb (by decide), inI_nI hc (by decide)⟩), aNn hk (by decide), aNn hb (by decide), aNn hc (by decide), h _ (by omega), rqX]
noncomputable def dqC (kp : Nat → Bool) (N : Nat → N5) (k b : Nat) (d : Int64) : Nat → Int64
  | 0 => d
  | c + 1 => 31 * dqC kp N k b d c + rqX kp N k b c
noncomputable def dqB (kp : Nat → Bool) (N : Nat → N5) (k : Nat) (d : Int64) : Nat → Int64
  | 0 => d
  | b + 1 => dqC kp N k b (dqB kp N k d b) 5
noncomputable def dqK (kp : Nat → Bool) (N : Nat → N5) (d : Int64) : Nat → Int64
  | 0 => d
  | k + 1 => dqB kp N k (dqK kp N d k) 2
noncomputable def dqV (la sz re : Int32) (L : Nat) (mo an pl ho le : Nat → Int32) (kp : Nat → Bool) (N : Nat → N5) : Int64 := dqK kp N (dgP (la, nI L, sz, re, 0, 0, 0, 0) L mo an pl ho le (dgN (nN N) (dqA la sz re L mo an pl ho kp 8) 30) 2) 3
set_option maxHeartbeats 4000000 in
set_option maxRecDepth 100000 in
theorem c_X7_digest (l : Launch) (D : va_G) (ka : Nat → ClassId) (kb : Nat → Nat) (bd : Nat → Nat) (na : Nat → Nat) (o : Bool) (o3 : Bool) (cnt : Int32) (opb : Int32) (rch : Int32) (wnt : Int32) (zs : Nat → Int32) (bb : bT) (sa : Nat → Int32) (ss : Nat → Int32) (dn : Int32) (up9 : Int32) (la9 : Int32) (kp : Nat → Bool) (sz9 : Int32) (re9 : Int32) (L : Nat) (mo : Nat → Int32) (an : Nat → Int32) (pl : Nat → Int32) (ho : Nat → Int32) (le : Nat → Int32) (N : Nat → N5) (hok : okL L mo an pl) (hoh : okH ho) (hre : 0 ≤ re9.toInt ∧ re9.toInt ≤ 99) (hB9 : bB bb) (hszk : szK sz9 = true) : zL l D ka kb yX7_digest cX7_digest 6 11 277 [.ref (bd 31)] ([((bd 31), .inr (7, [.ref (bd 0), .ref (bd 1), .ref (na 6), .ref (na 7), .ref (bd 2), .ref (bd 3), .ref (bd 4), .ref (bd 5), .ref (bd 6)])), ((bd 0), .inr (2, [.int (bI o), .ref (na 25), .ref (na 26), .ref (na 27)])), ((bd 4), .inr (4, [.ref (bd 18), .ref (bd 19), .int cnt, .int opb, .int rch, .int wnt, .ref (bd 20), .ref (bd 21), .ref (bd 22), .int bb.1, .ref (bd 23), .ref (bd 24), .long (Int64.ofInt bb.2.1), .long (Int64.ofInt bb.2.2.1)])), ((bd 18), .inr (2, [.int (bI o3), .ref (na 31), .ref (na 32), .ref (na 33)])), ((bd 19), .inl (ka 0, 3, .inl zs)), ((bd 20), .inl (ka 3, 5, .inr (.inr (.inr (.inr (nR na 34)))))), ((bd 21), .inl (ka 0, 4, .inl sa)), ((bd 22), .inl (ka 0, 4, .inl ss)), ((bd 23), .inl (ka 0, 4, .inl bb.2.2.2.1)), ((bd 24), .inl (ka 0, 4, .inl bb.2.2.2.2)), ((bd 2), .inr (3, [.int (nI L), .ref (bd 7), .ref (bd 8), .ref (bd 9), .ref (bd 10), .ref (bd 11), .int sz9, .int re9])), ((bd 7), .inl (ka 0, 8, .inl mo)), ((bd 8), .inl (ka 0, 8, .inl an)), ((bd 9), .inl (ka 0, 8, .inl pl)), ((bd 10), .inl (ka 0, 24, .inl ho)), ((bd 11), .inl (ka 0, 2, .inl le)), ((bd 5), .inr (6, [.int dn, .int up9, .ref (na 39), .ref (na 40)])), ((bd 1), .inl (ka 3, 6, .inr (.inr (.inr (.inr (nR na 0)))))), ((bd 6), .inr (5, [.ref (bd 25), .ref (bd 30), .int la9])), ((bd 3), .inr (0, [.ref (bd 12), .ref (bd 13), .ref (bd 14), .ref (bd 15), .ref (bd 16), .ref (bd 17), .ref (na 21), .ref (na 22), .ref (na 23), .ref (na 24)])), ((bd 14), .inl (ka 2, 3, .inl (kI kp))), ((bd 15), .inl (ka 3, 6, .inr (.inr (.inr (.inr (nR na 8))))))] ++ nP na N) (fun (r : Int64) (u : (Nat → N5) × (Nat → Int32) × (Nat → Int32) × Bool × Bool × Int32 × Int32 × Int32 × Int32 × (Nat → Int32) × bT × Int32 × Int32) => r = dqV la9 sz9 re9 L mo an pl ho le kp N ∧ (∀ k9, (k9 < 6 ∨ (8 ≤ k9 ∧ k9 < 34)) → u.1 k9 = N k9) ∧ bB u.2.2.2.2.2.2.2.2.2.2.1) (fun (u : (Nat → N5) × (Nat → Int32) × (Nat → Int32) × Bool × Bool × Int32 × Int32 × Int32 × Int32 × (Nat → Int32) × bT × Int32 × Int32) => [((bd 31), .inr (7, [.ref (bd 0), .ref (bd 1), .ref (na 6), .ref (na 7), .ref (bd 2), .ref (bd 3), .ref (bd 4), .ref (bd 5), .ref (bd 6)])), ((bd 0), .inr (2, [.int (bI u.2.2.2.1), .ref (na 25), .ref (na 26), .ref (na 27)])), ((bd 4), .inr (4, [.ref (bd 18), .ref (bd 19), .int u.2.2.2.2.2.2.1, .int u.2.2.2.2.2.2.2.1, .int u.2.2.2.2.2.2.2.2.1, .int u.2.2.2.2.2.1, .ref (bd 20), .ref (bd 21), .ref (bd 22), .int u.2.2.2.2.2.2.2.2.2.2.1.1, .ref (bd 23), .ref (bd 24), .long (Int64.ofInt u.2.2.2.2.2.2.2.2.2.2.1.2.1), .long (Int64.ofInt u.2.2.2.2.2.2.2.2.2.2.1.2.2.1)])), ((bd 18), .inr (2, [.int (bI u.2.2.2.2.1), .ref (na 31), .ref (na 32), .ref (na 33)])), ((bd 19), .inl (ka 0, 3, .inl u.2.2.2.2.2.2.2.2.2.1)), ((bd 20), .inl (ka 3, 5, .inr (.inr (.inr (.inr (nR na 34)))))), ((bd 21), .inl (ka 0, 4, .inl u.2.1)), ((bd 22), .inl (ka 0, 4, .inl u.2.2.1)), ((bd 23), .inl (ka 0, 4, .inl u.2.2.2.2.2.2.2.2.2.2.1.2.2.2.1)), ((bd 24), .inl (ka 0, 4, .inl u.2.2.2.2.2.2.2.2.2.2.1.2.2.2.2)), ((bd 2), .inr (3, [.int (nI L), .ref (bd 7), .ref (bd 8), .ref (bd 9), .ref (bd 10), .ref (bd 11), .int sz9, .int re9])), ((bd 7), .inl (ka 0, 8, .inl mo)), ((bd 8), .inl (ka 0, 8, .inl an)), ((bd 9), .inl (ka 0, 8, .inl pl)), ((bd 10), .inl (ka 0, 24, .inl ho)), ((bd 11), .inl (ka 0, 2, .inl le)), ((bd 5), .inr (6, [.int u.2.2.2.2.2.2.2.2.2.2.2.1, .int u.2.2.2.2.2.2.2.2.2.2.2.2, .ref (na 39), .ref (na 40)])), ((bd 1), .inl (ka 3, 6, .inr (.inr (.inr (.inr (nR na 0)))))), ((bd 6), .inr (5, [.ref (bd 25), .ref (bd 30), .int la9])), ((bd 3), .inr (0, [.ref (bd 12), .ref (bd 13), .ref (bd 14), .ref (bd 15), .ref (bd 16), .ref (bd 17), .ref (na 21), .ref (na 22), .ref (na 23), .ref (na 24)])), ((bd 14), .inl (ka 2, 3, .inl (kI kp))), ((bd 15), .inl (ka 3, 6, .inr (.inr (.inr (.inr (nR na 8))))))] ++ nP na u.1) := by
  refine zL.mk RX7 (by decide +kernel) rfl (Nat.le_of_ble_eq_true rfl) ?_
  intro p e s m below meth c A ls args Q hQ hx hb hF hB hl
  replace hl : lv_has ls 6 [(0, .ref (bd 31))] := hl
  refine zldc2 (v := (17 : Int64)) ww_43_19 hF dX7_digest_0 ?_
  refine lv_lstore_n (lv' := [(1, .long (17 : Int64)), (0, .ref (bd 31))]) hx hb dX7_digest_3 rfl hl (by decide) rfl ?_
  clear hl
  clear ls
  intro ls hl
  refine lv_iconst (v := 0) hx hb dX7_digest_4 (by decide) ?_
  refine lv_istore_n (lv' := [(3, .int (0 : Int32)), (1, .long (17 : Int64)), (0, .ref (bd 31))]) hx hb dX7_digest_5 rfl hl (by decide) rfl ?_
  clear hl
  clear ls
  intro ls hl
  have lp6 : ∀ (fl : Nat) (ic : Nat) (N1 : Nat → N5) (o4 : Bool), (hi : ic ≤ 8) → (kN1 : ∀ k9, k9 ≠ 34 → N1 k9 = N k9) → 8 - ic < fl → ∀ (H : Heap) (locs : List Loc), zB D A s ([((bd 31), .inr (7, [.ref (bd 0), .ref (bd 1), .ref (na 6), .ref (na 7), .ref (bd 2), .ref (bd 3), .ref (bd 4), .ref (bd 5), .ref (bd 6)])), ((bd 0), .inr (2, [.int (bI o), .ref (na 25), .ref (na 26), .ref (na 27)])), ((bd 4), .inr (4, [.ref (bd 18), .ref (bd 19), .int cnt, .int opb, .int rch, .int wnt, .ref (bd 20), .ref (bd 21), .ref (bd 22), .int bb.1, .ref (bd 23), .ref (bd 24), .long (Int64.ofInt bb.2.1), .long (Int64.ofInt bb.2.2.1)])), ((bd 18), .inr (2, [.int (bI o4), .ref (na 31), .ref (na 32), .ref (na 33)])), ((bd 19), .inl (ka 0, 3, .inl zs)), ((bd 20), .inl (ka 3, 5, .inr (.inr (.inr (.inr (nR na 34)))))), ((bd 21), .inl (ka 0, 4, .inl sa)), ((bd 22), .inl (ka 0, 4, .inl ss)), ((bd 23), .inl (ka 0, 4, .inl bb.2.2.2.1)), ((bd 24), .inl (ka 0, 4, .inl bb.2.2.2.2)), ((bd 2), .inr (3, [.int (nI L), .ref (bd 7), .ref (bd 8), .ref (bd 9), .ref (bd 10), .ref (bd 11), .int sz9, .int re9])), ((bd 7), .inl (ka 0, 8, .inl mo)), ((bd 8), .inl (ka 0, 8, .inl an)), ((bd 9), .inl (ka 0, 8, .inl pl)), ((bd 10), .inl (ka 0, 24, .inl ho)), ((bd 11), .inl (ka 0, 2, .inl le)), ((bd 5), .inr (6, [.int dn, .int up9, .ref (na 39), .ref (na 40)])), ((bd 1), .inl (ka 3, 6, .inr (.inr (.inr (.inr (nR na 0)))))), ((bd 6), .inr (5, [.ref (bd 25), .ref (bd 30), .int la9])), ((bd 3), .inr (0, [.ref (bd 12), .ref (bd 13), .ref (bd 14), .ref (bd 15), .ref (bd 16), .ref (bd 17), .ref (na 21), .ref (na 22), .ref (na 23), .ref (na 24)])), ((bd 14), .inl (ka 2, 3, .inl (kI kp))), ((bd 15), .inl (ka 3, 6, .inr (.inr (.inr (.inr (nR na 8))))))] ++ nP na N1) H locs → ∀ ls : Array Slot, lv_has ls 6 [(1, .long (dqA la9 sz9 re9 L mo an pl ho kp ic)), (3, .int (nI ic)), (0, .ref (bd 31))] → W p l e (zRm 11 277 0 0) s m args below meth c H locs 0 0 Q (F0 m 6 ls []) := by
    intro fl
    induction fl with
    | zero => intro ic N1 o4 hi kN1 hfl; exact absurd hfl (Nat.not_lt_zero _)
    | succ fl ih6 =>
      intro ic N1 o4 hi kN1 hfl6 H locs hB ls hl
      refine lv_iload_n hx hb dX7_digest_6 rfl (lv_at hl 1 rfl) ?_
      refine lv_bipush (v := 8) hx hb dX7_digest_7 (by decide) ?_
      refine lv_icmp_ge (tgt := 31) hx hb dX7_digest_9 (by decide) (fun h9 => ?_) (fun h9 => ?_)
      · skip
        have hi2 : ic = 8 := by have := (nI_leI (a := 8) (b := ic) (by decide) (by omega)).mp h9; omega
        refine lv_iconst (v := 0) hx hb dX7_digest_31 (by decide) ?_
        refine lv_istore_n (lv' := [(3, .int (0 : Int32)), (1, .long (dqA la9 sz9 re9 L mo an pl ho kp ic)), (0, .ref (bd 31))]) hx hb dX7_digest_32 rfl hl (by decide) rfl ?_
        clear hl
        clear ls
        intro ls hl
        have hic8 := hi2
        rw [hi2] at hl
        have lp33 : ∀ (fl : Nat) (jc : Nat), (hj : jc ≤ 6) → 6 - jc < fl → ∀ (H : Heap) (locs : List Loc), zB D A s ([((bd 31), .inr (7, [.ref (bd 0), .ref (bd 1), .ref (na 6), .ref (na 7), .ref (bd 2), .ref (bd 3), .ref (bd 4), .ref (bd 5), .ref (bd 6)])), ((bd 0), .inr (2, [.int (bI o), .ref (na 25), .ref (na 26), .ref (na 27)])), ((bd 4), .inr (4, [.ref (bd 18), .ref (bd 19), .int cnt, .int opb, .int rch, .int wnt, .ref (bd 20), .ref (bd 21), .ref (bd 22), .int bb.1, .ref (bd 23), .ref (bd 24), .long (Int64.ofInt bb.2.1), .long (Int64.ofInt bb.2.2.1)])), ((bd 18), .inr (2, [.int (bI o4), .ref (na 31), .ref (na 32), .ref (na 33)])), ((bd 19), .inl (ka 0, 3, .inl zs)), ((bd 20), .inl (ka 3, 5, .inr (.inr (.inr (.inr (nR na 34)))))), ((bd 21), .inl (ka 0, 4, .inl sa)), ((bd 22), .inl (ka 0, 4, .inl ss)), ((bd 23), .inl (ka 0, 4, .inl bb.2.2.2.1)), ((bd 24), .inl (ka 0, 4, .inl bb.2.2.2.2)), ((bd 2), .inr (3, [.int (nI L), .ref (bd 7), .ref (bd 8), .ref (bd 9), .ref (bd 10), .ref (bd 11), .int sz9, .int re9])), ((bd 7), .inl (ka 0, 8, .inl mo)), ((bd 8), .inl (ka 0, 8, .inl an)), ((bd 9), .inl (ka 0, 8, .inl pl)), ((bd 10), .inl (ka 0, 24, .inl ho)), ((bd 11), .inl (ka 0, 2, .inl le)), ((bd 5), .inr (6, [.int dn, .int up9, .ref (na 39), .ref (na 40)])), ((bd 1), .inl (ka 3, 6, .inr (.inr (.inr (.inr (nR na 0)))))), ((bd 6), .inr (5, [.ref (bd 25), .ref (bd 30), .int la9])), ((bd 3), .inr (0, [.ref (bd 12), .ref (bd 13), .ref (bd 14), .ref (bd 15), .ref (bd 16), .ref (bd 17), .ref (na 21), .ref (na 22), .ref (na 23), .ref (na 24)])), ((bd 14), .inl (ka 2, 3, .inl (kI kp))), ((bd 15), .inl (ka 3, 6, .inr (.inr (.inr (.inr (nR na 8))))))] ++ nP na N1) H locs → ∀ ls : Array Slot, lv_has ls 6 [(1, .long (dgN (nN N) (dqA la9 sz9 re9 L mo an pl ho kp 8) (5 * jc))), (3, .int (nI jc)), (0, .ref (bd 31))] → W p l e (zRm 11 277 0 0) s m args below meth c H locs 0 0 Q (F0 m 33 ls []) := by
          intro fl
          induction fl with
          | zero => intro jc hj hfl; exact absurd hfl (Nat.not_lt_zero _)
          | succ fl ih33 =>
            intro jc hj hfl33 H locs hB ls hl
            refine lv_iload_n hx hb dX7_digest_33 rfl (lv_at hl 1 rfl) ?_
            refine lv_bipush (v := 6) hx hb dX7_digest_34 (by decide) ?_
            refine lv_icmp_ge (tgt := 56) hx hb dX7_digest_36 (by decide) (fun h36 => ?_) (fun h36 => ?_)
            · skip
              have hj2 : jc = 6 := by have := (nI_leI (a := 6) (b := jc) (by decide) (by omega)).mp h36; omega
              refine lv_iconst (v := 0) hx hb dX7_digest_56 (by decide) ?_
              refine lv_istore_n (lv' := [(3, .int (0 : Int32)), (1, .long (dgN (nN N) (dqA la9 sz9 re9 L mo an pl ho kp 8) (5 * jc))), (0, .ref (bd 31))]) hx hb dX7_digest_57 rfl hl (by decide) rfl ?_
              clear hl
              clear ls
              intro ls hl
              have hjc6 := hj2
              rw [hj2] at hl
              have lp58 : ∀ (fl : Nat) (pc9 : Nat) (N2 : Nat → N5) (sa1 : Nat → Int32) (ss1 : Nat → Int32) (o1 : Bool) (o2 : Bool) (wn1 : Int32) (cn1 : Int32) (op1 : Int32) (rc1 : Int32) (zs1 : Nat → Int32) (b9 : bT) (dn1 : Int32) (up1 : Int32), (hp9c : pc9 ≤ 2) → (kN2 : (∀ k9, (k9 < 6 ∨ (8 ≤ k9 ∧ k9 < 34)) → N2 k9 = N k9)) → (hB1 : bB b9) → 2 - pc9 < fl → ∀ (H : Heap) (locs : List Loc), zB D A s ([((bd 31), .inr (7, [.ref (bd 0), .ref (bd 1), .ref (na 6), .ref (na 7), .ref (bd 2), .ref (bd 3), .ref (bd 4), .ref (bd 5), .ref (bd 6)])), ((bd 0), .inr (2, [.int (bI o1), .ref (na 25), .ref (na 26), .ref (na 27)])), ((bd 4), .inr (4, [.ref (bd 18), .ref (bd 19), .int cn1, .int op1, .int rc1, .int wn1, .ref (bd 20), .ref (bd 21), .ref (bd 22), .int b9.1, .ref (bd 23), .ref (bd 24), .long (Int64.ofInt b9.2.1), .long (Int64.ofInt b9.2.2.1)])), ((bd 18), .inr (2, [.int (bI o2), .ref (na 31), .ref (na 32), .ref (na 33)])), ((bd 19), .inl (ka 0, 3, .inl zs1)), ((bd 20), .inl (ka 3, 5, .inr (.inr (.inr (.inr (nR na 34)))))), ((bd 21), .inl (ka 0, 4, .inl sa1)), ((bd 22), .inl (ka 0, 4, .inl ss1)), ((bd 23), .inl (ka 0, 4, .inl b9.2.2.2.1)), ((bd 24), .inl (ka 0, 4, .inl b9.2.2.2.2)), ((bd 2), .inr (3, [.int (nI L), .ref (bd 7), .ref (bd 8), .ref (bd 9), .ref (bd 10), .ref (bd 11), .int sz9, .int re9])), ((bd 7), .inl (ka 0, 8, .inl mo)), ((bd 8), .inl (ka 0, 8, .inl an)), ((bd 9), .inl (ka 0, 8, .inl pl)), ((bd 10), .inl (ka 0, 24, .inl ho)), ((bd 11), .inl (ka 0, 2, .inl le)), ((bd 5), .inr (6, [.int dn1, .int up1, .ref (na 39), .ref (na 40)])), ((bd 1), .inl (ka 3, 6, .inr (.inr (.inr (.inr (nR na 0)))))), ((bd 6), .inr (5, [.ref (bd 25), .ref (bd 30), .int la9])), ((bd 3), .inr (0, [.ref (bd 12), .ref (bd 13), .ref (bd 14), .ref (bd 15), .ref (bd 16), .ref (bd 17), .ref (na 21), .ref (na 22), .ref (na 23), .ref (na 24)])), ((bd 14), .inl (ka 2, 3, .inl (kI kp))), ((bd 15), .inl (ka 3, 6, .inr (.inr (.inr (.inr (nR na 8))))))] ++ nP na N2) H locs → ∀ ls : Array Slot, lv_has ls 6 [(1, .long (dgP (la9, nI L, sz9, re9, 0, 0, 0, 0) L mo an pl ho le (dgN (nN N) (dqA la9 sz9 re9 L mo an pl ho kp 8) 30) pc9)), (3, .int (nI pc9)), (0, .ref (bd 31))] → W p l e (zRm 11 277 0 0) s m args below meth c H locs 0 0 Q (F0 m 58 ls []) := by
                intro fl
                induction fl with
                | zero => intro pc9 N2 sa1 ss1 o1 o2 wn1 cn1 op1 rc1 zs1 b9 dn1 up1 hp9c kN2 hB1 hfl; exact absurd hfl (Nat.not_lt_zero _)
                | succ fl ih58 =>
                  intro pc9 N2 sa1 ss1 o1 o2 wn1 cn1 op1 rc1 zs1 b9 dn1 up1 hp9c kN2 hB1 hfl58 H locs hB ls hl
                  refine lv_iload_n hx hb dX7_digest_58 rfl (lv_at hl 1 rfl) ?_
                  refine lv_iconst (v := 2) hx hb dX7_digest_59 (by decide) ?_
                  refine lv_icmp_ge (tgt := 76) hx hb dX7_digest_60 (by decide) (fun h60 => ?_) (fun h60 => ?_)
                  · skip
                    have hp9c2 : pc9 = 2 := by have := (nI_leI (a := 2) (b := pc9) (by decide) (by omega)).mp h60; omega
                    refine lv_iconst (v := 0) hx hb dX7_digest_76 (by decide) ?_
                    refine lv_istore_n (lv' := [(3, .int (0 : Int32)), (1, .long (dgP (la9, nI L, sz9, re9, 0, 0, 0, 0) L mo an pl ho le (dgN (nN N) (dqA la9 sz9 re9 L mo an pl ho kp 8) 30) pc9)), (0, .ref (bd 31))]) hx hb dX7_digest_77 rfl hl (by decide) rfl ?_
                    clear hl
                    clear ls
                    intro ls hl
                    have hp2 := hp9c2
                    rw [hp9c2] at hl
                    have lp78 : ∀ (fl : Nat) (kk : Nat), (hkk : kk ≤ 3) → 3 - kk < fl → ∀ (H : Heap) (locs : List Loc), zB D A s ([((bd 31), .inr (7, [.ref (bd 0), .ref (bd 1), .ref (na 6), .ref (na 7), .ref (bd 2), .ref (bd 3), .ref (bd 4), .ref (bd 5), .ref (bd 6)])), ((bd 0), .inr (2, [.int (bI o1), .ref (na 25), .ref (na 26), .ref (na 27)])), ((bd 4), .inr (4, [.ref (bd 18), .ref (bd 19), .int cn1, .int op1, .int rc1, .int wn1, .ref (bd 20), .ref (bd 21), .ref (bd 22), .int b9.1, .ref (bd 23), .ref (bd 24), .long (Int64.ofInt b9.2.1), .long (Int64.ofInt b9.2.2.1)])), ((bd 18), .inr (2, [.int (bI o2), .ref (na 31), .ref (na 32), .ref (na 33)])), ((bd 19), .inl (ka 0, 3, .inl zs1)), ((bd 20), .inl (ka 3, 5, .inr (.inr (.inr (.inr (nR na 34)))))), ((bd 21), .inl (ka 0, 4, .inl sa1)), ((bd 22), .inl (ka 0, 4, .inl ss1)), ((bd 23), .inl (ka 0, 4, .inl b9.2.2.2.1)), ((bd 24), .inl (ka 0, 4, .inl b9.2.2.2.2)), ((bd 2), .inr (3, [.int (nI L), .ref (bd 7), .ref (bd 8), .ref (bd 9), .ref (bd 10), .ref (bd 11), .int sz9, .int re9])), ((bd 7), .inl (ka 0, 8, .inl mo)), ((bd 8), .inl (ka 0, 8, .inl an)), ((bd 9), .inl (ka 0, 8, .inl pl)), ((bd 10), .inl (ka 0, 24, .inl ho)), ((bd 11), .inl (ka 0, 2, .inl le)), ((bd 5), .inr (6, [.int dn1, .int up1, .ref (na 39), .ref (na 40)])), ((bd 1), .inl (ka 3, 6, .inr (.inr (.inr (.inr (nR na 0)))))), ((bd 6), .inr (5, [.ref (bd 25), .ref (bd 30), .int la9])), ((bd 3), .inr (0, [.ref (bd 12), .ref (bd 13), .ref (bd 14), .ref (bd 15), .ref (bd 16), .ref (bd 17), .ref (na 21), .ref (na 22), .ref (na 23), .ref (na 24)])), ((bd 14), .inl (ka 2, 3, .inl (kI kp))), ((bd 15), .inl (ka 3, 6, .inr (.inr (.inr (.inr (nR na 8))))))] ++ nP na N2) H locs → ∀ ls : Array Slot, lv_has ls 6 [(1, .long (dqK kp N (dgP (la9, nI L, sz9, re9, 0, 0, 0, 0) L mo an pl ho le (dgN (nN N) (dqA la9 sz9 re9 L mo an pl ho kp 8) 30) 2) kk)), (3, .int (nI kk)), (0, .ref (bd 31))] → W p l e (zRm 11 277 0 0) s m args below meth c H locs 0 0 Q (F0 m 78 ls []) := by
                      intro fl
                      induction fl with
                      | zero => intro kk hkk hfl; exact absurd hfl (Nat.not_lt_zero _)
                      | succ fl ih78 =>
                        intro kk hkk hfl78 H locs hB ls hl
                        refine lv_iload_n hx hb dX7_digest_78 rfl (lv_at hl 1 rfl) ?_
                        refine lv_iconst (v := 3) hx hb dX7_digest_79 (by decide) ?_
                        refine lv_icmp_ge (tgt := 135) hx hb dX7_digest_80 (by decide) (fun h80 => ?_) (fun h80 => ?_)
                        · skip
                          have hkk2 : kk = 3 := by have := (nI_leI (a := 3) (b := kk) (by decide) (by omega)).mp h80; omega
                          refine lv_lload_n hx hb dX7_digest_135 rfl (lv_at hl 0 rfl) ?_
                          exact zretl hF hB (N2, sa1, ss1, (o1), (o2), wn1, cn1, op1, rc1, zs1, b9, dn1, up1) (⟨by rw [dqV, hkk2], kN2, hB1⟩) (rfl) dX7_digest_136 hQ
                        · skip
                          have hkk2 : kk < 3 := Nat.not_le.mp (fun e9 => h80 ((nI_leI (a := 3) (b := kk) (by decide) (by omega)).mpr e9))
                          refine lv_iconst (v := 0) hx hb dX7_digest_83 (by decide) ?_
                          refine lv_istore (lv' := [(4, .int (0 : Int32)), (1, .long (dqK kp N (dgP (la9, nI L, sz9, re9, 0, 0, 0, 0) L mo an pl ho le (dgN (nN N) (dqA la9 sz9 re9 L mo an pl ho kp 8) 30) 2) kk)), (3, .int (nI kk)), (0, .ref (bd 31))]) hx hb dX7_digest_84 hl (by decide) rfl ?_
                          clear hl
                          clear ls
                          intro ls hl
                          have lp86 : ∀ (fl : Nat) (bc : Nat), (hbc : bc ≤ 2) → 2 - bc < fl → ∀ (H : Heap) (locs : List Loc), zB D A s ([((bd 31), .inr (7, [.ref (bd 0), .ref (bd 1), .ref (na 6), .ref (na 7), .ref (bd 2), .ref (bd 3), .ref (bd 4), .ref (bd 5), .ref (bd 6)])), ((bd 0), .inr (2, [.int (bI o1), .ref (na 25), .ref (na 26), .ref (na 27)])), ((bd 4), .inr (4, [.ref (bd 18), .ref (bd 19), .int cn1, .int op1, .int rc1, .int wn1, .ref (bd 20), .ref (bd 21), .ref (bd 22), .int b9.1, .ref (bd 23), .ref (bd 24), .long (Int64.ofInt b9.2.1), .long (Int64.ofInt b9.2.2.1)])), ((bd 18), .inr (2, [.int (bI o2), .ref (na 31), .ref (na 32), .ref (na 33)])), ((bd 19), .inl (ka 0, 3, .inl zs1)), ((bd 20), .inl (ka 3, 5, .inr (.inr (.inr (.inr (nR na 34)))))), ((bd 21), .inl (ka 0, 4, .inl sa1)), ((bd 22), .inl (ka 0, 4, .inl ss1)), ((bd 23), .inl (ka 0, 4, .inl b9.2.2.2.1)), ((bd 24), .inl (ka 0, 4, .inl b9.2.2.2.2)), ((bd 2), .inr (3, [.int (nI L), .ref (bd 7), .ref (bd 8), .ref (bd 9), .ref (bd 10), .ref (bd 11), .int sz9, .int re9])), ((bd 7), .inl (ka 0, 8, .inl mo)), ((bd 8), .inl (ka 0, 8, .inl an)), ((bd 9), .inl (ka 0, 8, .inl pl)), ((bd 10), .inl (ka 0, 24, .inl ho)), ((bd 11), .inl (ka 0, 2, .inl le)), ((bd 5), .inr (6, [.int dn1, .int up1, .ref (na 39), .ref (na 40)])), ((bd 1), .inl (ka 3, 6, .inr (.inr (.inr (.inr (nR na 0)))))), ((bd 6), .inr (5, [.ref (bd 25), .ref (bd 30), .int la9])), ((bd 3), .inr (0, [.ref (bd 12), .ref (bd 13), .ref (bd 14), .ref (bd 15), .ref (bd 16), .ref (bd 17), .ref (na 21), .ref (na 22), .ref (na 23), .ref (na 24)])), ((bd 14), .inl (ka 2, 3, .inl (kI kp))), ((bd 15), .inl (ka 3, 6, .inr (.inr (.inr (.inr (nR na 8))))))] ++ nP na N2) H locs → ∀ ls : Array Slot, lv_has ls 6 [(1, .long (dqB kp N kk (dqK kp N (dgP (la9, nI L, sz9, re9, 0, 0, 0, 0) L mo an pl ho le (dgN (nN N) (dqA la9 sz9 re9 L mo an pl ho kp 8) 30) 2) kk) bc)), (4, .int (nI bc)), (3, .int (nI kk)), (0, .ref (bd 31))] → W p l e (zRm 11 277 0 0) s m args below meth c H locs 0 0 Q (F0 m 86 ls []) := by
                            intro fl
                            induction fl with
                            | zero => intro bc hbc hfl; exact absurd hfl (Nat.not_lt_zero _)
                            | succ fl ih86 =>
                              intro bc hbc hfl86 H locs hB ls hl
                              refine lv_iload hx hb dX7_digest_86 (lv_at hl 1 rfl) ?_
                              refine lv_iconst (v := 2) hx hb dX7_digest_88 (by decide) ?_
                              refine lv_icmp_ge (tgt := 129) hx hb dX7_digest_89 (by decide) (fun h89 => ?_) (fun h89 => ?_)
                              · skip
                                have hbc2 : bc = 2 := by have := (nI_leI (a := 2) (b := bc) (by decide) (by omega)).mp h89; omega
                                refine lv_iinc (v := nI (kk + 1)) (lv' := [(3, .int (nI (kk + 1))), (1, .long (dqB kp N kk (dqK kp N (dgP (la9, nI L, sz9, re9, 0, 0, 0, 0) L mo an pl ho le (dgN (nN N) (dqA la9 sz9 re9 L mo an pl ho kp 8) 30) 2) kk) bc)), (4, .int (nI bc)), (0, .ref (bd 31))]) hx hb dX7_digest_129 hl (k := 2) rfl (nI_1 _) (by decide) rfl ?_
                                clear hl
                                clear ls
                                intro ls hl
                                refine lv_goto (tgt := 78) hx hb dX7_digest_132 (by decide) ?_
                                rw [hbc2] at hl
                                exact ih78 (kk + 1) (by omega) (by omega) _ _ (hB) _ (lv_sub hl [1, 0, 3] rfl)
                              · skip
                                have hbc2 : bc < 2 := Nat.not_le.mp (fun e9 => h89 ((nI_leI (a := 2) (b := bc) (by decide) (by omega)).mpr e9))
                                refine lv_iconst (v := 0) hx hb dX7_digest_92 (by decide) ?_
                                refine lv_istore (lv' := [(5, .int (0 : Int32)), (1, .long (dqB kp N kk (dqK kp N (dgP (la9, nI L, sz9, re9, 0, 0, 0, 0) L mo an pl ho le (dgN (nN N) (dqA la9 sz9 re9 L mo an pl ho kp 8) 30) 2) kk) bc)), (4, .int (nI bc)), (3, .int (nI kk)), (0, .ref (bd 31))]) hx hb dX7_digest_93 hl (by decide) rfl ?_
                                clear hl
                                clear ls
                                intro ls hl
                                have lp95 : ∀ (fl : Nat) (cj : Nat), (hcj : cj ≤ 5) → 5 - cj < fl → ∀ (H : Heap) (locs : List Loc), zB D A s ([((bd 31), .inr (7, [.ref (bd 0), .ref (bd 1), .ref (na 6), .ref (na 7), .ref (bd 2), .ref (bd 3), .ref (bd 4), .ref (bd 5), .ref (bd 6)])), ((bd 0), .inr (2, [.int (bI o1), .ref (na 25), .ref (na 26), .ref (na 27)])), ((bd 4), .inr (4, [.ref (bd 18), .ref (bd 19), .int cn1, .int op1, .int rc1, .int wn1, .ref (bd 20), .ref (bd 21), .ref (bd 22), .int b9.1, .ref (bd 23), .ref (bd 24), .long (Int64.ofInt b9.2.1), .long (Int64.ofInt b9.2.2.1)])), ((bd 18), .inr (2, [.int (bI o2), .ref (na 31), .ref (na 32), .ref (na 33)])), ((bd 19), .inl (ka 0, 3, .inl zs1)), ((bd 20), .inl (ka 3, 5, .inr (.inr (.inr (.inr (nR na 34)))))), ((bd 21), .inl (ka 0, 4, .inl sa1)), ((bd 22), .inl (ka 0, 4, .inl ss1)), ((bd 23), .inl (ka 0, 4, .inl b9.2.2.2.1)), ((bd 24), .inl (ka 0, 4, .inl b9.2.2.2.2)), ((bd 2), .inr (3, [.int (nI L), .ref (bd 7), .ref (bd 8), .ref (bd 9), .ref (bd 10), .ref (bd 11), .int sz9, .int re9])), ((bd 7), .inl (ka 0, 8, .inl mo)), ((bd 8), .inl (ka 0, 8, .inl an)), ((bd 9), .inl (ka 0, 8, .inl pl)), ((bd 10), .inl (ka 0, 24, .inl ho)), ((bd 11), .inl (ka 0, 2, .inl le)), ((bd 5), .inr (6, [.int dn1, .int up1, .ref (na 39), .ref (na 40)])), ((bd 1), .inl (ka 3, 6, .inr (.inr (.inr (.inr (nR na 0)))))), ((bd 6), .inr (5, [.ref (bd 25), .ref (bd 30), .int la9])), ((bd 3), .inr (0, [.ref (bd 12), .ref (bd 13), .ref (bd 14), .ref (bd 15), .ref (bd 16), .ref (bd 17), .ref (na 21), .ref (na 22), .ref (na 23), .ref (na 24)])), ((bd 14), .inl (ka 2, 3, .inl (kI kp))), ((bd 15), .inl (ka 3, 6, .inr (.inr (.inr (.inr (nR na 8))))))] ++ nP na N2) H locs → ∀ ls : Array Slot, lv_has ls 6 [(1, .long (dqC kp N kk bc (dqB kp N kk (dqK kp N (dgP (la9, nI L, sz9, re9, 0, 0, 0, 0) L mo an pl ho le (dgN (nN N) (dqA la9 sz9 re9 L mo an pl ho kp 8) 30) 2) kk) bc) cj)), (5, .int (nI cj)), (4, .int (nI bc)), (3, .int (nI kk)), (0, .ref (bd 31))] → W p l e (zRm 11 277 0 0) s m args below meth c H locs 0 0 Q (F0 m 95 ls []) := by
                                  intro fl
                                  induction fl with
                                  | zero => intro cj hcj hfl; exact absurd hfl (Nat.not_lt_zero _)
                                  | succ fl ih95 =>
                                    intro cj hcj hfl95 H locs hB ls hl
                                    refine lv_iload hx hb dX7_digest_95 (lv_at hl 1 rfl) ?_
                                    refine lv_iconst (v := 5) hx hb dX7_digest_97 (by decide) ?_
                                    refine lv_icmp_ge (tgt := 123) hx hb dX7_digest_98 (by decide) (fun h98 => ?_) (fun h98 => ?_)
                                    · skip
                                      have hcj2 : cj = 5 := by have := (nI_leI (a := 5) (b := cj) (by decide) (by omega)).mp h98; omega
                                      refine lv_iinc (v := nI (bc + 1)) (lv' := [(4, .int (nI (bc + 1))), (1, .long (dqC kp N kk bc (dqB kp N kk (dqK kp N (dgP (la9, nI L, sz9, re9, 0, 0, 0, 0) L mo an pl ho le (dgN (nN N) (dqA la9 sz9 re9 L mo an pl ho kp 8) 30) 2) kk) bc) cj)), (5, .int (nI cj)), (3, .int (nI kk)), (0, .ref (bd 31))]) hx hb dX7_digest_123 hl (k := 2) rfl (nI_1 _) (by decide) rfl ?_
                                      clear hl
                                      clear ls
                                      intro ls hl
                                      refine lv_goto (tgt := 86) hx hb dX7_digest_126 (by decide) ?_
                                      rw [hcj2] at hl
                                      exact ih86 (bc + 1) (by omega) (by omega) _ _ (hB) _ (lv_sub hl [1, 0, 3, 4] rfl)
                                    · skip
                                      have hcj2 : cj < 5 := Nat.not_le.mp (fun e9 => h98 ((nI_leI (a := 5) (b := cj) (by decide) (by omega)).mpr e9))
                                      refine zldc2 (v := (31 : Int64)) ww_43_20 hF dX7_digest_101 ?_
                                      refine lv_lload_n hx hb dX7_digest_104 rfl (lv_at hl 0 rfl) ?_
                                      refine lv_lmul hx hb dX7_digest_105 ?_
                                      refine lv_aload_n hx hb dX7_digest_106 rfl (lv_at hl 4 rfl) ?_
                                      refine lv_iload_n hx hb dX7_digest_107 rfl (lv_at hl 3 rfl) ?_
                                      refine lv_iload hx hb dX7_digest_108 (lv_at hl 2 rfl) ?_
                                      refine lv_iload hx hb dX7_digest_110 (lv_at hl 1 rfl) ?_
                                      refine zVl zm_X7_284 hF hB (c_X7_reading l D ka kb bd na kp N2 (nI kk) (nI bc) (nI cj) ) ([0, 19, 20, 21] ++ npr 22) (zsel_pool rfl rfl) (va_nd_pool rfl rfl) ([(bd 31), (bd 3), (bd 14), (bd 15)] ++ nA na) (fun _ => zad_pool rfl) (zad_pool rfl) 0 7 rfl rfl rfl ⟨Nat.le_of_ble_eq_true rfl, Nat.le_of_ble_eq_true rfl⟩ rfl hl.1 (Nat.le_of_ble_eq_true rfl) ⟨Nat.le_refl _, Nat.le_refl _⟩ dX7_digest_112 ?_
                                      clear hB
                                      try clear locs
                                      try clear H
                                      intro r1 u1 H locs hp hB
                                      obtain rfl : r1 = if rdK (nI kk) (nI bc) (nI cj) = true then (if kp (aN (nI kk)) = true then cmp5 (N2 (8 + (2 * aN (nI kk) + aN (nI bc)))) (aN (nI cj)) else lMin - (-3 : Int32).toInt64) else lMin - (-2 : Int32).toInt64 := hp
                                      replace hB : zB D A s ([((bd 31), .inr (7, [.ref (bd 0), .ref (bd 1), .ref (na 6), .ref (na 7), .ref (bd 2), .ref (bd 3), .ref (bd 4), .ref (bd 5), .ref (bd 6)])), ((bd 0), .inr (2, [.int (bI o1), .ref (na 25), .ref (na 26), .ref (na 27)])), ((bd 4), .inr (4, [.ref (bd 18), .ref (bd 19), .int cn1, .int op1, .int rc1, .int wn1, .ref (bd 20), .ref (bd 21), .ref (bd 22), .int b9.1, .ref (bd 23), .ref (bd 24), .long (Int64.ofInt b9.2.1), .long (Int64.ofInt b9.2.2.1)])), ((bd 18), .inr (2, [.int (bI o2), .ref (na 31), .ref (na 32), .ref (na 33)])), ((bd 19), .inl (ka 0, 3, .inl zs1)), ((bd 20), .inl (ka 3, 5, .inr (.inr (.inr (.inr (nR na 34)))))), ((bd 21), .inl (ka 0, 4, .inl sa1)), ((bd 22), .inl (ka 0, 4, .inl ss1)), ((bd 23), .inl (ka 0, 4, .inl b9.2.2.2.1)), ((bd 24), .inl (ka 0, 4, .inl b9.2.2.2.2)), ((bd 2), .inr (3, [.int (nI L), .ref (bd 7), .ref (bd 8), .ref (bd 9), .ref (bd 10), .ref (bd 11), .int sz9, .int re9])), ((bd 7), .inl (ka 0, 8, .inl mo)), ((bd 8), .inl (ka 0, 8, .inl an)), ((bd 9), .inl (ka 0, 8, .inl pl)), ((bd 10), .inl (ka 0, 24, .inl ho)), ((bd 11), .inl (ka 0, 2, .inl le)), ((bd 5), .inr (6, [.int dn1, .int up1, .ref (na 39), .ref (na 40)])), ((bd 1), .inl (ka 3, 6, .inr (.inr (.inr (.inr (nR na 0)))))), ((bd 6), .inr (5, [.ref (bd 25), .ref (bd 30), .int la9])), ((bd 3), .inr (0, [.ref (bd 12), .ref (bd 13), .ref (bd 14), .ref (bd 15), .ref (bd 16), .ref (bd 17), .ref (na 21), .ref (na 22), .ref (na 23), .ref (na 24)])), ((bd 14), .inl (ka 2, 3, .inl (kI kp))), ((bd 15), .inl (ka 3, 6, .inr (.inr (.inr (.inr (nR na 8))))))] ++ nP na N2) H locs := zB_pool hB rfl rfl rfl rfl
                                      refine ztopl (y := (rqX kp N kk bc cj)) (rq_e (by omega) (by omega) (by omega) kN2) ?_
                                      refine lv_ladd hx hb dX7_digest_115 ?_
                                      refine ztopl (y := (dqC kp N kk bc (dqB kp N kk (dqK kp N (dgP (la9, nI L, sz9, re9, 0, 0, 0, 0) L mo an pl ho le (dgN (nN N) (dqA la9 sz9 re9 L mo an pl ho kp 8) 30) 2) kk) bc) (cj + 1))) (rfl) ?_
                                      refine lv_lstore_n (lv' := [(1, .long (dqC kp N kk bc (dqB kp N kk (dqK kp N (dgP (la9, nI L, sz9, re9, 0, 0, 0, 0) L mo an pl ho le (dgN (nN N) (dqA la9 sz9 re9 L mo an pl ho kp 8) 30) 2) kk) bc) (cj + 1))), (5, .int (nI cj)), (4, .int (nI bc)), (3, .int (nI kk)), (0, .ref (bd 31))]) hx hb dX7_digest_116 rfl hl (by decide) rfl ?_
                                      clear hl
                                      clear ls
                                      intro ls hl
                                      refine lv_iinc (v := nI (cj + 1)) (lv' := [(5, .int (nI (cj + 1))), (1, .long (dqC kp N kk bc (dqB kp N kk (dqK kp N (dgP (la9, nI L, sz9, re9, 0, 0, 0, 0) L mo an pl ho le (dgN (nN N) (dqA la9 sz9 re9 L mo an pl ho kp 8) 30) 2) kk) bc) (cj + 1))), (4, .int (nI bc)), (3, .int (nI kk)), (0, .ref (bd 31))]) hx hb dX7_digest_117 hl (k := 1) rfl (nI_1 _) (by decide) rfl ?_
                                      clear hl
                                      clear ls
                                      intro ls hl
                                      refine lv_goto (tgt := 95) hx hb dX7_digest_120 (by decide) ?_
                                      exact ih95 (cj + 1) (by omega) (by omega) _ _ (hB) _ (lv_sub hl [1, 0, 2, 3, 4] rfl)
                                exact lp95 (5 - 0 + 1) 0 (Nat.zero_le _) (by omega) _ _ (hB) _ (lv_sub hl [1, 0, 2, 3, 4] rfl)
                          exact lp86 (2 - 0 + 1) 0 (Nat.zero_le _) (by omega) _ _ (hB) _ (lv_sub hl [1, 0, 2, 3] rfl)
                    exact lp78 (3 - 0 + 1) 0 (Nat.zero_le _) (by omega) _ _ (hB) _ (lv_sub hl [1, 0, 2] rfl)
                  · skip
                    have hp9c2 : pc9 < 2 := Nat.not_le.mp (fun e9 => h60 ((nI_leI (a := 2) (b := pc9) (by decide) (by omega)).mpr e9))
                    refine lv_aload_n hx hb dX7_digest_63 rfl (lv_at hl 2 rfl) ?_
                    refine lv_lload_n hx hb dX7_digest_64 rfl (lv_at hl 0 rfl) ?_
                    refine lv_iload_n hx hb dX7_digest_65 rfl (lv_at hl 1 rfl) ?_
                    refine zVl zm_X7_280 hF hB (c_X7_mixPlane l D ka kb bd na o1 o2 cn1 op1 rc1 wn1 zs1 b9 sa1 ss1 dn1 up1 sz9 re9 L mo an pl ho le N2 (dgP (la9, nI L, sz9, re9, 0, 0, 0, 0) L mo an pl ho le (dgN (nN N) (dqA la9 sz9 re9 L mo an pl ho kp 8) 30) pc9) pc9 (by omega) (hok) (hoh) (hre) (hB1) (hszk)) ([0, 1, 2, 3, 4, 5, 6, 7, 8, 9, 10, 11, 12, 13, 14, 15, 16] ++ npr 22) (zsel_pool rfl rfl) (va_nd_pool rfl rfl) ([(bd 31), (bd 0), (bd 4), (bd 18), (bd 19), (bd 20), (bd 21), (bd 22), (bd 23), (bd 24), (bd 2), (bd 7), (bd 8), (bd 9), (bd 10), (bd 11), (bd 5)] ++ nA na) (fun _ => zad_pool rfl) (zad_pool rfl) 0 7 rfl rfl rfl ⟨Nat.le_of_ble_eq_true rfl, Nat.le_of_ble_eq_true rfl⟩ rfl hl.1 (Nat.le_of_ble_eq_true rfl) ⟨Nat.le_refl _, Nat.le_refl _⟩ dX7_digest_66 ?_
                    clear hB
                    try clear locs
                    try clear H
                    intro r2 u2 H locs hp hB
                    obtain ⟨N92, sa92, ss92, o92, o82, wn92, cn92, op92, rc92, zs92, bb92, dn92, up22⟩ := u2
                    have hp2 : r2 = ptV sz9 re9.toInt (pulI pc9 L mo an pl ho) le ho pc9 (dgP (la9, nI L, sz9, re9, 0, 0, 0, 0) L mo an pl ho le (dgN (nN N) (dqA la9 sz9 re9 L mo an pl ho kp 8) 30) pc9) ∧ (∀ k9, (k9 < 6 ∨ (8 ≤ k9 ∧ k9 < 34)) → N92 k9 = N2 k9) ∧ bB bb92 := hp
                    have HPP := hp2
                    replace hB : zB D A s ([((bd 31), .inr (7, [.ref (bd 0), .ref (bd 1), .ref (na 6), .ref (na 7), .ref (bd 2), .ref (bd 3), .ref (bd 4), .ref (bd 5), .ref (bd 6)])), ((bd 0), .inr (2, [.int (bI o92), .ref (na 25), .ref (na 26), .ref (na 27)])), ((bd 4), .inr (4, [.ref (bd 18), .ref (bd 19), .int cn92, .int op92, .int rc92, .int wn92, .ref (bd 20), .ref (bd 21), .ref (bd 22), .int bb92.1, .ref (bd 23), .ref (bd 24), .long (Int64.ofInt bb92.2.1), .long (Int64.ofInt bb92.2.2.1)])), ((bd 18), .inr (2, [.int (bI o82), .ref (na 31), .ref (na 32), .ref (na 33)])), ((bd 19), .inl (ka 0, 3, .inl zs92)), ((bd 20), .inl (ka 3, 5, .inr (.inr (.inr (.inr (nR na 34)))))), ((bd 21), .inl (ka 0, 4, .inl sa92)), ((bd 22), .inl (ka 0, 4, .inl ss92)), ((bd 23), .inl (ka 0, 4, .inl bb92.2.2.2.1)), ((bd 24), .inl (ka 0, 4, .inl bb92.2.2.2.2)), ((bd 2), .inr (3, [.int (nI L), .ref (bd 7), .ref (bd 8), .ref (bd 9), .ref (bd 10), .ref (bd 11), .int sz9, .int re9])), ((bd 7), .inl (ka 0, 8, .inl mo)), ((bd 8), .inl (ka 0, 8, .inl an)), ((bd 9), .inl (ka 0, 8, .inl pl)), ((bd 10), .inl (ka 0, 24, .inl ho)), ((bd 11), .inl (ka 0, 2, .inl le)), ((bd 5), .inr (6, [.int dn92, .int up22, .ref (na 39), .ref (na 40)])), ((bd 1), .inl (ka 3, 6, .inr (.inr (.inr (.inr (nR na 0)))))), ((bd 6), .inr (5, [.ref (bd 25), .ref (bd 30), .int la9])), ((bd 3), .inr (0, [.ref (bd 12), .ref (bd 13), .ref (bd 14), .ref (bd 15), .ref (bd 16), .ref (bd 17), .ref (na 21), .ref (na 22), .ref (na 23), .ref (na 24)])), ((bd 14), .inl (ka 2, 3, .inl (kI kp))), ((bd 15), .inl (ka 3, 6, .inr (.inr (.inr (.inr (nR na 8))))))] ++ nP na N92) H locs := zB_pool hB rfl rfl rfl rfl
                    have hMP := HPP
                    refine ztopl (y := (dgP (la9, nI L, sz9, re9, 0, 0, 0, 0) L mo an pl ho le (dgN (nN N) (dqA la9 sz9 re9 L mo an pl ho kp 8) 30) (pc9 + 1))) (by rw [HPP.1] <;> rfl) ?_
                    refine lv_lstore_n (lv' := [(1, .long (dgP (la9, nI L, sz9, re9, 0, 0, 0, 0) L mo an pl ho le (dgN (nN N) (dqA la9 sz9 re9 L mo an pl ho kp 8) 30) (pc9 + 1))), (3, .int (nI pc9)), (0, .ref (bd 31))]) hx hb dX7_digest_69 rfl hl (by decide) rfl ?_
                    clear hl
                    clear ls
                    intro ls hl
                    refine lv_iinc (v := nI (pc9 + 1)) (lv' := [(3, .int (nI (pc9 + 1))), (1, .long (dgP (la9, nI L, sz9, re9, 0, 0, 0, 0) L mo an pl ho le (dgN (nN N) (dqA la9 sz9 re9 L mo an pl ho kp 8) 30) (pc9 + 1))), (0, .ref (bd 31))]) hx hb dX7_digest_70 hl (k := 1) rfl (nI_1 _) (by decide) rfl ?_
                    clear hl
                    clear ls
                    intro ls hl
                    refine lv_goto (tgt := 58) hx hb dX7_digest_73 (by decide) ?_
                    exact ih58 (pc9 + 1) N92 sa92 ss92 (o92) (o82) wn92 cn92 op92 rc92 zs92 bb92 dn92 up22 (by omega) (fun k9 h9 => (hMP.2.1 k9 h9).trans (kN2 k9 h9)) (hMP.2.2) (by omega) _ _ (hB) _ (lv_sub hl [1, 0, 2] rfl)
              exact lp58 (2 - 0 + 1) 0 N1 sa ss (o) (o4) wnt cnt opb rch zs bb dn up9 (Nat.zero_le _) (fun k9 h9 => kN1 k9 (by omega)) (hB9) (by omega) _ _ (hB) _ (lv_sub hl [1, 0, 2] rfl)
            · skip
              have hj2 : jc < 6 := Nat.not_le.mp (fun e9 => h36 ((nI_leI (a := 6) (b := jc) (by decide) (by omega)).mpr e9))
              refine lv_lload_n hx hb dX7_digest_39 rfl (lv_at hl 0 rfl) ?_
              refine lv_aload_n hx hb dX7_digest_40 rfl (lv_at hl 2 rfl) ?_
              refine zget zf_X7_18 hF hB 0 rfl rfl dX7_digest_41 ?_
              refine lv_iload_n hx hb dX7_digest_44 rfl (lv_at hl 1 rfl) ?_
              refine zaald hF hB 17 rfl (t0 := 3) rfl jc (rfl) (by omega) (by decide) (r := na jc) (nR_0 _ _) dX7_digest_45 ?_
              refine zSl zm_X7_276 hF hB (c_X7_mixNum l D ka kb na N1 (dgN (nN N) (dqA la9 sz9 re9 L mo an pl ho kp 8) (5 * jc)) jc (by omega)) ([] ++ npr 22) (zsel_pool rfl rfl) (va_nd_pool rfl rfl) ([] ++ nA na) (fun _ => zad_pool rfl) (zad_pool rfl) rfl ⟨Nat.le_of_ble_eq_true rfl, Nat.le_of_ble_eq_true rfl⟩ rfl hl.1 (Nat.le_of_ble_eq_true rfl) ⟨Nat.le_refl _, Nat.le_refl _⟩ dX7_digest_46 ?_
              clear hB
              try clear locs
              try clear H
              intro r3 u3 H locs hp hB
              obtain rfl : r3 = mxL (N1 jc) (dgN (nN N) (dqA la9 sz9 re9 L mo an pl ho kp 8) (5 * jc)) 5 := hp
              replace hB : zB D A s ([((bd 31), .inr (7, [.ref (bd 0), .ref (bd 1), .ref (na 6), .ref (na 7), .ref (bd 2), .ref (bd 3), .ref (bd 4), .ref (bd 5), .ref (bd 6)])), ((bd 0), .inr (2, [.int (bI o), .ref (na 25), .ref (na 26), .ref (na 27)])), ((bd 4), .inr (4, [.ref (bd 18), .ref (bd 19), .int cnt, .int opb, .int rch, .int wnt, .ref (bd 20), .ref (bd 21), .ref (bd 22), .int bb.1, .ref (bd 23), .ref (bd 24), .long (Int64.ofInt bb.2.1), .long (Int64.ofInt bb.2.2.1)])), ((bd 18), .inr (2, [.int (bI o4), .ref (na 31), .ref (na 32), .ref (na 33)])), ((bd 19), .inl (ka 0, 3, .inl zs)), ((bd 20), .inl (ka 3, 5, .inr (.inr (.inr (.inr (nR na 34)))))), ((bd 21), .inl (ka 0, 4, .inl sa)), ((bd 22), .inl (ka 0, 4, .inl ss)), ((bd 23), .inl (ka 0, 4, .inl bb.2.2.2.1)), ((bd 24), .inl (ka 0, 4, .inl bb.2.2.2.2)), ((bd 2), .inr (3, [.int (nI L), .ref (bd 7), .ref (bd 8), .ref (bd 9), .ref (bd 10), .ref (bd 11), .int sz9, .int re9])), ((bd 7), .inl (ka 0, 8, .inl mo)), ((bd 8), .inl (ka 0, 8, .inl an)), ((bd 9), .inl (ka 0, 8, .inl pl)), ((bd 10), .inl (ka 0, 24, .inl ho)), ((bd 11), .inl (ka 0, 2, .inl le)), ((bd 5), .inr (6, [.int dn, .int up9, .ref (na 39), .ref (na 40)])), ((bd 1), .inl (ka 3, 6, .inr (.inr (.inr (.inr (nR na 0)))))), ((bd 6), .inr (5, [.ref (bd 25), .ref (bd 30), .int la9])), ((bd 3), .inr (0, [.ref (bd 12), .ref (bd 13), .ref (bd 14), .ref (bd 15), .ref (bd 16), .ref (bd 17), .ref (na 21), .ref (na 22), .ref (na 23), .ref (na 24)])), ((bd 14), .inl (ka 2, 3, .inl (kI kp))), ((bd 15), .inl (ka 3, 6, .inr (.inr (.inr (.inr (nR na 8))))))] ++ nP na N1) H locs := zB_pool hB rfl rfl rfl rfl
              refine ztopl (y := (dgN (nN N) (dqA la9 sz9 re9 L mo an pl ho kp 8) (5 * (jc + 1)))) (by rw [kN1 jc (by omega)]; exact mx_dg) ?_
              refine lv_lstore_n (lv' := [(1, .long (dgN (nN N) (dqA la9 sz9 re9 L mo an pl ho kp 8) (5 * (jc + 1)))), (3, .int (nI jc)), (0, .ref (bd 31))]) hx hb dX7_digest_49 rfl hl (by decide) rfl ?_
              clear hl
              clear ls
              intro ls hl
              refine lv_iinc (v := nI (jc + 1)) (lv' := [(3, .int (nI (jc + 1))), (1, .long (dgN (nN N) (dqA la9 sz9 re9 L mo an pl ho kp 8) (5 * (jc + 1)))), (0, .ref (bd 31))]) hx hb dX7_digest_50 hl (k := 1) rfl (nI_1 _) (by decide) rfl ?_
              clear hl
              clear ls
              intro ls hl
              refine lv_goto (tgt := 33) hx hb dX7_digest_53 (by decide) ?_
              exact ih33 (jc + 1) (by omega) (by omega) _ _ (hB) _ (lv_sub hl [1, 0, 2] rfl)
        exact lp33 (6 - 0 + 1) 0 (Nat.zero_le _) (by omega) _ _ (hB) _ (lv_sub hl [1, 0, 2] rfl)
      · skip
        have hi2 : ic < 8 := Nat.not_le.mp (fun e9 => h9 ((nI_leI (a := 8) (b := ic) (by decide) (by omega)).mpr e9))
        refine zldc2 (v := (31 : Int64)) ww_43_20 hF dX7_digest_12 ?_
        refine lv_lload_n hx hb dX7_digest_15 rfl (lv_at hl 0 rfl) ?_
        refine lv_lmul hx hb dX7_digest_16 ?_
        refine lv_aload_n hx hb dX7_digest_17 rfl (lv_at hl 2 rfl) ?_
        refine lv_iload_n hx hb dX7_digest_18 rfl (lv_at hl 1 rfl) ?_
        refine zVi zm_X7_273 hF hB (c_X7_count l D ka kb bd na la9 kp o4 cnt opb rch wnt bb.1 (Int64.ofInt bb.2.1) (Int64.ofInt bb.2.2.1) sz9 re9 L mo an pl ho N1 (nI ic) (hok) (hoh) (hre)) ([0, 18, 19, 20, 2, 3, 5, 10, 11, 12, 13, 14] ++ npr 22) (zsel_pool rfl rfl) (va_nd_pool rfl rfl) ([(bd 31), (bd 6), (bd 3), (bd 14), (bd 4), (bd 18), (bd 20), (bd 2), (bd 7), (bd 8), (bd 9), (bd 10)] ++ nA na) (fun _ => zad_pool rfl) (zad_pool rfl) 0 7 rfl rfl rfl ⟨Nat.le_of_ble_eq_true rfl, Nat.le_of_ble_eq_true rfl⟩ rfl hl.1 (Nat.le_of_ble_eq_true rfl) ⟨Nat.le_refl _, Nat.le_refl _⟩ dX7_digest_19 ?_
        clear hB
        try clear locs
        try clear H
        intro r4 u4 H locs hp hB
        obtain ⟨N94, o94⟩ := u4
        have hp4 : r4 = (if inI (nI ic) 9 = true then ctK la9 sz9 re9 L mo an pl ho kp (aN (nI ic)) else -2) ∧ (∀ k9, k9 ≠ 34 → N94 k9 = N1 k9) := hp
        have HPP := hp4
        replace hB : zB D A s ([((bd 31), .inr (7, [.ref (bd 0), .ref (bd 1), .ref (na 6), .ref (na 7), .ref (bd 2), .ref (bd 3), .ref (bd 4), .ref (bd 5), .ref (bd 6)])), ((bd 0), .inr (2, [.int (bI o), .ref (na 25), .ref (na 26), .ref (na 27)])), ((bd 4), .inr (4, [.ref (bd 18), .ref (bd 19), .int cnt, .int opb, .int rch, .int wnt, .ref (bd 20), .ref (bd 21), .ref (bd 22), .int bb.1, .ref (bd 23), .ref (bd 24), .long (Int64.ofInt bb.2.1), .long (Int64.ofInt bb.2.2.1)])), ((bd 18), .inr (2, [.int (bI o94), .ref (na 31), .ref (na 32), .ref (na 33)])), ((bd 19), .inl (ka 0, 3, .inl zs)), ((bd 20), .inl (ka 3, 5, .inr (.inr (.inr (.inr (nR na 34)))))), ((bd 21), .inl (ka 0, 4, .inl sa)), ((bd 22), .inl (ka 0, 4, .inl ss)), ((bd 23), .inl (ka 0, 4, .inl bb.2.2.2.1)), ((bd 24), .inl (ka 0, 4, .inl bb.2.2.2.2)), ((bd 2), .inr (3, [.int (nI L), .ref (bd 7), .ref (bd 8), .ref (bd 9), .ref (bd 10), .ref (bd 11), .int sz9, .int re9])), ((bd 7), .inl (ka 0, 8, .inl mo)), ((bd 8), .inl (ka 0, 8, .inl an)), ((bd 9), .inl (ka 0, 8, .inl pl)), ((bd 10), .inl (ka 0, 24, .inl ho)), ((bd 11), .inl (ka 0, 2, .inl le)), ((bd 5), .inr (6, [.int dn, .int up9, .ref (na 39), .ref (na 40)])), ((bd 1), .inl (ka 3, 6, .inr (.inr (.inr (.inr (nR na 0)))))), ((bd 6), .inr (5, [.ref (bd 25), .ref (bd 30), .int la9])), ((bd 3), .inr (0, [.ref (bd 12), .ref (bd 13), .ref (bd 14), .ref (bd 15), .ref (bd 16), .ref (bd 17), .ref (na 21), .ref (na 22), .ref (na 23), .ref (na 24)])), ((bd 14), .inl (ka 2, 3, .inl (kI kp))), ((bd 15), .inl (ka 3, 6, .inr (.inr (.inr (.inr (nR na 8))))))] ++ nP na N94) H locs := zB_pool hB rfl rfl rfl rfl
        have hCT := HPP
        refine ztopi (y := (ctK la9 sz9 re9 L mo an pl ho kp ic)) (by rw [HPP.1]; exact ctK_n (by omega)) ?_
        refine lv_i2l (v := (ctK la9 sz9 re9 L mo an pl ho kp ic).toInt64) hx hb dX7_digest_22 rfl ?_
        refine lv_ladd hx hb dX7_digest_23 ?_
        refine ztopl (y := (dqA la9 sz9 re9 L mo an pl ho kp (ic + 1))) (rfl) ?_
        refine lv_lstore_n (lv' := [(1, .long (dqA la9 sz9 re9 L mo an pl ho kp (ic + 1))), (3, .int (nI ic)), (0, .ref (bd 31))]) hx hb dX7_digest_24 rfl hl (by decide) rfl ?_
        clear hl
        clear ls
        intro ls hl
        refine lv_iinc (v := nI (ic + 1)) (lv' := [(3, .int (nI (ic + 1))), (1, .long (dqA la9 sz9 re9 L mo an pl ho kp (ic + 1))), (0, .ref (bd 31))]) hx hb dX7_digest_25 hl (k := 1) rfl (nI_1 _) (by decide) rfl ?_
        clear hl
        clear ls
        intro ls hl
        refine lv_goto (tgt := 6) hx hb dX7_digest_28 (by decide) ?_
        exact ih6 (ic + 1) N94 (o94) (by omega) (fun k9 h9 => (hCT.2 k9 h9).trans (kN1 k9 h9)) (by omega) _ _ (hB) _ (lv_sub hl [1, 0, 2] rfl)
  exact lp6 (8 - 0 + 1) 0 N (o3) (Nat.zero_le _) (fun _ _ => rfl) (by omega) _ _ (hB) _ (lv_sub hl [1, 0, 2] rfl)
