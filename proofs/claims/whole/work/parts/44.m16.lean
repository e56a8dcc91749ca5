/-- a hole's code (10 times its angle, and its size) that may be drilled; the first such from c on, else 120 -/
noncomputable def okC (dr : Int32) (p : Nat) (le ho : Nat → Int32) (c : Nat) : Bool := dB (lgX dr (c % 10) = 1 ∧ frB p (c / 10) le ho = true)
def nxC (ok : Nat → Bool) : Nat → Nat → Nat
  | c, 0 => c
  | c, n + 1 => if ok c = true then c else nxC ok (c + 1) n
def nxT (ok : Nat → Bool) (c : Nat) : Nat := nxC ok c (120 - c)
theorem nxT_s {ok : Nat → Bool} {c : Nat} (h : c < 120) : nxT ok c = if ok c = true then c else nxT ok (c + 1) := by
  unfold nxT
  rw [show 120 - c = (120 - (c + 1)) + 1 by omega]
  rfl
theorem stp_e {N c : Nat} {ok : Nat → Bool} {fb : Bool} {X Y : Prop} (h : (fb = false ∧ N = nxT ok c) ∨ (fb = true ∧ N < 120 ∧ X ∧ Y)) (h2 : c = 120 ∨ fb = true) : bI fb = bI (dB (N < 120)) ∧ (N < 120 → X ∧ Y) := by
  rcases h with h | h
  · rcases h2 with h2 | h2
    · have hN : N = 120 := by rw [h.2, h2]; rfl
      have h3 : dB (N < 120) = false := dB_f.mpr (by omega)
      exact ⟨by rw [h3, h.1], fun e => absurd e (by omega)⟩
    · exact absurd (h.1.symm.trans h2) (by decide)
  · have h3 : dB (N < 120) = true := dB_t.mpr h.2.1
    exact ⟨by rw [h3, h.1], fun _ => h.2.2⟩
theorem upd_as {f g : Nat → Int32} {d : Nat} (h : ∀ j, j ≠ d → f j = g j) (v : Int32) : upd f d v = upd g d v := by
  funext j
  show (if j = d then v else f j) = if j = d then v else g j
  by_cases e : j = d
  · rw [if_pos e, if_pos e]
  · rw [if_neg e, if_neg e, h j e]
set_option maxHeartbeats 4000000 in
set_option maxRecDepth 100000 in
theorem c_X8_steps (l : Launch) (D : va_G) (ka : Nat → ClassId) (kb : Nat → Nat) (q : Nat) (ad : Nat → Nat) (o : Bool) (z : mZ) (le : Nat → Int32) (ho : Nat → Int32) (p9 : Nat) (dd : Nat) (a0 : Nat) (s0 : Nat) (sa : Nat → Int32) (ss : Nat → Int32) (hp9 : p9 < 2) (hd4 : dd < 4) (hsa : sa dd = nI a0) (hss : ss dd = nI s0) (ha0 : a0 < 12) (hs0 : s0 ≤ 9) : zI l D ka kb yX8_steps cX8_steps 6 .boolean 1 22 [.ref q, .int (nI p9), .int (nI dd)] ([(q, .inr (8, mO ad o z)), ((ad 8), .inl (ka 0, 2, .inl le)), ((ad 7), .inl (ka 0, 24, .inl ho)), ((ad 14), .inl (ka 0, 4, .inl sa)), ((ad 15), .inl (ka 0, 4, .inl ss))]) (fun (r : Int32) (u : (Nat → Int32) × (Nat → Int32)) => r = bI (dB (nxT (okC z.2.2.1 p9 le ho) (10 * a0 + s0 + 1) < 120)) ∧ (nxT (okC z.2.2.1 p9 le ho) (10 * a0 + s0 + 1) < 120 → u.1 = upd sa dd (nI (nxT (okC z.2.2.1 p9 le ho) (10 * a0 + s0 + 1) / 10)) ∧ u.2 = upd ss dd (nI (nxT (okC z.2.2.1 p9 le ho) (10 * a0 + s0 + 1) % 10))) ∧ ∀ j, j ≠ dd → u.1 j = sa j ∧ u.2 j = ss j) (fun (u : (Nat → Int32) × (Nat → Int32)) => [(q, .inr (8, mO ad o z)), ((ad 8), .inl (ka 0, 2, .inl le)), ((ad 7), .inl (ka 0, 24, .inl ho)), ((ad 14), .inl (ka 0, 4, .inl u.1)), ((ad 15), .inl (ka 0, 4, .inl u.2))]) := by
  refine zI.mk RX8 (by decide +kernel) rfl (Nat.le_of_ble_eq_true rfl) ?_
  intro p e s m below meth c A ls args Q hQ hx hb hF hB hl
  replace hl : lv_has ls 6 [(0, .ref q), (1, .int (nI p9)), (2, .int (nI dd))] := hl
  refine lv_iconst (v := 0) hx hb dX8_steps_0 (by decide) ?_
  refine ztopi (y := bI false) (bI_0 rfl) ?_
  refine lv_istore_n (lv' := [(3, .int (bI false)), (0, .ref q), (1, .int (nI p9)), (2, .int (nI dd))]) hx hb dX8_steps_1 rfl hl (by decide) rfl ?_
  clear hl
  clear ls
  intro ls hl
  refine lv_bipush (v := 10) hx hb dX8_steps_2 (by decide) ?_
  refine lv_aload_n hx hb dX8_steps_4 rfl (lv_at hl 1 rfl) ?_
  refine zget zf_X8_53 hF hB 0 rfl rfl dX8_steps_5 ?_
  refine lv_iload_n hx hb dX8_steps_8 rfl (lv_at hl 3 rfl) ?_
  refine ziald hF hB 3 rfl dd (rfl) (by omega) (by decide) (v := (nI a0)) (hsa) dX8_steps_9 ?_
  refine lv_imul hx hb dX8_steps_10 ?_
  refine ztopi (y := nI (10 * a0)) (pk_mul 10 a0) ?_
  refine lv_aload_n hx hb dX8_steps_11 rfl (lv_at hl 1 rfl) ?_
  refine zget zf_X8_56 hF hB 0 rfl rfl dX8_steps_12 ?_
  refine lv_iload_n hx hb dX8_steps_15 rfl (lv_at hl 3 rfl) ?_
  refine ziald hF hB 4 rfl dd (rfl) (by omega) (by decide) (v := (nI s0)) (hss) dX8_steps_16 ?_
  refine lv_iadd hx hb dX8_steps_17 ?_
  refine ztopi (y := nI ((10 * a0) + s0)) (nI_add (10 * a0) s0) ?_
  refine lv_iconst (v := 1) hx hb dX8_steps_18 (by decide) ?_
  refine lv_iadd hx hb dX8_steps_19 ?_
  refine ztopi (y := nI (((10 * a0) + s0) + 1)) (nI_add ((10 * a0) + s0) 1) ?_
  refine lv_istore (lv' := [(4, .int (nI (((10 * a0) + s0) + 1))), (3, .int (bI false)), (0, .ref q), (1, .int (nI p9)), (2, .int (nI dd))]) hx hb dX8_steps_20 hl (by decide) rfl ?_
  clear hl
  clear ls
  intro ls hl
  refine lv_iload hx hb dX8_steps_22 (lv_at hl 0 rfl) ?_
  refine lv_istore (lv' := [(5, .int (nI (((10 * a0) + s0) + 1))), (4, .int (nI (((10 * a0) + s0) + 1))), (3, .int (bI false)), (0, .ref q), (1, .int (nI p9)), (2, .int (nI dd))]) hx hb dX8_steps_24 hl (by decide) rfl ?_
  clear hl
  clear ls
  intro ls hl
  have lp26 : ∀ (fl : Nat) (c9 : Nat) (fb : Bool) (sa1 : Nat → Int32) (ss1 : Nat → Int32), (hc1 : c9 ≤ 120) → (hc0 : (10 * a0 + s0 + 1) ≤ c9) → (hF9 : (fb = false ∧ nxT (okC z.2.2.1 p9 le ho) (10 * a0 + s0 + 1) = nxT (okC z.2.2.1 p9 le ho) c9) ∨ (fb = true ∧ nxT (okC z.2.2.1 p9 le ho) (10 * a0 + s0 + 1) < 120 ∧ sa1 = upd sa dd (nI (nxT (okC z.2.2.1 p9 le ho) (10 * a0 + s0 + 1) / 10)) ∧ ss1 = upd ss dd (nI (nxT (okC z.2.2.1 p9 le ho) (10 * a0 + s0 + 1) % 10)))) → (hJ : ∀ j, j ≠ dd → sa1 j = sa j ∧ ss1 j = ss j) → 120 - c9 < fl → ∀ (H : Heap) (locs : List Loc), zB D A s ([(q, .inr (8, mO ad o z)), ((ad 8), .inl (ka 0, 2, .inl le)), ((ad 7), .inl (ka 0, 24, .inl ho)), ((ad 14), .inl (ka 0, 4, .inl sa1)), ((ad 15), .inl (ka 0, 4, .inl ss1))]) H locs → ∀ ls : Array Slot, lv_has ls 6 [(5, .int (nI c9)), (3, .int (bI fb)), (0, .ref q), (1, .int (nI p9)), (2, .int (nI dd))] → W p l e (zRm 1 22 0 0) s m args below meth c H locs 0 0 Q (F0 m 26 ls []) := by
    intro fl
    induction fl with
    | zero => intro c9 fb sa1 ss1 hc1 hc0 hF9 hJ hfl; exact absurd hfl (Nat.not_lt_zero _)
    | succ fl ih26 =>
      intro c9 fb sa1 ss1 hc1 hc0 hF9 hJ hfl26 H locs hB ls hl
      refine lv_iload hx hb dX8_steps_26 (lv_at hl 0 rfl) ?_
      refine lv_bipush (v := 120) hx hb dX8_steps_28 (by decide) ?_
      refine lv_icmp_ge (tgt := 100) hx hb dX8_steps_30 (by decide) (fun h30 => ?_) (fun h30 => ?_)
      · skip
        have hce : c9 = 120 ∨ fb = true := Or.inl (by have := (nI_leI (a := 120) (b := c9) (by decide) (by omega)).mp h30; omega)
        refine lv_iload_n hx hb dX8_steps_100 rfl (lv_at hl 1 rfl) ?_
        exact zreti hF hB (sa1, ss1) (⟨(stp_e hF9 hce).1, (stp_e hF9 hce).2, hJ⟩) (rfl) (zbI_n _) dX8_steps_101 hQ
      · skip
        have hc2 : c9 < 120 := Nat.not_le.mp (fun e9 => h30 ((nI_leI (a := 120) (b := c9) (by decide) (by omega)).mpr e9))
        refine lv_iload_n hx hb dX8_steps_33 rfl (lv_at hl 1 rfl) ?_
        refine lv_if_ne (tgt := 100) hx hb dX8_steps_34 (by decide) (fun h34 => ?_) (fun h34 => ?_)
        · skip
          have hce : c9 = 120 ∨ fb = true := Or.inr (bI_ne0 h34)
          refine lv_iload_n hx hb dX8_steps_100 rfl (lv_at hl 1 rfl) ?_
          exact zreti hF hB (sa1, ss1) (⟨(stp_e hF9 hce).1, (stp_e hF9 hce).2, hJ⟩) (rfl) (zbI_n _) dX8_steps_101 hQ
        · skip
          have hfb : fb = false := bI_eq0 h34
          have hN : nxT (okC z.2.2.1 p9 le ho) (10 * a0 + s0 + 1) = if (okC z.2.2.1 p9 le ho) c9 = true then c9 else nxT (okC z.2.2.1 p9 le ho) (c9 + 1) := (hF9.elim (fun e => e.2) (fun e => absurd (hfb.symm.trans e.1) (by decide))).trans (nxT_s hc2)
          refine lv_aload_n hx hb dX8_steps_37 rfl (lv_at hl 2 rfl) ?_
          refine zget zf_X8_65 hF hB 0 rfl rfl dX8_steps_38 ?_
          refine lv_iload hx hb dX8_steps_41 (lv_at hl 0 rfl) ?_
          refine lv_bipush (v := 10) hx hb dX8_steps_43 (by decide) ?_
          refine lv_irem hx hb dX8_steps_45 (by decide) ?_
          refine ztopi (y := nI (c9 % 10)) (pk_rem (a := c9) (d := 10) (by omega) (by decide) (by decide)) ?_
          refine lv_ishr hx hb dX8_steps_46 ?_
          refine lv_iconst (v := 1) hx hb dX8_steps_47 (by decide) ?_
          refine lv_iand hx hb dX8_steps_48 ?_
          refine ztopi (y := lgX z.2.2.1 (c9 % 10)) (rfl) ?_
          refine lv_iconst (v := 1) hx hb dX8_steps_49 (by decide) ?_
          refine lv_icmp_ne (tgt := 70) hx hb dX8_steps_50 (by decide) (fun h50 => ?_) (fun h50 => ?_)
          · skip
            refine lv_iconst (v := 0) hx hb dX8_steps_70 (by decide) ?_
            refine ztopi (y := bI false) (bI_0 rfl) ?_
            refine lv_istore_n (lv' := [(3, .int (bI false)), (5, .int (nI c9)), (0, .ref q), (1, .int (nI p9)), (2, .int (nI dd))]) hx hb dX8_steps_71 rfl hl (by decide) rfl ?_
            clear hl
            clear ls
            intro ls hl
            refine lv_aload_n hx hb dX8_steps_72 rfl (lv_at hl 2 rfl) ?_
            refine zget zf_X8_53 hF hB 0 rfl rfl dX8_steps_73 ?_
            refine lv_iload_n hx hb dX8_steps_76 rfl (lv_at hl 4 rfl) ?_
            refine lv_iload hx hb dX8_steps_77 (lv_at hl 1 rfl) ?_
            refine lv_bipush (v := 10) hx hb dX8_steps_79 (by decide) ?_
            refine lv_idiv hx hb dX8_steps_81 (by decide) ?_
            refine ztopi (y := nI (c9 / 10)) (pk_div (a := c9) (d := 10) (by omega) (by decide) (by decide)) ?_
            refine ziast hF hB 3 rfl dd (rfl) (by omega) (by decide) dX8_steps_82 ?_
            clear hB
            try clear locs
            try clear H
            intro H locs hB
            replace hB : zB D A s ([(q, .inr (8, mO ad o z)), ((ad 8), .inl (ka 0, 2, .inl le)), ((ad 7), .inl (ka 0, 24, .inl ho)), ((ad 14), .inl (ka 0, 4, .inl (upd sa1 dd (nI (c9 / 10))))), ((ad 15), .inl (ka 0, 4, .inl ss1))]) H locs := hB
            refine lv_aload_n hx hb dX8_steps_83 rfl (lv_at hl 2 rfl) ?_
            refine zget zf_X8_56 hF hB 0 rfl rfl dX8_steps_84 ?_
            refine lv_iload_n hx hb dX8_steps_87 rfl (lv_at hl 4 rfl) ?_
            refine lv_iload hx hb dX8_steps_88 (lv_at hl 1 rfl) ?_
            refine lv_bipush (v := 10) hx hb dX8_steps_90 (by decide) ?_
            refine lv_irem hx hb dX8_steps_92 (by decide) ?_
            refine ztopi (y := nI (c9 % 10)) (pk_rem (a := c9) (d := 10) (by omega) (by decide) (by decide)) ?_
            refine ziast hF hB 4 rfl dd (rfl) (by omega) (by decide) dX8_steps_93 ?_
            clear hB
            try clear locs
            try clear H
            intro H locs hB
            replace hB : zB D A s ([(q, .inr (8, mO ad o z)), ((ad 8), .inl (ka 0, 2, .inl le)), ((ad 7), .inl (ka 0, 24, .inl ho)), ((ad 14), .inl (ka 0, 4, .inl (upd sa1 dd (nI (c9 / 10))))), ((ad 15), .inl (ka 0, 4, .inl (upd ss1 dd (nI (c9 % 10)))))]) H locs := hB
            refine lv_iinc (v := nI (c9 + 1)) (lv' := [(5, .int (nI (c9 + 1))), (3, .int (bI false)), (0, .ref q), (1, .int (nI p9)), (2, .int (nI dd))]) hx hb dX8_steps_94 hl (k := 1) rfl (nI_1 _) (by decide) rfl ?_
            clear hl
            clear ls
            intro ls hl
            refine lv_goto (tgt := 26) hx hb dX8_steps_97 (by decide) ?_
            have hok : (okC z.2.2.1 p9 le ho) c9 = false := dB_f.mpr (fun e8 => h50 e8.1)
            exact ih26 (c9 + 1) false (upd sa1 dd (nI (c9 / 10))) (upd ss1 dd (nI (c9 % 10))) (by omega) (by omega) (Or.inl ⟨rfl, by rw [hN, hok, if_neg (by decide)]⟩) (fun j h9 => ⟨(if_neg h9).trans (hJ j h9).1, (if_neg h9).trans (hJ j h9).2⟩) (by omega) _ _ (hB) _ (lv_sub hl [0, 1, 2, 3, 4] rfl)
          · skip
            refine lv_aload_n hx hb dX8_steps_53 rfl (lv_at hl 2 rfl) ?_
            refine lv_iload_n hx hb dX8_steps_54 rfl (lv_at hl 3 rfl) ?_
            refine lv_iload hx hb dX8_steps_55 (lv_at hl 0 rfl) ?_
            refine lv_bipush (v := 10) hx hb dX8_steps_57 (by decide) ?_
            refine lv_idiv hx hb dX8_steps_59 (by decide) ?_
            refine ztopi (y := nI (c9 / 10)) (pk_div (a := c9) (d := 10) (by omega) (by decide) (by decide)) ?_
            refine zVi zm_X8_231 hF hB (c_X8_isFree l D ka kb q ad o z le ho p9 (c9 / 10) (hp9) (by omega)) [0, 1, 2] rfl (by decide) [q, (ad 8), (ad 7)] (fun _ => rfl) rfl 0 8 rfl rfl rfl ⟨Nat.le_of_ble_eq_true rfl, Nat.le_of_ble_eq_true rfl⟩ rfl hl.1 (Nat.le_of_ble_eq_true rfl) ⟨Nat.le_refl _, Nat.le_refl _⟩ dX8_steps_60 ?_
            clear hB
            try clear locs
            try clear H
            intro r1 u1 H locs hp hB
            obtain rfl : r1 = bI (frB p9 (c9 / 10) le ho) := hp
            replace hB : zB D A s ([(q, .inr (8, mO ad o z)), ((ad 8), .inl (ka 0, 2, .inl le)), ((ad 7), .inl (ka 0, 24, .inl ho)), ((ad 14), .inl (ka 0, 4, .inl sa1)), ((ad 15), .inl (ka 0, 4, .inl ss1))]) H locs := hB
            refine lv_if_eq (tgt := 70) hx hb dX8_steps_63 (by decide) (fun h63 => ?_) (fun h63 => ?_)
            · skip
              refine lv_iconst (v := 0) hx hb dX8_steps_70 (by decide) ?_
              refine ztopi (y := bI false) (bI_0 rfl) ?_
              refine lv_istore_n (lv' := [(3, .int (bI false)), (5, .int (nI c9)), (0, .ref q), (1, .int (nI p9)), (2, .int (nI dd))]) hx hb dX8_steps_71 rfl hl (by decide) rfl ?_
              clear hl
              clear ls
              intro ls hl
              refine lv_aload_n hx hb dX8_steps_72 rfl (lv_at hl 2 rfl) ?_
              refine zget zf_X8_53 hF hB 0 rfl rfl dX8_steps_73 ?_
              refine lv_iload_n hx hb dX8_steps_76 rfl (lv_at hl 4 rfl) ?_
              refine lv_iload hx hb dX8_steps_77 (lv_at hl 1 rfl) ?_
              refine lv_bipush (v := 10) hx hb dX8_steps_79 (by decide) ?_
              refine lv_idiv hx hb dX8_steps_81 (by decide) ?_
              refine ztopi (y := nI (c9 / 10)) (pk_div (a := c9) (d := 10) (by omega) (by decide) (by decide)) ?_
              refine ziast hF hB 3 rfl dd (rfl) (by omega) (by decide) dX8_steps_82 ?_
              clear hB
              try clear locs
              try clear H
              intro H locs hB
              replace hB : zB D A s ([(q, .inr (8, mO ad o z)), ((ad 8), .inl (ka 0, 2, .inl le)), ((ad 7), .inl (ka 0, 24, .inl ho)), ((ad 14), .inl (ka 0, 4, .inl (upd sa1 dd (nI (c9 / 10))))), ((ad 15), .inl (ka 0, 4, .inl ss1))]) H locs := hB
              refine lv_aload_n hx hb dX8_steps_83 rfl (lv_at hl 2 rfl) ?_
              refine zget zf_X8_56 hF hB 0 rfl rfl dX8_steps_84 ?_
              refine lv_iload_n hx hb dX8_steps_87 rfl (lv_at hl 4 rfl) ?_
              refine lv_iload hx hb dX8_steps_88 (lv_at hl 1 rfl) ?_
              refine lv_bipush (v := 10) hx hb dX8_steps_90 (by decide) ?_
              refine lv_irem hx hb dX8_steps_92 (by decide) ?_
              refine ztopi (y := nI (c9 % 10)) (pk_rem (a := c9) (d := 10) (by omega) (by decide) (by decide)) ?_
              refine ziast hF hB 4 rfl dd (rfl) (by omega) (by decide) dX8_steps_93 ?_
              clear hB
              try clear locs
              try clear H
              intro H locs hB
              replace hB : zB D A s ([(q, .inr (8, mO ad o z)), ((ad 8), .inl (ka 0, 2, .inl le)), ((ad 7), .inl (ka 0, 24, .inl ho)), ((ad 14), .inl (ka 0, 4, .inl (upd sa1 dd (nI (c9 / 10))))), ((ad 15), .inl (ka 0, 4, .inl (upd ss1 dd (nI (c9 % 10)))))]) H locs := hB
              refine lv_iinc (v := nI (c9 + 1)) (lv' := [(5, .int (nI (c9 + 1))), (3, .int (bI false)), (0, .ref q), (1, .int (nI p9)), (2, .int (nI dd))]) hx hb dX8_steps_94 hl (k := 1) rfl (nI_1 _) (by decide) rfl ?_
              clear hl
              clear ls
              intro ls hl
              refine lv_goto (tgt := 26) hx hb dX8_steps_97 (by decide) ?_
              have hok : (okC z.2.2.1 p9 le ho) c9 = false := dB_f.mpr (fun e8 => by rw [bI_eq0 h63] at e8; exact absurd e8.2 (by decide))
              exact ih26 (c9 + 1) false (upd sa1 dd (nI (c9 / 10))) (upd ss1 dd (nI (c9 % 10))) (by omega) (by omega) (Or.inl ⟨rfl, by rw [hN, hok, if_neg (by decide)]⟩) (fun j h9 => ⟨(if_neg h9).trans (hJ j h9).1, (if_neg h9).trans (hJ j h9).2⟩) (by omega) _ _ (hB) _ (lv_sub hl [0, 1, 2, 3, 4] rfl)
            · skip
              refine lv_iconst (v := 1) hx hb dX8_steps_66 (by decide) ?_
              refine ztopi (y := bI true) (bI_1 rfl) ?_
              refine lv_goto (tgt := 71) hx hb dX8_steps_67 (by decide) ?_
              refine lv_istore_n (lv' := [(3, .int (bI true)), (5, .int (nI c9)), (0, .ref q), (1, .int (nI p9)), (2, .int (nI dd))]) hx hb dX8_steps_71 rfl hl (by decide) rfl ?_
              clear hl
              clear ls
              intro ls hl
              refine lv_aload_n hx hb dX8_steps_72 rfl (lv_at hl 2 rfl) ?_
              refine zget zf_X8_53 hF hB 0 rfl rfl dX8_steps_73 ?_
              refine lv_iload_n hx hb dX8_steps_76 rfl (lv_at hl 4 rfl) ?_
              refine lv_iload hx hb dX8_steps_77 (lv_at hl 1 rfl) ?_
              refine lv_bipush (v := 10) hx hb dX8_steps_79 (by decide) ?_
              refine lv_idiv hx hb dX8_steps_81 (by decide) ?_
              refine ztopi (y := nI (c9 / 10)) (pk_div (a := c9) (d := 10) (by omega) (by decide) (by decide)) ?_
              refine ziast hF hB 3 rfl dd (rfl) (by omega) (by decide) dX8_steps_82 ?_
              clear hB
              try clear locs
              try clear H
              intro H locs hB
              replace hB : zB D A s ([(q, .inr (8, mO ad o z)), ((ad 8), .inl (ka 0, 2, .inl le)), ((ad 7), .inl (ka 0, 24, .inl ho)), ((ad 14), .inl (ka 0, 4, .inl (upd sa1 dd (nI (c9 / 10))))), ((ad 15), .inl (ka 0, 4, .inl ss1))]) H locs := hB
              refine lv_aload_n hx hb dX8_steps_83 rfl (lv_at hl 2 rfl) ?_
              refine zget zf_X8_56 hF hB 0 rfl rfl dX8_steps_84 ?_
              refine lv_iload_n hx hb dX8_steps_87 rfl (lv_at hl 4 rfl) ?_
              refine lv_iload hx hb dX8_steps_88 (lv_at hl 1 rfl) ?_
              refine lv_bipush (v := 10) hx hb dX8_steps_90 (by decide) ?_
              refine lv_irem hx hb dX8_steps_92 (by decide) ?_
              refine ztopi (y := nI (c9 % 10)) (pk_rem (a := c9) (d := 10) (by omega) (by decide) (by decide)) ?_
              refine ziast hF hB 4 rfl dd (rfl) (by omega) (by decide) dX8_steps_93 ?_
              clear hB
              try clear locs
              try clear H
              intro H locs hB
              replace hB : zB D A s ([(q, .inr (8, mO ad o z)), ((ad 8), .inl (ka 0, 2, .inl le)), ((ad 7), .inl (ka 0, 24, .inl ho)), ((ad 14), .inl (ka 0, 4, .inl (upd sa1 dd (nI (c9 / 10))))), ((ad 15), .inl (ka 0, 4, .inl (upd ss1 dd (nI (c9 % 10)))))]) H locs := hB
              refine lv_iinc (v := nI (c9 + 1)) (lv' := [(5, .int (nI (c9 + 1))), (3, .int (bI true)), (0, .ref q), (1, .int (nI p9)), (2, .int (nI dd))]) hx hb dX8_steps_94 hl (k := 1) rfl (nI_1 _) (by decide) rfl ?_
              clear hl
              clear ls
              intro ls hl
              refine lv_goto (tgt := 26) hx hb dX8_steps_97 (by decide) ?_
              have hok : (okC z.2.2.1 p9 le ho) c9 = true := dB_t.mpr ⟨h50, bI_ne0 h63⟩
              exact ih26 (c9 + 1) true (upd sa1 dd (nI (c9 / 10))) (upd ss1 dd (nI (c9 % 10))) (by omega) (by omega) (Or.inr ⟨rfl, by rw [hN, hok, if_pos rfl]; exact hc2, by rw [hN, hok, if_pos rfl]; exact upd_as (fun j h => (hJ j h).1) _, by rw [hN, hok, if_pos rfl]; exact upd_as (fun j h => (hJ j h).2) _⟩) (fun j h9 => ⟨(if_neg h9).trans (hJ j h9).1, (if_neg h9).trans (hJ j h9).2⟩) (by omega) _ _ (hB) _ (lv_sub hl [0, 1, 2, 3, 4] rfl)
  exact lp26 (120 - (10 * a0 + s0 + 1) + 1) (10 * a0 + s0 + 1) false sa ss (by omega) (Nat.le_refl _) (Or.inl ⟨rfl, rfl⟩) (fun j _ => ⟨rfl, rfl⟩) (by omega) _ _ (hB) _ (lv_sub hl [0, 2, 3, 4, 5] rfl)
