theorem and31 (x : Int32) : 0 ≤ (x &&& 31).toInt ∧ (x &&& 31).toInt ≤ 31 := by
  have h1 : (x &&& 31).toBitVec.toNat ≤ 31 := by
    have e2 : (x &&& 31).toBitVec = x.toBitVec &&& 31#32 := rfl
    rw [e2, BitVec.toNat_and]
    exact Nat.and_le_right
  have h2 : (x &&& 31).toInt = ((x &&& 31).toBitVec.toNat : Int) := by
    have h3 := BitVec.toInt_eq_toNat_cond (x &&& 31).toBitVec
    rw [if_pos (by omega)] at h3
    exact h3
  omega
set_option maxHeartbeats 4000000 in
set_option maxRecDepth 100000 in
theorem law_loop (l : Launch) (D : va_G) (ka : Nat → ClassId) (kb : Nat → Nat) (bd na ad : Nat → Nat) (q sb L9 : Nat) (xs : Nat → Int32) {p : Program} {e : Env} {s : State} {m : MethodId} {args : Array Value} {below : List Frame} {meth : Method} {c : Code} {A : Nat → Prop} {Q : State → Prop} {rt : Option FieldType} (hF : zF p s m args meth c D ka kb A cL_law RL 4 rt) (hX : va_X sb L9 xs s s.heap) (hsb : sb < s.heap.size) (hAb : ¬ A sb) (hL9 : L9 ≤ 3584)
    (hend : ∀ (ws : va_W) (H : Heap) (locs : List Loc), zB D A s ws H locs → ∀ ls : Array Slot, W p l e room_1 s m args below meth c H locs 92 1052 Q (F0 m 1365 ls []))
    : ∀ (n i : Nat), L9 + 8 ≤ n + i → i ≤ L9 → ∀ (ws : va_W) (H : Heap) (locs : List Loc), LI ka bd na ad q ws → zB D A s ws H locs → ∀ ls : Array Slot, lv_has ls 4 [(3, .int (nI i)), (2, .ref q), (1, .ref (bd 31)), (0, .ref sb)] → W p l e room_1 s m args below meth c H locs 92 1052 Q (F0 m 18 ls []) := by
  have hx : p.tables.exec = Jvm.exec := hF.1.1
  have hb : c.code = cL_law := hF.1.2.1
  intro n
  induction n with
  | zero => intro i h1 h2; exact absurd h1 (by omega)
  | succ n ih =>
    intro i hn hi ws H locs hI hB ls hl
    refine lv_iload_n hx hb dL_law_18 rfl (lv_at hl 0 rfl) ?_
    refine lv_aload_n hx hb dL_law_19 rfl (lv_at hl 3 rfl) ?_
    refine va_slen hx hb hX hsb hAb hB.2.2 dL_law_20 ?_
    refine lv_bipush (v := 7) hx hb dL_law_21 (by decide) ?_
    refine lv_isub hx hb dL_law_23 ?_
    refine lv_icmp_gt (tgt := 1365) hx hb dL_law_24 (by decide) (fun h1 => ?_) (fun h1 => ?_)
    · exact hend ws H locs hB ls
    · have e1 : (Int32.ofNat L9).toInt = (L9 : Int) := nI_toInt (n := L9) (by omega)
      have e2 : (Int32.ofNat L9 - 7).toInt = (L9 : Int) - 7 := by
        rw [i32_sub (by rw [e1, show (7 : Int32).toInt = 7 from rfl]; omega), e1]
        rfl
      have e3 : (nI i).toInt = (i : Int) := nI_toInt (by omega)
      have hi7 : i + 7 ≤ L9 := Nat.not_lt.mp (fun h9 => h1 ((i32_lt_i _ _).mpr (by rw [e2, e3]; omega)))
      refine lv_aload_n hx hb dL_law_27 rfl (lv_at hl 3 rfl) ?_
      refine lv_iload_n hx hb dL_law_28 rfl (lv_at hl 0 rfl) ?_
      refine zscr hF hX hsb hAb hB (k := i) (by omega) (by omega) dL_law_29 ?_
      refine lv_bipush (v := 31) hx hb dL_law_30 (by decide) ?_
      refine lv_iand hx hb dL_law_32 ?_
      have h31 := and31 (xs i)
      generalize xs i &&& 31 = w9 at h31 ⊢
      have kk : ∀ (ws : va_W) (H : Heap) (locs : List Loc), LI ka bd na ad q ws → zB D A s ws H locs → ∀ ls : Array Slot, lv_has ls 4 [(3, .int (nI i)), (2, .ref q), (1, .ref (bd 31)), (0, .ref sb)] → W p l e room_1 s m args below meth c H locs 92 1052 Q (F0 m 1359 ls []) := by
        intro ws H locs hI hB ls hl
        refine lv_iinc (v := nI (i + 7)) (lv' := [(3, .int (nI (i + 7))), (2, .ref q), (1, .ref (bd 31)), (0, .ref sb)]) hx hb dL_law_1359 hl (k := 0) rfl (nI_add _ 7) (by decide) rfl (fun ls hl => ?_)
        refine lv_goto (tgt := 18) hx hb dL_law_1362 (by decide) ?_
        exact ih (i + 7) (by omega) hi7 ws H locs hI hB ls hl
      rcases (show w9.toInt = 0 ∨ w9.toInt = 1 ∨ w9.toInt = 2 ∨ w9.toInt = 3 ∨ w9.toInt = 4 ∨ w9.toInt = 5 ∨ w9.toInt = 6 ∨ w9.toInt = 7 ∨ w9.toInt = 8 ∨ w9.toInt = 9 ∨ w9.toInt = 10 ∨ w9.toInt = 11 ∨ w9.toInt = 12 ∨ w9.toInt = 13 ∨ w9.toInt = 14 ∨ w9.toInt = 15 ∨ w9.toInt = 16 ∨ w9.toInt = 17 ∨ w9.toInt = 18 ∨ w9.toInt = 19 ∨ w9.toInt = 20 ∨ w9.toInt = 21 ∨ w9.toInt = 22 ∨ w9.toInt = 23 ∨ w9.toInt = 24 ∨ w9.toInt = 25 ∨ w9.toInt = 26 ∨ w9.toInt = 27 ∨ w9.toInt = 28 ∨ w9.toInt = 29 ∨ w9.toInt = 30 ∨ w9.toInt = 31 by omega) with hc9 | hc9 | hc9 | hc9 | hc9 | hc9 | hc9 | hc9 | hc9 | hc9 | hc9 | hc9 | hc9 | hc9 | hc9 | hc9 | hc9 | hc9 | hc9 | hc9 | hc9 | hc9 | hc9 | hc9 | hc9 | hc9 | hc9 | hc9 | hc9 | hc9 | hc9 | hc9
      · exact lv_tableIn (tgt := 176) hx hb dL_law_33 (by omega) (by omega) (by rw [hc9]; rfl) (by decide) (lwc_put l D ka kb bd na ad q sb L9 xs hF hX hsb hAb i hi7 hL9 hI hB kk hl)
      · exact lv_tableIn (tgt := 251) hx hb dL_law_33 (by omega) (by omega) (by rw [hc9]; rfl) (by decide) (lwc_read l D ka kb bd na ad q sb L9 xs hF hX hsb hAb i hi7 hL9 hI hB kk hl)
      · exact lv_tableIn (tgt := 294) hx hb dL_law_33 (by omega) (by omega) (by rw [hc9]; rfl) (by decide) (lwc_reckon l D ka kb bd na ad q sb L9 xs hF hX hsb hAb i hi7 hL9 hI hB kk hl)
      · exact lv_tableIn (tgt := 347) hx hb dL_law_33 (by omega) (by omega) (by rw [hc9]; rfl) (by decide) (lwc_part l D ka kb bd na ad q sb L9 xs hF hX hsb hAb i hi7 hL9 hI hB kk hl)
      · exact lv_tableIn (tgt := 381) hx hb dL_law_33 (by omega) (by omega) (by rw [hc9]; rfl) (by decide) (lwc_compare l D ka kb bd na ad q sb L9 xs hF hX hsb hAb i hi7 hL9 hI hB kk hl)
      · exact lv_tableIn (tgt := 414) hx hb dL_law_33 (by omega) (by omega) (by rw [hc9]; rfl) (by decide) (lwc_lump l D ka kb bd na ad q sb L9 xs hF hX hsb hAb i hi7 hL9 hI hB kk hl)
      · exact lv_tableIn (tgt := 457) hx hb dL_law_33 (by omega) (by omega) (by rw [hc9]; rfl) (by decide) (lwc_unlump l D ka kb bd na ad q sb L9 xs hF hX hsb hAb i hi7 hL9 hI hB kk hl)
      · exact lv_tableIn (tgt := 470) hx hb dL_law_33 (by omega) (by omega) (by rw [hc9]; rfl) (by decide) (lwc_drill l D ka kb bd na ad q sb L9 xs hF hX hsb hAb i hi7 hL9 hI hB kk hl)
      · exact lv_tableIn (tgt := 513) hx hb dL_law_33 (by omega) (by omega) (by rw [hc9]; rfl) (by decide) (lwc_fill l D ka kb bd na ad q sb L9 xs hF hX hsb hAb i hi7 hL9 hI hB kk hl)
      · exact lv_tableIn (tgt := 546) hx hb dL_law_33 (by omega) (by omega) (by rw [hc9]; rfl) (by decide) (lwc_hole l D ka kb bd na ad q sb L9 xs hF hX hsb hAb i hi7 hL9 hI hB kk hl)
      · exact lv_tableIn (tgt := 579) hx hb dL_law_33 (by omega) (by omega) (by rw [hc9]; rfl) (by decide) (lwc_lawful l D ka kb bd na ad q sb L9 xs hF hX hsb hAb i hi7 hL9 hI hB kk hl)
      · exact lv_tableIn (tgt := 612) hx hb dL_law_33 (by omega) (by omega) (by rw [hc9]; rfl) (by decide) (lwc_sizes l D ka kb bd na ad q sb L9 xs hF hX hsb hAb i hi7 hL9 hI hB kk hl)
      · exact lv_tableIn (tgt := 635) hx hb dL_law_33 (by omega) (by omega) (by rw [hc9]; rfl) (by decide) (lwc_limit l D ka kb bd na ad q sb L9 xs hF hX hsb hAb i hi7 hL9 hI hB kk hl)
      · exact lv_tableIn (tgt := 658) hx hb dL_law_33 (by omega) (by omega) (by rw [hc9]; rfl) (by decide) (lwc_pull l D ka kb bd na ad q sb L9 xs hF hX hsb hAb i hi7 hL9 hI hB kk hl)
      · exact lv_tableIn (tgt := 692) hx hb dL_law_33 (by omega) (by omega) (by rw [hc9]; rfl) (by decide) (lwc_quiet l D ka kb bd na ad q sb L9 xs hF hX hsb hAb i hi7 hL9 hI hB kk hl)
      · exact lv_tableIn (tgt := 715) hx hb dL_law_33 (by omega) (by omega) (by rw [hc9]; rfl) (by decide) (lwc_bearing l D ka kb bd na ad q sb L9 xs hF hX hsb hAb i hi7 hL9 hI hB kk hl)
      · exact lv_tableIn (tgt := 768) hx hb dL_law_33 (by omega) (by omega) (by rw [hc9]; rfl) (by decide) (lwc_trial l D ka kb bd na ad q sb L9 xs hF hX hsb hAb i hi7 hL9 hI hB kk hl)
      · exact lv_tableIn (tgt := 811) hx hb dL_law_33 (by omega) (by omega) (by rw [hc9]; rfl) (by decide) (lwc_reading l D ka kb bd na ad q sb L9 xs hF hX hsb hAb i hi7 hL9 hI hB kk hl)
      · exact lv_tableIn (tgt := 855) hx hb dL_law_33 (by omega) (by omega) (by rw [hc9]; rfl) (by decide) (lwc_found l D ka kb bd na ad q sb L9 xs hF hX hsb hAb i hi7 hL9 hI hB kk hl)
      · exact lv_tableIn (tgt := 888) hx hb dL_law_33 (by omega) (by omega) (by rw [hc9]; rfl) (by decide) (lwc_effect l D ka kb bd na ad q sb L9 xs hF hX hsb hAb i hi7 hL9 hI hB kk hl)
      · exact lv_tableIn (tgt := 931) hx hb dL_law_33 (by omega) (by omega) (by rw [hc9]; rfl) (by decide) (lwc_fewest l D ka kb bd na ad q sb L9 xs hF hX hsb hAb i hi7 hL9 hI hB kk hl)
      · exact lv_tableIn (tgt := 974) hx hb dL_law_33 (by omega) (by omega) (by rw [hc9]; rfl) (by decide) (lwc_drillAll l D ka kb bd na ad q sb L9 xs hF hX hsb hAb i hi7 hL9 hI hB kk hl)
      · exact lv_tableIn (tgt := 1007) hx hb dL_law_33 (by omega) (by omega) (by rw [hc9]; rfl) (by decide) (lwc_split l D ka kb bd na ad q sb L9 xs hF hX hsb hAb i hi7 hL9 hI hB kk hl)
      · exact lv_tableIn (tgt := 1060) hx hb dL_law_33 (by omega) (by omega) (by rw [hc9]; rfl) (by decide) (lwc_nearest l D ka kb bd na ad q sb L9 xs hF hX hsb hAb i hi7 hL9 hI hB kk hl)
      · exact lv_tableIn (tgt := 1093) hx hb dL_law_33 (by omega) (by omega) (by rw [hc9]; rfl) (by decide) (lwc_sheet l D ka kb bd na ad q sb L9 xs hF hX hsb hAb i hi7 hL9 hI hB kk hl)
      · exact lv_tableIn (tgt := 1126) hx hb dL_law_33 (by omega) (by omega) (by rw [hc9]; rfl) (by decide) (lwc_lose l D ka kb bd na ad q sb L9 xs hF hX hsb hAb i hi7 hL9 hI hB kk hl)
      · exact lv_tableIn (tgt := 1149) hx hb dL_law_33 (by omega) (by omega) (by rw [hc9]; rfl) (by decide) (lwc_lay l D ka kb bd na ad q sb L9 xs hF hX hsb hAb i hi7 hL9 hI hB kk hl)
      · exact lv_tableIn (tgt := 1202) hx hb dL_law_33 (by omega) (by omega) (by rw [hc9]; rfl) (by decide) (lwc_get l D ka kb bd na ad q sb L9 xs hF hX hsb hAb i hi7 hL9 hI hB kk hl)
      · exact lv_tableIn (tgt := 1236) hx hb dL_law_33 (by omega) (by omega) (by rw [hc9]; rfl) (by decide) (lwc_copy l D ka kb bd na ad q sb L9 xs hF hX hsb hAb i hi7 hL9 hI hB kk hl)
      · exact lv_tableIn (tgt := 1299) hx hb dL_law_33 (by omega) (by omega) (by rw [hc9]; rfl) (by decide) (lwc_write l D ka kb bd na ad q sb L9 xs hF hX hsb hAb i hi7 hL9 hI hB kk hl)
      · exact lv_tableIn (tgt := 1322) hx hb dL_law_33 (by omega) (by omega) (by rw [hc9]; rfl) (by decide) (lwc_count l D ka kb bd na ad q sb L9 xs hF hX hsb hAb i hi7 hL9 hI hB kk hl)
      · exact lv_tableIn (tgt := 1345) hx hb dL_law_33 (by omega) (by omega) (by rw [hc9]; rfl) (by decide) (lwc_digest l D ka kb bd na ad q sb L9 xs hF hX hsb hAb i hi7 hL9 hI hB kk hl)
