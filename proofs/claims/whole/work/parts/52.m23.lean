/-- twice a sine, its whole part or its part with a root -/
def siW (k : Nat) (co : Bool) : Nat := if co = true then (if k = 2 ∨ k = 4 then 1 else 0) else (if k = 3 then 2 else if k = 1 ∨ k = 5 then 1 else 0)
set_option maxHeartbeats 4000000 in
set_option maxRecDepth 100000 in
theorem c_X8_sine (l : Launch) (D : va_G) (ka : Nat → ClassId) (kb : Nat → Nat) (k : Nat) (co : Bool) (hk : k < 12) : zI l D ka kb yX8_sine cX8_sine 2 .int 0 0 [.int (nI k), .int (bI co)] ([]) (fun (r : Int32) (_ : Unit) => r = nI (siW k co)) (fun (_ : Unit) => []) := by
  refine zI.mk RX8 (by decide +kernel) rfl (Nat.le_of_ble_eq_true rfl) ?_
  intro p e s m below meth c A ls args Q hQ hx hb hF hB hl
  replace hl : lv_has ls 2 [(0, .int (nI k)), (1, .int (bI co))] := hl
  refine lv_iload_n hx hb dX8_sine_0 rfl (lv_at hl 1 rfl) ?_
  refine lv_if_eq (tgt := 22) hx hb dX8_sine_1 (by decide) (fun h1 => ?_) (fun h1 => ?_)
  · skip
    have hco := bI_eq0 h1
    refine lv_iload_n hx hb dX8_sine_22 rfl (lv_at hl 0 rfl) ?_
    refine lv_iconst (v := 3) hx hb dX8_sine_23 (by decide) ?_
    refine lv_icmp_ne (tgt := 31) hx hb dX8_sine_24 (by decide) (fun h24 => ?_) (fun h24 => ?_)
    · skip
      have hn3 : k ≠ 3 := fun e8 => h24 (by rw [e8]; rfl)
      refine lv_iload_n hx hb dX8_sine_31 rfl (lv_at hl 0 rfl) ?_
      refine lv_iconst (v := 1) hx hb dX8_sine_32 (by decide) ?_
      refine lv_icmp_eq (tgt := 41) hx hb dX8_sine_33 (by decide) (fun h33 => ?_) (fun h33 => ?_)
      · skip
        have hn1 : k = 1 := (nI_eq (b := 1) (by omega) (by decide)).mp h33
        refine lv_iconst (v := 1) hx hb dX8_sine_41 (by decide) ?_
        refine lv_goto (tgt := 46) hx hb dX8_sine_42 (by decide) ?_
        exact zreti hF hB () (by rw [siW, hco, if_neg Bool.false_ne_true, if_neg hn3, if_pos (Or.inl hn1)] <;> rfl) (rfl) (rfl) dX8_sine_46 hQ
      · skip
        have hn1 : k ≠ 1 := fun e8 => h33 (by rw [e8]; rfl)
        refine lv_iload_n hx hb dX8_sine_36 rfl (lv_at hl 0 rfl) ?_
        refine lv_iconst (v := 5) hx hb dX8_sine_37 (by decide) ?_
        refine lv_icmp_ne (tgt := 45) hx hb dX8_sine_38 (by decide) (fun h38 => ?_) (fun h38 => ?_)
        · skip
          have hn5 : k ≠ 5 := fun e8 => h38 (by rw [e8]; rfl)
          refine lv_iconst (v := 0) hx hb dX8_sine_45 (by decide) ?_
          exact zreti hF hB () (by rw [siW, hco, if_neg Bool.false_ne_true, if_neg hn3, if_neg (fun e8 => e8.elim hn1 hn5)] <;> rfl) (rfl) (rfl) dX8_sine_46 hQ
        · skip
          have hn5 : k = 5 := (nI_eq (b := 5) (by omega) (by decide)).mp h38
          refine lv_iconst (v := 1) hx hb dX8_sine_41 (by decide) ?_
          refine lv_goto (tgt := 46) hx hb dX8_sine_42 (by decide) ?_
          exact zreti hF hB () (by rw [siW, hco, if_neg Bool.false_ne_true, if_neg hn3, if_pos (Or.inr hn5)] <;> rfl) (rfl) (rfl) dX8_sine_46 hQ
    · skip
      have hn3 : k = 3 := (nI_eq (b := 3) (by omega) (by decide)).mp h24
      refine lv_iconst (v := 2) hx hb dX8_sine_27 (by decide) ?_
      refine lv_goto (tgt := 46) hx hb dX8_sine_28 (by decide) ?_
      exact zreti hF hB () (by rw [siW, hco, if_neg Bool.false_ne_true, if_pos hn3] <;> rfl) (rfl) (rfl) dX8_sine_46 hQ
  · skip
    have hco := bI_ne0 h1
    refine lv_iload_n hx hb dX8_sine_4 rfl (lv_at hl 0 rfl) ?_
    refine lv_iconst (v := 2) hx hb dX8_sine_5 (by decide) ?_
    refine lv_icmp_eq (tgt := 14) hx hb dX8_sine_6 (by decide) (fun h6 => ?_) (fun h6 => ?_)
    · skip
      have hn2 : k = 2 := (nI_eq (b := 2) (by omega) (by decide)).mp h6
      refine lv_iconst (v := 1) hx hb dX8_sine_14 (by decide) ?_
      refine lv_goto (tgt := 46) hx hb dX8_sine_15 (by decide) ?_
      exact zreti hF hB () (by rw [siW, hco, if_pos rfl, if_pos (Or.inl hn2)] <;> rfl) (rfl) (rfl) dX8_sine_46 hQ
    · skip
      have hn2 : k ≠ 2 := fun e8 => h6 (by rw [e8]; rfl)
      refine lv_iload_n hx hb dX8_sine_9 rfl (lv_at hl 0 rfl) ?_
      refine lv_iconst (v := 4) hx hb dX8_sine_10 (by decide) ?_
      refine lv_icmp_ne (tgt := 18) hx hb dX8_sine_11 (by decide) (fun h11 => ?_) (fun h11 => ?_)
      · skip
        have hn4 : k ≠ 4 := fun e8 => h11 (by rw [e8]; rfl)
        refine lv_iconst (v := 0) hx hb dX8_sine_18 (by decide) ?_
        refine lv_goto (tgt := 46) hx hb dX8_sine_19 (by decide) ?_
        exact zreti hF hB () (by rw [siW, hco, if_pos rfl, if_neg (fun e8 => e8.elim hn2 hn4)] <;> rfl) (rfl) (rfl) dX8_sine_46 hQ
      · skip
        have hn4 : k = 4 := (nI_eq (b := 4) (by omega) (by decide)).mp h11
        refine lv_iconst (v := 1) hx hb dX8_sine_14 (by decide) ?_
        refine lv_goto (tgt := 46) hx hb dX8_sine_15 (by decide) ?_
        exact zreti hF hB () (by rw [siW, hco, if_pos rfl, if_pos (Or.inr hn4)] <;> rfl) (rfl) (rfl) dX8_sine_46 hQ
