def nuZ (k : Nat) : Nat → Int64 := fun j => if j % 5 = 4 ∧ j < 5 * k then 1 else 0
theorem nuZ_0 : nuZ 0 = fun _ => 0 := funext fun j => if_neg (fun h => by omega)
theorem nuZ_s {k : Nat} : vp_updL (nuZ k) (5 * k + 4) 1 = nuZ (k + 1) := funext fun j => by
  unfold vp_updL nuZ
  by_cases e : j = 5 * k + 4
  · rw [if_pos e, if_pos (by omega)]
  · rw [if_neg e]
    by_cases e2 : j % 5 = 4 ∧ j < 5 * k
    · rw [if_pos e2, if_pos (by omega)]
    · rw [if_neg e2, if_neg (by omega)]
set_option maxHeartbeats 4000000 in
set_option maxRecDepth 100000 in
theorem c_X8_init (l : Launch) (D : va_G) (ka : Nat → ClassId) (kb : Nat → Nat) (b : Nat) : zC l D ka kb yX8_init cX8_init 2 1 20 18 488 [.ref b] ([(b, .inr (8, [.int (0 : Int32), .null, .null, .null, .null, .int (0 : Int32), .null, .null, .null, .int (0 : Int32), .null, .null, .int (0 : Int32), .int (0 : Int32), .null, .null, .null, .int (0 : Int32), .null, .null, .null, .null, .null, .null, .int (0 : Int32), .long (0 : Int64), .long (0 : Int64)]))]) (fun (_ : Nat → Nat) => True) (fun (u : Nat → Nat) => [(b, .inr (8, [.int (0 : Int32), .ref (u 0), .ref (u 1), .ref (u 2), .ref (u 3), .int (0 : Int32), .ref (u 4), .ref (u 5), .ref (u 6), .int (0 : Int32), .ref (u 7), .ref (u 8), .int (22 : Int32), .int (1 : Int32), .ref (u 9), .ref (u 10), .ref (u 11), .int (0 : Int32), .ref (u 12), .ref (u 13), .ref (u 14), .ref (u 15), .ref (u 16), .ref (u 17), .int (0 : Int32), .long (0 : Int64), .long (0 : Int64)])), ((u 0), .inl (ka 0, 4, .inl (upd (upd (upd (upd (fun _ => 0) 0 (-1 : Int32)) 1 (-1 : Int32)) 2 (-1 : Int32)) 3 (-1 : Int32)))), ((u 1), .inl (ka 1, 160, .inr (.inl (fun _ => 0)))), ((u 2), .inl (ka 1, 40, .inr (.inl (fun _ => 0)))), ((u 3), .inl (ka 1, 200, .inr (.inl (nuZ 40)))), ((u 4), .inl (ka 0, 8, .inl (fun _ => 0))), ((u 5), .inl (ka 0, 8, .inl (fun _ => 0))), ((u 6), .inl (ka 0, 8, .inl (fun _ => 0))), ((u 7), .inl (ka 0, 24, .inl (fun _ => 0))), ((u 8), .inl (ka 0, 2, .inl (upd (upd (fun _ => 0) 0 (4095 : Int32)) 1 (4095 : Int32)))), ((u 9), .inl (ka 1, 4, .inr (.inl (fun _ => 0)))), ((u 10), .inl (ka 0, 4, .inl (upd (upd (upd (upd (fun _ => 0) 0 (2 : Int32)) 1 (1 : Int32)) 2 (1 : Int32)) 3 (2 : Int32)))), ((u 11), .inl (ka 0, 4, .inl (fun _ => 0))), ((u 12), .inl (ka 0, 3, .inl (fun _ => 0))), ((u 13), .inl (ka 0, 3, .inl (fun _ => 0))), ((u 14), .inl (ka 0, 4, .inl (fun _ => 0))), ((u 15), .inl (ka 0, 4, .inl (fun _ => 0))), ((u 16), .inl (ka 0, 4, .inl (fun _ => 0))), ((u 17), .inl (ka 0, 4, .inl (fun _ => 0)))]) := by
  refine zC.mk RX8 (by decide +kernel) rfl (Nat.le_of_ble_eq_true rfl) ?_
  intro p e s m below meth c A ls args Q hQ hx hb hF hB hl hin0
  have hin : meth.name = "<init>" := hin0
  replace hl : lv_has ls 2 [(0, .ref b)] := hl
  refine lv_aload_n hx hb dX8_init_0 rfl (lv_at hl 0 rfl) ?_
  refine zobj ww_5_18 hF hl.1 (Nat.le_of_ble_eq_true rfl) (Nat.le_of_ble_eq_true rfl) dX8_init_1 ?_
  refine lv_aload_n hx hb dX8_init_4 rfl (lv_at hl 0 rfl) ?_
  refine lv_iconst (v := 4) hx hb dX8_init_5 (by decide) ?_
  refine znewi 4 hF hB (by decide) (by decide) (Nat.le_of_ble_eq_true rfl) (Nat.le_of_ble_eq_true rfl) (Nat.le_of_ble_eq_true rfl) dX8_init_6 ?_
  clear hB
  try clear locs
  try clear H
  intro q1 H locs hB
  replace hB : zB D A s ([(b, .inr (8, [.int (0 : Int32), .null, .null, .null, .null, .int (0 : Int32), .null, .null, .null, .int (0 : Int32), .null, .null, .int (0 : Int32), .int (0 : Int32), .null, .null, .null, .int (0 : Int32), .null, .null, .null, .null, .null, .null, .int (0 : Int32), .long (0 : Int64), .long (0 : Int64)])), (q1, .inl (ka 0, 4, .inl (fun _ => 0)))]) H locs := hB
  refine W.widen (k := 1) (n := 4) (Nat.le_of_ble_eq_true rfl) (Nat.le_of_ble_eq_true rfl) ?_
  refine zput_F zo_X8_7 hin hF hB 0 rfl rfl rfl (Nat.le_of_ble_eq_true rfl) dX8_init_8 ?_
  clear hB
  try clear locs
  try clear H
  intro H locs hB
  replace hB : zB D A s ([(b, .inr (8, [.int (0 : Int32), .ref q1, .null, .null, .null, .int (0 : Int32), .null, .null, .null, .int (0 : Int32), .null, .null, .int (0 : Int32), .int (0 : Int32), .null, .null, .null, .int (0 : Int32), .null, .null, .null, .null, .null, .null, .int (0 : Int32), .long (0 : Int64), .long (0 : Int64)])), (q1, .inl (ka 0, 4, .inl (fun _ => 0)))]) H locs := hB
  refine lv_aload_n hx hb dX8_init_11 rfl (lv_at hl 0 rfl) ?_
  refine lv_sipush (v := 160) hx hb dX8_init_12 (by decide) ?_
  refine znewl 160 hF hB (by decide) (by decide) (Nat.le_of_ble_eq_true rfl) (Nat.le_of_ble_eq_true rfl) (Nat.le_of_ble_eq_true rfl) dX8_init_15 ?_
  clear hB
  try clear locs
  try clear H
  intro q2 H locs hB
  replace hB : zB D A s ([(b, .inr (8, [.int (0 : Int32), .ref q1, .null, .null, .null, .int (0 : Int32), .null, .null, .null, .int (0 : Int32), .null, .null, .int (0 : Int32), .int (0 : Int32), .null, .null, .null, .int (0 : Int32), .null, .null, .null, .null, .null, .null, .int (0 : Int32), .long (0 : Int64), .long (0 : Int64)])), (q1, .inl (ka 0, 4, .inl (fun _ => 0))), (q2, .inl (ka 1, 160, .inr (.inl (fun _ => 0))))]) H locs := hB
  refine W.widen (k := 2) (n := 164) (Nat.le_of_ble_eq_true rfl) (Nat.le_of_ble_eq_true rfl) ?_
  refine zput_F zo_X8_13 hin hF hB 0 rfl rfl rfl (Nat.le_of_ble_eq_true rfl) dX8_init_17 ?_
  clear hB
  try clear locs
  try clear H
  intro H locs hB
  replace hB : zB D A s ([(b, .inr (8, [.int (0 : Int32), .ref q1, .ref q2, .null, .null, .int (0 : Int32), .null, .null, .null, .int (0 : Int32), .null, .null, .int (0 : Int32), .int (0 : Int32), .null, .null, .null, .int (0 : Int32), .null, .null, .null, .null, .null, .null, .int (0 : Int32), .long (0 : Int64), .long (0 : Int64)])), (q1, .inl (ka 0, 4, .inl (fun _ => 0))), (q2, .inl (ka 1, 160, .inr (.inl (fun _ => 0))))]) H locs := hB
  refine lv_aload_n hx hb dX8_init_20 rfl (lv_at hl 0 rfl) ?_
  refine lv_bipush (v := 40) hx hb dX8_init_21 (by decide) ?_
  refine znewl 40 hF hB (by decide) (by decide) (Nat.le_of_ble_eq_true rfl) (Nat.le_of_ble_eq_true rfl) (Nat.le_of_ble_eq_true rfl) dX8_init_23 ?_
  clear hB
  try clear locs
  try clear H
  intro q3 H locs hB
  replace hB : zB D A s ([(b, .inr (8, [.int (0 : Int32), .ref q1, .ref q2, .null, .null, .int (0 : Int32), .null, .null, .null, .int (0 : Int32), .null, .null, .int (0 : Int32), .int (0 : Int32), .null, .null, .null, .int (0 : Int32), .null, .null, .null, .null, .null, .null, .int (0 : Int32), .long (0 : Int64), .long (0 : Int64)])), (q1, .inl (ka 0, 4, .inl (fun _ => 0))), (q2, .inl (ka 1, 160, .inr (.inl (fun _ => 0)))), (q3, .inl (ka 1, 40, .inr (.inl (fun _ => 0))))]) H locs := hB
  refine W.widen (k := 3) (n := 204) (Nat.le_of_ble_eq_true rfl) (Nat.le_of_ble_eq_true rfl) ?_
  refine zput_F zo_X8_17 hin hF hB 0 rfl rfl rfl (Nat.le_of_ble_eq_true rfl) dX8_init_25 ?_
  clear hB
  try clear locs
  try clear H
  intro H locs hB
  replace hB : zB D A s ([(b, .inr (8, [.int (0 : Int32), .ref q1, .ref q2, .ref q3, .null, .int (0 : Int32), .null, .null, .null, .int (0 : Int32), .null, .null, .int (0 : Int32), .int (0 : Int32), .null, .null, .null, .int (0 : Int32), .null, .null, .null, .null, .null, .null, .int (0 : Int32), .long (0 : Int64), .long (0 : Int64)])), (q1, .inl (ka 0, 4, .inl (fun _ => 0))), (q2, .inl (ka 1, 160, .inr (.inl (fun _ => 0)))), (q3, .inl (ka 1, 40, .inr (.inl (fun _ => 0))))]) H locs := hB
  refine lv_aload_n hx hb dX8_init_28 rfl (lv_at hl 0 rfl) ?_
  refine lv_sipush (v := 200) hx hb dX8_init_29 (by decide) ?_
  refine znewl 200 hF hB (by decide) (by decide) (Nat.le_of_ble_eq_true rfl) (Nat.le_of_ble_eq_true rfl) (Nat.le_of_ble_eq_true rfl) dX8_init_32 ?_
  clear hB
  try clear locs
  try clear H
  intro q4 H locs hB
  replace hB : zB D A s ([(b, .inr (8, [.int (0 : Int32), .ref q1, .ref q2, .ref q3, .null, .int (0 : Int32), .null, .null, .null, .int (0 : Int32), .null, .null, .int (0 : Int32), .int (0 : Int32), .null, .null, .null, .int (0 : Int32), .null, .null, .null, .null, .null, .null, .int (0 : Int32), .long (0 : Int64), .long (0 : Int64)])), (q1, .inl (ka 0, 4, .inl (fun _ => 0))), (q2, .inl (ka 1, 160, .inr (.inl (fun _ => 0)))), (q3, .inl (ka 1, 40, .inr (.inl (fun _ => 0)))), (q4, .inl (ka 1, 200, .inr (.inl (fun _ => 0))))]) H locs := hB
  refine W.widen (k := 4) (n := 404) (Nat.le_of_ble_eq_true rfl) (Nat.le_of_ble_eq_true rfl) ?_
  refine zput_F zo_X8_20 hin hF hB 0 rfl rfl rfl (Nat.le_of_ble_eq_true rfl) dX8_init_34 ?_
  clear hB
  try clear locs
  try clear H
  intro H locs hB
  replace hB : zB D A s ([(b, .inr (8, [.int (0 : Int32), .ref q1, .ref q2, .ref q3, .ref q4, .int (0 : Int32), .null, .null, .null, .int (0 : Int32), .null, .null, .int (0 : Int32), .int (0 : Int32), .null, .null, .null, .int (0 : Int32), .null, .null, .null, .null, .null, .null, .int (0 : Int32), .long (0 : Int64), .long (0 : Int64)])), (q1, .inl (ka 0, 4, .inl (fun _ => 0))), (q2, .inl (ka 1, 160, .inr (.inl (fun _ => 0)))), (q3, .inl (ka 1, 40, .inr (.inl (fun _ => 0)))), (q4, .inl (ka 1, 200, .inr (.inl (fun _ => 0))))]) H locs := hB
  refine lv_aload_n hx hb dX8_init_37 rfl (lv_at hl 0 rfl) ?_
  refine lv_bipush (v := 8) hx hb dX8_init_38 (by decide) ?_
  refine znewi 8 hF hB (by decide) (by decide) (Nat.le_of_ble_eq_true rfl) (Nat.le_of_ble_eq_true rfl) (Nat.le_of_ble_eq_true rfl) dX8_init_40 ?_
  clear hB
  try clear locs
  try clear H
  intro q5 H locs hB
  replace hB : zB D A s ([(b, .inr (8, [.int (0 : Int32), .ref q1, .ref q2, .ref q3, .ref q4, .int (0 : Int32), .null, .null, .null, .int (0 : Int32), .null, .null, .int (0 : Int32), .int (0 : Int32), .null, .null, .null, .int (0 : Int32), .null, .null, .null, .null, .null, .null, .int (0 : Int32), .long (0 : Int64), .long (0 : Int64)])), (q1, .inl (ka 0, 4, .inl (fun _ => 0))), (q2, .inl (ka 1, 160, .inr (.inl (fun _ => 0)))), (q3, .inl (ka 1, 40, .inr (.inl (fun _ => 0)))), (q4, .inl (ka 1, 200, .inr (.inl (fun _ => 0)))), (q5, .inl (ka 0, 8, .inl (fun _ => 0)))]) H locs := hB
  refine W.widen (k := 5) (n := 412) (Nat.le_of_ble_eq_true rfl) (Nat.le_of_ble_eq_true rfl) ?_
  refine zput_F zo_X8_23 hin hF hB 0 rfl rfl rfl (Nat.le_of_ble_eq_true rfl) dX8_init_42 ?_
  clear hB
  try clear locs
  try clear H
  intro H locs hB
  replace hB : zB D A s ([(b, .inr (8, [.int (0 : Int32), .ref q1, .ref q2, .ref q3, .ref q4, .int (0 : Int32), .ref q5, .null, .null, .int (0 : Int32), .null, .null, .int (0 : Int32), .int (0 : Int32), .null, .null, .null, .int (0 : Int32), .null, .null, .null, .null, .null, .null, .int (0 : Int32), .long (0 : Int64), .long (0 : Int64)])), (q1, .inl (ka 0, 4, .inl (fun _ => 0))), (q2, .inl (ka 1, 160, .inr (.inl (fun _ => 0)))), (q3, .inl (ka 1, 40, .inr (.inl (fun _ => 0)))), (q4, .inl (ka 1, 200, .inr (.inl (fun _ => 0)))), (q5, .inl (ka 0, 8, .inl (fun _ => 0)))]) H locs := hB
  refine lv_aload_n hx hb dX8_init_45 rfl (lv_at hl 0 rfl) ?_
  refine lv_bipush (v := 8) hx hb dX8_init_46 (by decide) ?_
  refine znewi 8 hF hB (by decide) (by decide) (Nat.le_of_ble_eq_true rfl) (Nat.le_of_ble_eq_true rfl) (Nat.le_of_ble_eq_true rfl) dX8_init_48 ?_
  clear hB
  try clear locs
  try clear H
  intro q6 H locs hB
  replace hB : zB D A s ([(b, .inr (8, [.int (0 : Int32), .ref q1, .ref q2, .ref q3, .ref q4, .int (0 : Int32), .ref q5, .null, .null, .int (0 : Int32), .null, .null, .int (0 : Int32), .int (0 : Int32), .null, .null, .null, .int (0 : Int32), .null, .null, .null, .null, .null, .null, .int (0 : Int32), .long (0 : Int64), .long (0 : Int64)])), (q1, .inl (ka 0, 4, .inl (fun _ => 0))), (q2, .inl (ka 1, 160, .inr (.inl (fun _ => 0)))), (q3, .inl (ka 1, 40, .inr (.inl (fun _ => 0)))), (q4, .inl (ka 1, 200, .inr (.inl (fun _ => 0)))), (q5, .inl (ka 0, 8, .inl (fun _ => 0))), (q6, .inl (ka 0, 8, .inl (fun _ => 0)))]) H locs := hB
  refine W.widen (k := 6) (n := 420) (Nat.le_of_ble_eq_true rfl) (Nat.le_of_ble_eq_true rfl) ?_
  refine zput_F zo_X8_26 hin hF hB 0 rfl rfl rfl (Nat.le_of_ble_eq_true rfl) dX8_init_50 ?_
  clear hB
  try clear locs
  try clear H
  intro H locs hB
  replace hB : zB D A s ([(b, .inr (8, [.int (0 : Int32), .ref q1, .ref q2, .ref q3, .ref q4, .int (0 : Int32), .ref q5, .ref q6, .null, .int (0 : Int32), .null, .null, .int (0 : Int32), .int (0 : Int32), .null, .null, .null, .int (0 : Int32), .null, .null, .null, .null, .null, .null, .int (0 : Int32), .long (0 : Int64), .long (0 : Int64)])), (q1, .inl (ka 0, 4, .inl (fun _ => 0))), (q2, .inl (ka 1, 160, .inr (.inl (fun _ => 0)))), (q3, .inl (ka 1, 40, .inr (.inl (fun _ => 0)))), (q4, .inl (ka 1, 200, .inr (.inl (fun _ => 0)))), (q5, .inl (ka 0, 8, .inl (fun _ => 0))), (q6, .inl (ka 0, 8, .inl (fun _ => 0)))]) H locs := hB
  refine lv_aload_n hx hb dX8_init_53 rfl (lv_at hl 0 rfl) ?_
  refine lv_bipush (v := 8) hx hb dX8_init_54 (by decide) ?_
  refine znewi 8 hF hB (by decide) (by decide) (Nat.le_of_ble_eq_true rfl) (Nat.le_of_ble_eq_true rfl) (Nat.le_of_ble_eq_true rfl) dX8_init_56 ?_
  clear hB
  try clear locs
  try clear H
  intro q7 H locs hB
  replace hB : zB D A s ([(b, .inr (8, [.int (0 : Int32), .ref q1, .ref q2, .ref q3, .ref q4, .int (0 : Int32), .ref q5, .ref q6, .null, .int (0 : Int32), .null, .null, .int (0 : Int32), .int (0 : Int32), .null, .null, .null, .int (0 : Int32), .null, .null, .null, .null, .null, .null, .int (0 : Int32), .long (0 : Int64), .long (0 : Int64)])), (q1, .inl (ka 0, 4, .inl (fun _ => 0))), (q2, .inl (ka 1, 160, .inr (.inl (fun _ => 0)))), (q3, .inl (ka 1, 40, .inr (.inl (fun _ => 0)))), (q4, .inl (ka 1, 200, .inr (.inl (fun _ => 0)))), (q5, .inl (ka 0, 8, .inl (fun _ => 0))), (q6, .inl (ka 0, 8, .inl (fun _ => 0))), (q7, .inl (ka 0, 8, .inl (fun _ => 0)))]) H locs := hB
  refine W.widen (k := 7) (n := 428) (Nat.le_of_ble_eq_true rfl) (Nat.le_of_ble_eq_true rfl) ?_
  refine zput_F zo_X8_29 hin hF hB 0 rfl rfl rfl (Nat.le_of_ble_eq_true rfl) dX8_init_58 ?_
  clear hB
  try clear locs
  try clear H
  intro H locs hB
  replace hB : zB D A s ([(b, .inr (8, [.int (0 : Int32), .ref q1, .ref q2, .ref q3, .ref q4, .int (0 : Int32), .ref q5, .ref q6, .ref q7, .int (0 : Int32), .null, .null, .int (0 : Int32), .int (0 : Int32), .null, .null, .null, .int (0 : Int32), .null, .null, .null, .null, .null, .null, .int (0 : Int32), .long (0 : Int64), .long (0 : Int64)])), (q1, .inl (ka 0, 4, .inl (fun _ => 0))), (q2, .inl (ka 1, 160, .inr (.inl (fun _ => 0)))), (q3, .inl (ka 1, 40, .inr (.inl (fun _ => 0)))), (q4, .inl (ka 1, 200, .inr (.inl (fun _ => 0)))), (q5, .inl (ka 0, 8, .inl (fun _ => 0))), (q6, .inl (ka 0, 8, .inl (fun _ => 0))), (q7, .inl (ka 0, 8, .inl (fun _ => 0)))]) H locs := hB
  refine lv_aload_n hx hb dX8_init_61 rfl (lv_at hl 0 rfl) ?_
  refine lv_bipush (v := 24) hx hb dX8_init_62 (by decide) ?_
  refine znewi 24 hF hB (by decide) (by decide) (Nat.le_of_ble_eq_true rfl) (Nat.le_of_ble_eq_true rfl) (Nat.le_of_ble_eq_true rfl) dX8_init_64 ?_
  clear hB
  try clear locs
  try clear H
  intro q8 H locs hB
  replace hB : zB D A s ([(b, .inr (8, [.int (0 : Int32), .ref q1, .ref q2, .ref q3, .ref q4, .int (0 : Int32), .ref q5, .ref q6, .ref q7, .int (0 : Int32), .null, .null, .int (0 : Int32), .int (0 : Int32), .null, .null, .null, .int (0 : Int32), .null, .null, .null, .null, .null, .null, .int (0 : Int32), .long (0 : Int64), .long (0 : Int64)])), (q1, .inl (ka 0, 4, .inl (fun _ => 0))), (q2, .inl (ka 1, 160, .inr (.inl (fun _ => 0)))), (q3, .inl (ka 1, 40, .inr (.inl (fun _ => 0)))), (q4, .inl (ka 1, 200, .inr (.inl (fun _ => 0)))), (q5, .inl (ka 0, 8, .inl (fun _ => 0))), (q6, .inl (ka 0, 8, .inl (fun _ => 0))), (q7, .inl (ka 0, 8, .inl (fun _ => 0))), (q8, .inl (ka 0, 24, .inl (fun _ => 0)))]) H locs := hB
  refine W.widen (k := 8) (n := 452) (Nat.le_of_ble_eq_true rfl) (Nat.le_of_ble_eq_true rfl) ?_
  refine zput_F zo_X8_32 hin hF hB 0 rfl rfl rfl (Nat.le_of_ble_eq_true rfl) dX8_init_66 ?_
  clear hB
  try clear locs
  try clear H
  intro H locs hB
  replace hB : zB D A s ([(b, .inr (8, [.int (0 : Int32), .ref q1, .ref q2, .ref q3, .ref q4, .int (0 : Int32), .ref q5, .ref q6, .ref q7, .int (0 : Int32), .ref q8, .null, .int (0 : Int32), .int (0 : Int32), .null, .null, .null, .int (0 : Int32), .null, .null, .null, .null, .null, .null, .int (0 : Int32), .long (0 : Int64), .long (0 : Int64)])), (q1, .inl (ka 0, 4, .inl (fun _ => 0))), (q2, .inl (ka 1, 160, .inr (.inl (fun _ => 0)))), (q3, .inl (ka 1, 40, .inr (.inl (fun _ => 0)))), (q4, .inl (ka 1, 200, .inr (.inl (fun _ => 0)))), (q5, .inl (ka 0, 8, .inl (fun _ => 0))), (q6, .inl (ka 0, 8, .inl (fun _ => 0))), (q7, .inl (ka 0, 8, .inl (fun _ => 0))), (q8, .inl (ka 0, 24, .inl (fun _ => 0)))]) H locs := hB
  refine lv_aload_n hx hb dX8_init_69 rfl (lv_at hl 0 rfl) ?_
  refine lv_iconst (v := 2) hx hb dX8_init_70 (by decide) ?_
  refine znewi 2 hF hB (by decide) (by decide) (Nat.le_of_ble_eq_true rfl) (Nat.le_of_ble_eq_true rfl) (Nat.le_of_ble_eq_true rfl) dX8_init_71 ?_
  clear hB
  try clear locs
  try clear H
  intro q9 H locs hB
  replace hB : zB D A s ([(b, .inr (8, [.int (0 : Int32), .ref q1, .ref q2, .ref q3, .ref q4, .int (0 : Int32), .ref q5, .ref q6, .ref q7, .int (0 : Int32), .ref q8, .null, .int (0 : Int32), .int (0 : Int32), .null, .null, .null, .int (0 : Int32), .null, .null, .null, .null, .null, .null, .int (0 : Int32), .long (0 : Int64), .long (0 : Int64)])), (q1, .inl (ka 0, 4, .inl (fun _ => 0))), (q2, .inl (ka 1, 160, .inr (.inl (fun _ => 0)))), (q3, .inl (ka 1, 40, .inr (.inl (fun _ => 0)))), (q4, .inl (ka 1, 200, .inr (.inl (fun _ => 0)))), (q5, .inl (ka 0, 8, .inl (fun _ => 0))), (q6, .inl (ka 0, 8, .inl (fun _ => 0))), (q7, .inl (ka 0, 8, .inl (fun _ => 0))), (q8, .inl (ka 0, 24, .inl (fun _ => 0))), (q9, .inl (ka 0, 2, .inl (fun _ => 0)))]) H locs := hB
  refine W.widen (k := 9) (n := 454) (Nat.le_of_ble_eq_true rfl) (Nat.le_of_ble_eq_true rfl) ?_
  refine zput_F zo_X8_35 hin hF hB 0 rfl rfl rfl (Nat.le_of_ble_eq_true rfl) dX8_init_73 ?_
  clear hB
  try clear locs
  try clear H
  intro H locs hB
  replace hB : zB D A s ([(b, .inr (8, [.int (0 : Int32), .ref q1, .ref q2, .ref q3, .ref q4, .int (0 : Int32), .ref q5, .ref q6, .ref q7, .int (0 : Int32), .ref q8, .ref q9, .int (0 : Int32), .int (0 : Int32), .null, .null, .null, .int (0 : Int32), .null, .null, .null, .null, .null, .null, .int (0 : Int32), .long (0 : Int64), .long (0 : Int64)])), (q1, .inl (ka 0, 4, .inl (fun _ => 0))), (q2, .inl (ka 1, 160, .inr (.inl (fun _ => 0)))), (q3, .inl (ka 1, 40, .inr (.inl (fun _ => 0)))), (q4, .inl (ka 1, 200, .inr (.inl (fun _ => 0)))), (q5, .inl (ka 0, 8, .inl (fun _ => 0))), (q6, .inl (ka 0, 8, .inl (fun _ => 0))), (q7, .inl (ka 0, 8, .inl (fun _ => 0))), (q8, .inl (ka 0, 24, .inl (fun _ => 0))), (q9, .inl (ka 0, 2, .inl (fun _ => 0)))]) H locs := hB
  refine lv_aload_n hx hb dX8_init_76 rfl (lv_at hl 0 rfl) ?_
  refine lv_iconst (v := 4) hx hb dX8_init_77 (by decide) ?_
  refine znewl 4 hF hB (by decide) (by decide) (Nat.le_of_ble_eq_true rfl) (Nat.le_of_ble_eq_true rfl) (Nat.le_of_ble_eq_true rfl) dX8_init_78 ?_
  clear hB
  try clear locs
  try clear H
  intro q10 H locs hB
  replace hB : zB D A s ([(b, .inr (8, [.int (0 : Int32), .ref q1, .ref q2, .ref q3, .ref q4, .int (0 : Int32), .ref q5, .ref q6, .ref q7, .int (0 : Int32), .ref q8, .ref q9, .int (0 : Int32), .int (0 : Int32), .null, .null, .null, .int (0 : Int32), .null, .null, .null, .null, .null, .null, .int (0 : Int32), .long (0 : Int64), .long (0 : Int64)])), (q1, .inl (ka 0, 4, .inl (fun _ => 0))), (q2, .inl (ka 1, 160, .inr (.inl (fun _ => 0)))), (q3, .inl (ka 1, 40, .inr (.inl (fun _ => 0)))), (q4, .inl (ka 1, 200, .inr (.inl (fun _ => 0)))), (q5, .inl (ka 0, 8, .inl (fun _ => 0))), (q6, .inl (ka 0, 8, .inl (fun _ => 0))), (q7, .inl (ka 0, 8, .inl (fun _ => 0))), (q8, .inl (ka 0, 24, .inl (fun _ => 0))), (q9, .inl (ka 0, 2, .inl (fun _ => 0))), (q10, .inl (ka 1, 4, .inr (.inl (fun _ => 0))))]) H locs := hB
  refine W.widen (k := 10) (n := 458) (Nat.le_of_ble_eq_true rfl) (Nat.le_of_ble_eq_true rfl) ?_
  refine zput_F zo_X8_38 hin hF hB 0 rfl rfl rfl (Nat.le_of_ble_eq_true rfl) dX8_init_80 ?_
  clear hB
  try clear locs
  try clear H
  intro H locs hB
  replace hB : zB D A s ([(b, .inr (8, [.int (0 : Int32), .ref q1, .ref q2, .ref q3, .ref q4, .int (0 : Int32), .ref q5, .ref q6, .ref q7, .int (0 : Int32), .ref q8, .ref q9, .int (0 : Int32), .int (0 : Int32), .ref q10, .null, .null, .int (0 : Int32), .null, .null, .null, .null, .null, .null, .int (0 : Int32), .long (0 : Int64), .long (0 : Int64)])), (q1, .inl (ka 0, 4, .inl (fun _ => 0))), (q2, .inl (ka 1, 160, .inr (.inl (fun _ => 0)))), (q3, .inl (ka 1, 40, .inr (.inl (fun _ => 0)))), (q4, .inl (ka 1, 200, .inr (.inl (fun _ => 0)))), (q5, .inl (ka 0, 8, .inl (fun _ => 0))), (q6, .inl (ka 0, 8, .inl (fun _ => 0))), (q7, .inl (ka 0, 8, .inl (fun _ => 0))), (q8, .inl (ka 0, 24, .inl (fun _ => 0))), (q9, .inl (ka 0, 2, .inl (fun _ => 0))), (q10, .inl (ka 1, 4, .inr (.inl (fun _ => 0))))]) H locs := hB
  refine lv_aload_n hx hb dX8_init_83 rfl (lv_at hl 0 rfl) ?_
  refine lv_iconst (v := 4) hx hb dX8_init_84 (by decide) ?_
  refine znewi 4 hF hB (by decide) (by decide) (Nat.le_of_ble_eq_true rfl) (Nat.le_of_ble_eq_true rfl) (Nat.le_of_ble_eq_true rfl) dX8_init_85 ?_
  clear hB
  try clear locs
  try clear H
  intro q11 H locs hB
  replace hB : zB D A s ([(b, .inr (8, [.int (0 : Int32), .ref q1, .ref q2, .ref q3, .ref q4, .int (0 : Int32), .ref q5, .ref q6, .ref q7, .int (0 : Int32), .ref q8, .ref q9, .int (0 : Int32), .int (0 : Int32), .ref q10, .null, .null, .int (0 : Int32), .null, .null, .null, .null, .null, .null, .int (0 : Int32), .long (0 : Int64), .long (0 : Int64)])), (q1, .inl (ka 0, 4, .inl (fun _ => 0))), (q2, .inl (ka 1, 160, .inr (.inl (fun _ => 0)))), (q3, .inl (ka 1, 40, .inr (.inl (fun _ => 0)))), (q4, .inl (ka 1, 200, .inr (.inl (fun _ => 0)))), (q5, .inl (ka 0, 8, .inl (fun _ => 0))), (q6, .inl (ka 0, 8, .inl (fun _ => 0))), (q7, .inl (ka 0, 8, .inl (fun _ => 0))), (q8, .inl (ka 0, 24, .inl (fun _ => 0))), (q9, .inl (ka 0, 2, .inl (fun _ => 0))), (q10, .inl (ka 1, 4, .inr (.inl (fun _ => 0)))), (q11, .inl (ka 0, 4, .inl (fun _ => 0)))]) H locs := hB
  refine W.widen (k := 11) (n := 462) (Nat.le_of_ble_eq_true rfl) (Nat.le_of_ble_eq_true rfl) ?_
  refine zput_F zo_X8_41 hin hF hB 0 rfl rfl rfl (Nat.le_of_ble_eq_true rfl) dX8_init_87 ?_
  clear hB
  try clear locs
  try clear H
  intro H locs hB
  replace hB : zB D A s ([(b, .inr (8, [.int (0 : Int32), .ref q1, .ref q2, .ref q3, .ref q4, .int (0 : Int32), .ref q5, .ref q6, .ref q7, .int (0 : Int32), .ref q8, .ref q9, .int (0 : Int32), .int (0 : Int32), .ref q10, .ref q11, .null, .int (0 : Int32), .null, .null, .null, .null, .null, .null, .int (0 : Int32), .long (0 : Int64), .long (0 : Int64)])), (q1, .inl (ka 0, 4, .inl (fun _ => 0))), (q2, .inl (ka 1, 160, .inr (.inl (fun _ => 0)))), (q3, .inl (ka 1, 40, .inr (.inl (fun _ => 0)))), (q4, .inl (ka 1, 200, .inr (.inl (fun _ => 0)))), (q5, .inl (ka 0, 8, .inl (fun _ => 0))), (q6, .inl (ka 0, 8, .inl (fun _ => 0))), (q7, .inl (ka 0, 8, .inl (fun _ => 0))), (q8, .inl (ka 0, 24, .inl (fun _ => 0))), (q9, .inl (ka 0, 2, .inl (fun _ => 0))), (q10, .inl (ka 1, 4, .inr (.inl (fun _ => 0)))), (q11, .inl (ka 0, 4, .inl (fun _ => 0)))]) H locs := hB
  refine lv_aload_n hx hb dX8_init_90 rfl (lv_at hl 0 rfl) ?_
  refine lv_iconst (v := 4) hx hb dX8_init_91 (by decide) ?_
  refine znewi 4 hF hB (by decide) (by decide) (Nat.le_of_ble_eq_true rfl) (Nat.le_of_ble_eq_true rfl) (Nat.le_of_ble_eq_true rfl) dX8_init_92 ?_
  clear hB
  try clear locs
  try clear H
  intro q12 H locs hB
  replace hB : zB D A s ([(b, .inr (8, [.int (0 : Int32), .ref q1, .ref q2, .ref q3, .ref q4, .int (0 : Int32), .ref q5, .ref q6, .ref q7, .int (0 : Int32), .ref q8, .ref q9, .int (0 : Int32), .int (0 : Int32), .ref q10, .ref q11, .null, .int (0 : Int32), .null, .null, .null, .null, .null, .null, .int (0 : Int32), .long (0 : Int64), .long (0 : Int64)])), (q1, .inl (ka 0, 4, .inl (fun _ => 0))), (q2, .inl (ka 1, 160, .inr (.inl (fun _ => 0)))), (q3, .inl (ka 1, 40, .inr (.inl (fun _ => 0)))), (q4, .inl (ka 1, 200, .inr (.inl (fun _ => 0)))), (q5, .inl (ka 0, 8, .inl (fun _ => 0))), (q6, .inl (ka 0, 8, .inl (fun _ => 0))), (q7, .inl (ka 0, 8, .inl (fun _ => 0))), (q8, .inl (ka 0, 24, .inl (fun _ => 0))), (q9, .inl (ka 0, 2, .inl (fun _ => 0))), (q10, .inl (ka 1, 4, .inr (.inl (fun _ => 0)))), (q11, .inl (ka 0, 4, .inl (fun _ => 0))), (q12, .inl (ka 0, 4, .inl (fun _ => 0)))]) H locs := hB
  refine W.widen (k := 12) (n := 466) (Nat.le_of_ble_eq_true rfl) (Nat.le_of_ble_eq_true rfl) ?_
  refine zput_F zo_X8_44 hin hF hB 0 rfl rfl rfl (Nat.le_of_ble_eq_true rfl) dX8_init_94 ?_
  clear hB
  try clear locs
  try clear H
  intro H locs hB
  replace hB : zB D A s ([(b, .inr (8, [.int (0 : Int32), .ref q1, .ref q2, .ref q3, .ref q4, .int (0 : Int32), .ref q5, .ref q6, .ref q7, .int (0 : Int32), .ref q8, .ref q9, .int (0 : Int32), .int (0 : Int32), .ref q10, .ref q11, .ref q12, .int (0 : Int32), .null, .null, .null, .null, .null, .null, .int (0 : Int32), .long (0 : Int64), .long (0 : Int64)])), (q1, .inl (ka 0, 4, .inl (fun _ => 0))), (q2, .inl (ka 1, 160, .inr (.inl (fun _ => 0)))), (q3, .inl (ka 1, 40, .inr (.inl (fun _ => 0)))), (q4, .inl (ka 1, 200, .inr (.inl (fun _ => 0)))), (q5, .inl (ka 0, 8, .inl (fun _ => 0))), (q6, .inl (ka 0, 8, .inl (fun _ => 0))), (q7, .inl (ka 0, 8, .inl (fun _ => 0))), (q8, .inl (ka 0, 24, .inl (fun _ => 0))), (q9, .inl (ka 0, 2, .inl (fun _ => 0))), (q10, .inl (ka 1, 4, .inr (.inl (fun _ => 0)))), (q11, .inl (ka 0, 4, .inl (fun _ => 0))), (q12, .inl (ka 0, 4, .inl (fun _ => 0)))]) H locs := hB
  refine lv_aload_n hx hb dX8_init_97 rfl (lv_at hl 0 rfl) ?_
  refine lv_iconst (v := 3) hx hb dX8_init_98 (by decide) ?_
  refine znewi 3 hF hB (by decide) (by decide) (Nat.le_of_ble_eq_true rfl) (Nat.le_of_ble_eq_true rfl) (Nat.le_of_ble_eq_true rfl) dX8_init_99 ?_
  clear hB
  try clear locs
  try clear H
  intro q13 H locs hB
  replace hB : zB D A s ([(b, .inr (8, [.int (0 : Int32), .ref q1, .ref q2, .ref q3, .ref q4, .int (0 : Int32), .ref q5, .ref q6, .ref q7, .int (0 : Int32), .ref q8, .ref q9, .int (0 : Int32), .int (0 : Int32), .ref q10, .ref q11, .ref q12, .int (0 : Int32), .null, .null, .null, .null, .null, .null, .int (0 : Int32), .long (0 : Int64), .long (0 : Int64)])), (q1, .inl (ka 0, 4, .inl (fun _ => 0))), (q2, .inl (ka 1, 160, .inr (.inl (fun _ => 0)))), (q3, .inl (ka 1, 40, .inr (.inl (fun _ => 0)))), (q4, .inl (ka 1, 200, .inr (.inl (fun _ => 0)))), (q5, .inl (ka 0, 8, .inl (fun _ => 0))), (q6, .inl (ka 0, 8, .inl (fun _ => 0))), (q7, .inl (ka 0, 8, .inl (fun _ => 0))), (q8, .inl (ka 0, 24, .inl (fun _ => 0))), (q9, .inl (ka 0, 2, .inl (fun _ => 0))), (q10, .inl (ka 1, 4, .inr (.inl (fun _ => 0)))), (q11, .inl (ka 0, 4, .inl (fun _ => 0))), (q12, .inl (ka 0, 4, .inl (fun _ => 0))), (q13, .inl (ka 0, 3, .inl (fun _ => 0)))]) H locs := hB
  refine W.widen (k := 13) (n := 469) (Nat.le_of_ble_eq_true rfl) (Nat.le_of_ble_eq_true rfl) ?_
  refine zput_F zo_X8_47 hin hF hB 0 rfl rfl rfl (Nat.le_of_ble_eq_true rfl) dX8_init_101 ?_
  clear hB
  try clear locs
  try clear H
  intro H locs hB
  replace hB : zB D A s ([(b, .inr (8, [.int (0 : Int32), .ref q1, .ref q2, .ref q3, .ref q4, .int (0 : Int32), .ref q5, .ref q6, .ref q7, .int (0 : Int32), .ref q8, .ref q9, .int (0 : Int32), .int (0 : Int32), .ref q10, .ref q11, .ref q12, .int (0 : Int32), .ref q13, .null, .null, .null, .null, .null, .int (0 : Int32), .long (0 : Int64), .long (0 : Int64)])), (q1, .inl (ka 0, 4, .inl (fun _ => 0))), (q2, .inl (ka 1, 160, .inr (.inl (fun _ => 0)))), (q3, .inl (ka 1, 40, .inr (.inl (fun _ => 0)))), (q4, .inl (ka 1, 200, .inr (.inl (fun _ => 0)))), (q5, .inl (ka 0, 8, .inl (fun _ => 0))), (q6, .inl (ka 0, 8, .inl (fun _ => 0))), (q7, .inl (ka 0, 8, .inl (fun _ => 0))), (q8, .inl (ka 0, 24, .inl (fun _ => 0))), (q9, .inl (ka 0, 2, .inl (fun _ => 0))), (q10, .inl (ka 1, 4, .inr (.inl (fun _ => 0)))), (q11, .inl (ka 0, 4, .inl (fun _ => 0))), (q12, .inl (ka 0, 4, .inl (fun _ => 0))), (q13, .inl (ka 0, 3, .inl (fun _ => 0)))]) H locs := hB
  refine lv_aload_n hx hb dX8_init_104 rfl (lv_at hl 0 rfl) ?_
  refine lv_iconst (v := 3) hx hb dX8_init_105 (by decide) ?_
  refine znewi 3 hF hB (by decide) (by decide) (Nat.le_of_ble_eq_true rfl) (Nat.le_of_ble_eq_true rfl) (Nat.le_of_ble_eq_true rfl) dX8_init_106 ?_
  clear hB
  try clear locs
  try clear H
  intro q14 H locs hB
  replace hB : zB D A s ([(b, .inr (8, [.int (0 : Int32), .ref q1, .ref q2, .ref q3, .ref q4, .int (0 : Int32), .ref q5, .ref q6, .ref q7, .int (0 : Int32), .ref q8, .ref q9, .int (0 : Int32), .int (0 : Int32), .ref q10, .ref q11, .ref q12, .int (0 : Int32), .ref q13, .null, .null, .null, .null, .null, .int (0 : Int32), .long (0 : Int64), .long (0 : Int64)])), (q1, .inl (ka 0, 4, .inl (fun _ => 0))), (q2, .inl (ka 1, 160, .inr (.inl (fun _ => 0)))), (q3, .inl (ka 1, 40, .inr (.inl (fun _ => 0)))), (q4, .inl (ka 1, 200, .inr (.inl (fun _ => 0)))), (q5, .inl (ka 0, 8, .inl (fun _ => 0))), (q6, .inl (ka 0, 8, .inl (fun _ => 0))), (q7, .inl (ka 0, 8, .inl (fun _ => 0))), (q8, .inl (ka 0, 24, .inl (fun _ => 0))), (q9, .inl (ka 0, 2, .inl (fun _ => 0))), (q10, .inl (ka 1, 4, .inr (.inl (fun _ => 0)))), (q11, .inl (ka 0, 4, .inl (fun _ => 0))), (q12, .inl (ka 0, 4, .inl (fun _ => 0))), (q13, .inl (ka 0, 3, .inl (fun _ => 0))), (q14, .inl (ka 0, 3, .inl (fun _ => 0)))]) H locs := hB
  refine W.widen (k := 14) (n := 472) (Nat.le_of_ble_eq_true rfl) (Nat.le_of_ble_eq_true rfl) ?_
  refine zput_F zo_X8_50 hin hF hB 0 rfl rfl rfl (Nat.le_of_ble_eq_true rfl) dX8_init_108 ?_
  clear hB
  try clear locs
  try clear H
  intro H locs hB
  replace hB : zB D A s ([(b, .inr (8, [.int (0 : Int32), .ref q1, .ref q2, .ref q3, .ref q4, .int (0 : Int32), .ref q5, .ref q6, .ref q7, .int (0 : Int32), .ref q8, .ref q9, .int (0 : Int32), .int (0 : Int32), .ref q10, .ref q11, .ref q12, .int (0 : Int32), .ref q13, .ref q14, .null, .null, .null, .null, .int (0 : Int32), .long (0 : Int64), .long (0 : Int64)])), (q1, .inl (ka 0, 4, .inl (fun _ => 0))), (q2, .inl (ka 1, 160, .inr (.inl (fun _ => 0)))), (q3, .inl (ka 1, 40, .inr (.inl (fun _ => 0)))), (q4, .inl (ka 1, 200, .inr (.inl (fun _ => 0)))), (q5, .inl (ka 0, 8, .inl (fun _ => 0))), (q6, .inl (ka 0, 8, .inl (fun _ => 0))), (q7, .inl (ka 0, 8, .inl (fun _ => 0))), (q8, .inl (ka 0, 24, .inl (fun _ => 0))), (q9, .inl (ka 0, 2, .inl (fun _ => 0))), (q10, .inl (ka 1, 4, .inr (.inl (fun _ => 0)))), (q11, .inl (ka 0, 4, .inl (fun _ => 0))), (q12, .inl (ka 0, 4, .inl (fun _ => 0))), (q13, .inl (ka 0, 3, .inl (fun _ => 0))), (q14, .inl (ka 0, 3, .inl (fun _ => 0)))]) H locs := hB
  refine lv_aload_n hx hb dX8_init_111 rfl (lv_at hl 0 rfl) ?_
  refine lv_iconst (v := 4) hx hb dX8_init_112 (by decide) ?_
  refine znewi 4 hF hB (by decide) (by decide) (Nat.le_of_ble_eq_true rfl) (Nat.le_of_ble_eq_true rfl) (Nat.le_of_ble_eq_true rfl) dX8_init_113 ?_
  clear hB
  try clear locs
  try clear H
  intro q15 H locs hB
  replace hB : zB D A s ([(b, .inr (8, [.int (0 : Int32), .ref q1, .ref q2, .ref q3, .ref q4, .int (0 : Int32), .ref q5, .ref q6, .ref q7, .int (0 : Int32), .ref q8, .ref q9, .int (0 : Int32), .int (0 : Int32), .ref q10, .ref q11, .ref q12, .int (0 : Int32), .ref q13, .ref q14, .null, .null, .null, .null, .int (0 : Int32), .long (0 : Int64), .long (0 : Int64)])), (q1, .inl (ka 0, 4, .inl (fun _ => 0))), (q2, .inl (ka 1, 160, .inr (.inl (fun _ => 0)))), (q3, .inl (ka 1, 40, .inr (.inl (fun _ => 0)))), (q4, .inl (ka 1, 200, .inr (.inl (fun _ => 0)))), (q5, .inl (ka 0, 8, .inl (fun _ => 0))), (q6, .inl (ka 0, 8, .inl (fun _ => 0))), (q7, .inl (ka 0, 8, .inl (fun _ => 0))), (q8, .inl (ka 0, 24, .inl (fun _ => 0))), (q9, .inl (ka 0, 2, .inl (fun _ => 0))), (q10, .inl (ka 1, 4, .inr (.inl (fun _ => 0)))), (q11, .inl (ka 0, 4, .inl (fun _ => 0))), (q12, .inl (ka 0, 4, .inl (fun _ => 0))), (q13, .inl (ka 0, 3, .inl (fun _ => 0))), (q14, .inl (ka 0, 3, .inl (fun _ => 0))), (q15, .inl (ka 0, 4, .inl (fun _ => 0)))]) H locs := hB
  refine W.widen (k := 15) (n := 476) (Nat.le_of_ble_eq_true rfl) (Nat.le_of_ble_eq_true rfl) ?_
  refine zput_F zo_X8_53 hin hF hB 0 rfl rfl rfl (Nat.le_of_ble_eq_true rfl) dX8_init_115 ?_
  clear hB
  try clear locs
  try clear H
  intro H locs hB
  replace hB : zB D A s ([(b, .inr (8, [.int (0 : Int32), .ref q1, .ref q2, .ref q3, .ref q4, .int (0 : Int32), .ref q5, .ref q6, .ref q7, .int (0 : Int32), .ref q8, .ref q9, .int (0 : Int32), .int (0 : Int32), .ref q10, .ref q11, .ref q12, .int (0 : Int32), .ref q13, .ref q14, .ref q15, .null, .null, .null, .int (0 : Int32), .long (0 : Int64), .long (0 : Int64)])), (q1, .inl (ka 0, 4, .inl (fun _ => 0))), (q2, .inl (ka 1, 160, .inr (.inl (fun _ => 0)))), (q3, .inl (ka 1, 40, .inr (.inl (fun _ => 0)))), (q4, .inl (ka 1, 200, .inr (.inl (fun _ => 0)))), (q5, .inl (ka 0, 8, .inl (fun _ => 0))), (q6, .inl (ka 0, 8, .inl (fun _ => 0))), (q7, .inl (ka 0, 8, .inl (fun _ => 0))), (q8, .inl (ka 0, 24, .inl (fun _ => 0))), (q9, .inl (ka 0, 2, .inl (fun _ => 0))), (q10, .inl (ka 1, 4, .inr (.inl (fun _ => 0)))), (q11, .inl (ka 0, 4, .inl (fun _ => 0))), (q12, .inl (ka 0, 4, .inl (fun _ => 0))), (q13, .inl (ka 0, 3, .inl (fun _ => 0))), (q14, .inl (ka 0, 3, .inl (fun _ => 0))), (q15, .inl (ka 0, 4, .inl (fun _ => 0)))]) H locs := hB
  refine lv_aload_n hx hb dX8_init_118 rfl (lv_at hl 0 rfl) ?_
  refine lv_iconst (v := 4) hx hb dX8_init_119 (by decide) ?_
  refine znewi 4 hF hB (by decide) (by decide) (Nat.le_of_ble_eq_true rfl) (Nat.le_of_ble_eq_true rfl) (Nat.le_of_ble_eq_true rfl) dX8_init_120 ?_
  clear hB
  try clear locs
  try clear H
  intro q16 H locs hB
  replace hB : zB D A s ([(b, .inr (8, [.int (0 : Int32), .ref q1, .ref q2, .ref q3, .ref q4, .int (0 : Int32), .ref q5, .ref q6, .ref q7, .int (0 : Int32), .ref q8, .ref q9, .int (0 : Int32), .int (0 : Int32), .ref q10, .ref q11, .ref q12, .int (0 : Int32), .ref q13, .ref q14, .ref q15, .null, .null, .null, .int (0 : Int32), .long (0 : Int64), .long (0 : Int64)])), (q1, .inl (ka 0, 4, .inl (fun _ => 0))), (q2, .inl (ka 1, 160, .inr (.inl (fun _ => 0)))), (q3, .inl (ka 1, 40, .inr (.inl (fun _ => 0)))), (q4, .inl (ka 1, 200, .inr (.inl (fun _ => 0)))), (q5, .inl (ka 0, 8, .inl (fun _ => 0))), (q6, .inl (ka 0, 8, .inl (fun _ => 0))), (q7, .inl (ka 0, 8, .inl (fun _ => 0))), (q8, .inl (ka 0, 24, .inl (fun _ => 0))), (q9, .inl (ka 0, 2, .inl (fun _ => 0))), (q10, .inl (ka 1, 4, .inr (.inl (fun _ => 0)))), (q11, .inl (ka 0, 4, .inl (fun _ => 0))), (q12, .inl (ka 0, 4, .inl (fun _ => 0))), (q13, .inl (ka 0, 3, .inl (fun _ => 0))), (q14, .inl (ka 0, 3, .inl (fun _ => 0))), (q15, .inl (ka 0, 4, .inl (fun _ => 0))), (q16, .inl (ka 0, 4, .inl (fun _ => 0)))]) H locs := hB
  refine W.widen (k := 16) (n := 480) (Nat.le_of_ble_eq_true rfl) (Nat.le_of_ble_eq_true rfl) ?_
  refine zput_F zo_X8_56 hin hF hB 0 rfl rfl rfl (Nat.le_of_ble_eq_true rfl) dX8_init_122 ?_
  clear hB
  try clear locs
  try clear H
  intro H locs hB
  replace hB : zB D A s ([(b, .inr (8, [.int (0 : Int32), .ref q1, .ref q2, .ref q3, .ref q4, .int (0 : Int32), .ref q5, .ref q6, .ref q7, .int (0 : Int32), .ref q8, .ref q9, .int (0 : Int32), .int (0 : Int32), .ref q10, .ref q11, .ref q12, .int (0 : Int32), .ref q13, .ref q14, .ref q15, .ref q16, .null, .null, .int (0 : Int32), .long (0 : Int64), .long (0 : Int64)])), (q1, .inl (ka 0, 4, .inl (fun _ => 0))), (q2, .inl (ka 1, 160, .inr (.inl (fun _ => 0)))), (q3, .inl (ka 1, 40, .inr (.inl (fun _ => 0)))), (q4, .inl (ka 1, 200, .inr (.inl (fun _ => 0)))), (q5, .inl (ka 0, 8, .inl (fun _ => 0))), (q6, .inl (ka 0, 8, .inl (fun _ => 0))), (q7, .inl (ka 0, 8, .inl (fun _ => 0))), (q8, .inl (ka 0, 24, .inl (fun _ => 0))), (q9, .inl (ka 0, 2, .inl (fun _ => 0))), (q10, .inl (ka 1, 4, .inr (.inl (fun _ => 0)))), (q11, .inl (ka 0, 4, .inl (fun _ => 0))), (q12, .inl (ka 0, 4, .inl (fun _ => 0))), (q13, .inl (ka 0, 3, .inl (fun _ => 0))), (q14, .inl (ka 0, 3, .inl (fun _ => 0))), (q15, .inl (ka 0, 4, .inl (fun _ => 0))), (q16, .inl (ka 0, 4, .inl (fun _ => 0)))]) H locs := hB
  refine lv_aload_n hx hb dX8_init_125 rfl (lv_at hl 0 rfl) ?_
  refine lv_iconst (v := 4) hx hb dX8_init_126 (by decide) ?_
  refine znewi 4 hF hB (by decide) (by decide) (Nat.le_of_ble_eq_true rfl) (Nat.le_of_ble_eq_true rfl) (Nat.le_of_ble_eq_true rfl) dX8_init_127 ?_
  clear hB
  try clear locs
  try clear H
  intro q17 H locs hB
  replace hB : zB D A s ([(b, .inr (8, [.int (0 : Int32), .ref q1, .ref q2, .ref q3, .ref q4, .int (0 : Int32), .ref q5, .ref q6, .ref q7, .int (0 : Int32), .ref q8, .ref q9, .int (0 : Int32), .int (0 : Int32), .ref q10, .ref q11, .ref q12, .int (0 : Int32), .ref q13, .ref q14, .ref q15, .ref q16, .null, .null, .int (0 : Int32), .long (0 : Int64), .long (0 : Int64)])), (q1, .inl (ka 0, 4, .inl (fun _ => 0))), (q2, .inl (ka 1, 160, .inr (.inl (fun _ => 0)))), (q3, .inl (ka 1, 40, .inr (.inl (fun _ => 0)))), (q4, .inl (ka 1, 200, .inr (.inl (fun _ => 0)))), (q5, .inl (ka 0, 8, .inl (fun _ => 0))), (q6, .inl (ka 0, 8, .inl (fun _ => 0))), (q7, .inl (ka 0, 8, .inl (fun _ => 0))), (q8, .inl (ka 0, 24, .inl (fun _ => 0))), (q9, .inl (ka 0, 2, .inl (fun _ => 0))), (q10, .inl (ka 1, 4, .inr (.inl (fun _ => 0)))), (q11, .inl (ka 0, 4, .inl (fun _ => 0))), (q12, .inl (ka 0, 4, .inl (fun _ => 0))), (q13, .inl (ka 0, 3, .inl (fun _ => 0))), (q14, .inl (ka 0, 3, .inl (fun _ => 0))), (q15, .inl (ka 0, 4, .inl (fun _ => 0))), (q16, .inl (ka 0, 4, .inl (fun _ => 0))), (q17, .inl (ka 0, 4, .inl (fun _ => 0)))]) H locs := hB
  refine W.widen (k := 17) (n := 484) (Nat.le_of_ble_eq_true rfl) (Nat.le_of_ble_eq_true rfl) ?_
  refine zput_F zo_X8_59 hin hF hB 0 rfl rfl rfl (Nat.le_of_ble_eq_true rfl) dX8_init_129 ?_
  clear hB
  try clear locs
  try clear H
  intro H locs hB
  replace hB : zB D A s ([(b, .inr (8, [.int (0 : Int32), .ref q1, .ref q2, .ref q3, .ref q4, .int (0 : Int32), .ref q5, .ref q6, .ref q7, .int (0 : Int32), .ref q8, .ref q9, .int (0 : Int32), .int (0 : Int32), .ref q10, .ref q11, .ref q12, .int (0 : Int32), .ref q13, .ref q14, .ref q15, .ref q16, .ref q17, .null, .int (0 : Int32), .long (0 : Int64), .long (0 : Int64)])), (q1, .inl (ka 0, 4, .inl (fun _ => 0))), (q2, .inl (ka 1, 160, .inr (.inl (fun _ => 0)))), (q3, .inl (ka 1, 40, .inr (.inl (fun _ => 0)))), (q4, .inl (ka 1, 200, .inr (.inl (fun _ => 0)))), (q5, .inl (ka 0, 8, .inl (fun _ => 0))), (q6, .inl (ka 0, 8, .inl (fun _ => 0))), (q7, .inl (ka 0, 8, .inl (fun _ => 0))), (q8, .inl (ka 0, 24, .inl (fun _ => 0))), (q9, .inl (ka 0, 2, .inl (fun _ => 0))), (q10, .inl (ka 1, 4, .inr (.inl (fun _ => 0)))), (q11, .inl (ka 0, 4, .inl (fun _ => 0))), (q12, .inl (ka 0, 4, .inl (fun _ => 0))), (q13, .inl (ka 0, 3, .inl (fun _ => 0))), (q14, .inl (ka 0, 3, .inl (fun _ => 0))), (q15, .inl (ka 0, 4, .inl (fun _ => 0))), (q16, .inl (ka 0, 4, .inl (fun _ => 0))), (q17, .inl (ka 0, 4, .inl (fun _ => 0)))]) H locs := hB
  refine lv_aload_n hx hb dX8_init_132 rfl (lv_at hl 0 rfl) ?_
  refine lv_iconst (v := 4) hx hb dX8_init_133 (by decide) ?_
  refine znewi 4 hF hB (by decide) (by decide) (Nat.le_of_ble_eq_true rfl) (Nat.le_of_ble_eq_true rfl) (Nat.le_of_ble_eq_true rfl) dX8_init_134 ?_
  clear hB
  try clear locs
  try clear H
  intro q18 H locs hB
  replace hB : zB D A s ([(b, .inr (8, [.int (0 : Int32), .ref q1, .ref q2, .ref q3, .ref q4, .int (0 : Int32), .ref q5, .ref q6, .ref q7, .int (0 : Int32), .ref q8, .ref q9, .int (0 : Int32), .int (0 : Int32), .ref q10, .ref q11, .ref q12, .int (0 : Int32), .ref q13, .ref q14, .ref q15, .ref q16, .ref q17, .null, .int (0 : Int32), .long (0 : Int64), .long (0 : Int64)])), (q1, .inl (ka 0, 4, .inl (fun _ => 0))), (q2, .inl (ka 1, 160, .inr (.inl (fun _ => 0)))), (q3, .inl (ka 1, 40, .inr (.inl (fun _ => 0)))), (q4, .inl (ka 1, 200, .inr (.inl (fun _ => 0)))), (q5, .inl (ka 0, 8, .inl (fun _ => 0))), (q6, .inl (ka 0, 8, .inl (fun _ => 0))), (q7, .inl (ka 0, 8, .inl (fun _ => 0))), (q8, .inl (ka 0, 24, .inl (fun _ => 0))), (q9, .inl (ka 0, 2, .inl (fun _ => 0))), (q10, .inl (ka 1, 4, .inr (.inl (fun _ => 0)))), (q11, .inl (ka 0, 4, .inl (fun _ => 0))), (q12, .inl (ka 0, 4, .inl (fun _ => 0))), (q13, .inl (ka 0, 3, .inl (fun _ => 0))), (q14, .inl (ka 0, 3, .inl (fun _ => 0))), (q15, .inl (ka 0, 4, .inl (fun _ => 0))), (q16, .inl (ka 0, 4, .inl (fun _ => 0))), (q17, .inl (ka 0, 4, .inl (fun _ => 0))), (q18, .inl (ka 0, 4, .inl (fun _ => 0)))]) H locs := hB
  refine W.widen (k := 18) (n := 488) (Nat.le_of_ble_eq_true rfl) (Nat.le_of_ble_eq_true rfl) ?_
  refine zput_F zo_X8_62 hin hF hB 0 rfl rfl rfl (Nat.le_of_ble_eq_true rfl) dX8_init_136 ?_
  clear hB
  try clear locs
  try clear H
  intro H locs hB
  replace hB : zB D A s ([(b, .inr (8, [.int (0 : Int32), .ref q1, .ref q2, .ref q3, .ref q4, .int (0 : Int32), .ref q5, .ref q6, .ref q7, .int (0 : Int32), .ref q8, .ref q9, .int (0 : Int32), .int (0 : Int32), .ref q10, .ref q11, .ref q12, .int (0 : Int32), .ref q13, .ref q14, .ref q15, .ref q16, .ref q17, .ref q18, .int (0 : Int32), .long (0 : Int64), .long (0 : Int64)])), (q1, .inl (ka 0, 4, .inl (fun _ => 0))), (q2, .inl (ka 1, 160, .inr (.inl (fun _ => 0)))), (q3, .inl (ka 1, 40, .inr (.inl (fun _ => 0)))), (q4, .inl (ka 1, 200, .inr (.inl (fun _ => 0)))), (q5, .inl (ka 0, 8, .inl (fun _ => 0))), (q6, .inl (ka 0, 8, .inl (fun _ => 0))), (q7, .inl (ka 0, 8, .inl (fun _ => 0))), (q8, .inl (ka 0, 24, .inl (fun _ => 0))), (q9, .inl (ka 0, 2, .inl (fun _ => 0))), (q10, .inl (ka 1, 4, .inr (.inl (fun _ => 0)))), (q11, .inl (ka 0, 4, .inl (fun _ => 0))), (q12, .inl (ka 0, 4, .inl (fun _ => 0))), (q13, .inl (ka 0, 3, .inl (fun _ => 0))), (q14, .inl (ka 0, 3, .inl (fun _ => 0))), (q15, .inl (ka 0, 4, .inl (fun _ => 0))), (q16, .inl (ka 0, 4, .inl (fun _ => 0))), (q17, .inl (ka 0, 4, .inl (fun _ => 0))), (q18, .inl (ka 0, 4, .inl (fun _ => 0)))]) H locs := hB
  refine lv_iconst (v := 0) hx hb dX8_init_139 (by decide) ?_
  refine lv_istore_n (lv' := [(1, .int (0 : Int32)), (0, .ref b)]) hx hb dX8_init_140 rfl hl (by decide) rfl ?_
  clear hl
  clear ls
  intro ls hl
  have lp141 : ∀ (fl : Nat) (i : Nat), (hi : i ≤ 40) → 40 - i < fl → ∀ (H : Heap) (locs : List Loc), zB D A s ([(b, .inr (8, [.int (0 : Int32), .ref q1, .ref q2, .ref q3, .ref q4, .int (0 : Int32), .ref q5, .ref q6, .ref q7, .int (0 : Int32), .ref q8, .ref q9, .int (0 : Int32), .int (0 : Int32), .ref q10, .ref q11, .ref q12, .int (0 : Int32), .ref q13, .ref q14, .ref q15, .ref q16, .ref q17, .ref q18, .int (0 : Int32), .long (0 : Int64), .long (0 : Int64)])), (q1, .inl (ka 0, 4, .inl (fun _ => 0))), (q2, .inl (ka 1, 160, .inr (.inl (fun _ => 0)))), (q3, .inl (ka 1, 40, .inr (.inl (fun _ => 0)))), (q4, .inl (ka 1, 200, .inr (.inl (nuZ i)))), (q5, .inl (ka 0, 8, .inl (fun _ => 0))), (q6, .inl (ka 0, 8, .inl (fun _ => 0))), (q7, .inl (ka 0, 8, .inl (fun _ => 0))), (q8, .inl (ka 0, 24, .inl (fun _ => 0))), (q9, .inl (ka 0, 2, .inl (fun _ => 0))), (q10, .inl (ka 1, 4, .inr (.inl (fun _ => 0)))), (q11, .inl (ka 0, 4, .inl (fun _ => 0))), (q12, .inl (ka 0, 4, .inl (fun _ => 0))), (q13, .inl (ka 0, 3, .inl (fun _ => 0))), (q14, .inl (ka 0, 3, .inl (fun _ => 0))), (q15, .inl (ka 0, 4, .inl (fun _ => 0))), (q16, .inl (ka 0, 4, .inl (fun _ => 0))), (q17, .inl (ka 0, 4, .inl (fun _ => 0))), (q18, .inl (ka 0, 4, .inl (fun _ => 0)))]) H locs → ∀ ls : Array Slot, lv_has ls 2 [(1, .int (nI i)), (0, .ref b)] → W p l e (zRm 1 20 18 488) s m args below meth c H locs 18 488 Q (F0 m 141 ls []) := by
    intro fl
    induction fl with
    | zero => intro i hi hfl; exact absurd hfl (Nat.not_lt_zero _)
    | succ fl ih141 =>
      intro i hi hfl141 H locs hB ls hl
      refine lv_iload_n hx hb dX8_init_141 rfl (lv_at hl 0 rfl) ?_
      refine lv_bipush (v := 40) hx hb dX8_init_142 (by decide) ?_
      refine lv_icmp_ge (tgt := 164) hx hb dX8_init_144 (by decide) (fun h144 => ?_) (fun h144 => ?_)
      · skip
        have hi2 : i = 40 := by have := (nI_leI (a := 40) (b := i) (by decide) (by omega)).mp h144; omega
        subst hi2
        refine lv_iconst (v := 0) hx hb dX8_init_164 (by decide) ?_
        refine lv_istore_n (lv' := [(1, .int (0 : Int32)), (0, .ref b)]) hx hb dX8_init_165 rfl hl (by decide) rfl ?_
        clear hl
        clear ls
        intro ls hl
        refine lv_iload_n hx hb dX8_init_166 rfl (lv_at hl 0 rfl) ?_
        refine lv_iconst (v := 4) hx hb dX8_init_167 (by decide) ?_
        refine lv_icmp_ge (tgt := 204) hx hb dX8_init_168 (by decide) (fun h168 => ?_) (fun h168 => ?_)
        · skip
          exact absurd h168 (by decide)
        · skip
          refine lv_aload_n hx hb dX8_init_171 rfl (lv_at hl 1 rfl) ?_
          refine zget zf_X8_7 hF hB 0 rfl rfl dX8_init_172 ?_
          refine lv_iload_n hx hb dX8_init_175 rfl (lv_at hl 0 rfl) ?_
          refine lv_iconst (v := -1) hx hb dX8_init_176 (by decide) ?_
          refine ziast hF hB 1 rfl 0 (by decide) (by decide) (by decide) dX8_init_177 ?_
          clear hB
          try clear locs
          try clear H
          intro H locs hB
          replace hB : zB D A s ([(b, .inr (8, [.int (0 : Int32), .ref q1, .ref q2, .ref q3, .ref q4, .int (0 : Int32), .ref q5, .ref q6, .ref q7, .int (0 : Int32), .ref q8, .ref q9, .int (0 : Int32), .int (0 : Int32), .ref q10, .ref q11, .ref q12, .int (0 : Int32), .ref q13, .ref q14, .ref q15, .ref q16, .ref q17, .ref q18, .int (0 : Int32), .long (0 : Int64), .long (0 : Int64)])), (q1, .inl (ka 0, 4, .inl (upd (fun _ => 0) 0 (-1 : Int32)))), (q2, .inl (ka 1, 160, .inr (.inl (fun _ => 0)))), (q3, .inl (ka 1, 40, .inr (.inl (fun _ => 0)))), (q4, .inl (ka 1, 200, .inr (.inl (nuZ 40)))), (q5, .inl (ka 0, 8, .inl (fun _ => 0))), (q6, .inl (ka 0, 8, .inl (fun _ => 0))), (q7, .inl (ka 0, 8, .inl (fun _ => 0))), (q8, .inl (ka 0, 24, .inl (fun _ => 0))), (q9, .inl (ka 0, 2, .inl (fun _ => 0))), (q10, .inl (ka 1, 4, .inr (.inl (fun _ => 0)))), (q11, .inl (ka 0, 4, .inl (fun _ => 0))), (q12, .inl (ka 0, 4, .inl (fun _ => 0))), (q13, .inl (ka 0, 3, .inl (fun _ => 0))), (q14, .inl (ka 0, 3, .inl (fun _ => 0))), (q15, .inl (ka 0, 4, .inl (fun _ => 0))), (q16, .inl (ka 0, 4, .inl (fun _ => 0))), (q17, .inl (ka 0, 4, .inl (fun _ => 0))), (q18, .inl (ka 0, 4, .inl (fun _ => 0)))]) H locs := hB
          refine lv_aload_n hx hb dX8_init_178 rfl (lv_at hl 1 rfl) ?_
          refine zget zf_X8_41 hF hB 0 rfl rfl dX8_init_179 ?_
          refine lv_iload_n hx hb dX8_init_182 rfl (lv_at hl 0 rfl) ?_
          refine lv_iload_n hx hb dX8_init_183 rfl (lv_at hl 0 rfl) ?_
          refine lv_if_eq (tgt := 192) hx hb dX8_init_184 (by decide) (fun h184 => ?_) (fun h184 => ?_)
          · skip
            refine lv_iconst (v := 2) hx hb dX8_init_192 (by decide) ?_
            refine lv_goto (tgt := 197) hx hb dX8_init_193 (by decide) ?_
            refine ziast hF hB 11 rfl 0 (by decide) (by decide) (by decide) dX8_init_197 ?_
            clear hB
            try clear locs
            try clear H
            intro H locs hB
            replace hB : zB D A s ([(b, .inr (8, [.int (0 : Int32), .ref q1, .ref q2, .ref q3, .ref q4, .int (0 : Int32), .ref q5, .ref q6, .ref q7, .int (0 : Int32), .ref q8, .ref q9, .int (0 : Int32), .int (0 : Int32), .ref q10, .ref q11, .ref q12, .int (0 : Int32), .ref q13, .ref q14, .ref q15, .ref q16, .ref q17, .ref q18, .int (0 : Int32), .long (0 : Int64), .long (0 : Int64)])), (q1, .inl (ka 0, 4, .inl (upd (fun _ => 0) 0 (-1 : Int32)))), (q2, .inl (ka 1, 160, .inr (.inl (fun _ => 0)))), (q3, .inl (ka 1, 40, .inr (.inl (fun _ => 0)))), (q4, .inl (ka 1, 200, .inr (.inl (nuZ 40)))), (q5, .inl (ka 0, 8, .inl (fun _ => 0))), (q6, .inl (ka 0, 8, .inl (fun _ => 0))), (q7, .inl (ka 0, 8, .inl (fun _ => 0))), (q8, .inl (ka 0, 24, .inl (fun _ => 0))), (q9, .inl (ka 0, 2, .inl (fun _ => 0))), (q10, .inl (ka 1, 4, .inr (.inl (fun _ => 0)))), (q11, .inl (ka 0, 4, .inl (upd (fun _ => 0) 0 (2 : Int32)))), (q12, .inl (ka 0, 4, .inl (fun _ => 0))), (q13, .inl (ka 0, 3, .inl (fun _ => 0))), (q14, .inl (ka 0, 3, .inl (fun _ => 0))), (q15, .inl (ka 0, 4, .inl (fun _ => 0))), (q16, .inl (ka 0, 4, .inl (fun _ => 0))), (q17, .inl (ka 0, 4, .inl (fun _ => 0))), (q18, .inl (ka 0, 4, .inl (fun _ => 0)))]) H locs := hB
            refine lv_iinc (v := (1 : Int32)) (lv' := [(1, .int (1 : Int32)), (0, .ref b)]) hx hb dX8_init_198 hl (k := 0) rfl (by decide) (by decide) rfl ?_
            clear hl
            clear ls
            intro ls hl
            refine lv_goto (tgt := 166) hx hb dX8_init_201 (by decide) ?_
            refine lv_iload_n hx hb dX8_init_166 rfl (lv_at hl 0 rfl) ?_
            refine lv_iconst (v := 4) hx hb dX8_init_167 (by decide) ?_
            refine lv_icmp_ge (tgt := 204) hx hb dX8_init_168 (by decide) (fun h168 => ?_) (fun h168 => ?_)
            · skip
              exact absurd h168 (by decide)
            · skip
              refine lv_aload_n hx hb dX8_init_171 rfl (lv_at hl 1 rfl) ?_
              refine zget zf_X8_7 hF hB 0 rfl rfl dX8_init_172 ?_
              refine lv_iload_n hx hb dX8_init_175 rfl (lv_at hl 0 rfl) ?_
              refine lv_iconst (v := -1) hx hb dX8_init_176 (by decide) ?_
              refine ziast hF hB 1 rfl 1 (by decide) (by decide) (by decide) dX8_init_177 ?_
              clear hB
              try clear locs
              try clear H
              intro H locs hB
              replace hB : zB D A s ([(b, .inr (8, [.int (0 : Int32), .ref q1, .ref q2, .ref q3, .ref q4, .int (0 : Int32), .ref q5, .ref q6, .ref q7, .int (0 : Int32), .ref q8, .ref q9, .int (0 : Int32), .int (0 : Int32), .ref q10, .ref q11, .ref q12, .int (0 : Int32), .ref q13, .ref q14, .ref q15, .ref q16, .ref q17, .ref q18, .int (0 : Int32), .long (0 : Int64), .long (0 : Int64)])), (q1, .inl (ka 0, 4, .inl (upd (upd (fun _ => 0) 0 (-1 : Int32)) 1 (-1 : Int32)))), (q2, .inl (ka 1, 160, .inr (.inl (fun _ => 0)))), (q3, .inl (ka 1, 40, .inr (.inl (fun _ => 0)))), (q4, .inl (ka 1, 200, .inr (.inl (nuZ 40)))), (q5, .inl (ka 0, 8, .inl (fun _ => 0))), (q6, .inl (ka 0, 8, .inl (fun _ => 0))), (q7, .inl (ka 0, 8, .inl (fun _ => 0))), (q8, .inl (ka 0, 24, .inl (fun _ => 0))), (q9, .inl (ka 0, 2, .inl (fun _ => 0))), (q10, .inl (ka 1, 4, .inr (.inl (fun _ => 0)))), (q11, .inl (ka 0, 4, .inl (upd (fun _ => 0) 0 (2 : Int32)))), (q12, .inl (ka 0, 4, .inl (fun _ => 0))), (q13, .inl (ka 0, 3, .inl (fun _ => 0))), (q14, .inl (ka 0, 3, .inl (fun _ => 0))), (q15, .inl (ka 0, 4, .inl (fun _ => 0))), (q16, .inl (ka 0, 4, .inl (fun _ => 0))), (q17, .inl (ka 0, 4, .inl (fun _ => 0))), (q18, .inl (ka 0, 4, .inl (fun _ => 0)))]) H locs := hB
              refine lv_aload_n hx hb dX8_init_178 rfl (lv_at hl 1 rfl) ?_
              refine zget zf_X8_41 hF hB 0 rfl rfl dX8_init_179 ?_
              refine lv_iload_n hx hb dX8_init_182 rfl (lv_at hl 0 rfl) ?_
              refine lv_iload_n hx hb dX8_init_183 rfl (lv_at hl 0 rfl) ?_
              refine lv_if_eq (tgt := 192) hx hb dX8_init_184 (by decide) (fun h184 => ?_) (fun h184 => ?_)
              · skip
                exact absurd h184 (by decide)
              · skip
                refine lv_iload_n hx hb dX8_init_187 rfl (lv_at hl 0 rfl) ?_
                refine lv_iconst (v := 3) hx hb dX8_init_188 (by decide) ?_
                refine lv_icmp_ne (tgt := 196) hx hb dX8_init_189 (by decide) (fun h189 => ?_) (fun h189 => ?_)
                · skip
                  refine lv_iconst (v := 1) hx hb dX8_init_196 (by decide) ?_
                  refine ziast hF hB 11 rfl 1 (by decide) (by decide) (by decide) dX8_init_197 ?_
                  clear hB
                  try clear locs
                  try clear H
                  intro H locs hB
                  replace hB : zB D A s ([(b, .inr (8, [.int (0 : Int32), .ref q1, .ref q2, .ref q3, .ref q4, .int (0 : Int32), .ref q5, .ref q6, .ref q7, .int (0 : Int32), .ref q8, .ref q9, .int (0 : Int32), .int (0 : Int32), .ref q10, .ref q11, .ref q12, .int (0 : Int32), .ref q13, .ref q14, .ref q15, .ref q16, .ref q17, .ref q18, .int (0 : Int32), .long (0 : Int64), .long (0 : Int64)])), (q1, .inl (ka 0, 4, .inl (upd (upd (fun _ => 0) 0 (-1 : Int32)) 1 (-1 : Int32)))), (q2, .inl (ka 1, 160, .inr (.inl (fun _ => 0)))), (q3, .inl (ka 1, 40, .inr (.inl (fun _ => 0)))), (q4, .inl (ka 1, 200, .inr (.inl (nuZ 40)))), (q5, .inl (ka 0, 8, .inl (fun _ => 0))), (q6, .inl (ka 0, 8, .inl (fun _ => 0))), (q7, .inl (ka 0, 8, .inl (fun _ => 0))), (q8, .inl (ka 0, 24, .inl (fun _ => 0))), (q9, .inl (ka 0, 2, .inl (fun _ => 0))), (q10, .inl (ka 1, 4, .inr (.inl (fun _ => 0)))), (q11, .inl (ka 0, 4, .inl (upd (upd (fun _ => 0) 0 (2 : Int32)) 1 (1 : Int32)))), (q12, .inl (ka 0, 4, .inl (fun _ => 0))), (q13, .inl (ka 0, 3, .inl (fun _ => 0))), (q14, .inl (ka 0, 3, .inl (fun _ => 0))), (q15, .inl (ka 0, 4, .inl (fun _ => 0))), (q16, .inl (ka 0, 4, .inl (fun _ => 0))), (q17, .inl (ka 0, 4, .inl (fun _ => 0))), (q18, .inl (ka 0, 4, .inl (fun _ => 0)))]) H locs := hB
                  refine lv_iinc (v := (2 : Int32)) (lv' := [(1, .int (2 : Int32)), (0, .ref b)]) hx hb dX8_init_198 hl (k := 0) rfl (by decide) (by decide) rfl ?_
                  clear hl
                  clear ls
                  intro ls hl
                  refine lv_goto (tgt := 166) hx hb dX8_init_201 (by decide) ?_
                  refine lv_iload_n hx hb dX8_init_166 rfl (lv_at hl 0 rfl) ?_
                  refine lv_iconst (v := 4) hx hb dX8_init_167 (by decide) ?_
                  refine lv_icmp_ge (tgt := 204) hx hb dX8_init_168 (by decide) (fun h168 => ?_) (fun h168 => ?_)
                  · skip
                    exact absurd h168 (by decide)
                  · skip
                    refine lv_aload_n hx hb dX8_init_171 rfl (lv_at hl 1 rfl) ?_
                    refine zget zf_X8_7 hF hB 0 rfl rfl dX8_init_172 ?_
                    refine lv_iload_n hx hb dX8_init_175 rfl (lv_at hl 0 rfl) ?_
                    refine lv_iconst (v := -1) hx hb dX8_init_176 (by decide) ?_
                    refine ziast hF hB 1 rfl 2 (by decide) (by decide) (by decide) dX8_init_177 ?_
                    clear hB
                    try clear locs
                    try clear H
                    intro H locs hB
                    replace hB : zB D A s ([(b, .inr (8, [.int (0 : Int32), .ref q1, .ref q2, .ref q3, .ref q4, .int (0 : Int32), .ref q5, .ref q6, .ref q7, .int (0 : Int32), .ref q8, .ref q9, .int (0 : Int32), .int (0 : Int32), .ref q10, .ref q11, .ref q12, .int (0 : Int32), .ref q13, .ref q14, .ref q15, .ref q16, .ref q17, .ref q18, .int (0 : Int32), .long (0 : Int64), .long (0 : Int64)])), (q1, .inl (ka 0, 4, .inl (upd (upd (upd (fun _ => 0) 0 (-1 : Int32)) 1 (-1 : Int32)) 2 (-1 : Int32)))), (q2, .inl (ka 1, 160, .inr (.inl (fun _ => 0)))), (q3, .inl (ka 1, 40, .inr (.inl (fun _ => 0)))), (q4, .inl (ka 1, 200, .inr (.inl (nuZ 40)))), (q5, .inl (ka 0, 8, .inl (fun _ => 0))), (q6, .inl (ka 0, 8, .inl (fun _ => 0))), (q7, .inl (ka 0, 8, .inl (fun _ => 0))), (q8, .inl (ka 0, 24, .inl (fun _ => 0))), (q9, .inl (ka 0, 2, .inl (fun _ => 0))), (q10, .inl (ka 1, 4, .inr (.inl (fun _ => 0)))), (q11, .inl (ka 0, 4, .inl (upd (upd (fun _ => 0) 0 (2 : Int32)) 1 (1 : Int32)))), (q12, .inl (ka 0, 4, .inl (fun _ => 0))), (q13, .inl (ka 0, 3, .inl (fun _ => 0))), (q14, .inl (ka 0, 3, .inl (fun _ => 0))), (q15, .inl (ka 0, 4, .inl (fun _ => 0))), (q16, .inl (ka 0, 4, .inl (fun _ => 0))), (q17, .inl (ka 0, 4, .inl (fun _ => 0))), (q18, .inl (ka 0, 4, .inl (fun _ => 0)))]) H locs := hB
                    refine lv_aload_n hx hb dX8_init_178 rfl (lv_at hl 1 rfl) ?_
                    refine zget zf_X8_41 hF hB 0 rfl rfl dX8_init_179 ?_
                    refine lv_iload_n hx hb dX8_init_182 rfl (lv_at hl 0 rfl) ?_
                    refine lv_iload_n hx hb dX8_init_183 rfl (lv_at hl 0 rfl) ?_
                    refine lv_if_eq (tgt := 192) hx hb dX8_init_184 (by decide) (fun h184 => ?_) (fun h184 => ?_)
                    · skip
                      exact absurd h184 (by decide)
                    · skip
                      refine lv_iload_n hx hb dX8_init_187 rfl (lv_at hl 0 rfl) ?_
                      refine lv_iconst (v := 3) hx hb dX8_init_188 (by decide) ?_
                      refine lv_icmp_ne (tgt := 196) hx hb dX8_init_189 (by decide) (fun h189 => ?_) (fun h189 => ?_)
                      · skip
                        refine lv_iconst (v := 1) hx hb dX8_init_196 (by decide) ?_
                        refine ziast hF hB 11 rfl 2 (by decide) (by decide) (by decide) dX8_init_197 ?_
                        clear hB
                        try clear locs
                        try clear H
                        intro H locs hB
                        replace hB : zB D A s ([(b, .inr (8, [.int (0 : Int32), .ref q1, .ref q2, .ref q3, .ref q4, .int (0 : Int32), .ref q5, .ref q6, .ref q7, .int (0 : Int32), .ref q8, .ref q9, .int (0 : Int32), .int (0 : Int32), .ref q10, .ref q11, .ref q12, .int (0 : Int32), .ref q13, .ref q14, .ref q15, .ref q16, .ref q17, .ref q18, .int (0 : Int32), .long (0 : Int64), .long (0 : Int64)])), (q1, .inl (ka 0, 4, .inl (upd (upd (upd (fun _ => 0) 0 (-1 : Int32)) 1 (-1 : Int32)) 2 (-1 : Int32)))), (q2, .inl (ka 1, 160, .inr (.inl (fun _ => 0)))), (q3, .inl (ka 1, 40, .inr (.inl (fun _ => 0)))), (q4, .inl (ka 1, 200, .inr (.inl (nuZ 40)))), (q5, .inl (ka 0, 8, .inl (fun _ => 0))), (q6, .inl (ka 0, 8, .inl (fun _ => 0))), (q7, .inl (ka 0, 8, .inl (fun _ => 0))), (q8, .inl (ka 0, 24, .inl (fun _ => 0))), (q9, .inl (ka 0, 2, .inl (fun _ => 0))), (q10, .inl (ka 1, 4, .inr (.inl (fun _ => 0)))), (q11, .inl (ka 0, 4, .inl (upd (upd (upd (fun _ => 0) 0 (2 : Int32)) 1 (1 : Int32)) 2 (1 : Int32)))), (q12, .inl (ka 0, 4, .inl (fun _ => 0))), (q13, .inl (ka 0, 3, .inl (fun _ => 0))), (q14, .inl (ka 0, 3, .inl (fun _ => 0))), (q15, .inl (ka 0, 4, .inl (fun _ => 0))), (q16, .inl (ka 0, 4, .inl (fun _ => 0))), (q17, .inl (ka 0, 4, .inl (fun _ => 0))), (q18, .inl (ka 0, 4, .inl (fun _ => 0)))]) H locs := hB
                        refine lv_iinc (v := (3 : Int32)) (lv' := [(1, .int (3 : Int32)), (0, .ref b)]) hx hb dX8_init_198 hl (k := 0) rfl (by decide) (by decide) rfl ?_
                        clear hl
                        clear ls
                        intro ls hl
                        refine lv_goto (tgt := 166) hx hb dX8_init_201 (by decide) ?_
                        refine lv_iload_n hx hb dX8_init_166 rfl (lv_at hl 0 rfl) ?_
                        refine lv_iconst (v := 4) hx hb dX8_init_167 (by decide) ?_
                        refine lv_icmp_ge (tgt := 204) hx hb dX8_init_168 (by decide) (fun h168 => ?_) (fun h168 => ?_)
                        · skip
                          exact absurd h168 (by decide)
                        · skip
                          refine lv_aload_n hx hb dX8_init_171 rfl (lv_at hl 1 rfl) ?_
                          refine zget zf_X8_7 hF hB 0 rfl rfl dX8_init_172 ?_
                          refine lv_iload_n hx hb dX8_init_175 rfl (lv_at hl 0 rfl) ?_
                          refine lv_iconst (v := -1) hx hb dX8_init_176 (by decide) ?_
                          refine ziast hF hB 1 rfl 3 (by decide) (by decide) (by decide) dX8_init_177 ?_
                          clear hB
                          try clear locs
                          try clear H
                          intro H locs hB
                          replace hB : zB D A s ([(b, .inr (8, [.int (0 : Int32), .ref q1, .ref q2, .ref q3, .ref q4, .int (0 : Int32), .ref q5, .ref q6, .ref q7, .int (0 : Int32), .ref q8, .ref q9, .int (0 : Int32), .int (0 : Int32), .ref q10, .ref q11, .ref q12, .int (0 : Int32), .ref q13, .ref q14, .ref q15, .ref q16, .ref q17, .ref q18, .int (0 : Int32), .long (0 : Int64), .long (0 : Int64)])), (q1, .inl (ka 0, 4, .inl (upd (upd (upd (upd (fun _ => 0) 0 (-1 : Int32)) 1 (-1 : Int32)) 2 (-1 : Int32)) 3 (-1 : Int32)))), (q2, .inl (ka 1, 160, .inr (.inl (fun _ => 0)))), (q3, .inl (ka 1, 40, .inr (.inl (fun _ => 0)))), (q4, .inl (ka 1, 200, .inr (.inl (nuZ 40)))), (q5, .inl (ka 0, 8, .inl (fun _ => 0))), (q6, .inl (ka 0, 8, .inl (fun _ => 0))), (q7, .inl (ka 0, 8, .inl (fun _ => 0))), (q8, .inl (ka 0, 24, .inl (fun _ => 0))), (q9, .inl (ka 0, 2, .inl (fun _ => 0))), (q10, .inl (ka 1, 4, .inr (.inl (fun _ => 0)))), (q11, .inl (ka 0, 4, .inl (upd (upd (upd (fun _ => 0) 0 (2 : Int32)) 1 (1 : Int32)) 2 (1 : Int32)))), (q12, .inl (ka 0, 4, .inl (fun _ => 0))), (q13, .inl (ka 0, 3, .inl (fun _ => 0))), (q14, .inl (ka 0, 3, .inl (fun _ => 0))), (q15, .inl (ka 0, 4, .inl (fun _ => 0))), (q16, .inl (ka 0, 4, .inl (fun _ => 0))), (q17, .inl (ka 0, 4, .inl (fun _ => 0))), (q18, .inl (ka 0, 4, .inl (fun _ => 0)))]) H locs := hB
                          refine lv_aload_n hx hb dX8_init_178 rfl (lv_at hl 1 rfl) ?_
                          refine zget zf_X8_41 hF hB 0 rfl rfl dX8_init_179 ?_
                          refine lv_iload_n hx hb dX8_init_182 rfl (lv_at hl 0 rfl) ?_
                          refine lv_iload_n hx hb dX8_init_183 rfl (lv_at hl 0 rfl) ?_
                          refine lv_if_eq (tgt := 192) hx hb dX8_init_184 (by decide) (fun h184 => ?_) (fun h184 => ?_)
                          · skip
                            exact absurd h184 (by decide)
                          · skip
                            refine lv_iload_n hx hb dX8_init_187 rfl (lv_at hl 0 rfl) ?_
                            refine lv_iconst (v := 3) hx hb dX8_init_188 (by decide) ?_
                            refine lv_icmp_ne (tgt := 196) hx hb dX8_init_189 (by decide) (fun h189 => ?_) (fun h189 => ?_)
                            · skip
                              exact absurd rfl h189
                            · skip
                              refine lv_iconst (v := 2) hx hb dX8_init_192 (by decide) ?_
                              refine lv_goto (tgt := 197) hx hb dX8_init_193 (by decide) ?_
                              refine ziast hF hB 11 rfl 3 (by decide) (by decide) (by decide) dX8_init_197 ?_
                              clear hB
                              try clear locs
                              try clear H
                              intro H locs hB
                              replace hB : zB D A s ([(b, .inr (8, [.int (0 : Int32), .ref q1, .ref q2, .ref q3, .ref q4, .int (0 : Int32), .ref q5, .ref q6, .ref q7, .int (0 : Int32), .ref q8, .ref q9, .int (0 : Int32), .int (0 : Int32), .ref q10, .ref q11, .ref q12, .int (0 : Int32), .ref q13, .ref q14, .ref q15, .ref q16, .ref q17, .ref q18, .int (0 : Int32), .long (0 : Int64), .long (0 : Int64)])), (q1, .inl (ka 0, 4, .inl (upd (upd (upd (upd (fun _ => 0) 0 (-1 : Int32)) 1 (-1 : Int32)) 2 (-1 : Int32)) 3 (-1 : Int32)))), (q2, .inl (ka 1, 160, .inr (.inl (fun _ => 0)))), (q3, .inl (ka 1, 40, .inr (.inl (fun _ => 0)))), (q4, .inl (ka 1, 200, .inr (.inl (nuZ 40)))), (q5, .inl (ka 0, 8, .inl (fun _ => 0))), (q6, .inl (ka 0, 8, .inl (fun _ => 0))), (q7, .inl (ka 0, 8, .inl (fun _ => 0))), (q8, .inl (ka 0, 24, .inl (fun _ => 0))), (q9, .inl (ka 0, 2, .inl (fun _ => 0))), (q10, .inl (ka 1, 4, .inr (.inl (fun _ => 0)))), (q11, .inl (ka 0, 4, .inl (upd (upd (upd (upd (fun _ => 0) 0 (2 : Int32)) 1 (1 : Int32)) 2 (1 : Int32)) 3 (2 : Int32)))), (q12, .inl (ka 0, 4, .inl (fun _ => 0))), (q13, .inl (ka 0, 3, .inl (fun _ => 0))), (q14, .inl (ka 0, 3, .inl (fun _ => 0))), (q15, .inl (ka 0, 4, .inl (fun _ => 0))), (q16, .inl (ka 0, 4, .inl (fun _ => 0))), (q17, .inl (ka 0, 4, .inl (fun _ => 0))), (q18, .inl (ka 0, 4, .inl (fun _ => 0)))]) H locs := hB
                              refine lv_iinc (v := (4 : Int32)) (lv' := [(1, .int (4 : Int32)), (0, .ref b)]) hx hb dX8_init_198 hl (k := 0) rfl (by decide) (by decide) rfl ?_
                              clear hl
                              clear ls
                              intro ls hl
                              refine lv_goto (tgt := 166) hx hb dX8_init_201 (by decide) ?_
                              refine lv_iload_n hx hb dX8_init_166 rfl (lv_at hl 0 rfl) ?_
                              refine lv_iconst (v := 4) hx hb dX8_init_167 (by decide) ?_
                              refine lv_icmp_ge (tgt := 204) hx hb dX8_init_168 (by decide) (fun h168 => ?_) (fun h168 => ?_)
                              · skip
                                refine lv_aload_n hx hb dX8_init_204 rfl (lv_at hl 1 rfl) ?_
                                refine zget zf_X8_35 hF hB 0 rfl rfl dX8_init_205 ?_
                                refine lv_iconst (v := 0) hx hb dX8_init_208 (by decide) ?_
                                refine lv_sipush (v := 4095) hx hb dX8_init_209 (by decide) ?_
                                refine ziast hF hB 9 rfl 0 (by decide) (by decide) (by decide) dX8_init_212 ?_
                                clear hB
                                try clear locs
                                try clear H
                                intro H locs hB
                                replace hB : zB D A s ([(b, .inr (8, [.int (0 : Int32), .ref q1, .ref q2, .ref q3, .ref q4, .int (0 : Int32), .ref q5, .ref q6, .ref q7, .int (0 : Int32), .ref q8, .ref q9, .int (0 : Int32), .int (0 : Int32), .ref q10, .ref q11, .ref q12, .int (0 : Int32), .ref q13, .ref q14, .ref q15, .ref q16, .ref q17, .ref q18, .int (0 : Int32), .long (0 : Int64), .long (0 : Int64)])), (q1, .inl (ka 0, 4, .inl (upd (upd (upd (upd (fun _ => 0) 0 (-1 : Int32)) 1 (-1 : Int32)) 2 (-1 : Int32)) 3 (-1 : Int32)))), (q2, .inl (ka 1, 160, .inr (.inl (fun _ => 0)))), (q3, .inl (ka 1, 40, .inr (.inl (fun _ => 0)))), (q4, .inl (ka 1, 200, .inr (.inl (nuZ 40)))), (q5, .inl (ka 0, 8, .inl (fun _ => 0))), (q6, .inl (ka 0, 8, .inl (fun _ => 0))), (q7, .inl (ka 0, 8, .inl (fun _ => 0))), (q8, .inl (ka 0, 24, .inl (fun _ => 0))), (q9, .inl (ka 0, 2, .inl (upd (fun _ => 0) 0 (4095 : Int32)))), (q10, .inl (ka 1, 4, .inr (.inl (fun _ => 0)))), (q11, .inl (ka 0, 4, .inl (upd (upd (upd (upd (fun _ => 0) 0 (2 : Int32)) 1 (1 : Int32)) 2 (1 : Int32)) 3 (2 : Int32)))), (q12, .inl (ka 0, 4, .inl (fun _ => 0))), (q13, .inl (ka 0, 3, .inl (fun _ => 0))), (q14, .inl (ka 0, 3, .inl (fun _ => 0))), (q15, .inl (ka 0, 4, .inl (fun _ => 0))), (q16, .inl (ka 0, 4, .inl (fun _ => 0))), (q17, .inl (ka 0, 4, .inl (fun _ => 0))), (q18, .inl (ka 0, 4, .inl (fun _ => 0)))]) H locs := hB
                                refine lv_aload_n hx hb dX8_init_213 rfl (lv_at hl 1 rfl) ?_
                                refine zget zf_X8_35 hF hB 0 rfl rfl dX8_init_214 ?_
                                refine lv_iconst (v := 1) hx hb dX8_init_217 (by decide) ?_
                                refine lv_sipush (v := 4095) hx hb dX8_init_218 (by decide) ?_
                                refine ziast hF hB 9 rfl 1 (by decide) (by decide) (by decide) dX8_init_221 ?_
                                clear hB
                                try clear locs
                                try clear H
                                intro H locs hB
                                replace hB : zB D A s ([(b, .inr (8, [.int (0 : Int32), .ref q1, .ref q2, .ref q3, .ref q4, .int (0 : Int32), .ref q5, .ref q6, .ref q7, .int (0 : Int32), .ref q8, .ref q9, .int (0 : Int32), .int (0 : Int32), .ref q10, .ref q11, .ref q12, .int (0 : Int32), .ref q13, .ref q14, .ref q15, .ref q16, .ref q17, .ref q18, .int (0 : Int32), .long (0 : Int64), .long (0 : Int64)])), (q1, .inl (ka 0, 4, .inl (upd (upd (upd (upd (fun _ => 0) 0 (-1 : Int32)) 1 (-1 : Int32)) 2 (-1 : Int32)) 3 (-1 : Int32)))), (q2, .inl (ka 1, 160, .inr (.inl (fun _ => 0)))), (q3, .inl (ka 1, 40, .inr (.inl (fun _ => 0)))), (q4, .inl (ka 1, 200, .inr (.inl (nuZ 40)))), (q5, .inl (ka 0, 8, .inl (fun _ => 0))), (q6, .inl (ka 0, 8, .inl (fun _ => 0))), (q7, .inl (ka 0, 8, .inl (fun _ => 0))), (q8, .inl (ka 0, 24, .inl (fun _ => 0))), (q9, .inl (ka 0, 2, .inl (upd (upd (fun _ => 0) 0 (4095 : Int32)) 1 (4095 : Int32)))), (q10, .inl (ka 1, 4, .inr (.inl (fun _ => 0)))), (q11, .inl (ka 0, 4, .inl (upd (upd (upd (upd (fun _ => 0) 0 (2 : Int32)) 1 (1 : Int32)) 2 (1 : Int32)) 3 (2 : Int32)))), (q12, .inl (ka 0, 4, .inl (fun _ => 0))), (q13, .inl (ka 0, 3, .inl (fun _ => 0))), (q14, .inl (ka 0, 3, .inl (fun _ => 0))), (q15, .inl (ka 0, 4, .inl (fun _ => 0))), (q16, .inl (ka 0, 4, .inl (fun _ => 0))), (q17, .inl (ka 0, 4, .inl (fun _ => 0))), (q18, .inl (ka 0, 4, .inl (fun _ => 0)))]) H locs := hB
                                refine lv_aload_n hx hb dX8_init_222 rfl (lv_at hl 1 rfl) ?_
                                refine lv_bipush (v := 22) hx hb dX8_init_223 (by decide) ?_
                                refine zput_f zp_X8_65 hF hB 0 rfl (rfl) (rfl) (Nat.le_of_ble_eq_true rfl) dX8_init_225 ?_
                                clear hB
                                try clear locs
                                try clear H
                                intro H locs hB
                                replace hB : zB D A s ([(b, .inr (8, [.int (0 : Int32), .ref q1, .ref q2, .ref q3, .ref q4, .int (0 : Int32), .ref q5, .ref q6, .ref q7, .int (0 : Int32), .ref q8, .ref q9, .int (22 : Int32), .int (0 : Int32), .ref q10, .ref q11, .ref q12, .int (0 : Int32), .ref q13, .ref q14, .ref q15, .ref q16, .ref q17, .ref q18, .int (0 : Int32), .long (0 : Int64), .long (0 : Int64)])), (q1, .inl (ka 0, 4, .inl (upd (upd (upd (upd (fun _ => 0) 0 (-1 : Int32)) 1 (-1 : Int32)) 2 (-1 : Int32)) 3 (-1 : Int32)))), (q2, .inl (ka 1, 160, .inr (.inl (fun _ => 0)))), (q3, .inl (ka 1, 40, .inr (.inl (fun _ => 0)))), (q4, .inl (ka 1, 200, .inr (.inl (nuZ 40)))), (q5, .inl (ka 0, 8, .inl (fun _ => 0))), (q6, .inl (ka 0, 8, .inl (fun _ => 0))), (q7, .inl (ka 0, 8, .inl (fun _ => 0))), (q8, .inl (ka 0, 24, .inl (fun _ => 0))), (q9, .inl (ka 0, 2, .inl (upd (upd (fun _ => 0) 0 (4095 : Int32)) 1 (4095 : Int32)))), (q10, .inl (ka 1, 4, .inr (.inl (fun _ => 0)))), (q11, .inl (ka 0, 4, .inl (upd (upd (upd (upd (fun _ => 0) 0 (2 : Int32)) 1 (1 : Int32)) 2 (1 : Int32)) 3 (2 : Int32)))), (q12, .inl (ka 0, 4, .inl (fun _ => 0))), (q13, .inl (ka 0, 3, .inl (fun _ => 0))), (q14, .inl (ka 0, 3, .inl (fun _ => 0))), (q15, .inl (ka 0, 4, .inl (fun _ => 0))), (q16, .inl (ka 0, 4, .inl (fun _ => 0))), (q17, .inl (ka 0, 4, .inl (fun _ => 0))), (q18, .inl (ka 0, 4, .inl (fun _ => 0)))]) H locs := hB
                                refine lv_aload_n hx hb dX8_init_228 rfl (lv_at hl 1 rfl) ?_
                                refine lv_iconst (v := 1) hx hb dX8_init_229 (by decide) ?_
                                refine zput_f zp_X8_69 hF hB 0 rfl (rfl) (rfl) (Nat.le_of_ble_eq_true rfl) dX8_init_230 ?_
                                clear hB
                                try clear locs
                                try clear H
                                intro H locs hB
                                replace hB : zB D A s ([(b, .inr (8, [.int (0 : Int32), .ref q1, .ref q2, .ref q3, .ref q4, .int (0 : Int32), .ref q5, .ref q6, .ref q7, .int (0 : Int32), .ref q8, .ref q9, .int (22 : Int32), .int (1 : Int32), .ref q10, .ref q11, .ref q12, .int (0 : Int32), .ref q13, .ref q14, .ref q15, .ref q16, .ref q17, .ref q18, .int (0 : Int32), .long (0 : Int64), .long (0 : Int64)])), (q1, .inl (ka 0, 4, .inl (upd (upd (upd (upd (fun _ => 0) 0 (-1 : Int32)) 1 (-1 : Int32)) 2 (-1 : Int32)) 3 (-1 : Int32)))), (q2, .inl (ka 1, 160, .inr (.inl (fun _ => 0)))), (q3, .inl (ka 1, 40, .inr (.inl (fun _ => 0)))), (q4, .inl (ka 1, 200, .inr (.inl (nuZ 40)))), (q5, .inl (ka 0, 8, .inl (fun _ => 0))), (q6, .inl (ka 0, 8, .inl (fun _ => 0))), (q7, .inl (ka 0, 8, .inl (fun _ => 0))), (q8, .inl (ka 0, 24, .inl (fun _ => 0))), (q9, .inl (ka 0, 2, .inl (upd (upd (fun _ => 0) 0 (4095 : Int32)) 1 (4095 : Int32)))), (q10, .inl (ka 1, 4, .inr (.inl (fun _ => 0)))), (q11, .inl (ka 0, 4, .inl (upd (upd (upd (upd (fun _ => 0) 0 (2 : Int32)) 1 (1 : Int32)) 2 (1 : Int32)) 3 (2 : Int32)))), (q12, .inl (ka 0, 4, .inl (fun _ => 0))), (q13, .inl (ka 0, 3, .inl (fun _ => 0))), (q14, .inl (ka 0, 3, .inl (fun _ => 0))), (q15, .inl (ka 0, 4, .inl (fun _ => 0))), (q16, .inl (ka 0, 4, .inl (fun _ => 0))), (q17, .inl (ka 0, 4, .inl (fun _ => 0))), (q18, .inl (ka 0, 4, .inl (fun _ => 0)))]) H locs := hB
                                exact zretC hF hB (fun k => [q1, q2, q3, q4, q5, q6, q7, q8, q9, q10, q11, q12, q13, q14, q15, q16, q17, q18].getD k 0) trivial rfl dX8_init_233 hQ
                              · skip
                                exact absurd (by decide) h168
                      · skip
                        exact absurd h189 (by decide)
                · skip
                  exact absurd h189 (by decide)
          · skip
            exact absurd (by decide) h184
      · skip
        have hi2 : i < 40 := Nat.not_le.mp (fun e9 => h144 ((nI_leI (a := 40) (b := i) (by decide) (by omega)).mpr e9))
        refine lv_aload_n hx hb dX8_init_147 rfl (lv_at hl 1 rfl) ?_
        refine zget zf_X8_20 hF hB 0 rfl rfl dX8_init_148 ?_
        refine lv_iconst (v := 5) hx hb dX8_init_151 (by decide) ?_
        refine lv_iload_n hx hb dX8_init_152 rfl (lv_at hl 0 rfl) ?_
        refine lv_imul hx hb dX8_init_153 ?_
        refine ztopi (y := nI (5 * i)) (pk_mul 5 i) ?_
        refine lv_iconst (v := 4) hx hb dX8_init_154 (by decide) ?_
        refine lv_iadd hx hb dX8_init_155 ?_
        refine ztopi (y := nI ((5 * i) + 4)) (nI_add (5 * i) 4) ?_
        refine lv_lconst (v := 1) hx hb dX8_init_156 (by decide) ?_
        refine zlast hF hB 4 rfl ((5 * i) + 4) (rfl) (by omega) (by decide) dX8_init_157 ?_
        clear hB
        try clear locs
        try clear H
        intro H locs hB
        replace hB : zB D A s ([(b, .inr (8, [.int (0 : Int32), .ref q1, .ref q2, .ref q3, .ref q4, .int (0 : Int32), .ref q5, .ref q6, .ref q7, .int (0 : Int32), .ref q8, .ref q9, .int (0 : Int32), .int (0 : Int32), .ref q10, .ref q11, .ref q12, .int (0 : Int32), .ref q13, .ref q14, .ref q15, .ref q16, .ref q17, .ref q18, .int (0 : Int32), .long (0 : Int64), .long (0 : Int64)])), (q1, .inl (ka 0, 4, .inl (fun _ => 0))), (q2, .inl (ka 1, 160, .inr (.inl (fun _ => 0)))), (q3, .inl (ka 1, 40, .inr (.inl (fun _ => 0)))), (q4, .inl (ka 1, 200, .inr (.inl (nuZ (i + 1))))), (q5, .inl (ka 0, 8, .inl (fun _ => 0))), (q6, .inl (ka 0, 8, .inl (fun _ => 0))), (q7, .inl (ka 0, 8, .inl (fun _ => 0))), (q8, .inl (ka 0, 24, .inl (fun _ => 0))), (q9, .inl (ka 0, 2, .inl (fun _ => 0))), (q10, .inl (ka 1, 4, .inr (.inl (fun _ => 0)))), (q11, .inl (ka 0, 4, .inl (fun _ => 0))), (q12, .inl (ka 0, 4, .inl (fun _ => 0))), (q13, .inl (ka 0, 3, .inl (fun _ => 0))), (q14, .inl (ka 0, 3, .inl (fun _ => 0))), (q15, .inl (ka 0, 4, .inl (fun _ => 0))), (q16, .inl (ka 0, 4, .inl (fun _ => 0))), (q17, .inl (ka 0, 4, .inl (fun _ => 0))), (q18, .inl (ka 0, 4, .inl (fun _ => 0)))]) H locs := (by have e9 := hB; rw [nuZ_s] at e9; exact e9)
        refine lv_iinc (v := nI (i + 1)) (lv' := [(1, .int (nI (i + 1))), (0, .ref b)]) hx hb dX8_init_158 hl (k := 0) rfl (nI_1 _) (by decide) rfl ?_
        clear hl
        clear ls
        intro ls hl
        refine lv_goto (tgt := 141) hx hb dX8_init_161 (by decide) ?_
        exact ih141 (i + 1) (by omega) (by omega) _ _ (hB) _ (lv_sub hl [0, 1] rfl)
  exact lp141 (40 - 0 + 1) 0 (Nat.zero_le _) (by omega) _ _ (by rw [nuZ_0]; exact hB) _ (lv_sub hl [0, 1] rfl)
