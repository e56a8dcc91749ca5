set_option maxHeartbeats 4000000 in
set_option maxRecDepth 100000 in
theorem c_X8_three (l : Launch) (D : va_G) (ka : Nat → ClassId) (kb : Nat → Nat) (q : Nat) (ad : Nat → Nat) (o : Bool) (z : mZ) (x : Int64) (y : Int64)  : zL l D ka kb yX8_three cX8_three 5 1 27 [.ref q, .long x, .long y] ([(q, .inr (8, mO ad o z))]) (fun (r : Int64) (_ : Unit) => r = (3 : Int64) * x * y) (fun (_ : Unit) => [(q, .inr (8, mO ad ((o || tOv (3 : Int64) x) || tOv ((3 : Int64) * x) y) z))]) := by
  refine zL.mk RX8 (by decide +kernel) rfl (Nat.le_of_ble_eq_true rfl) ?_
  intro p e s m below meth c A ls args Q hQ hx hb hF hB hl
  have hl : lv_has ls 5 [(0, .ref q), (1, .long x), (3, .long y)] := hl
  refine lv_aload_n hx hb dX8_three_0 rfl (lv_at hl 0 rfl) ?_
  refine lv_aload_n hx hb dX8_three_1 rfl (lv_at hl 0 rfl) ?_
  refine zldc2 (v := (3 : Int64)) ww_9_19 hF dX8_three_2 ?_
  refine lv_lload_n hx hb dX8_three_5 rfl (lv_at hl 1 rfl) ?_
  refine zVl zm_X8_124 hF hB (c_X8_times l D ka kb q ad o z (3 : Int64) x ) [0] rfl (by decide) [q] (fun _ => rfl) rfl 0 8 rfl rfl rfl ⟨Nat.le_of_ble_eq_true rfl, Nat.le_of_ble_eq_true rfl⟩ rfl hl.1 (Nat.le_of_ble_eq_true rfl) ⟨Nat.le_refl _, Nat.le_refl _⟩ dX8_three_6 (fun r1 u1 H locs hp hB => ?_)
  obtain rfl : r1 = (3 : Int64) * x := hp
  have hB : zB D A s ([(q, .inr (8, mO ad (o || tOv (3 : Int64) x) z))]) H locs := hB
  refine lv_lload_n hx hb dX8_three_9 rfl (lv_at hl 2 rfl) ?_
  refine zVl zm_X8_124 hF hB (c_X8_times l D ka kb q ad (o || tOv (3 : Int64) x) z ((3 : Int64) * x) y ) [0] rfl (by decide) [q] (fun _ => rfl) rfl 0 8 rfl rfl rfl ⟨Nat.le_of_ble_eq_true rfl, Nat.le_of_ble_eq_true rfl⟩ rfl hl.1 (Nat.le_of_ble_eq_true rfl) ⟨Nat.le_refl _, Nat.le_refl _⟩ dX8_three_10 (fun r2 u2 H locs hp hB => ?_)
  obtain rfl : r2 = ((3 : Int64) * x) * y := hp
  have hB : zB D A s ([(q, .inr (8, mO ad ((o || tOv (3 : Int64) x) || tOv ((3 : Int64) * x) y) z))]) H locs := hB
  exact zretl hF hB () (rfl) (rfl) dX8_three_13 hQ
