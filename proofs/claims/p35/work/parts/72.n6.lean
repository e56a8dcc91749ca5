set_option maxHeartbeats 4000000 in
set_option maxRecDepth 100000 in
theorem c_X5_latestFinding (l : Launch) (D : va_G) (ka : Nat → ClassId) (kb : Nat → Nat) (bd : Nat → Nat) (la9 : Int32)  : zI l D ka kb yX5_latestFinding cX5_latestFinding 1 .int 0 0 [.ref (bd 6)] ([((bd 6), .inr (5, [.ref (bd 25), .ref (bd 30), .int la9]))]) (fun (r : Int32) (_ : Unit) => r = la9) (fun (_ : Unit) => [((bd 6), .inr (5, [.ref (bd 25), .ref (bd 30), .int la9]))]) := by
  refine zI.mk RX5 (by decide +kernel) rfl (Nat.le_of_ble_eq_true rfl) ?_
  intro p e s m below meth c A ls args Q hQ hx hb hF hB hl
  replace hl : lv_has ls 1 [(0, .ref (bd 6))] := hl
  refine lv_aload_n hx hb dX5_latestFinding_0 rfl (lv_at hl 0 rfl) ?_
  refine zget zf_X5_20 hF hB 0 rfl rfl dX5_latestFinding_1 ?_
  exact zreti hF hB () (rfl) (rfl) (rfl) dX5_latestFinding_4 hQ

