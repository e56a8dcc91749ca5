theorem ct_in {kq : Int32} {k : Nat} (h : kq.toInt = (k : Int)) (hk : k < 9) : inI kq 9 = true ∧ aN kq = k := by
  refine ⟨dB_t.mpr ⟨by omega, by omega⟩, ?_⟩
  unfold aN; rw [h]; rfl
theorem ct_out {kq : Int32} (h : kq.toInt < 0 ∨ 8 < kq.toInt) : inI kq 9 = false := dB_f.mpr (fun e8 => by omega)
