theorem recO_f {X : N5} (h : recO X = false) : rcMo X = false ∧ rcNo X = false ∧ rcTo X = false := by
  unfold recO at h
  simp only [Bool.or_eq_false_iff] at h
  exact ⟨h.1.1.1.1.1, h.1.1.1.1.2, h.1.1.1.2⟩
