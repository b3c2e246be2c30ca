/-! THE STEPS THAT ONLY LOOK -/
theorem btw_k {p : Int32} {n : Nat} (hn : n < 100000) (h : btw p (iN 0) (iN n) = true) : ∃ k, p = iN k ∧ k < n + 1 := by
  obtain ⟨k, e, _, b⟩ := btw_nat (by omega) (by omega) h
  exact ⟨k, e, by omega⟩
