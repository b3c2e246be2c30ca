/-! THE REFERENCE: A TABLE, ALL TABLES -/
theorem upM_q {σ : Mm} {k i k' j : Nat} {v : Int32} (h : ¬ (k' = k ∧ j = i)) : upM σ k i v k' j = σ k' j := by
  by_cases hkk : k' = k
  · subst hkk
    exact upM_ni (fun g => h ⟨rfl, g⟩)
  · exact upM_ne hkk
theorem setS_q {σ : Mm} {k lo hi k' j : Nat} {F : Nat → Int32} (h : ¬ (k' = k ∧ lo ≤ j ∧ j < hi)) : setS σ k lo hi F k' j = σ k' j := by
  unfold setS
  rw [if_neg h]
