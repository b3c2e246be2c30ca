def NoT {α : Type} (X : Dm α) : Prop := ∀ (σ : Mm) (e : Nat) (σ1 : Mm), X σ ≠ some (.inr e, σ1)
theorem nt_ret {α : Type} (r : α) : NoT (retM r) := fun σ e σ1 h => by cases h
theorem nt_retZ (r : Int32) : NoT (retZ r) := fun σ e σ1 h => by unfold retZ at h; split at h <;> cases h
theorem nt_fail {α : Type} : NoT (failM : Dm α) := fun σ e σ1 h => by cases h
theorem nt_if {α : Type} {c : Prop} [Decidable c] {X1 X2 : Dm α} (h1 : NoT X1) (h2 : NoT X2) : NoT (if c then X1 else X2) := by
  by_cases h : c
  · rw [if_pos h]; exact h1
  · rw [if_neg h]; exact h2
theorem nt_bI {α : Type} {x : Int32} {K : Int32 → Dm α} (h : ∀ z, NoT (K z)) : NoT (bI x K) := h x
theorem nx_X5_placeOf (a b : Int32) : ∀ σ e σ1, F_X5_placeOf a b σ ≠ some (.inr e, σ1) := by
  have h : NoT (F_X5_placeOf a b) := by rw [F_X5_placeOf]; exact nt_if (nt_ret _) (nt_ret _)
  exact h
theorem nx_X5_isSum (a : Int32) : ∀ σ e σ1, F_X5_isSum a σ ≠ some (.inr e, σ1) := by
  have h : NoT (F_X5_isSum a) := by rw [F_X5_isSum]; exact nt_if (nt_retZ _) (nt_if (nt_retZ _) (nt_if (nt_retZ _) (nt_retZ _)))
  exact h
theorem nx_X5_tableOf (a : Int32) : ∀ σ e σ1, F_X5_tableOf a σ ≠ some (.inr e, σ1) := nt_ret _
theorem nx_X5_isBetween (a b c : Int32) : ∀ σ e σ1, F_X5_isBetween a b c σ ≠ some (.inr e, σ1) := by
  have h : NoT (F_X5_isBetween a b c) := by rw [F_X5_isBetween]; exact nt_if (nt_retZ _) (nt_if (nt_retZ _) (nt_retZ _))
  exact h
theorem nt_signs : ∀ (n : Nat) (a b c : Int32), NoT (L_X5_signsOf_17 n a b c)
  | 0, a, b, c => nt_fail
  | n + 1, a, b, c => by
    rw [L_X5_signsOf_17]
    exact nt_if (nt_ret _) (nt_if (nt_ret _) (nt_bI fun z => nt_signs n _ _ _))
theorem nx_X5_signsOf (a : Int32) : ∀ σ e σ1, F_X5_signsOf a σ ≠ some (.inr e, σ1) := by
  have h : NoT (F_X5_signsOf a) := by
    rw [F_X5_signsOf]
    unfold jM
    exact nt_if (nt_bI fun z => nt_signs _ _ _ _) (nt_bI fun z => nt_signs _ _ _ _)
  exact h
