/-! MEET -/
/-- (not by rfl: so simp leaves a proof, and the kernel evaluates nothing) -/
theorem jM_np {α κ : Type} {K : κ} {B : κ → Dm α} : jM K B = B K := Eq.trans rfl rfl
theorem gM_np {α β : Type} {f : Mm → β} {K : β → Dm α} {σ : Mm} : gM f K σ = K (f σ) σ := Eq.trans rfl rfl
