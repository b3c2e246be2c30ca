/-! WHAT HOLDS BEHIND EVERY STEP OF THE LAW -/
theorem CO.fr {s : Sv} {σ σ1 : Mm} (h : CO s σ) (hf : ∀ k, k ≤ 36 → σ1 k = σ k) : CO s σ1 :=
  ⟨h.1, h.2.1.fr (fun k _ h2 => hf k (by omega)), fun t ht => (h.2.2 t ht).fr (fun k j hk => by rw [hf k (by unfold PT at hk; omega)])⟩
/-! arguments of the reference -/
