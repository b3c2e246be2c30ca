/-! SHARES, AS DOUBLES: WHAT IS COMPUTED OF THEM -/
def fpV (a n : Nat) : UInt64 := FP.ddiv (FP.i2d (iN a)) (FP.i2d (iN n))
def nfB (x : UInt64) : Bool := decide (x &&& 0x7fffffffffffffff ≤ 0x7ff0000000000000)
def fpC (a n : Nat) : Bool := nfB (fpV a n) && decide (Op.cmpValue (FP.dcmp (fpV a n) (fpV a n)) .l = 0)
theorem fp_1 : ∀ n, n < 50 → 1 ≤ n → ∀ a, a < n + 1 → fpC a n = true := by decide +kernel
theorem fp_2 : ∀ n, n < 30 → ∀ a, a < n + 51 → fpC a (n + 50) = true := by decide +kernel
theorem fp_3 : ∀ n, n < 25 → ∀ a, a < n + 81 → fpC a (n + 80) = true := by decide +kernel
theorem fp_4 : ∀ n, n < 21 → ∀ a, a < n + 106 → fpC a (n + 105) = true := by decide +kernel
theorem fp_all {a n : Nat} (h1 : 1 ≤ n) (h2 : n ≤ 125) (ha : a ≤ n) : fpC a n = true := by
  by_cases g1 : n < 50
  · exact fp_1 n g1 h1 a (by omega)
  · by_cases g2 : n < 80
    · have := fp_2 (n - 50) (by omega) a (by omega)
      rw [show n - 50 + 50 = n by omega] at this
      exact this
    · by_cases g3 : n < 105
      · have := fp_3 (n - 80) (by omega) a (by omega)
        rw [show n - 80 + 80 = n by omega] at this
        exact this
      · have := fp_4 (n - 105) (by omega) a (by omega)
        rw [show n - 105 + 105 = n by omega] at this
        exact this
theorem nfM_t {α : Type} {x : UInt64} {X : Dm α} {σ : Mm} (h : nfB x = true) : nfM x X σ = X σ := by
  unfold nfM
  rw [if_pos (of_decide_eq_true h)]
theorem fp_nf {a n : Nat} (h1 : 1 ≤ n) (h2 : n ≤ 125) (ha : a ≤ n) : nfB (fpV a n) = true ∧ Op.cmpValue (FP.dcmp (fpV a n) (fpV a n)) .l = 0 := by
  have h := fp_all h1 h2 ha
  unfold fpC at h
  rw [Bool.and_eq_true, decide_eq_true_eq] at h
  exact h
