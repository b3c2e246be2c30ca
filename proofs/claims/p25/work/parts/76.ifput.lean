/-! WHAT A NUMBER WOULD CHANGE -/
theorem ok1 {num : Int32} (h : -999 ≤ num.toInt ∧ num.toInt ≤ 999) : okP 1 num := ⟨by omega, by omega, fun _ => h, fun g => by omega⟩
/-! the reference -/
/-! (laying leaves the array 180) -/
theorem btw_999 {p : Int32} (h : btw p (-999) 999 = true) : -999 ≤ p.toInt ∧ p.toInt ≤ 999 := by
  unfold btw at h
  rw [Bool.and_eq_true, decide_eq_true_eq, decide_eq_true_eq, Int32.lt_iff_toInt_lt, Int32.lt_iff_toInt_lt] at h
  have e1 : (-999 : Int32).toInt = -999 := by decide
  have e2 : (999 : Int32).toInt = 999 := by decide
  omega
