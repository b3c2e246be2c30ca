/-! SHARES, AS DOUBLES: WHAT IS COMPUTED OF THEM -/
def fpV (a n : Nat) : UInt64 := FP.ddiv (FP.i2d (iN a)) (FP.i2d (iN n))
def nfB (x : UInt64) : Bool := decide (x &&& 0x7fffffffffffffff ≤ 0x7ff0000000000000)
def bitF (x6 : UInt64) (x7 : Int64) : Option Int64 := if (nfB (FP.dsub x6 FP.dconst1) && nfB (FP.dmul (FP.dsub x6 FP.dconst1) (4841369599423283200 : UInt64))) = true then some ((x7 <<< ((52 : Int32).toInt64 &&& 63)) + (FP.d2l (FP.dmul (FP.dsub x6 FP.dconst1) (4841369599423283200 : UInt64)))) else none
def bitL : Nat → UInt64 → Int64 → Option Int64
  | 0, _, _ => none
  | n + 1, x1, x2 => if 0 ≤ (Op.cmpValue (FP.dcmp x1 FP.dconst1) .g) then bitF x1 x2 else if nfB (FP.dmul x1 (4611686018427387904 : UInt64)) = true then bitL n (FP.dmul x1 (4611686018427387904 : UInt64)) (x2 - (1 : Int64)) else none
def bit0 (v : UInt64) : Option Int64 := if 0 < (Op.cmpValue (FP.dcmp v FP.dconst0) .l) then bitL 10 v 1023 else some 0
def fpC (a n : Nat) : Bool := nfB (fpV a n) && decide (Op.cmpValue (FP.dcmp (fpV a n) (fpV a n)) .l = 0) && decide (bit0 (fpV a n) = some (fpV a n).toInt64)
theorem fp_1 : ∀ n, n < 50 → 1 ≤ n → ∀ a, a < n + 1 → fpC a n = true := by decide +kernel
theorem fp_2 : ∀ n, n < 30 → ∀ a, a < n + 51 → fpC a (n + 50) = true := by decide +kernel
theorem fp_3 : ∀ n, n < 25 → ∀ a, a < n + 81 → fpC a (n + 80) = true := by decide +kernel
theorem fp_4 : ∀ n, n < 21 → ∀ a, a < n + 106 → fpC a (n + 105) = true := by decide +kernel
theorem fp_all {a n : Nat} (h1 : 1 ≤ n) (h2 : n ≤ 125) (ha : a ≤ n) : fpC a n = true := by
  by_cases g1 : n < 50
  · exact fp_1 n g1 h1 a (by omega)
  · by_cases g2 : n < 80
    · have := fp_2 (n - 50) (by omega) a (by omega)
      rw [show n - 50 + 50 = n by omega] at this
      exact this
    · by_cases g3 : n < 105
      · have := fp_3 (n - 80) (by omega) a (by omega)
        rw [show n - 80 + 80 = n by omega] at this
        exact this
      · have := fp_4 (n - 105) (by omega) a (by omega)
        rw [show n - 105 + 105 = n by omega] at this
        exact this
theorem nfM_t {α : Type} {x : UInt64} {X : Dm α} {σ : Mm} (h : nfB x = true) : nfM x X σ = X σ := by
  unfold nfM
  rw [if_pos (of_decide_eq_true h)]
theorem f_bitL {r : Int64} {σ : Mm} : ∀ d n x1 x2 k, bitL d x1 x2 = some r → d < n → k + d < 1000 → L_X5_bitsOf_18 n x1 x2 (iN k) (fun x6 x7 => nfM (FP.dsub x6 FP.dconst1) <| nfM (FP.dmul (FP.dsub x6 FP.dconst1) (4841369599423283200 : UInt64)) <| retM ((x7 <<< ((52 : Int32).toInt64 &&& 63)) + (FP.d2l (FP.dmul (FP.dsub x6 FP.dconst1) (4841369599423283200 : UInt64))))) σ = some (.inl r, σ)
  | 0, n, x1, x2, k, h, hn, hk => by cases h
  | d + 1, n, x1, x2, k, h, hn, hk => by
    obtain ⟨n, rfl⟩ : ∃ m, n = m + 1 := ⟨n - 1, by omega⟩
    rw [bitL] at h
    rw [L_X5_bitsOf_18, nl_1022, if_neg (show ¬ iN 1022 ≤ iN k by rw [iN_le (by omega) (by omega)]; omega)]
    by_cases h1 : 0 ≤ (Op.cmpValue (FP.dcmp x1 FP.dconst1) .g)
    · rw [if_pos h1] at h ⊢
      unfold bitF at h
      by_cases h2 : (nfB (FP.dsub x1 FP.dconst1) && nfB (FP.dmul (FP.dsub x1 FP.dconst1) (4841369599423283200 : UInt64))) = true
      · rw [if_pos h2] at h
        rw [Bool.and_eq_true] at h2
        rw [nfM_t h2.1, nfM_t h2.2]
        injection h with h
        rw [h]
        rfl
      · rw [if_neg h2] at h
        cases h
    · rw [if_neg h1] at h ⊢
      by_cases h2 : nfB (FP.dmul x1 (4611686018427387904 : UInt64)) = true
      · rw [if_pos h2] at h
        rw [nfM_t h2, bD_ap, bL_ap, nl_1, iN_add]
        exact f_bitL d n _ _ (k + 1) h (by omega) (by omega)
      · rw [if_neg h2] at h
        cases h
theorem f_bitsOf {a n : Nat} {σ : Mm} (h1 : 1 ≤ n) (h2 : n ≤ 125) (ha : a ≤ n) : F_X5_bitsOf (fpV a n) σ = some (.inl (fpV a n).toInt64, σ) := by
  have h := fp_all h1 h2 ha
  unfold fpC at h
  rw [Bool.and_eq_true, Bool.and_eq_true, decide_eq_true_eq, decide_eq_true_eq] at h
  have h3 := h.2
  unfold bit0 at h3
  unfold F_X5_bitsOf
  by_cases h4 : 0 < (Op.cmpValue (FP.dcmp (fpV a n) FP.dconst0) .l)
  · rw [if_pos h4] at h3 ⊢
    exact f_bitL 10 FU _ _ 0 h3 (by unfold FU; omega) (by omega)
  · rw [if_neg h4] at h3 ⊢
    injection h3 with h3
    rw [← h3]
    rfl
theorem fp_nf {a n : Nat} (h1 : 1 ≤ n) (h2 : n ≤ 125) (ha : a ≤ n) : nfB (fpV a n) = true ∧ Op.cmpValue (FP.dcmp (fpV a n) (fpV a n)) .l = 0 := by
  have h := fp_all h1 h2 ha
  unfold fpC at h
  rw [Bool.and_eq_true, Bool.and_eq_true, decide_eq_true_eq, decide_eq_true_eq] at h
  exact h.1
theorem r_toBits {a n : Nat} {σ : Mm} (h1 : 1 ≤ n) (h2 : n ≤ 125) (ha : a ≤ n) : F_Jxe99ae_doubleToLongBits_ccdee (fpV a n) σ = some (.inl (fpV a n).toInt64, σ) := by
  have h := (fp_nf h1 h2 ha).2
  have f1 : F_Jxe99ae_isNaN_b9ae7 (fpV a n) σ = some (.inl (iN 0), σ) := by
    unfold F_Jxe99ae_isNaN_b9ae7
    rw [if_pos h]
    rfl
  unfold F_Jxe99ae_doubleToLongBits_ccdee
  rw [invM_l f1]
  rfl
