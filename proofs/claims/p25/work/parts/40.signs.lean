/-! HOW MANY SIGNS A NUMBER HAS -/
def dgF : Nat → Nat → Nat
  | 0, _ => 0
  | f + 1, m => if m = 0 then 0 else 1 + dgF f (m / 10)
def abN (x : Int32) : Nat := x.toInt.natAbs
def sgnI (x : Int32) : Nat := (if x.toInt < 0 then 2 else 1) + dgF 10 (abN x / 10)
theorem dgF_le : ∀ f m, dgF f m ≤ f
  | 0, _ => Nat.le_refl _
  | f + 1, m => by
    unfold dgF
    by_cases h : m = 0
    · rw [if_pos h]; omega
    · rw [if_neg h]
      have := dgF_le f (m / 10)
      omega
theorem sgnI_lt {x : Int32} : sgnI x ≤ 12 := by
  unfold sgnI
  have := dgF_le 10 (abN x / 10)
  by_cases h : x.toInt < 0
  · rw [if_pos h]; omega
  · rw [if_neg h]; omega
theorem abN_lt {x : Int32} : abN x ≤ 2147483648 := by
  unfold abN
  have h1 := Int32.toInt_lt x
  have h2 := Int32.le_toInt x
  omega
theorem abN_div {x : Int32} : abN (x / iN 10) = abN x / 10 := by
  have h0 := abN_lt (x := x)
  unfold abN at h0 ⊢
  rw [Int32.toInt_div, iN_int (by omega)]
  have h3 : (x.toInt.tdiv ((10 : Nat) : Int)).natAbs = x.toInt.natAbs / 10 := by
    rw [Int.natAbs_tdiv]
    rfl
  obtain ⟨z, hz⟩ : ∃ z, z = x.toInt.tdiv ((10 : Nat) : Int) := ⟨_, rfl⟩
  rw [← hz] at h3 ⊢
  rw [Int.bmod_eq_of_le (by omega) (by omega)]
  exact h3
theorem abN_0 {x : Int32} : (x = iN 0) = (abN x = 0) := by
  rw [← Int32.toInt_inj, iN_int (by omega)]
  unfold abN
  exact propext ⟨fun h => by omega, fun h => by omega⟩
theorem f_signs_l : ∀ (d n a k : Nat) (x : Int32) (σ : Mm), k + d = 10 → d < n → L_X5_signsOf_17 n (iN a) x (iN k) σ = some (.inl (iN (a + dgF d (abN x))), σ) := by
  intro d
  induction d with
  | zero =>
    intro n a k x σ h1 h2
    obtain ⟨m, rfl⟩ : ∃ m, n = m + 1 := ⟨n - 1, by omega⟩
    simp only [L_X5_signsOf_17, dgF]
    simp (disch := omega) only [↓ite_ap, if_true, if_false, if_pos, if_neg, retM_ap, retZ_ap0, retZ_ap1, gM_ap, sM_ap, jM_ap, bI_ap, bL_ap, bD_ap, rdM_ap, wrM_ap, thrM_ap, nl_0, nl_1, nl_2, nl_3, nl_4, nl_5, nl_6, nl_7, nl_8, nl_9, nl_10, nl_11, nl_12, nl_13, nl_25, nl_33, nl_35, nl_45, nl_48, nl_49, nl_50, nl_52, nl_53, nl_57, nl_59, nl_60, nl_61, nl_77, nl_94, nl_97, nl_100, nl_101, nl_119, nl_125, nl_126, nl_137, nl_262, nl_387, nl_500, nl_512, nl_637, nl_999, nl_1022, nl_1137, nl_5685, nm_1b, iN_mI, mI_iN, iN_add, iN_mul, iN_sub, iN_div, iN_rem, iN_lt, iN_le, iN_eq, iN_nat, inB_iN, Nat.add_zero]
  | succ d ih =>
    intro n a k x σ h1 h2
    obtain ⟨m, rfl⟩ : ∃ m, n = m + 1 := ⟨n - 1, by omega⟩
    simp only [L_X5_signsOf_17, dgF]
    by_cases h0 : abN x = 0
    · have hx : x = iN 0 := by rw [abN_0]; exact h0
      have e : (if abN x = 0 then 0 else 1 + dgF d (abN x / 10)) = 0 := if_pos h0
      rw [e]
      simp (disch := omega) only [↓ite_ap, if_true, if_false, if_pos, if_neg, retM_ap, retZ_ap0, retZ_ap1, gM_ap, sM_ap, jM_ap, bI_ap, bL_ap, bD_ap, rdM_ap, wrM_ap, thrM_ap, nl_0, nl_1, nl_2, nl_3, nl_4, nl_5, nl_6, nl_7, nl_8, nl_9, nl_10, nl_11, nl_12, nl_13, nl_25, nl_33, nl_35, nl_45, nl_48, nl_49, nl_50, nl_52, nl_53, nl_57, nl_59, nl_60, nl_61, nl_77, nl_94, nl_97, nl_100, nl_101, nl_119, nl_125, nl_126, nl_137, nl_262, nl_387, nl_500, nl_512, nl_637, nl_999, nl_1022, nl_1137, nl_5685, nm_1b, iN_mI, mI_iN, iN_add, iN_mul, iN_sub, iN_div, iN_rem, iN_lt, iN_le, iN_eq, iN_nat, inB_iN, hx, Nat.add_zero]
    · have hx : ¬ x = iN 0 := by rw [abN_0]; exact h0
      simp (disch := omega) only [↓ite_ap, if_true, if_false, if_pos, if_neg, retM_ap, retZ_ap0, retZ_ap1, gM_ap, sM_ap, jM_ap, bI_ap, bL_ap, bD_ap, rdM_ap, wrM_ap, thrM_ap, nl_0, nl_1, nl_2, nl_3, nl_4, nl_5, nl_6, nl_7, nl_8, nl_9, nl_10, nl_11, nl_12, nl_13, nl_25, nl_33, nl_35, nl_45, nl_48, nl_49, nl_50, nl_52, nl_53, nl_57, nl_59, nl_60, nl_61, nl_77, nl_94, nl_97, nl_100, nl_101, nl_119, nl_125, nl_126, nl_137, nl_262, nl_387, nl_500, nl_512, nl_637, nl_999, nl_1022, nl_1137, nl_5685, nm_1b, iN_mI, mI_iN, iN_add, iN_mul, iN_sub, iN_div, iN_rem, iN_lt, iN_le, iN_eq, iN_nat, inB_iN, h0, hx]
      rw [ih m (a + 1) (k + 1) (x / iN 10) σ (by omega) (by omega), abN_div, Nat.add_assoc]
theorem f_signsOf {x : Int32} {σ : Mm} : F_X5_signsOf x σ = some (.inl (iN (sgnI x)), σ) := by
  unfold F_X5_signsOf sgnI
  have hF : (10 : Nat) < FU := by unfold FU; omega
  have h0 : (iN 0 ≤ x) = ¬ x.toInt < 0 := by
    rw [Int32.le_iff_toInt_le, iN_int (by omega)]
    exact propext ⟨fun h => by omega, fun h => by omega⟩
  by_cases h : x.toInt < 0
  · simp (disch := omega) only [↓ite_ap, if_true, if_false, if_pos, if_neg, retM_ap, retZ_ap0, retZ_ap1, gM_ap, sM_ap, jM_ap, bI_ap, bL_ap, bD_ap, rdM_ap, wrM_ap, thrM_ap, nl_0, nl_1, nl_2, nl_3, nl_4, nl_5, nl_6, nl_7, nl_8, nl_9, nl_10, nl_11, nl_12, nl_13, nl_25, nl_33, nl_35, nl_45, nl_48, nl_49, nl_50, nl_52, nl_53, nl_57, nl_59, nl_60, nl_61, nl_77, nl_94, nl_97, nl_100, nl_101, nl_119, nl_125, nl_126, nl_137, nl_262, nl_387, nl_500, nl_512, nl_637, nl_999, nl_1022, nl_1137, nl_5685, nm_1b, iN_mI, mI_iN, iN_add, iN_mul, iN_sub, iN_div, iN_rem, iN_lt, iN_le, iN_eq, iN_nat, inB_iN, h0, h, not_true_eq_false]
    rw [f_signs_l 10 FU 2 0 _ σ (by omega) hF, abN_div]
  · simp (disch := omega) only [↓ite_ap, if_true, if_false, if_pos, if_neg, retM_ap, retZ_ap0, retZ_ap1, gM_ap, sM_ap, jM_ap, bI_ap, bL_ap, bD_ap, rdM_ap, wrM_ap, thrM_ap, nl_0, nl_1, nl_2, nl_3, nl_4, nl_5, nl_6, nl_7, nl_8, nl_9, nl_10, nl_11, nl_12, nl_13, nl_25, nl_33, nl_35, nl_45, nl_48, nl_49, nl_50, nl_52, nl_53, nl_57, nl_59, nl_60, nl_61, nl_77, nl_94, nl_97, nl_100, nl_101, nl_119, nl_125, nl_126, nl_137, nl_262, nl_387, nl_500, nl_512, nl_637, nl_999, nl_1022, nl_1137, nl_5685, nm_1b, iN_mI, mI_iN, iN_add, iN_mul, iN_sub, iN_div, iN_rem, iN_lt, iN_le, iN_eq, iN_nat, inB_iN, h0, h, not_false_eq_true]
    rw [f_signs_l 10 FU 1 0 _ σ (by omega) hF, abN_div]
theorem b_signsOf {α : Type} {x : Int32} {σ : Mm} {K : Int32 → Dm α} : invM (F_X5_signsOf x) K σ = K (iN (sgnI x)) σ := invM_l f_signsOf

