/-! MEET -/
/-- (not by rfl: so simp leaves a proof, and the kernel evaluates nothing) -/
theorem jM_np {α κ : Type} {K : κ} {B : κ → Dm α} : jM K B = B K := Eq.trans rfl rfl
theorem gM_np {α β : Type} {f : Mm → β} {K : β → Dm α} {σ : Mm} : gM f K σ = K (f σ) σ := Eq.trans rfl rfl
theorem r_meet {a k x y : Nat} {s : Sv} {σ : Mm} (hw : WF s) (hv : Vw a s σ) (hx : isCl s x) (hy : isCl s y) : F_X6_meet a 1137 (iN x) (iN y) (ifk k) σ = some (.inl (if meB s k x y = true then iN 1 else iN 0), σ) := by
  have lx := isOf_lt hw hx.1
  have ly := isOf_lt hw hy.1
  have f1 := r_rowOf (q := x) (σ := σ) (by omega)
  have f2 := r_rowOf (q := y) (σ := σ) (by omega)
  have h1 := hv.hi hw hx
  have h2 := hv.hi hw hy
  have h3 := hv.br hw hx
  have h4 := hv.br hw hy
  have wx := hw.2.2.2.2.1 x hx
  have wy := hw.2.2.2.2.1 y hy
  have tx := hw.2.2.1 _ hx.1.1
  have ty := hw.2.2.1 _ hy.1.1
  by_cases hk : k = 4
  · have ei : ifk k = iN 1 := by unfold ifk; rw [if_pos hk]
    have em : meB s k x y = (decide (x % 5 < y % 5 + brS s y) && decide (y % 5 < x % 5 + brS s x)) := by unfold meB; rw [if_pos hk]
    rw [ei, em]
    by_cases g1 : x % 5 < y % 5 + brS s y
    · by_cases g2 : y % 5 < x % 5 + brS s x
      · rw [decide_eq_true g1, decide_eq_true g2]
        unfold F_X6_meet
        simp (disch := omega) only [↓ite_ap, if_true, if_false, if_pos, if_neg, retM_ap, retZ_ap0, retZ_ap1, gM_ap, sM_ap, jM_ap, bI_ap, bL_ap, bD_ap, rdM_ap, wrM_ap, thrM_ap, nl_0, nl_1, nl_2, nl_3, nl_4, nl_5, nl_6, nl_7, nl_8, nl_9, nl_10, nl_11, nl_12, nl_13, nl_25, nl_33, nl_35, nl_45, nl_48, nl_49, nl_50, nl_52, nl_53, nl_57, nl_59, nl_60, nl_61, nl_77, nl_94, nl_97, nl_100, nl_101, nl_119, nl_125, nl_126, nl_137, nl_262, nl_387, nl_500, nl_512, nl_637, nl_999, nl_1022, nl_1137, nl_5685, nm_1b, iN_mI, mI_iN, iN_add, iN_mul, iN_sub, iN_div, iN_rem, iN_lt, iN_le, iN_eq, iN_nat, inB_iN, h3, h4, Bool.and_true]
      · rw [decide_eq_true g1, decide_eq_false g2]
        unfold F_X6_meet
        simp (disch := omega) only [↓ite_ap, if_true, if_false, if_pos, if_neg, retM_ap, retZ_ap0, retZ_ap1, gM_ap, sM_ap, jM_ap, bI_ap, bL_ap, bD_ap, rdM_ap, wrM_ap, thrM_ap, nl_0, nl_1, nl_2, nl_3, nl_4, nl_5, nl_6, nl_7, nl_8, nl_9, nl_10, nl_11, nl_12, nl_13, nl_25, nl_33, nl_35, nl_45, nl_48, nl_49, nl_50, nl_52, nl_53, nl_57, nl_59, nl_60, nl_61, nl_77, nl_94, nl_97, nl_100, nl_101, nl_119, nl_125, nl_126, nl_137, nl_262, nl_387, nl_500, nl_512, nl_637, nl_999, nl_1022, nl_1137, nl_5685, nm_1b, iN_mI, mI_iN, iN_add, iN_mul, iN_sub, iN_div, iN_rem, iN_lt, iN_le, iN_eq, iN_nat, inB_iN, h3, h4, Bool.and_false, Bool.false_eq_true]
    · rw [decide_eq_false g1]
      unfold F_X6_meet
      simp (disch := omega) only [↓ite_ap, if_true, if_false, if_pos, if_neg, retM_ap, retZ_ap0, retZ_ap1, gM_ap, sM_ap, jM_ap, bI_ap, bL_ap, bD_ap, rdM_ap, wrM_ap, thrM_ap, nl_0, nl_1, nl_2, nl_3, nl_4, nl_5, nl_6, nl_7, nl_8, nl_9, nl_10, nl_11, nl_12, nl_13, nl_25, nl_33, nl_35, nl_45, nl_48, nl_49, nl_50, nl_52, nl_53, nl_57, nl_59, nl_60, nl_61, nl_77, nl_94, nl_97, nl_100, nl_101, nl_119, nl_125, nl_126, nl_137, nl_262, nl_387, nl_500, nl_512, nl_637, nl_999, nl_1022, nl_1137, nl_5685, nm_1b, iN_mI, mI_iN, iN_add, iN_mul, iN_sub, iN_div, iN_rem, iN_lt, iN_le, iN_eq, iN_nat, inB_iN, h3, h4, Bool.false_and, Bool.false_eq_true]
  · have ei : ifk k = iN 0 := by unfold ifk; rw [if_neg hk]
    have em : meB s k x y = (decide (x % 25 / 5 < y % 25 / 5 + hiS s y) && decide (y % 25 / 5 < x % 25 / 5 + hiS s x)) := by unfold meB; rw [if_neg hk]
    rw [ei, em]
    obtain ⟨X, hX⟩ : ∃ X, X = x % 25 / 5 := ⟨_, rfl⟩
    obtain ⟨Y, hY⟩ : ∃ Y, Y = y % 25 / 5 := ⟨_, rfl⟩
    have hX5 : X < 5 := by omega
    have hY5 : Y < 5 := by omega
    rw [← hX] at f1 ⊢
    rw [← hY] at f2 ⊢
    clear hX hY
    by_cases g1 : X < Y + hiS s y
    · by_cases g2 : Y < X + hiS s x
      · rw [decide_eq_true g1, decide_eq_true g2]
        unfold F_X6_meet
        simp (disch := omega) only [↓ite_ap, if_true, if_false, if_pos, if_neg, retM_ap, retZ_ap0, retZ_ap1, gM_np, sM_ap, jM_np, bI_ap, bL_ap, bD_ap, rdM_ap, wrM_ap, thrM_ap, nl_0, nl_1, nl_2, nl_3, nl_4, nl_5, nl_6, nl_7, nl_8, nl_9, nl_10, nl_11, nl_12, nl_13, nl_25, nl_33, nl_35, nl_45, nl_48, nl_49, nl_50, nl_52, nl_53, nl_57, nl_59, nl_60, nl_61, nl_77, nl_94, nl_97, nl_100, nl_101, nl_119, nl_125, nl_126, nl_137, nl_262, nl_387, nl_500, nl_512, nl_637, nl_999, nl_1022, nl_1137, nl_5685, nm_1b, iN_mI, mI_iN, iN_add, iN_mul, iN_sub, iN_div, iN_rem, iN_lt, iN_le, iN_eq, iN_nat, inB_iN, h1, h2, ↓invM_l f1, ↓invM_l f2, Bool.and_true]
      · rw [decide_eq_true g1, decide_eq_false g2]
        unfold F_X6_meet
        simp (disch := omega) only [↓ite_ap, if_true, if_false, if_pos, if_neg, retM_ap, retZ_ap0, retZ_ap1, gM_np, sM_ap, jM_np, bI_ap, bL_ap, bD_ap, rdM_ap, wrM_ap, thrM_ap, nl_0, nl_1, nl_2, nl_3, nl_4, nl_5, nl_6, nl_7, nl_8, nl_9, nl_10, nl_11, nl_12, nl_13, nl_25, nl_33, nl_35, nl_45, nl_48, nl_49, nl_50, nl_52, nl_53, nl_57, nl_59, nl_60, nl_61, nl_77, nl_94, nl_97, nl_100, nl_101, nl_119, nl_125, nl_126, nl_137, nl_262, nl_387, nl_500, nl_512, nl_637, nl_999, nl_1022, nl_1137, nl_5685, nm_1b, iN_mI, mI_iN, iN_add, iN_mul, iN_sub, iN_div, iN_rem, iN_lt, iN_le, iN_eq, iN_nat, inB_iN, h1, h2, ↓invM_l f1, ↓invM_l f2, Bool.and_false, Bool.false_eq_true]
    · rw [decide_eq_false g1]
      unfold F_X6_meet
      simp (disch := omega) only [↓ite_ap, if_true, if_false, if_pos, if_neg, retM_ap, retZ_ap0, retZ_ap1, gM_np, sM_ap, jM_np, bI_ap, bL_ap, bD_ap, rdM_ap, wrM_ap, thrM_ap, nl_0, nl_1, nl_2, nl_3, nl_4, nl_5, nl_6, nl_7, nl_8, nl_9, nl_10, nl_11, nl_12, nl_13, nl_25, nl_33, nl_35, nl_45, nl_48, nl_49, nl_50, nl_52, nl_53, nl_57, nl_59, nl_60, nl_61, nl_77, nl_94, nl_97, nl_100, nl_101, nl_119, nl_125, nl_126, nl_137, nl_262, nl_387, nl_500, nl_512, nl_637, nl_999, nl_1022, nl_1137, nl_5685, nm_1b, iN_mI, mI_iN, iN_add, iN_mul, iN_sub, iN_div, iN_rem, iN_lt, iN_le, iN_eq, iN_nat, inB_iN, h1, h2, ↓invM_l f1, ↓invM_l f2, Bool.false_and, Bool.false_eq_true]
