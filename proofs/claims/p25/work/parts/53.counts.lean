/-! COUNTS -/
theorem f_squaresEnd {b : Nat} {s : Sv} {σ : Mm} (hw : WF s) (hr : Rel b s σ) : F_X4_squaresEnd b σ = some (.inl (iN (tbS s * 25)), σ) := by
  have e1 : σ b 1 = iN (tbS s) := hr.1.trans hw.1.1
  unfold F_X4_squaresEnd
  simp (disch := omega) only [↓ite_ap, if_true, if_false, if_pos, if_neg, retM_ap, retZ_ap0, retZ_ap1, gM_ap, sM_ap, jM_ap, bI_ap, bL_ap, bD_ap, rdM_ap, wrM_ap, thrM_ap, nl_0, nl_1, nl_2, nl_3, nl_4, nl_5, nl_6, nl_7, nl_8, nl_9, nl_10, nl_11, nl_12, nl_13, nl_25, nl_33, nl_35, nl_45, nl_48, nl_49, nl_50, nl_52, nl_53, nl_57, nl_59, nl_60, nl_61, nl_77, nl_94, nl_97, nl_100, nl_101, nl_119, nl_125, nl_126, nl_137, nl_262, nl_387, nl_500, nl_512, nl_637, nl_999, nl_1022, nl_1137, nl_5685, nm_1b, iN_mI, mI_iN, iN_add, iN_mul, iN_sub, iN_div, iN_rem, iN_lt, iN_le, iN_eq, iN_nat, inB_iN, e1]
theorem b_squaresEnd {α : Type} {b : Nat} {s : Sv} {σ : Mm} {K : Int32 → Dm α} (hw : WF s) (hr : Rel b s σ) : invM (F_X4_squaresEnd b) K σ = K (iN (tbS s * 25)) σ := invM_l (f_squaresEnd hw hr)
theorem smN_ext {g : Nat → Nat} {lo : Nat} : ∀ {hi hi' : Nat}, lo ≤ hi → hi ≤ hi' → (∀ j, hi ≤ j → j < hi' → g j = 0) → smN g lo hi' = smN g lo hi
  | hi, 0, h0, h, _ => by
    obtain rfl : hi = 0 := by omega
    rfl
  | hi, n + 1, h0, h, hz => by
    by_cases e : hi = n + 1
    · subst e
      rfl
    · rw [smN_s (by omega), hz n (by omega) (by omega), Nat.add_zero, smN_ext h0 (by omega) (fun j a c => hz j a (by omega))]
def cellsS (s : Sv) : Nat := smN (fun q => if clB s q = true then 1 else 0) 0 125
def kindsS (s : Sv) (k : Nat) : Nat := smN (fun q => if (clB s q && decide (kiS s q = k)) = true then 1 else 0) 0 125
theorem f_countCells {b : Nat} {s : Sv} {σ : Mm} (hw : WF s) (hr : Rel b s σ) : F_X4_countCells b σ = some (.inl (iN (cellsS s)), σ) := by
  have t5 := hw.1.2.2
  have e0 : cellsS s = smN (fun q => if clB s q = true then 1 else 0) 0 (tbS s * 25) := smN_ext (by omega) (by omega) (fun j h1 h2 => if_neg (fun g => by have := (clB_iff.mp g).1.1; omega))
  rw [e0]
  refine lp (fun n i (a : Int32) => L_X4_countCells_4 b n a (iN i) σ) (fun i => iN (smN (fun q => if clB s q = true then 1 else 0) 0 i)) (i0 := 0) (N := tbS s * 25) (by omega) (by unfold FU; omega) ?_ ?_
  · intro n i h1 h2
    have hq : i / 25 < tbS s := by omega
    simp only [L_X4_countCells_4]
    rw [smN_s h1]
    by_cases hc : isCl s i
    · have c1 := clB_iff.mpr hc
      simp (disch := omega) only [↓ite_ap, if_true, if_false, if_pos, if_neg, retM_ap, retZ_ap0, retZ_ap1, gM_ap, sM_ap, jM_ap, bI_ap, bL_ap, bD_ap, rdM_ap, wrM_ap, thrM_ap, nl_0, nl_1, nl_2, nl_3, nl_4, nl_5, nl_6, nl_7, nl_8, nl_9, nl_10, nl_11, nl_12, nl_13, nl_25, nl_33, nl_35, nl_45, nl_48, nl_49, nl_50, nl_52, nl_53, nl_57, nl_59, nl_60, nl_61, nl_77, nl_94, nl_97, nl_100, nl_101, nl_119, nl_125, nl_126, nl_137, nl_262, nl_387, nl_500, nl_512, nl_637, nl_999, nl_1022, nl_1137, nl_5685, nm_1b, iN_mI, mI_iN, iN_add, iN_mul, iN_sub, iN_div, iN_rem, iN_lt, iN_le, iN_eq, iN_nat, inB_iN, ↓b_at, ↓b_store, ↓b_place1, ↓b_place0, ↓b_tableOf, ↓b_sqEnd, ↓b_isCell, ↓b_linesOf, ↓b_spanOf, ↓b_isSum, ↓b_sizePlace, ↓b_isBetween, ↓b_sizeOf, ↓b_sizeTogether, Bool.false_eq_true, not_true_eq_false, not_false_eq_true, ↓b_squaresEnd hw hr, rel_isCell hw hr, hc, c1]
    · have c1 := clB_not hc
      simp (disch := omega) only [↓ite_ap, if_true, if_false, if_pos, if_neg, retM_ap, retZ_ap0, retZ_ap1, gM_ap, sM_ap, jM_ap, bI_ap, bL_ap, bD_ap, rdM_ap, wrM_ap, thrM_ap, nl_0, nl_1, nl_2, nl_3, nl_4, nl_5, nl_6, nl_7, nl_8, nl_9, nl_10, nl_11, nl_12, nl_13, nl_25, nl_33, nl_35, nl_45, nl_48, nl_49, nl_50, nl_52, nl_53, nl_57, nl_59, nl_60, nl_61, nl_77, nl_94, nl_97, nl_100, nl_101, nl_119, nl_125, nl_126, nl_137, nl_262, nl_387, nl_500, nl_512, nl_637, nl_999, nl_1022, nl_1137, nl_5685, nm_1b, iN_mI, mI_iN, iN_add, iN_mul, iN_sub, iN_div, iN_rem, iN_lt, iN_le, iN_eq, iN_nat, inB_iN, ↓b_at, ↓b_store, ↓b_place1, ↓b_place0, ↓b_tableOf, ↓b_sqEnd, ↓b_isCell, ↓b_linesOf, ↓b_spanOf, ↓b_isSum, ↓b_sizePlace, ↓b_isBetween, ↓b_sizeOf, ↓b_sizeTogether, Bool.false_eq_true, not_true_eq_false, not_false_eq_true, ↓b_squaresEnd hw hr, rel_isCell hw hr, hc, c1]
  · intro n
    simp only [L_X4_countCells_4]
    simp (disch := omega) only [↓ite_ap, if_true, if_false, if_pos, if_neg, retM_ap, retZ_ap0, retZ_ap1, gM_ap, sM_ap, jM_ap, bI_ap, bL_ap, bD_ap, rdM_ap, wrM_ap, thrM_ap, nl_0, nl_1, nl_2, nl_3, nl_4, nl_5, nl_6, nl_7, nl_8, nl_9, nl_10, nl_11, nl_12, nl_13, nl_25, nl_33, nl_35, nl_45, nl_48, nl_49, nl_50, nl_52, nl_53, nl_57, nl_59, nl_60, nl_61, nl_77, nl_94, nl_97, nl_100, nl_101, nl_119, nl_125, nl_126, nl_137, nl_262, nl_387, nl_500, nl_512, nl_637, nl_999, nl_1022, nl_1137, nl_5685, nm_1b, iN_mI, mI_iN, iN_add, iN_mul, iN_sub, iN_div, iN_rem, iN_lt, iN_le, iN_eq, iN_nat, inB_iN, ↓b_at, ↓b_store, ↓b_place1, ↓b_place0, ↓b_tableOf, ↓b_sqEnd, ↓b_isCell, ↓b_linesOf, ↓b_spanOf, ↓b_isSum, ↓b_sizePlace, ↓b_isBetween, ↓b_sizeOf, ↓b_sizeTogether, Bool.false_eq_true, not_true_eq_false, not_false_eq_true, ↓b_squaresEnd hw hr]
theorem f_countKind {b k : Nat} {s : Sv} {σ : Mm} (hw : WF s) (hr : Rel b s σ) (hk : k < 1000) : F_X4_countKind b (iN k) σ = some (.inl (iN (kindsS s k)), σ) := by
  have t5 := hw.1.2.2
  have e0 : kindsS s k = smN (fun q => if (clB s q && decide (kiS s q = k)) = true then 1 else 0) 0 (tbS s * 25) := smN_ext (by omega) (by omega) (fun j h1 h2 => if_neg (fun g => by rw [Bool.and_eq_true] at g; have := (clB_iff.mp g.1).1.1; omega))
  rw [e0]
  refine lp (fun n i (a : Int32) => L_X4_countKind_4 b (iN k) n a (iN i) σ) (fun i => iN (smN (fun q => if (clB s q && decide (kiS s q = k)) = true then 1 else 0) 0 i)) (i0 := 0) (N := tbS s * 25) (by omega) (by unfold FU; omega) ?_ ?_
  · intro n i h1 h2
    have hq : i / 25 < tbS s := by omega
    simp only [L_X4_countKind_4]
    rw [smN_s h1]
    by_cases hc : isCl s i
    · have c1 := clB_iff.mpr hc
      have r1 := hr.2.2.2.2.1 i hc.1
      have w3 := hw.2.2.2.2.2.1 i hc.1
      have kb := w3.2.1
      have k1 : σ (b + 8) i = iN (kiS s i) := r1.2.1.trans w3.1
      by_cases h3 : kiS s i = k
      · have c2 : (clB s i && decide (kiS s i = k)) = true := by rw [c1, decide_eq_true h3]; rfl
        simp (disch := omega) only [↓ite_ap, if_true, if_false, if_pos, if_neg, retM_ap, retZ_ap0, retZ_ap1, gM_ap, sM_ap, jM_ap, bI_ap, bL_ap, bD_ap, rdM_ap, wrM_ap, thrM_ap, nl_0, nl_1, nl_2, nl_3, nl_4, nl_5, nl_6, nl_7, nl_8, nl_9, nl_10, nl_11, nl_12, nl_13, nl_25, nl_33, nl_35, nl_45, nl_48, nl_49, nl_50, nl_52, nl_53, nl_57, nl_59, nl_60, nl_61, nl_77, nl_94, nl_97, nl_100, nl_101, nl_119, nl_125, nl_126, nl_137, nl_262, nl_387, nl_500, nl_512, nl_637, nl_999, nl_1022, nl_1137, nl_5685, nm_1b, iN_mI, mI_iN, iN_add, iN_mul, iN_sub, iN_div, iN_rem, iN_lt, iN_le, iN_eq, iN_nat, inB_iN, ↓b_at, ↓b_store, ↓b_place1, ↓b_place0, ↓b_tableOf, ↓b_sqEnd, ↓b_isCell, ↓b_linesOf, ↓b_spanOf, ↓b_isSum, ↓b_sizePlace, ↓b_isBetween, ↓b_sizeOf, ↓b_sizeTogether, Bool.false_eq_true, not_true_eq_false, not_false_eq_true, ↓b_squaresEnd hw hr, rel_isCell hw hr, hc, c2, Nat.add_assoc, Nat.reduceAdd, k1]
      · have c2 : (clB s i && decide (kiS s i = k)) = false := by rw [c1, decide_eq_false h3]; rfl
        simp (disch := omega) only [↓ite_ap, if_true, if_false, if_pos, if_neg, retM_ap, retZ_ap0, retZ_ap1, gM_ap, sM_ap, jM_ap, bI_ap, bL_ap, bD_ap, rdM_ap, wrM_ap, thrM_ap, nl_0, nl_1, nl_2, nl_3, nl_4, nl_5, nl_6, nl_7, nl_8, nl_9, nl_10, nl_11, nl_12, nl_13, nl_25, nl_33, nl_35, nl_45, nl_48, nl_49, nl_50, nl_52, nl_53, nl_57, nl_59, nl_60, nl_61, nl_77, nl_94, nl_97, nl_100, nl_101, nl_119, nl_125, nl_126, nl_137, nl_262, nl_387, nl_500, nl_512, nl_637, nl_999, nl_1022, nl_1137, nl_5685, nm_1b, iN_mI, mI_iN, iN_add, iN_mul, iN_sub, iN_div, iN_rem, iN_lt, iN_le, iN_eq, iN_nat, inB_iN, ↓b_at, ↓b_store, ↓b_place1, ↓b_place0, ↓b_tableOf, ↓b_sqEnd, ↓b_isCell, ↓b_linesOf, ↓b_spanOf, ↓b_isSum, ↓b_sizePlace, ↓b_isBetween, ↓b_sizeOf, ↓b_sizeTogether, Bool.false_eq_true, not_true_eq_false, not_false_eq_true, ↓b_squaresEnd hw hr, rel_isCell hw hr, hc, c2, Nat.add_assoc, Nat.reduceAdd, k1]
    · have c1 := clB_not hc
      simp (disch := omega) only [↓ite_ap, if_true, if_false, if_pos, if_neg, retM_ap, retZ_ap0, retZ_ap1, gM_ap, sM_ap, jM_ap, bI_ap, bL_ap, bD_ap, rdM_ap, wrM_ap, thrM_ap, nl_0, nl_1, nl_2, nl_3, nl_4, nl_5, nl_6, nl_7, nl_8, nl_9, nl_10, nl_11, nl_12, nl_13, nl_25, nl_33, nl_35, nl_45, nl_48, nl_49, nl_50, nl_52, nl_53, nl_57, nl_59, nl_60, nl_61, nl_77, nl_94, nl_97, nl_100, nl_101, nl_119, nl_125, nl_126, nl_137, nl_262, nl_387, nl_500, nl_512, nl_637, nl_999, nl_1022, nl_1137, nl_5685, nm_1b, iN_mI, mI_iN, iN_add, iN_mul, iN_sub, iN_div, iN_rem, iN_lt, iN_le, iN_eq, iN_nat, inB_iN, ↓b_at, ↓b_store, ↓b_place1, ↓b_place0, ↓b_tableOf, ↓b_sqEnd, ↓b_isCell, ↓b_linesOf, ↓b_spanOf, ↓b_isSum, ↓b_sizePlace, ↓b_isBetween, ↓b_sizeOf, ↓b_sizeTogether, Bool.false_eq_true, not_true_eq_false, not_false_eq_true, ↓b_squaresEnd hw hr, rel_isCell hw hr, hc, c1, Bool.false_and]
  · intro n
    simp only [L_X4_countKind_4]
    simp (disch := omega) only [↓ite_ap, if_true, if_false, if_pos, if_neg, retM_ap, retZ_ap0, retZ_ap1, gM_ap, sM_ap, jM_ap, bI_ap, bL_ap, bD_ap, rdM_ap, wrM_ap, thrM_ap, nl_0, nl_1, nl_2, nl_3, nl_4, nl_5, nl_6, nl_7, nl_8, nl_9, nl_10, nl_11, nl_12, nl_13, nl_25, nl_33, nl_35, nl_45, nl_48, nl_49, nl_50, nl_52, nl_53, nl_57, nl_59, nl_60, nl_61, nl_77, nl_94, nl_97, nl_100, nl_101, nl_119, nl_125, nl_126, nl_137, nl_262, nl_387, nl_500, nl_512, nl_637, nl_999, nl_1022, nl_1137, nl_5685, nm_1b, iN_mI, mI_iN, iN_add, iN_mul, iN_sub, iN_div, iN_rem, iN_lt, iN_le, iN_eq, iN_nat, inB_iN, ↓b_at, ↓b_store, ↓b_place1, ↓b_place0, ↓b_tableOf, ↓b_sqEnd, ↓b_isCell, ↓b_linesOf, ↓b_spanOf, ↓b_isSum, ↓b_sizePlace, ↓b_isBetween, ↓b_sizeOf, ↓b_sizeTogether, Bool.false_eq_true, not_true_eq_false, not_false_eq_true, ↓b_squaresEnd hw hr]
def squaresS (s : Sv) : Nat := smN (fun t => if t < tbS s then roS s t * coS s t else 0) 0 5
theorem f_countSquares {b : Nat} {s : Sv} {σ : Mm} (hw : WF s) (hr : Rel b s σ) : F_X4_countSquares b σ = some (.inl (iN (squaresS s)), σ) := by
  have t5 := hw.1.2.2
  have e0 : squaresS s = smN (fun t => if t < tbS s then roS s t * coS s t else 0) 0 (tbS s) := smN_ext (by omega) (by omega) (fun j h1 h2 => if_neg (by omega))
  have e1 : σ b 1 = iN (tbS s) := hr.1.trans hw.1.1
  rw [e0]
  refine lp (fun n i (a : Int32) => L_X4_countSquares_4 b n a (iN i) σ) (fun i => iN (smN (fun t => if t < tbS s then roS s t * coS s t else 0) 0 i)) (i0 := 0) (N := tbS s) (by omega) (by unfold FU; omega) ?_ ?_
  · intro n i h1 h2
    simp only [L_X4_countSquares_4]
    have l1 := rel_lines hw hr h2 (w := 1) (by omega)
    have l0 := rel_lines hw hr h2 (w := 0) (by omega)
    have l1' : σ (b + 2) (2 * i + 1) = iN (roS s i) := l1.1
    have l0' : σ (b + 2) (2 * i) = iN (coS s i) := l0.1
    rw [smN_s h1, if_pos h2]
    simp (disch := omega) only [↓ite_ap, if_true, if_false, if_pos, if_neg, retM_ap, retZ_ap0, retZ_ap1, gM_ap, sM_ap, jM_ap, bI_ap, bL_ap, bD_ap, rdM_ap, wrM_ap, thrM_ap, nl_0, nl_1, nl_2, nl_3, nl_4, nl_5, nl_6, nl_7, nl_8, nl_9, nl_10, nl_11, nl_12, nl_13, nl_25, nl_33, nl_35, nl_45, nl_48, nl_49, nl_50, nl_52, nl_53, nl_57, nl_59, nl_60, nl_61, nl_77, nl_94, nl_97, nl_100, nl_101, nl_119, nl_125, nl_126, nl_137, nl_262, nl_387, nl_500, nl_512, nl_637, nl_999, nl_1022, nl_1137, nl_5685, nm_1b, iN_mI, mI_iN, iN_add, iN_mul, iN_sub, iN_div, iN_rem, iN_lt, iN_le, iN_eq, iN_nat, inB_iN, ↓b_at, ↓b_store, ↓b_place1, ↓b_place0, ↓b_tableOf, ↓b_sqEnd, ↓b_isCell, ↓b_linesOf, ↓b_spanOf, ↓b_isSum, ↓b_sizePlace, ↓b_isBetween, ↓b_sizeOf, ↓b_sizeTogether, Bool.false_eq_true, not_true_eq_false, not_false_eq_true, e1, Nat.add_zero, l1', l0']
  · intro n
    simp only [L_X4_countSquares_4]
    simp (disch := omega) only [↓ite_ap, if_true, if_false, if_pos, if_neg, retM_ap, retZ_ap0, retZ_ap1, gM_ap, sM_ap, jM_ap, bI_ap, bL_ap, bD_ap, rdM_ap, wrM_ap, thrM_ap, nl_0, nl_1, nl_2, nl_3, nl_4, nl_5, nl_6, nl_7, nl_8, nl_9, nl_10, nl_11, nl_12, nl_13, nl_25, nl_33, nl_35, nl_45, nl_48, nl_49, nl_50, nl_52, nl_53, nl_57, nl_59, nl_60, nl_61, nl_77, nl_94, nl_97, nl_100, nl_101, nl_119, nl_125, nl_126, nl_137, nl_262, nl_387, nl_500, nl_512, nl_637, nl_999, nl_1022, nl_1137, nl_5685, nm_1b, iN_mI, mI_iN, iN_add, iN_mul, iN_sub, iN_div, iN_rem, iN_lt, iN_le, iN_eq, iN_nat, inB_iN, ↓b_at, ↓b_store, ↓b_place1, ↓b_place0, ↓b_tableOf, ↓b_sqEnd, ↓b_isCell, ↓b_linesOf, ↓b_spanOf, ↓b_isSum, ↓b_sizePlace, ↓b_isBetween, ↓b_sizeOf, ↓b_sizeTogether, Bool.false_eq_true, not_true_eq_false, not_false_eq_true, e1]

