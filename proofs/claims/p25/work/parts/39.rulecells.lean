theorem grS_lt {e : Nat → Nat} {t w line : Nat} (he : ∀ q, e q < 1000) : grS e t w line < 1000 := by
  unfold grS
  refine mxN_lt (by omega) (fun i => ?_) _
  by_cases h : plS w i = line
  · rw [if_pos h]; exact he i
  · rw [if_neg h]; omega
theorem bdS_lt {s : Sv} {e : Nat → Nat} {t i : Nat} (he : ∀ q, e q < 1000) : bdS s e t i < 1000 := grS_lt (fun q => he _)
/-- a cell's rules with those of the table within; e: the edges -/
def inS (s : Sv) (e : Nat → Nat) (q i : Nat) : Nat := if (clB s q && decide (kiS s q = 3)) = true then bdS s e (nv (nuS s q)) i else 0
def rlS (s : Sv) (e : Nat → Nat) (q i : Nat) : Nat := max (if ofB s q = true then ruS s (4 * q + i) else 0) (inS s e q i)
theorem f_tableWithin {b q : Nat} {s : Sv} {σ : Mm} (hw : WF s) (hr : Rel b s σ) (hq : isCl s q) : F_X4_tableWithin b (iN q) σ = some (.inl (if kiS s q = 3 then iN (nv (nuS s q)) else mI), σ) := by
  have l1 := isOf_lt hw hq.1
  have r1 := hr.2.2.2.2.1 q hq.1
  have w3 := hw.2.2.2.2.2.1 q hq.1
  have w7 := hw.2.2.2.2.2.2.1 q hq
  have k1 : σ (b + 8) q = iN (kiS s q) := r1.2.1.trans w3.1
  have kb := w3.2.1
  unfold F_X4_tableWithin
  by_cases h3 : kiS s q = 3
  · have k2 : σ (b + 10) q = iN (nv (nuS s q)) := r1.2.2.1.trans (w7.2.2 h3).1
    simp (disch := omega) only [↓ite_ap, if_true, if_false, if_pos, if_neg, retM_ap, retZ_ap0, retZ_ap1, gM_ap, sM_ap, jM_ap, bI_ap, bL_ap, bD_ap, rdM_ap, wrM_ap, thrM_ap, nl_0, nl_1, nl_2, nl_3, nl_4, nl_5, nl_6, nl_7, nl_8, nl_9, nl_10, nl_11, nl_12, nl_13, nl_25, nl_33, nl_35, nl_45, nl_48, nl_49, nl_50, nl_52, nl_53, nl_57, nl_59, nl_60, nl_61, nl_77, nl_94, nl_97, nl_100, nl_101, nl_119, nl_125, nl_126, nl_137, nl_262, nl_387, nl_500, nl_512, nl_637, nl_999, nl_1022, nl_1137, nl_5685, nm_1b, iN_mI, mI_iN, iN_add, iN_mul, iN_sub, iN_div, iN_rem, iN_lt, iN_le, iN_eq, iN_nat, inB_iN, ↓b_at, ↓b_store, ↓b_place1, ↓b_place0, ↓b_tableOf, ↓b_sqEnd, ↓b_isCell, ↓b_linesOf, ↓b_spanOf, ↓b_isSum, ↓b_sizePlace, ↓b_isBetween, ↓b_sizeOf, ↓b_sizeTogether, Bool.false_eq_true, not_true_eq_false, not_false_eq_true, Nat.add_assoc, Nat.reduceAdd, k1, h3, k2]
  · simp (disch := omega) only [↓ite_ap, if_true, if_false, if_pos, if_neg, retM_ap, retZ_ap0, retZ_ap1, gM_ap, sM_ap, jM_ap, bI_ap, bL_ap, bD_ap, rdM_ap, wrM_ap, thrM_ap, nl_0, nl_1, nl_2, nl_3, nl_4, nl_5, nl_6, nl_7, nl_8, nl_9, nl_10, nl_11, nl_12, nl_13, nl_25, nl_33, nl_35, nl_45, nl_48, nl_49, nl_50, nl_52, nl_53, nl_57, nl_59, nl_60, nl_61, nl_77, nl_94, nl_97, nl_100, nl_101, nl_119, nl_125, nl_126, nl_137, nl_262, nl_387, nl_500, nl_512, nl_637, nl_999, nl_1022, nl_1137, nl_5685, nm_1b, iN_mI, mI_iN, iN_add, iN_mul, iN_sub, iN_div, iN_rem, iN_lt, iN_le, iN_eq, iN_nat, inB_iN, ↓b_at, ↓b_store, ↓b_place1, ↓b_place0, ↓b_tableOf, ↓b_sqEnd, ↓b_isCell, ↓b_linesOf, ↓b_spanOf, ↓b_isSum, ↓b_sizePlace, ↓b_isBetween, ↓b_sizeOf, ↓b_sizeTogether, Bool.false_eq_true, not_true_eq_false, not_false_eq_true, Nat.add_assoc, Nat.reduceAdd, k1, h3]
theorem f_ruleCells {b t : Nat} {s : Sv} {σ : Mm} {e : Nat → Nat} (hw : WF s) (hr : Rel (b + 1) s σ) (ht : t < tbS s) (he : ∀ i, e i < 1000) (hE : ∀ q i, t < q / 25 → q / 25 < tbS s → i < 4 → σ (b + 27) (q * 4 + i) = iN (e (q * 4 + i))) (R : Nat → Int32) (hR : ∀ q i, q / 25 = t → i < 4 → R (q * 4 + i) = iN (rlS s e q i)) : F_X1_ruleCells b (iN t) σ = some (.inl (), setS σ (b + 25) (t * 25 * 4) ((t + 1) * 25 * 4) R) := by
  have t5 := hw.1.2.2
  have h := lp (fun n i (a : Mm) => L_X1_ruleCells_5 b (iN t) n (iN i) a) (fun i => setS σ (b + 25) (t * 25 * 4) (i * 4) R) (i0 := t * 25) (N := (t + 1) * 25) (r := some (.inl (), setS σ (b + 25) (t * 25 * 4) ((t + 1) * 25 * 4) R)) (by omega) (by unfold FU; omega) ?_ ?_
  · simp only [setS_0] at h
    unfold F_X1_ruleCells
    simp (disch := omega) only [↓ite_ap, if_true, if_false, if_pos, if_neg, retM_ap, retZ_ap0, retZ_ap1, gM_ap, sM_ap, jM_ap, bI_ap, bL_ap, bD_ap, rdM_ap, wrM_ap, thrM_ap, nl_0, nl_1, nl_2, nl_3, nl_4, nl_5, nl_6, nl_7, nl_8, nl_9, nl_10, nl_11, nl_12, nl_13, nl_25, nl_33, nl_35, nl_45, nl_48, nl_49, nl_50, nl_52, nl_53, nl_57, nl_59, nl_60, nl_61, nl_77, nl_94, nl_97, nl_100, nl_101, nl_119, nl_125, nl_126, nl_137, nl_262, nl_387, nl_500, nl_512, nl_637, nl_999, nl_1022, nl_1137, nl_5685, nm_1b, iN_mI, mI_iN, iN_add, iN_mul, iN_sub, iN_div, iN_rem, iN_lt, iN_le, iN_eq, iN_nat, inB_iN, ↓b_at, ↓b_store, ↓b_place1, ↓b_place0, ↓b_tableOf, ↓b_sqEnd, ↓b_isCell, ↓b_linesOf, ↓b_spanOf, ↓b_isSum, ↓b_sizePlace, ↓b_isBetween, ↓b_sizeOf, ↓b_sizeTogether, Bool.false_eq_true, not_true_eq_false, not_false_eq_true]
    exact h
  · intro n q h1 h2
    have hq : q / 25 = t := by omega
    have i1 : q / 25 < tbS s := by omega
    have inner : ∀ x : Int32, (x = mI ∧ (∀ i, inS s e q i = 0) ∨ ∃ t', x = iN t' ∧ t < t' ∧ t' < tbS s ∧ ∀ i, inS s e q i = bdS s e t' i) → L_X1_ruleCells_40 b (iN q) x FU (iN 0) (fun _ => L_X1_ruleCells_5 b (iN t) n (iN (q + 1))) (setS σ (b + 25) (t * 25 * 4) (q * 4) R) = L_X1_ruleCells_5 b (iN t) n (iN (q + 1)) (setS σ (b + 25) (t * 25 * 4) ((q + 1) * 4) R) := by
      intro x hx
      refine lp (fun n9 j (a : Mm) => L_X1_ruleCells_40 b (iN q) x n9 (iN j) (fun _ => L_X1_ruleCells_5 b (iN t) n (iN (q + 1))) a) (fun j => setS σ (b + 25) (t * 25 * 4) (q * 4 + j) R) (i0 := 0) (N := 4) (by omega) (by unfold FU; omega) ?_ ?_
      · intro n9 j h3 h4
        simp only [L_X1_ruleCells_40]
        obtain ⟨τ, hτ⟩ : ∃ τ, τ = setS σ (b + 25) (t * 25 * 4) (q * 4 + j) R := ⟨_, rfl⟩
        have hrτ : Rel (b + 1) s τ := by rw [hτ]; exact hr.st (by omega)
        have e27 : τ (b + 27) = σ (b + 27) := by rw [hτ, setS_o (by omega)]
        have k1 : τ (b + 15) (q * 4 + j) = iN (if ofB s q = true then ruS s (4 * q + j) else 0) ∧ (if ofB s q = true then ruS s (4 * q + j) else 0) ≤ 3 := by
          rw [Nat.mul_comm q 4]
          by_cases ho : isOf s q
          · have w3 := (hw.2.2.2.2.2.1 q ho).2.2.1 j h4
            rw [if_pos (ofB_iff.mpr ho)]
            exact ⟨((hrτ.2.2.2.2.1 q ho).2.2.2.2.2 j h4).trans w3.1, w3.2⟩
          · rw [ofB_not ho]
            exact ⟨(hrτ.2.2.2.2.2.1 q i1 ho).2 j h4, by simp⟩
        rw [← hτ]
        have hv : R (q * 4 + j) = iN (max (if ofB s q = true then ruS s (4 * q + j) else 0) (inS s e q j)) := hR q j hq h4
        obtain ⟨rr, hrr⟩ : ∃ rr, rr = if ofB s q = true then ruS s (4 * q + j) else 0 := ⟨_, rfl⟩
        rw [← hrr] at k1 hv
        have k2 := k1.1
        have k3 := k1.2
        rcases hx with ⟨hx1, hx2⟩ | ⟨t', hx1, hx2, hx3, hx4⟩
        · rw [hx2] at hv
          simp (disch := omega) only [↓ite_ap, if_true, if_false, if_pos, if_neg, retM_ap, retZ_ap0, retZ_ap1, gM_ap, sM_ap, jM_ap, bI_ap, bL_ap, bD_ap, rdM_ap, wrM_ap, thrM_ap, nl_0, nl_1, nl_2, nl_3, nl_4, nl_5, nl_6, nl_7, nl_8, nl_9, nl_10, nl_11, nl_12, nl_13, nl_25, nl_33, nl_35, nl_45, nl_48, nl_49, nl_50, nl_52, nl_53, nl_57, nl_59, nl_60, nl_61, nl_77, nl_94, nl_97, nl_100, nl_101, nl_119, nl_125, nl_126, nl_137, nl_262, nl_387, nl_500, nl_512, nl_637, nl_999, nl_1022, nl_1137, nl_5685, nm_1b, iN_mI, mI_iN, iN_add, iN_mul, iN_sub, iN_div, iN_rem, iN_lt, iN_le, iN_eq, iN_nat, inB_iN, ↓b_at, ↓b_store, ↓b_place1, ↓b_place0, ↓b_tableOf, ↓b_sqEnd, ↓b_isCell, ↓b_linesOf, ↓b_spanOf, ↓b_isSum, ↓b_sizePlace, ↓b_isBetween, ↓b_sizeOf, ↓b_sizeTogether, Bool.false_eq_true, not_true_eq_false, not_false_eq_true, hx1, Nat.add_assoc, Nat.reduceAdd, k2, iMax_iN, ← hv]
          rw [hτ, setS_up (by omega) rfl, Nat.add_assoc]
        · have f1 := f_borderRule (b := b) (t := t') (side := j) hw hrτ hx3 h4 he (fun q' h5 => by rw [e27]; exact hE q' j (by omega) (by omega) h4)
          have hbd : bdS s e t' j < 1000 := bdS_lt he
          rw [hx4] at hv
          simp (disch := omega) only [↓ite_ap, if_true, if_false, if_pos, if_neg, retM_ap, retZ_ap0, retZ_ap1, gM_ap, sM_ap, jM_ap, bI_ap, bL_ap, bD_ap, rdM_ap, wrM_ap, thrM_ap, nl_0, nl_1, nl_2, nl_3, nl_4, nl_5, nl_6, nl_7, nl_8, nl_9, nl_10, nl_11, nl_12, nl_13, nl_25, nl_33, nl_35, nl_45, nl_48, nl_49, nl_50, nl_52, nl_53, nl_57, nl_59, nl_60, nl_61, nl_77, nl_94, nl_97, nl_100, nl_101, nl_119, nl_125, nl_126, nl_137, nl_262, nl_387, nl_500, nl_512, nl_637, nl_999, nl_1022, nl_1137, nl_5685, nm_1b, iN_mI, mI_iN, iN_add, iN_mul, iN_sub, iN_div, iN_rem, iN_lt, iN_le, iN_eq, iN_nat, inB_iN, ↓b_at, ↓b_store, ↓b_place1, ↓b_place0, ↓b_tableOf, ↓b_sqEnd, ↓b_isCell, ↓b_linesOf, ↓b_spanOf, ↓b_isSum, ↓b_sizePlace, ↓b_isBetween, ↓b_sizeOf, ↓b_sizeTogether, Bool.false_eq_true, not_true_eq_false, not_false_eq_true, hx1, Nat.add_assoc, Nat.reduceAdd, k2, ↓invM_l f1, iMax_iN, ← hv]
          rw [hτ, setS_up (by omega) rfl, Nat.add_assoc]
      · intro n9
        simp only [L_X1_ruleCells_40]
        simp (disch := omega) only [↓ite_ap, if_true, if_false, if_pos, if_neg, retM_ap, retZ_ap0, retZ_ap1, gM_ap, sM_ap, jM_ap, bI_ap, bL_ap, bD_ap, rdM_ap, wrM_ap, thrM_ap, nl_0, nl_1, nl_2, nl_3, nl_4, nl_5, nl_6, nl_7, nl_8, nl_9, nl_10, nl_11, nl_12, nl_13, nl_25, nl_33, nl_35, nl_45, nl_48, nl_49, nl_50, nl_52, nl_53, nl_57, nl_59, nl_60, nl_61, nl_77, nl_94, nl_97, nl_100, nl_101, nl_119, nl_125, nl_126, nl_137, nl_262, nl_387, nl_500, nl_512, nl_637, nl_999, nl_1022, nl_1137, nl_5685, nm_1b, iN_mI, mI_iN, iN_add, iN_mul, iN_sub, iN_div, iN_rem, iN_lt, iN_le, iN_eq, iN_nat, inB_iN, ↓b_at, ↓b_store, ↓b_place1, ↓b_place0, ↓b_tableOf, ↓b_sqEnd, ↓b_isCell, ↓b_linesOf, ↓b_spanOf, ↓b_isSum, ↓b_sizePlace, ↓b_isBetween, ↓b_sizeOf, ↓b_sizeTogether, Bool.false_eq_true, not_true_eq_false, not_false_eq_true, Nat.add_mul, Nat.one_mul]
    simp only [L_X1_ruleCells_5]
    obtain ⟨τ, hτ⟩ : ∃ τ, τ = setS σ (b + 25) (t * 25 * 4) (q * 4) R := ⟨_, rfl⟩
    have hrτ : Rel (b + 1) s τ := by rw [hτ]; exact hr.st (by omega)
    rw [← hτ] at inner ⊢
    by_cases hc : isCl s q
    · have f1 := f_tableWithin hw hrτ hc
      have c1 := clB_iff.mpr hc
      by_cases h3 : kiS s q = 3
      · have w7 := (hw.2.2.2.2.2.2.1 q hc).2.2 h3
        simp (disch := omega) only [↓ite_ap, if_true, if_false, if_pos, if_neg, retM_ap, retZ_ap0, retZ_ap1, gM_ap, sM_ap, jM_ap, bI_ap, bL_ap, bD_ap, rdM_ap, wrM_ap, thrM_ap, nl_0, nl_1, nl_2, nl_3, nl_4, nl_5, nl_6, nl_7, nl_8, nl_9, nl_10, nl_11, nl_12, nl_13, nl_25, nl_33, nl_35, nl_45, nl_48, nl_49, nl_50, nl_52, nl_53, nl_57, nl_59, nl_60, nl_61, nl_77, nl_94, nl_97, nl_100, nl_101, nl_119, nl_125, nl_126, nl_137, nl_262, nl_387, nl_500, nl_512, nl_637, nl_999, nl_1022, nl_1137, nl_5685, nm_1b, iN_mI, mI_iN, iN_add, iN_mul, iN_sub, iN_div, iN_rem, iN_lt, iN_le, iN_eq, iN_nat, inB_iN, ↓b_at, ↓b_store, ↓b_place1, ↓b_place0, ↓b_tableOf, ↓b_sqEnd, ↓b_isCell, ↓b_linesOf, ↓b_spanOf, ↓b_isSum, ↓b_sizePlace, ↓b_isBetween, ↓b_sizeOf, ↓b_sizeTogether, Bool.false_eq_true, not_true_eq_false, not_false_eq_true, rel_isCell hw hrτ, hc, ↓invM_l f1, h3, if_true]
        exact inner _ (Or.inr ⟨_, rfl, by omega, w7.2.2, fun i => by unfold inS; simp only [c1, h3, decide_true, Bool.and_true, if_true]⟩)
      · simp (disch := omega) only [↓ite_ap, if_true, if_false, if_pos, if_neg, retM_ap, retZ_ap0, retZ_ap1, gM_ap, sM_ap, jM_ap, bI_ap, bL_ap, bD_ap, rdM_ap, wrM_ap, thrM_ap, nl_0, nl_1, nl_2, nl_3, nl_4, nl_5, nl_6, nl_7, nl_8, nl_9, nl_10, nl_11, nl_12, nl_13, nl_25, nl_33, nl_35, nl_45, nl_48, nl_49, nl_50, nl_52, nl_53, nl_57, nl_59, nl_60, nl_61, nl_77, nl_94, nl_97, nl_100, nl_101, nl_119, nl_125, nl_126, nl_137, nl_262, nl_387, nl_500, nl_512, nl_637, nl_999, nl_1022, nl_1137, nl_5685, nm_1b, iN_mI, mI_iN, iN_add, iN_mul, iN_sub, iN_div, iN_rem, iN_lt, iN_le, iN_eq, iN_nat, inB_iN, ↓b_at, ↓b_store, ↓b_place1, ↓b_place0, ↓b_tableOf, ↓b_sqEnd, ↓b_isCell, ↓b_linesOf, ↓b_spanOf, ↓b_isSum, ↓b_sizePlace, ↓b_isBetween, ↓b_sizeOf, ↓b_sizeTogether, Bool.false_eq_true, not_true_eq_false, not_false_eq_true, rel_isCell hw hrτ, hc, ↓invM_l f1, h3, if_false]
        exact inner _ (Or.inl ⟨rfl, fun i => by unfold inS; simp only [c1, h3, decide_false, Bool.and_false, Bool.false_eq_true, if_false]⟩)
    · have c1 := clB_not hc
      simp (disch := omega) only [↓ite_ap, if_true, if_false, if_pos, if_neg, retM_ap, retZ_ap0, retZ_ap1, gM_ap, sM_ap, jM_ap, bI_ap, bL_ap, bD_ap, rdM_ap, wrM_ap, thrM_ap, nl_0, nl_1, nl_2, nl_3, nl_4, nl_5, nl_6, nl_7, nl_8, nl_9, nl_10, nl_11, nl_12, nl_13, nl_25, nl_33, nl_35, nl_45, nl_48, nl_49, nl_50, nl_52, nl_53, nl_57, nl_59, nl_60, nl_61, nl_77, nl_94, nl_97, nl_100, nl_101, nl_119, nl_125, nl_126, nl_137, nl_262, nl_387, nl_500, nl_512, nl_637, nl_999, nl_1022, nl_1137, nl_5685, nm_1b, iN_mI, mI_iN, iN_add, iN_mul, iN_sub, iN_div, iN_rem, iN_lt, iN_le, iN_eq, iN_nat, inB_iN, ↓b_at, ↓b_store, ↓b_place1, ↓b_place0, ↓b_tableOf, ↓b_sqEnd, ↓b_isCell, ↓b_linesOf, ↓b_spanOf, ↓b_isSum, ↓b_sizePlace, ↓b_isBetween, ↓b_sizeOf, ↓b_sizeTogether, Bool.false_eq_true, not_true_eq_false, not_false_eq_true, rel_isCell hw hrτ, hc]
      exact inner _ (Or.inl ⟨rfl, fun i => by unfold inS; simp only [c1, Bool.false_and, Bool.false_eq_true, if_false]⟩)
  · intro n
    simp only [L_X1_ruleCells_5]
    simp (disch := omega) only [↓ite_ap, if_true, if_false, if_pos, if_neg, retM_ap, retZ_ap0, retZ_ap1, gM_ap, sM_ap, jM_ap, bI_ap, bL_ap, bD_ap, rdM_ap, wrM_ap, thrM_ap, nl_0, nl_1, nl_2, nl_3, nl_4, nl_5, nl_6, nl_7, nl_8, nl_9, nl_10, nl_11, nl_12, nl_13, nl_25, nl_33, nl_35, nl_45, nl_48, nl_49, nl_50, nl_52, nl_53, nl_57, nl_59, nl_60, nl_61, nl_77, nl_94, nl_97, nl_100, nl_101, nl_119, nl_125, nl_126, nl_137, nl_262, nl_387, nl_500, nl_512, nl_637, nl_999, nl_1022, nl_1137, nl_5685, nm_1b, iN_mI, mI_iN, iN_add, iN_mul, iN_sub, iN_div, iN_rem, iN_lt, iN_le, iN_eq, iN_nat, inB_iN, ↓b_at, ↓b_store, ↓b_place1, ↓b_place0, ↓b_tableOf, ↓b_sqEnd, ↓b_isCell, ↓b_linesOf, ↓b_spanOf, ↓b_isSum, ↓b_sizePlace, ↓b_isBetween, ↓b_sizeOf, ↓b_sizeTogether, Bool.false_eq_true, not_true_eq_false, not_false_eq_true]

