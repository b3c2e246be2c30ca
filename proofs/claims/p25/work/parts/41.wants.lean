/-- the memory with the places c of the object k as F says -/
def setB (σ : Mm) (k : Nat) (c : Nat → Bool) (F : Nat → Int32) : Mm := fun k' j => if (decide (k' = k) && c j) = true then F j else σ k' j
theorem setB_o {σ : Mm} {k k' : Nat} {c : Nat → Bool} {F : Nat → Int32} (h : k' ≠ k) : setB σ k c F k' = σ k' := by
  funext j
  unfold setB
  simp only [h, decide_false, Bool.false_and, Bool.false_eq_true, if_false]
theorem setB_in {σ : Mm} {k j : Nat} {c : Nat → Bool} {F : Nat → Int32} (h : c j = true) : setB σ k c F k j = F j := by
  unfold setB
  simp only [h, decide_true, Bool.and_true, if_true]
theorem setB_out {σ : Mm} {k j : Nat} {c : Nat → Bool} {F : Nat → Int32} (h : c j = false) : setB σ k c F k j = σ k j := by
  unfold setB
  simp only [h, Bool.and_false, Bool.false_eq_true, if_false]
theorem setB_no {σ : Mm} {k : Nat} {c : Nat → Bool} {F : Nat → Int32} (h : ∀ j, c j = false) : setB σ k c F = σ := by
  funext k' j
  unfold setB
  simp only [h, Bool.and_false, Bool.false_eq_true, if_false]
theorem setB_up {σ : Mm} {k i : Nat} {c c' : Nat → Bool} {F : Nat → Int32} {v : Int32} (hv : v = F i) (hc : ∀ j, c' j = (c j || decide (j = i))) : upM (setB σ k c F) k i v = setB σ k c' F := by
  subst hv
  funext k' j
  unfold setB upM upd
  rw [hc j]
  by_cases h1 : k' = k
  · by_cases h2 : j = i
    · simp [h1, h2]
    · simp [h1, h2]
  · simp [h1]
theorem Rel.sb {b k : Nat} {c : Nat → Bool} {F : Nat → Int32} {s : Sv} {σ : Mm} (hr : Rel b s σ) (h : k < b ∨ b + 14 < k) : Rel b s (setB σ k c F) := hr.fr (fun k' h1 h2 => setB_o (by omega))
/-- the width (w = 0) or height (w = 1) of what is in a cell; sh: what is shown, ts: the tables' widths and heights -/
def waS (s : Sv) (sh : Nat → Int32) (ts : Nat → Nat) (q w : Nat) : Nat := if kiS s q = 0 then 0 else if kiS s q = 3 then ts (2 * nv (nuS s q) + w) else if w = 1 then 1 else if kiS s q = 2 then nv (nuS s q) else sgnI (sh q)
theorem f_wantOf {b q w : Nat} {s : Sv} {σ : Mm} {ts : Nat → Nat} (hw : WF s) (hr : Rel (b + 1) s σ) (hq : isCl s q) (h2 : w < 2) (hts : ∀ t, q / 25 < t → t < tbS s → σ (b + 33) (2 * t + w) = iN (ts (2 * t + w))) : F_X1_wantOf b (iN q) (iN w) σ = some (.inl (iN (waS s (σ (b + 19)) ts q w)), σ) := by
  have l1 := isOf_lt hw hq.1
  have t5 := hw.1.2.2
  have r1 := hr.2.2.2.2.1 q hq.1
  have w3 := hw.2.2.2.2.2.1 q hq.1
  have w7 := hw.2.2.2.2.2.2.1 q hq
  have k1 : σ (b + 9) q = iN (kiS s q) := r1.2.1.trans w3.1
  have kb := w3.2.1
  have k2 : σ (b + 11) q = nuS s q := r1.2.2.1
  have hw2 : w = 0 ∨ w = 1 := by omega
  unfold F_X1_wantOf waS
  have hk : kiS s q = 0 ∨ kiS s q = 1 ∨ kiS s q = 2 ∨ kiS s q = 3 ∨ 4 ≤ kiS s q := by omega
  rcases hk with h | h | h | h | h
  · simp (disch := omega) only [↓ite_ap, if_true, if_false, if_pos, if_neg, retM_ap, retZ_ap0, retZ_ap1, gM_ap, sM_ap, jM_ap, bI_ap, bL_ap, bD_ap, rdM_ap, wrM_ap, thrM_ap, nl_0, nl_1, nl_2, nl_3, nl_4, nl_5, nl_6, nl_7, nl_8, nl_9, nl_10, nl_11, nl_12, nl_13, nl_25, nl_33, nl_35, nl_45, nl_48, nl_49, nl_50, nl_52, nl_53, nl_57, nl_59, nl_60, nl_61, nl_77, nl_94, nl_97, nl_100, nl_101, nl_119, nl_125, nl_126, nl_137, nl_262, nl_387, nl_500, nl_512, nl_637, nl_999, nl_1022, nl_1137, nl_5685, nm_1b, iN_mI, mI_iN, iN_add, iN_mul, iN_sub, iN_div, iN_rem, iN_lt, iN_le, iN_eq, iN_nat, inB_iN, ↓b_at, ↓b_store, ↓b_place1, ↓b_place0, ↓b_tableOf, ↓b_sqEnd, ↓b_isCell, ↓b_linesOf, ↓b_spanOf, ↓b_isSum, ↓b_sizePlace, ↓b_isBetween, ↓b_sizeOf, ↓b_sizeTogether, Bool.false_eq_true, not_true_eq_false, not_false_eq_true, Nat.add_assoc, Nat.reduceAdd, k1, k2, h]
  · rcases hw2 with h0 | h0
    · simp (disch := omega) only [↓ite_ap, if_true, if_false, if_pos, if_neg, retM_ap, retZ_ap0, retZ_ap1, gM_ap, sM_ap, jM_ap, bI_ap, bL_ap, bD_ap, rdM_ap, wrM_ap, thrM_ap, nl_0, nl_1, nl_2, nl_3, nl_4, nl_5, nl_6, nl_7, nl_8, nl_9, nl_10, nl_11, nl_12, nl_13, nl_25, nl_33, nl_35, nl_45, nl_48, nl_49, nl_50, nl_52, nl_53, nl_57, nl_59, nl_60, nl_61, nl_77, nl_94, nl_97, nl_100, nl_101, nl_119, nl_125, nl_126, nl_137, nl_262, nl_387, nl_500, nl_512, nl_637, nl_999, nl_1022, nl_1137, nl_5685, nm_1b, iN_mI, mI_iN, iN_add, iN_mul, iN_sub, iN_div, iN_rem, iN_lt, iN_le, iN_eq, iN_nat, inB_iN, ↓b_at, ↓b_store, ↓b_place1, ↓b_place0, ↓b_tableOf, ↓b_sqEnd, ↓b_isCell, ↓b_linesOf, ↓b_spanOf, ↓b_isSum, ↓b_sizePlace, ↓b_isBetween, ↓b_sizeOf, ↓b_sizeTogether, Bool.false_eq_true, not_true_eq_false, not_false_eq_true, ↓b_signsOf, Nat.add_assoc, Nat.reduceAdd, k1, k2, h, h0]
    · simp (disch := omega) only [↓ite_ap, if_true, if_false, if_pos, if_neg, retM_ap, retZ_ap0, retZ_ap1, gM_ap, sM_ap, jM_ap, bI_ap, bL_ap, bD_ap, rdM_ap, wrM_ap, thrM_ap, nl_0, nl_1, nl_2, nl_3, nl_4, nl_5, nl_6, nl_7, nl_8, nl_9, nl_10, nl_11, nl_12, nl_13, nl_25, nl_33, nl_35, nl_45, nl_48, nl_49, nl_50, nl_52, nl_53, nl_57, nl_59, nl_60, nl_61, nl_77, nl_94, nl_97, nl_100, nl_101, nl_119, nl_125, nl_126, nl_137, nl_262, nl_387, nl_500, nl_512, nl_637, nl_999, nl_1022, nl_1137, nl_5685, nm_1b, iN_mI, mI_iN, iN_add, iN_mul, iN_sub, iN_div, iN_rem, iN_lt, iN_le, iN_eq, iN_nat, inB_iN, ↓b_at, ↓b_store, ↓b_place1, ↓b_place0, ↓b_tableOf, ↓b_sqEnd, ↓b_isCell, ↓b_linesOf, ↓b_spanOf, ↓b_isSum, ↓b_sizePlace, ↓b_isBetween, ↓b_sizeOf, ↓b_sizeTogether, Bool.false_eq_true, not_true_eq_false, not_false_eq_true, ↓b_signsOf, Nat.add_assoc, Nat.reduceAdd, k1, k2, h, h0]
  · obtain ⟨z, hz, hz1, hz2⟩ := w7.2.1 h
    have hnz : nv (nuS s q) = z := by rw [hz, nv_iN (by omega)]
    rcases hw2 with h0 | h0
    · simp (disch := omega) only [↓ite_ap, if_true, if_false, if_pos, if_neg, retM_ap, retZ_ap0, retZ_ap1, gM_ap, sM_ap, jM_ap, bI_ap, bL_ap, bD_ap, rdM_ap, wrM_ap, thrM_ap, nl_0, nl_1, nl_2, nl_3, nl_4, nl_5, nl_6, nl_7, nl_8, nl_9, nl_10, nl_11, nl_12, nl_13, nl_25, nl_33, nl_35, nl_45, nl_48, nl_49, nl_50, nl_52, nl_53, nl_57, nl_59, nl_60, nl_61, nl_77, nl_94, nl_97, nl_100, nl_101, nl_119, nl_125, nl_126, nl_137, nl_262, nl_387, nl_500, nl_512, nl_637, nl_999, nl_1022, nl_1137, nl_5685, nm_1b, iN_mI, mI_iN, iN_add, iN_mul, iN_sub, iN_div, iN_rem, iN_lt, iN_le, iN_eq, iN_nat, inB_iN, ↓b_at, ↓b_store, ↓b_place1, ↓b_place0, ↓b_tableOf, ↓b_sqEnd, ↓b_isCell, ↓b_linesOf, ↓b_spanOf, ↓b_isSum, ↓b_sizePlace, ↓b_isBetween, ↓b_sizeOf, ↓b_sizeTogether, Bool.false_eq_true, not_true_eq_false, not_false_eq_true, ↓b_signsOf, Nat.add_assoc, Nat.reduceAdd, k1, k2, h, h0, hz, nv_iN]
    · simp (disch := omega) only [↓ite_ap, if_true, if_false, if_pos, if_neg, retM_ap, retZ_ap0, retZ_ap1, gM_ap, sM_ap, jM_ap, bI_ap, bL_ap, bD_ap, rdM_ap, wrM_ap, thrM_ap, nl_0, nl_1, nl_2, nl_3, nl_4, nl_5, nl_6, nl_7, nl_8, nl_9, nl_10, nl_11, nl_12, nl_13, nl_25, nl_33, nl_35, nl_45, nl_48, nl_49, nl_50, nl_52, nl_53, nl_57, nl_59, nl_60, nl_61, nl_77, nl_94, nl_97, nl_100, nl_101, nl_119, nl_125, nl_126, nl_137, nl_262, nl_387, nl_500, nl_512, nl_637, nl_999, nl_1022, nl_1137, nl_5685, nm_1b, iN_mI, mI_iN, iN_add, iN_mul, iN_sub, iN_div, iN_rem, iN_lt, iN_le, iN_eq, iN_nat, inB_iN, ↓b_at, ↓b_store, ↓b_place1, ↓b_place0, ↓b_tableOf, ↓b_sqEnd, ↓b_isCell, ↓b_linesOf, ↓b_spanOf, ↓b_isSum, ↓b_sizePlace, ↓b_isBetween, ↓b_sizeOf, ↓b_sizeTogether, Bool.false_eq_true, not_true_eq_false, not_false_eq_true, ↓b_signsOf, Nat.add_assoc, Nat.reduceAdd, k1, k2, h, h0, hz, nv_iN]
  · have h9 := w7.2.2 h
    obtain ⟨z, hz⟩ : ∃ z, z = nv (nuS s q) := ⟨_, rfl⟩
    rw [← hz] at h9
    have hts2 := hts z h9.2.1 h9.2.2
    simp (disch := omega) only [↓ite_ap, if_true, if_false, if_pos, if_neg, retM_ap, retZ_ap0, retZ_ap1, gM_ap, sM_ap, jM_ap, bI_ap, bL_ap, bD_ap, rdM_ap, wrM_ap, thrM_ap, nl_0, nl_1, nl_2, nl_3, nl_4, nl_5, nl_6, nl_7, nl_8, nl_9, nl_10, nl_11, nl_12, nl_13, nl_25, nl_33, nl_35, nl_45, nl_48, nl_49, nl_50, nl_52, nl_53, nl_57, nl_59, nl_60, nl_61, nl_77, nl_94, nl_97, nl_100, nl_101, nl_119, nl_125, nl_126, nl_137, nl_262, nl_387, nl_500, nl_512, nl_637, nl_999, nl_1022, nl_1137, nl_5685, nm_1b, iN_mI, mI_iN, iN_add, iN_mul, iN_sub, iN_div, iN_rem, iN_lt, iN_le, iN_eq, iN_nat, inB_iN, ↓b_at, ↓b_store, ↓b_place1, ↓b_place0, ↓b_tableOf, ↓b_sqEnd, ↓b_isCell, ↓b_linesOf, ↓b_spanOf, ↓b_isSum, ↓b_sizePlace, ↓b_isBetween, ↓b_sizeOf, ↓b_sizeTogether, Bool.false_eq_true, not_true_eq_false, not_false_eq_true, Nat.add_assoc, Nat.reduceAdd, k1, k2, h, h9.1, Nat.mul_comm z 2, hts2, nv_iN]
  · rcases hw2 with h0 | h0
    · simp (disch := omega) only [↓ite_ap, if_true, if_false, if_pos, if_neg, retM_ap, retZ_ap0, retZ_ap1, gM_ap, sM_ap, jM_ap, bI_ap, bL_ap, bD_ap, rdM_ap, wrM_ap, thrM_ap, nl_0, nl_1, nl_2, nl_3, nl_4, nl_5, nl_6, nl_7, nl_8, nl_9, nl_10, nl_11, nl_12, nl_13, nl_25, nl_33, nl_35, nl_45, nl_48, nl_49, nl_50, nl_52, nl_53, nl_57, nl_59, nl_60, nl_61, nl_77, nl_94, nl_97, nl_100, nl_101, nl_119, nl_125, nl_126, nl_137, nl_262, nl_387, nl_500, nl_512, nl_637, nl_999, nl_1022, nl_1137, nl_5685, nm_1b, iN_mI, mI_iN, iN_add, iN_mul, iN_sub, iN_div, iN_rem, iN_lt, iN_le, iN_eq, iN_nat, inB_iN, ↓b_at, ↓b_store, ↓b_place1, ↓b_place0, ↓b_tableOf, ↓b_sqEnd, ↓b_isCell, ↓b_linesOf, ↓b_spanOf, ↓b_isSum, ↓b_sizePlace, ↓b_isBetween, ↓b_sizeOf, ↓b_sizeTogether, Bool.false_eq_true, not_true_eq_false, not_false_eq_true, ↓b_signsOf, Nat.add_assoc, Nat.reduceAdd, k1, k2, h0]
    · simp (disch := omega) only [↓ite_ap, if_true, if_false, if_pos, if_neg, retM_ap, retZ_ap0, retZ_ap1, gM_ap, sM_ap, jM_ap, bI_ap, bL_ap, bD_ap, rdM_ap, wrM_ap, thrM_ap, nl_0, nl_1, nl_2, nl_3, nl_4, nl_5, nl_6, nl_7, nl_8, nl_9, nl_10, nl_11, nl_12, nl_13, nl_25, nl_33, nl_35, nl_45, nl_48, nl_49, nl_50, nl_52, nl_53, nl_57, nl_59, nl_60, nl_61, nl_77, nl_94, nl_97, nl_100, nl_101, nl_119, nl_125, nl_126, nl_137, nl_262, nl_387, nl_500, nl_512, nl_637, nl_999, nl_1022, nl_1137, nl_5685, nm_1b, iN_mI, mI_iN, iN_add, iN_mul, iN_sub, iN_div, iN_rem, iN_lt, iN_le, iN_eq, iN_nat, inB_iN, ↓b_at, ↓b_store, ↓b_place1, ↓b_place0, ↓b_tableOf, ↓b_sqEnd, ↓b_isCell, ↓b_linesOf, ↓b_spanOf, ↓b_isSum, ↓b_sizePlace, ↓b_isBetween, ↓b_sizeOf, ↓b_sizeTogether, Bool.false_eq_true, not_true_eq_false, not_false_eq_true, ↓b_signsOf, Nat.add_assoc, Nat.reduceAdd, k1, k2, h0]

