theorem upM_up {σ : Mm} {k i : Nat} {v w : Int32} : upM (upM σ k i v) k i w = upM σ k i w := by
  funext k' j
  unfold upM upd
  by_cases h : k' = k
  · subst h
    simp only [if_true]
    by_cases h2 : j = i
    · simp only [h2, if_true]
    · simp only [h2, if_false]
  · simp only [h, if_false]
theorem upM_o {σ : Mm} {k k' i : Nat} {v : Int32} (h : k' ≠ k) : upM σ k i v k' = σ k' := by
  funext j
  exact upM_ne h
theorem setS_o {σ : Mm} {k lo hi k' : Nat} {F : Nat → Int32} (h : k' ≠ k) : setS σ k lo hi F k' = σ k' := by
  funext j
  exact setS_ne h
theorem iMax_iN {a c : Nat} (ha : a < 2147483648) (hc : c < 2147483648) : iMax (iN a) (iN c) = iN (max a c) := by
  unfold iMax
  by_cases h : a < c
  · rw [if_pos (by rw [iN_lt ha hc]; exact h), Nat.max_eq_right (by omega)]
  · rw [if_neg (by rw [iN_lt ha hc]; exact h), Nat.max_eq_left (by omega)]
/-- a sheet is what its own arrays hold -/
theorem Rel.fr {b : Nat} {s : Sv} {σ σ1 : Mm} (h : ∀ k, b ≤ k → k ≤ b + 14 → σ1 k = σ k) (hr : Rel b s σ) : Rel b s σ1 := by
  have h0 := h b (by omega) (by omega)
  have h2 := h (b + 2) (by omega) (by omega)
  have h4 := h (b + 4) (by omega) (by omega)
  have h6 := h (b + 6) (by omega) (by omega)
  have h8 := h (b + 8) (by omega) (by omega)
  have h10 := h (b + 10) (by omega) (by omega)
  have h12 := h (b + 12) (by omega) (by omega)
  have h14 := h (b + 14) (by omega) (by omega)
  unfold Rel at hr ⊢
  rw [h0, h2, h4, h6, h8, h10, h12, h14]
  exact hr
theorem Rel.up {b k i : Nat} {v : Int32} {s : Sv} {σ : Mm} (hr : Rel b s σ) (h : k < b ∨ b + 14 < k) : Rel b s (upM σ k i v) := hr.fr (fun k' h1 h2 => upM_o (by omega))
theorem Rel.st {b k lo hi : Nat} {F : Nat → Int32} {s : Sv} {σ : Mm} (hr : Rel b s σ) (h : k < b ∨ b + 14 < k) : Rel b s (setS σ k lo hi F) := hr.fr (fun k' h1 h2 => setS_o (by omega))
theorem b_isCounted {α : Type} {b sum q st : Nat} {s : Sv} {σ : Mm} {K : Int32 → Dm α} (hw : WF s) (hr : Rel (b + 1) s σ) (hs : isCl s sum) (hq : isCl s q) (hk : 4 ≤ kiS s sum) (hst : σ (b + 21) sum = iN st) (h5 : st < 5) : invM (F_X1_isCounted b (iN sum) (iN q)) K σ = K (if ctB s (kiS s sum) st sum q = true then iN 1 else iN 0) σ := invM_l (f_isCounted hw hr hs hq hk hst h5)
theorem al_lt {k q : Nat} : alS k q < 5 := by
  unfold alS
  by_cases h : k = 4
  · rw [if_pos h]; omega
  · rw [if_neg h]; omega
theorem frS_lt {s : Sv} {sum : Nat} : frS s sum ≤ 4 := by
  unfold frS
  refine mxN_le (fun i => ?_) _
  by_cases h : (clB s i && decide (kiS s i = kiS s sum) && ctB s (kiS s sum) 0 sum i) = true
  · rw [if_pos h]
    have := al_lt (k := kiS s sum) (q := i)
    omega
  · rw [if_neg h]
    omega
theorem f_startSum {b sum : Nat} {s : Sv} {σ : Mm} (hw : WF s) (hr : Rel (b + 1) s σ) (hs : isCl s sum) (hk : 4 ≤ kiS s sum) : F_X1_startSum b (iN sum) σ = some (.inl (), upM σ (b + 21) sum (iN (frS s sum))) := by
  have l1 := isOf_lt hw hs.1
  have w3 := hw.2.2.2.2.2.1 sum hs.1
  have t5 := hw.1.2.2
  have t6 := hs.1.1
  have k1 : σ (b + 9) sum = iN (kiS s sum) := (hr.2.2.2.2.1 sum hs.1).2.1.trans w3.1
  obtain ⟨σ0, h0⟩ : ∃ σ0, σ0 = upM σ (b + 21) sum (iN 0) := ⟨_, rfl⟩
  have hr0 : Rel (b + 1) s σ0 := by rw [h0]; exact hr.up (by omega)
  have e0 : σ0 (b + 21) sum = iN 0 := by rw [h0]; exact upM_at
  obtain ⟨g, hg⟩ : ∃ g : Nat → Nat, g = fun q => if (clB s q && decide (kiS s q = kiS s sum) && ctB s (kiS s sum) 0 sum q) = true then alS (kiS s sum) q else 0 := ⟨_, rfl⟩
  have hf : frS s sum = mxN g (sum / 25 * 25) ((sum / 25 + 1) * 25) := by rw [hg]; rfl
  have hle : ∀ i, mxN g (sum / 25 * 25) i ≤ 4 := fun i => mxN_le (fun j => by
    rw [hg]
    have := al_lt (k := kiS s sum) (q := j)
    show (if _ then _ else _) ≤ 4
    split <;> omega) i
  have h := lp (fun n i (a : Int32) => L_X1_startSum_36 b (iN sum) (iN (kiS s sum)) (iN (sum / 25)) n a (iN i) σ0) (fun i => iN (mxN g (sum / 25 * 25) i)) (i0 := sum / 25 * 25) (N := (sum / 25 + 1) * 25) (r := some (.inl (), upM σ0 (b + 21) sum (iN (frS s sum)))) (by omega) (by unfold FU; omega) ?_ ?_
  · simp only [mxN_0] at h
    unfold F_X1_startSum
    simp (disch := omega) only [↓ite_ap, if_true, if_false, if_pos, if_neg, retM_ap, retZ_ap0, retZ_ap1, gM_ap, sM_ap, jM_ap, bI_ap, bL_ap, bD_ap, rdM_ap, wrM_ap, thrM_ap, nl_0, nl_1, nl_2, nl_3, nl_4, nl_5, nl_6, nl_7, nl_8, nl_9, nl_10, nl_11, nl_12, nl_13, nl_25, nl_33, nl_35, nl_45, nl_48, nl_49, nl_50, nl_52, nl_53, nl_57, nl_59, nl_60, nl_61, nl_77, nl_94, nl_97, nl_100, nl_101, nl_119, nl_125, nl_126, nl_137, nl_262, nl_387, nl_500, nl_512, nl_637, nl_999, nl_1022, nl_1137, nl_5685, nm_1b, iN_mI, mI_iN, iN_add, iN_mul, iN_sub, iN_div, iN_rem, iN_lt, iN_le, iN_eq, iN_nat, inB_iN, ↓b_at, ↓b_store, ↓b_place1, ↓b_place0, ↓b_tableOf, ↓b_sqEnd, ↓b_isCell, ↓b_linesOf, ↓b_spanOf, ↓b_isSum, ↓b_sizePlace, ↓b_isBetween, ↓b_sizeOf, ↓b_sizeTogether, Bool.false_eq_true, not_true_eq_false, not_false_eq_true, Nat.add_assoc, Nat.reduceAdd, upM_ne, k1, ← h0, h]
    rw [h0, upM_up]
  · intro n i h1 h2
    have hq : i / 25 = sum / 25 := by omega
    simp only [L_X1_startSum_36]
    rw [mxN_s h1]
    have hi4 := hle i
    by_cases hc : isCl s i
    · have k2 : σ0 (b + 9) i = iN (kiS s i) := (hr0.2.2.2.2.1 i hc.1).2.1.trans (hw.2.2.2.2.2.1 i hc.1).1
      have kb := (hw.2.2.2.2.2.1 i hc.1).2.1
      have c1 := clB_iff.mpr hc
      by_cases hk2 : kiS s i = kiS s sum
      · by_cases hct : ctB s (kiS s sum) 0 sum i = true
        · have hgi : g i = alS (kiS s sum) i := by rw [hg]; simp only [c1, hk2, hct, decide_true, Bool.and_true, if_true]
          rw [hgi]
          by_cases h4 : kiS s sum = 4
          · have ha : alS (kiS s sum) i = i % 25 / 5 := by unfold alS; rw [if_pos h4]
            have hct4 := hct
            rw [h4] at hct4
            rw [ha]
            simp (disch := omega) only [↓ite_ap, if_true, if_false, if_pos, if_neg, retM_ap, retZ_ap0, retZ_ap1, gM_ap, sM_ap, jM_ap, bI_ap, bL_ap, bD_ap, rdM_ap, wrM_ap, thrM_ap, nl_0, nl_1, nl_2, nl_3, nl_4, nl_5, nl_6, nl_7, nl_8, nl_9, nl_10, nl_11, nl_12, nl_13, nl_25, nl_33, nl_35, nl_45, nl_48, nl_49, nl_50, nl_52, nl_53, nl_57, nl_59, nl_60, nl_61, nl_77, nl_94, nl_97, nl_100, nl_101, nl_119, nl_125, nl_126, nl_137, nl_262, nl_387, nl_500, nl_512, nl_637, nl_999, nl_1022, nl_1137, nl_5685, nm_1b, iN_mI, mI_iN, iN_add, iN_mul, iN_sub, iN_div, iN_rem, iN_lt, iN_le, iN_eq, iN_nat, inB_iN, ↓b_at, ↓b_store, ↓b_place1, ↓b_place0, ↓b_tableOf, ↓b_sqEnd, ↓b_isCell, ↓b_linesOf, ↓b_spanOf, ↓b_isSum, ↓b_sizePlace, ↓b_isBetween, ↓b_sizeOf, ↓b_sizeTogether, Bool.false_eq_true, not_true_eq_false, not_false_eq_true, rel_isCell hw hr0, hc, Nat.add_assoc, Nat.reduceAdd, k2, hk2, ↓b_isCounted hw hr0 hs hc hk e0, hct4, h4, iMax_iN]
          · have ha : alS (kiS s sum) i = i % 5 := by unfold alS; rw [if_neg h4]
            rw [ha]
            simp (disch := omega) only [↓ite_ap, if_true, if_false, if_pos, if_neg, retM_ap, retZ_ap0, retZ_ap1, gM_ap, sM_ap, jM_ap, bI_ap, bL_ap, bD_ap, rdM_ap, wrM_ap, thrM_ap, nl_0, nl_1, nl_2, nl_3, nl_4, nl_5, nl_6, nl_7, nl_8, nl_9, nl_10, nl_11, nl_12, nl_13, nl_25, nl_33, nl_35, nl_45, nl_48, nl_49, nl_50, nl_52, nl_53, nl_57, nl_59, nl_60, nl_61, nl_77, nl_94, nl_97, nl_100, nl_101, nl_119, nl_125, nl_126, nl_137, nl_262, nl_387, nl_500, nl_512, nl_637, nl_999, nl_1022, nl_1137, nl_5685, nm_1b, iN_mI, mI_iN, iN_add, iN_mul, iN_sub, iN_div, iN_rem, iN_lt, iN_le, iN_eq, iN_nat, inB_iN, ↓b_at, ↓b_store, ↓b_place1, ↓b_place0, ↓b_tableOf, ↓b_sqEnd, ↓b_isCell, ↓b_linesOf, ↓b_spanOf, ↓b_isSum, ↓b_sizePlace, ↓b_isBetween, ↓b_sizeOf, ↓b_sizeTogether, Bool.false_eq_true, not_true_eq_false, not_false_eq_true, rel_isCell hw hr0, hc, Nat.add_assoc, Nat.reduceAdd, k2, hk2, ↓b_isCounted hw hr0 hs hc hk e0, hct, h4, iMax_iN]
        · have hgi : g i = 0 := by rw [hg]; simp only [c1, hk2, hct, decide_true, Bool.and_true, Bool.and_false, Bool.false_eq_true, if_false]
          rw [hgi, Nat.max_zero]
          simp (disch := omega) only [↓ite_ap, if_true, if_false, if_pos, if_neg, retM_ap, retZ_ap0, retZ_ap1, gM_ap, sM_ap, jM_ap, bI_ap, bL_ap, bD_ap, rdM_ap, wrM_ap, thrM_ap, nl_0, nl_1, nl_2, nl_3, nl_4, nl_5, nl_6, nl_7, nl_8, nl_9, nl_10, nl_11, nl_12, nl_13, nl_25, nl_33, nl_35, nl_45, nl_48, nl_49, nl_50, nl_52, nl_53, nl_57, nl_59, nl_60, nl_61, nl_77, nl_94, nl_97, nl_100, nl_101, nl_119, nl_125, nl_126, nl_137, nl_262, nl_387, nl_500, nl_512, nl_637, nl_999, nl_1022, nl_1137, nl_5685, nm_1b, iN_mI, mI_iN, iN_add, iN_mul, iN_sub, iN_div, iN_rem, iN_lt, iN_le, iN_eq, iN_nat, inB_iN, ↓b_at, ↓b_store, ↓b_place1, ↓b_place0, ↓b_tableOf, ↓b_sqEnd, ↓b_isCell, ↓b_linesOf, ↓b_spanOf, ↓b_isSum, ↓b_sizePlace, ↓b_isBetween, ↓b_sizeOf, ↓b_sizeTogether, Bool.false_eq_true, not_true_eq_false, not_false_eq_true, rel_isCell hw hr0, hc, Nat.add_assoc, Nat.reduceAdd, k2, hk2, ↓b_isCounted hw hr0 hs hc hk e0, hct]
      · have hgi : g i = 0 := by rw [hg]; simp only [c1, hk2, decide_false, Bool.and_false, Bool.false_and, Bool.false_eq_true, if_false]
        rw [hgi, Nat.max_zero]
        simp (disch := omega) only [↓ite_ap, if_true, if_false, if_pos, if_neg, retM_ap, retZ_ap0, retZ_ap1, gM_ap, sM_ap, jM_ap, bI_ap, bL_ap, bD_ap, rdM_ap, wrM_ap, thrM_ap, nl_0, nl_1, nl_2, nl_3, nl_4, nl_5, nl_6, nl_7, nl_8, nl_9, nl_10, nl_11, nl_12, nl_13, nl_25, nl_33, nl_35, nl_45, nl_48, nl_49, nl_50, nl_52, nl_53, nl_57, nl_59, nl_60, nl_61, nl_77, nl_94, nl_97, nl_100, nl_101, nl_119, nl_125, nl_126, nl_137, nl_262, nl_387, nl_500, nl_512, nl_637, nl_999, nl_1022, nl_1137, nl_5685, nm_1b, iN_mI, mI_iN, iN_add, iN_mul, iN_sub, iN_div, iN_rem, iN_lt, iN_le, iN_eq, iN_nat, inB_iN, ↓b_at, ↓b_store, ↓b_place1, ↓b_place0, ↓b_tableOf, ↓b_sqEnd, ↓b_isCell, ↓b_linesOf, ↓b_spanOf, ↓b_isSum, ↓b_sizePlace, ↓b_isBetween, ↓b_sizeOf, ↓b_sizeTogether, Bool.false_eq_true, not_true_eq_false, not_false_eq_true, rel_isCell hw hr0, hc, Nat.add_assoc, Nat.reduceAdd, k2]
    · have c1 : clB s i = false := by
        cases e : clB s i
        · rfl
        · exact absurd (clB_iff.mp e) hc
      have hgi : g i = 0 := by rw [hg]; simp only [c1, Bool.false_and, Bool.false_eq_true, if_false]
      rw [hgi, Nat.max_zero]
      simp (disch := omega) only [↓ite_ap, if_true, if_false, if_pos, if_neg, retM_ap, retZ_ap0, retZ_ap1, gM_ap, sM_ap, jM_ap, bI_ap, bL_ap, bD_ap, rdM_ap, wrM_ap, thrM_ap, nl_0, nl_1, nl_2, nl_3, nl_4, nl_5, nl_6, nl_7, nl_8, nl_9, nl_10, nl_11, nl_12, nl_13, nl_25, nl_33, nl_35, nl_45, nl_48, nl_49, nl_50, nl_52, nl_53, nl_57, nl_59, nl_60, nl_61, nl_77, nl_94, nl_97, nl_100, nl_101, nl_119, nl_125, nl_126, nl_137, nl_262, nl_387, nl_500, nl_512, nl_637, nl_999, nl_1022, nl_1137, nl_5685, nm_1b, iN_mI, mI_iN, iN_add, iN_mul, iN_sub, iN_div, iN_rem, iN_lt, iN_le, iN_eq, iN_nat, inB_iN, ↓b_at, ↓b_store, ↓b_place1, ↓b_place0, ↓b_tableOf, ↓b_sqEnd, ↓b_isCell, ↓b_linesOf, ↓b_spanOf, ↓b_isSum, ↓b_sizePlace, ↓b_isBetween, ↓b_sizeOf, ↓b_sizeTogether, Bool.false_eq_true, not_true_eq_false, not_false_eq_true, rel_isCell hw hr0, hc]
  · intro n
    simp only [L_X1_startSum_36]
    simp (disch := omega) only [↓ite_ap, if_true, if_false, if_pos, if_neg, retM_ap, retZ_ap0, retZ_ap1, gM_ap, sM_ap, jM_ap, bI_ap, bL_ap, bD_ap, rdM_ap, wrM_ap, thrM_ap, nl_0, nl_1, nl_2, nl_3, nl_4, nl_5, nl_6, nl_7, nl_8, nl_9, nl_10, nl_11, nl_12, nl_13, nl_25, nl_33, nl_35, nl_45, nl_48, nl_49, nl_50, nl_52, nl_53, nl_57, nl_59, nl_60, nl_61, nl_77, nl_94, nl_97, nl_100, nl_101, nl_119, nl_125, nl_126, nl_137, nl_262, nl_387, nl_500, nl_512, nl_637, nl_999, nl_1022, nl_1137, nl_5685, nm_1b, iN_mI, mI_iN, iN_add, iN_mul, iN_sub, iN_div, iN_rem, iN_lt, iN_le, iN_eq, iN_nat, inB_iN, ↓b_at, ↓b_store, ↓b_place1, ↓b_place0, ↓b_tableOf, ↓b_sqEnd, ↓b_isCell, ↓b_linesOf, ↓b_spanOf, ↓b_isSum, ↓b_sizePlace, ↓b_isBetween, ↓b_sizeOf, ↓b_sizeTogether, Bool.false_eq_true, not_true_eq_false, not_false_eq_true, hf, Nat.add_assoc, Nat.reduceAdd]

