theorem f_wantSizes {b t w : Nat} {s : Sv} {σ : Mm} {ts : Nat → Nat} (hw : WF s) (hr : Rel (b + 1) s σ) (ht : t < tbS s) (h2 : w < 2) (hts : ∀ t', t < t' → t' < tbS s → σ (b + 33) (2 * t' + w) = iN (ts (2 * t' + w))) (F : Nat → Int32) (hF : ∀ q, q / 25 = t → F (2 * q + w) = iN (if clB s q = true then waS s (σ (b + 19)) ts q w else 0)) : F_X1_wantSizes b (iN t) (iN w) σ = some (.inl (), setB σ (b + 23) (fun j => decide (j % 2 = w ∧ t * 25 ≤ j / 2 ∧ j / 2 < (t + 1) * 25)) F) := by
  have t5 := hw.1.2.2
  have h := lp (fun n i (a : Mm) => L_X1_wantSizes_5 b (iN t) (iN w) n (iN i) a) (fun i => setB σ (b + 23) (fun j => decide (j % 2 = w ∧ t * 25 ≤ j / 2 ∧ j / 2 < i)) F) (i0 := t * 25) (N := (t + 1) * 25) (r := some (.inl (), setB σ (b + 23) (fun j => decide (j % 2 = w ∧ t * 25 ≤ j / 2 ∧ j / 2 < (t + 1) * 25)) F)) (by omega) (by unfold FU; omega) ?_ ?_
  · have e0 : setB σ (b + 23) (fun j => decide (j % 2 = w ∧ t * 25 ≤ j / 2 ∧ j / 2 < t * 25)) F = σ := setB_no (fun j => decide_eq_false (by omega))
    simp only [e0] at h
    unfold F_X1_wantSizes
    simp (disch := omega) only [↓ite_ap, if_true, if_false, if_pos, if_neg, retM_ap, retZ_ap0, retZ_ap1, gM_ap, sM_ap, jM_ap, bI_ap, bL_ap, bD_ap, rdM_ap, wrM_ap, thrM_ap, nl_0, nl_1, nl_2, nl_3, nl_4, nl_5, nl_6, nl_7, nl_8, nl_9, nl_10, nl_11, nl_12, nl_13, nl_25, nl_33, nl_35, nl_45, nl_48, nl_49, nl_50, nl_52, nl_53, nl_57, nl_59, nl_60, nl_61, nl_77, nl_94, nl_97, nl_100, nl_101, nl_119, nl_125, nl_126, nl_137, nl_262, nl_387, nl_500, nl_512, nl_637, nl_999, nl_1022, nl_1137, nl_5685, nm_1b, iN_mI, mI_iN, iN_add, iN_mul, iN_sub, iN_div, iN_rem, iN_lt, iN_le, iN_eq, iN_nat, inB_iN, ↓b_at, ↓b_store, ↓b_place1, ↓b_place0, ↓b_tableOf, ↓b_sqEnd, ↓b_isCell, ↓b_linesOf, ↓b_spanOf, ↓b_isSum, ↓b_sizePlace, ↓b_isBetween, ↓b_sizeOf, ↓b_sizeTogether, Bool.false_eq_true, not_true_eq_false, not_false_eq_true]
    exact h
  · intro n i h1 h3
    have hq : i / 25 = t := by omega
    simp only [L_X1_wantSizes_5]
    obtain ⟨τ, hτ⟩ : ∃ τ, τ = setB σ (b + 23) (fun j => decide (j % 2 = w ∧ t * 25 ≤ j / 2 ∧ j / 2 < i)) F := ⟨_, rfl⟩
    have hrτ : Rel (b + 1) s τ := by rw [hτ]; exact hr.sb (by omega)
    have e19 : τ (b + 19) = σ (b + 19) := by rw [hτ, setB_o (by omega)]
    have e33 : τ (b + 33) = σ (b + 33) := by rw [hτ, setB_o (by omega)]
    have up : upM τ (b + 23) (2 * i + w) (F (2 * i + w)) = setB σ (b + 23) (fun j => decide (j % 2 = w ∧ t * 25 ≤ j / 2 ∧ j / 2 < i + 1)) F := by
      rw [hτ]
      refine setB_up rfl (fun j => ?_)
      rw [← Bool.decide_or]
      exact decide_eq_decide.mpr ⟨fun q => by omega, fun q => by omega⟩
    have hv := hF i hq
    rw [← hτ]
    by_cases hc : isCl s i
    · have f1 := f_wantOf (b := b) (q := i) (w := w) (ts := ts) hw hrτ hc h2 (fun t' h5 h6 => by rw [e33]; exact hts t' (by omega) h6)
      rw [clB_iff.mpr hc, if_pos rfl] at hv
      rw [e19, ← hv] at f1
      simp (disch := omega) only [↓ite_ap, if_true, if_false, if_pos, if_neg, retM_ap, retZ_ap0, retZ_ap1, gM_ap, sM_ap, jM_ap, bI_ap, bL_ap, bD_ap, rdM_ap, wrM_ap, thrM_ap, nl_0, nl_1, nl_2, nl_3, nl_4, nl_5, nl_6, nl_7, nl_8, nl_9, nl_10, nl_11, nl_12, nl_13, nl_25, nl_33, nl_35, nl_45, nl_48, nl_49, nl_50, nl_52, nl_53, nl_57, nl_59, nl_60, nl_61, nl_77, nl_94, nl_97, nl_100, nl_101, nl_119, nl_125, nl_126, nl_137, nl_262, nl_387, nl_500, nl_512, nl_637, nl_999, nl_1022, nl_1137, nl_5685, nm_1b, iN_mI, mI_iN, iN_add, iN_mul, iN_sub, iN_div, iN_rem, iN_lt, iN_le, iN_eq, iN_nat, inB_iN, ↓b_at, ↓b_store, ↓b_place1, ↓b_place0, ↓b_tableOf, ↓b_sqEnd, ↓b_isCell, ↓b_linesOf, ↓b_spanOf, ↓b_isSum, ↓b_sizePlace, ↓b_isBetween, ↓b_sizeOf, ↓b_sizeTogether, Bool.false_eq_true, not_true_eq_false, not_false_eq_true, rel_isCell hw hrτ, hc, ↓invM_l f1, Nat.mul_comm i 2, Nat.add_assoc, Nat.reduceAdd, up]
    · rw [clB_not hc, if_neg (by decide)] at hv
      simp (disch := omega) only [↓ite_ap, if_true, if_false, if_pos, if_neg, retM_ap, retZ_ap0, retZ_ap1, gM_ap, sM_ap, jM_ap, bI_ap, bL_ap, bD_ap, rdM_ap, wrM_ap, thrM_ap, nl_0, nl_1, nl_2, nl_3, nl_4, nl_5, nl_6, nl_7, nl_8, nl_9, nl_10, nl_11, nl_12, nl_13, nl_25, nl_33, nl_35, nl_45, nl_48, nl_49, nl_50, nl_52, nl_53, nl_57, nl_59, nl_60, nl_61, nl_77, nl_94, nl_97, nl_100, nl_101, nl_119, nl_125, nl_126, nl_137, nl_262, nl_387, nl_500, nl_512, nl_637, nl_999, nl_1022, nl_1137, nl_5685, nm_1b, iN_mI, mI_iN, iN_add, iN_mul, iN_sub, iN_div, iN_rem, iN_lt, iN_le, iN_eq, iN_nat, inB_iN, ↓b_at, ↓b_store, ↓b_place1, ↓b_place0, ↓b_tableOf, ↓b_sqEnd, ↓b_isCell, ↓b_linesOf, ↓b_spanOf, ↓b_isSum, ↓b_sizePlace, ↓b_isBetween, ↓b_sizeOf, ↓b_sizeTogether, Bool.false_eq_true, not_true_eq_false, not_false_eq_true, rel_isCell hw hrτ, hc, Nat.mul_comm i 2, Nat.add_assoc, Nat.reduceAdd, ← hv]
      rw [hv] at up
      rw [hv]
      exact congrArg _ up
  · intro n
    simp only [L_X1_wantSizes_5]
    simp (disch := omega) only [↓ite_ap, if_true, if_false, if_pos, if_neg, retM_ap, retZ_ap0, retZ_ap1, gM_ap, sM_ap, jM_ap, bI_ap, bL_ap, bD_ap, rdM_ap, wrM_ap, thrM_ap, nl_0, nl_1, nl_2, nl_3, nl_4, nl_5, nl_6, nl_7, nl_8, nl_9, nl_10, nl_11, nl_12, nl_13, nl_25, nl_33, nl_35, nl_45, nl_48, nl_49, nl_50, nl_52, nl_53, nl_57, nl_59, nl_60, nl_61, nl_77, nl_94, nl_97, nl_100, nl_101, nl_119, nl_125, nl_126, nl_137, nl_262, nl_387, nl_500, nl_512, nl_637, nl_999, nl_1022, nl_1137, nl_5685, nm_1b, iN_mI, mI_iN, iN_add, iN_mul, iN_sub, iN_div, iN_rem, iN_lt, iN_le, iN_eq, iN_nat, inB_iN, ↓b_at, ↓b_store, ↓b_place1, ↓b_place0, ↓b_tableOf, ↓b_sqEnd, ↓b_isCell, ↓b_linesOf, ↓b_spanOf, ↓b_isSum, ↓b_sizePlace, ↓b_isBetween, ↓b_sizeOf, ↓b_sizeTogether, Bool.false_eq_true, not_true_eq_false, not_false_eq_true]

