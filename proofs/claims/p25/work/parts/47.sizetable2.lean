theorem f_sizeTable {b t w : Nat} {s : Sv} {σ : Mm} {e z : Nat → Nat} (hw : WF s) (hr : Rel (b + 1) s σ) (ht : t < tbS s) (h2 : w < 2) (he : ∀ i, e i < 1000) (hE : ∀ q i, q / 25 = t → i < 4 → σ (b + 27) (q * 4 + i) = iN (e (q * 4 + i))) (hz : ∀ l, l < 5 → σ (b + 29) ((2 * t + w) * 5 + l) = iN (z l)) : F_X1_sizeTable b (iN t) (iN w) σ = some (.inl (), upM (upM σ (b + 31) (2 * t + w) (iN (lnS e t w (liS s w t)))) (b + 33) (2 * t + w) (iN (lnS e t w (liS s w t) + smN z 0 (liS s w t)))) := by
  have t5 := hw.1.2.2
  have rl := rel_lines hw hr ht h2
  obtain ⟨L, hL⟩ : ∃ L, L = liS s w t := ⟨_, rfl⟩
  rw [← hL] at rl ⊢
  have rl1 : σ (b + 3) (2 * t + w) = iN L := rl.1
  obtain ⟨bef, hbef⟩ : ∃ bef, bef = if w = 1 then 0 else 3 := ⟨_, rfl⟩
  obtain ⟨beh, hbeh⟩ : ∃ beh, beh = if w = 1 then 2 else 1 := ⟨_, rfl⟩
  have hb4 : bef < 4 ∧ beh < 4 := by
    rw [hbef, hbeh]
    by_cases h : w = 1
    · rw [if_pos h, if_pos h]; omega
    · rw [if_neg h, if_neg h]; omega
  have g : ∀ side line, side < 4 → line < 5 → F_X1_greatestRule b (iN t) (iN w) (iN line) (iN side) σ = some (.inl (iN (grS (fun q => e (q * 4 + side)) t w line)), σ) := fun side line h1 h3 => f_greatestRule (e := fun q => e (q * 4 + side)) (by omega) h2 h3 h1 (fun q => he _) (fun q hq => hE q side hq h1)
  obtain ⟨f, hf⟩ : ∃ f : Nat → Nat, f = fun l => if 0 < grS (fun q => e (q * 4 + bef)) t w l then 1 else 0 := ⟨_, rfl⟩
  obtain ⟨c0, hc0⟩ : ∃ c0, c0 = if 0 < grS (fun q => e (q * 4 + beh)) t w (L - 1) then 1 else 0 := ⟨_, rfl⟩
  have hln : lnS e t w L = c0 + smN f 0 L := by
    unfold lnS
    rw [hc0, hf, hbef, hbeh]
  have loop : ∀ K : Int32 → Dm Unit, L_X1_sizeTable_58 b (iN t) (iN w) (iN (L - 1)) (iN bef) FU (iN c0) (iN 0) K σ = K (iN (c0 + smN f 0 L)) σ := by
    intro K
    have h := lp (fun n i (a : Int32) => L_X1_sizeTable_58 b (iN t) (iN w) (iN (L - 1)) (iN bef) n a (iN i) K σ) (fun i => iN (c0 + smN f 0 i)) (i0 := 0) (N := L) (r := K (iN (c0 + smN f 0 L)) σ) (by omega) (by unfold FU; omega) ?_ ?_
    · simp only [smN_0, Nat.add_zero] at h
      exact h
    · intro n i h1 h3
      simp only [L_X1_sizeTable_58]
      have hgl := grS_lt (e := fun q => e (q * 4 + bef)) (t := t) (w := w) (line := i) (fun q => he _)
      rw [smN_s h1]
      by_cases h0 : 0 < grS (fun q => e (q * 4 + bef)) t w i
      · have hfi : f i = 1 := by rw [hf]; show (if _ then _ else _) = _; rw [if_pos h0]
        simp (disch := omega) only [↓ite_ap, if_true, if_false, if_pos, if_neg, retM_ap, retZ_ap0, retZ_ap1, gM_ap, sM_ap, jM_ap, bI_ap, bL_ap, bD_ap, rdM_ap, wrM_ap, thrM_ap, nl_0, nl_1, nl_2, nl_3, nl_4, nl_5, nl_6, nl_7, nl_8, nl_9, nl_10, nl_11, nl_12, nl_13, nl_25, nl_33, nl_35, nl_45, nl_48, nl_49, nl_50, nl_52, nl_53, nl_57, nl_59, nl_60, nl_61, nl_77, nl_94, nl_97, nl_100, nl_101, nl_119, nl_125, nl_126, nl_137, nl_262, nl_387, nl_500, nl_512, nl_637, nl_999, nl_1022, nl_1137, nl_5685, nm_1b, iN_mI, mI_iN, iN_add, iN_mul, iN_sub, iN_div, iN_rem, iN_lt, iN_le, iN_eq, iN_nat, inB_iN, ↓b_at, ↓b_store, ↓b_place1, ↓b_place0, ↓b_tableOf, ↓b_sqEnd, ↓b_isCell, ↓b_linesOf, ↓b_spanOf, ↓b_isSum, ↓b_sizePlace, ↓b_isBetween, ↓b_sizeOf, ↓b_sizeTogether, Bool.false_eq_true, not_true_eq_false, not_false_eq_true, ↓invM_l (g bef i hb4.1 (by omega)), hfi, Nat.add_assoc]
      · have hfi : f i = 0 := by rw [hf]; show (if _ then _ else _) = _; rw [if_neg h0]
        simp (disch := omega) only [↓ite_ap, if_true, if_false, if_pos, if_neg, retM_ap, retZ_ap0, retZ_ap1, gM_ap, sM_ap, jM_ap, bI_ap, bL_ap, bD_ap, rdM_ap, wrM_ap, thrM_ap, nl_0, nl_1, nl_2, nl_3, nl_4, nl_5, nl_6, nl_7, nl_8, nl_9, nl_10, nl_11, nl_12, nl_13, nl_25, nl_33, nl_35, nl_45, nl_48, nl_49, nl_50, nl_52, nl_53, nl_57, nl_59, nl_60, nl_61, nl_77, nl_94, nl_97, nl_100, nl_101, nl_119, nl_125, nl_126, nl_137, nl_262, nl_387, nl_500, nl_512, nl_637, nl_999, nl_1022, nl_1137, nl_5685, nm_1b, iN_mI, mI_iN, iN_add, iN_mul, iN_sub, iN_div, iN_rem, iN_lt, iN_le, iN_eq, iN_nat, inB_iN, ↓b_at, ↓b_store, ↓b_place1, ↓b_place0, ↓b_tableOf, ↓b_sqEnd, ↓b_isCell, ↓b_linesOf, ↓b_spanOf, ↓b_isSum, ↓b_sizePlace, ↓b_isBetween, ↓b_sizeOf, ↓b_sizeTogether, Bool.false_eq_true, not_true_eq_false, not_false_eq_true, ↓invM_l (g bef i hb4.1 (by omega)), hfi, Nat.add_zero]
    · intro n
      simp only [L_X1_sizeTable_58]
      simp (disch := omega) only [↓ite_ap, if_true, if_false, if_pos, if_neg, retM_ap, retZ_ap0, retZ_ap1, gM_ap, sM_ap, jM_ap, bI_ap, bL_ap, bD_ap, rdM_ap, wrM_ap, thrM_ap, nl_0, nl_1, nl_2, nl_3, nl_4, nl_5, nl_6, nl_7, nl_8, nl_9, nl_10, nl_11, nl_12, nl_13, nl_25, nl_33, nl_35, nl_45, nl_48, nl_49, nl_50, nl_52, nl_53, nl_57, nl_59, nl_60, nl_61, nl_77, nl_94, nl_97, nl_100, nl_101, nl_119, nl_125, nl_126, nl_137, nl_262, nl_387, nl_500, nl_512, nl_637, nl_999, nl_1022, nl_1137, nl_5685, nm_1b, iN_mI, mI_iN, iN_add, iN_mul, iN_sub, iN_div, iN_rem, iN_lt, iN_le, iN_eq, iN_nat, inB_iN, ↓b_at, ↓b_store, ↓b_place1, ↓b_place0, ↓b_tableOf, ↓b_sqEnd, ↓b_isCell, ↓b_linesOf, ↓b_spanOf, ↓b_isSum, ↓b_sizePlace, ↓b_isBetween, ↓b_sizeOf, ↓b_sizeTogether, Bool.false_eq_true, not_true_eq_false, not_false_eq_true]
  have hst : ∀ σ1 : Mm, σ1 (b + 29) = σ (b + 29) → F_X1_sizeTogether b (iN t) (iN w) (iN 0) (iN (L - 1)) σ1 = some (.inl (iN (smN z 0 L)), σ1) := by
    intro σ1 h1
    rw [f_sizeTogether (by omega) h2 (by omega) (by omega), h1, show L - 1 + 1 = L by omega, smI_congr (g' := fun l => iN (z l)) (fun j _ c => hz j (by omega)), smI_iN]
  have hgl := grS_lt (e := fun q => e (q * 4 + beh)) (t := t) (w := w) (line := L - 1) (fun q => he _)
  rw [hln]
  unfold F_X1_sizeTable
  have hw2 : w = 0 ∨ w = 1 := by omega
  rcases hw2 with h | h
  · subst h
    have rl1 : σ (b + 3) (2 * t) = iN L := rl1
    have e1 : bef = 3 := hbef
    have e2 : beh = 1 := hbeh
    subst e1 e2
    by_cases h0 : 0 < grS (fun q => e (q * 4 + 1)) t 0 (L - 1)
    · have hc : c0 = 1 := by rw [hc0, if_pos h0]
      subst hc
      simp (disch := omega) only [↓ite_ap, if_true, if_false, if_pos, if_neg, retM_ap, retZ_ap0, retZ_ap1, gM_ap, sM_ap, jM_ap, bI_ap, bL_ap, bD_ap, rdM_ap, wrM_ap, thrM_ap, nl_0, nl_1, nl_2, nl_3, nl_4, nl_5, nl_6, nl_7, nl_8, nl_9, nl_10, nl_11, nl_12, nl_13, nl_25, nl_33, nl_35, nl_45, nl_48, nl_49, nl_50, nl_52, nl_53, nl_57, nl_59, nl_60, nl_61, nl_77, nl_94, nl_97, nl_100, nl_101, nl_119, nl_125, nl_126, nl_137, nl_262, nl_387, nl_500, nl_512, nl_637, nl_999, nl_1022, nl_1137, nl_5685, nm_1b, iN_mI, mI_iN, iN_add, iN_mul, iN_sub, iN_div, iN_rem, iN_lt, iN_le, iN_eq, iN_nat, inB_iN, ↓b_at, ↓b_store, ↓b_place1, ↓b_place0, ↓b_tableOf, ↓b_sqEnd, ↓b_isCell, ↓b_linesOf, ↓b_spanOf, ↓b_isSum, ↓b_sizePlace, ↓b_isBetween, ↓b_sizeOf, ↓b_sizeTogether, Bool.false_eq_true, not_true_eq_false, not_false_eq_true, Nat.add_assoc, Nat.reduceAdd, Nat.add_zero, Nat.mul_comm t 2, rl1, ↓invM_l (g 1 (L - 1) (by omega) (by omega)), loop, ↓invM_l (hst (upM σ (b + 31) (2 * t) (iN (1 + smN f 0 L))) (upM_o (Nat.ne_of_lt (Nat.add_lt_add_left (by decide) b))))]
    · have hc : c0 = 0 := by rw [hc0, if_neg h0]
      subst hc
      simp (disch := omega) only [↓ite_ap, if_true, if_false, if_pos, if_neg, retM_ap, retZ_ap0, retZ_ap1, gM_ap, sM_ap, jM_ap, bI_ap, bL_ap, bD_ap, rdM_ap, wrM_ap, thrM_ap, nl_0, nl_1, nl_2, nl_3, nl_4, nl_5, nl_6, nl_7, nl_8, nl_9, nl_10, nl_11, nl_12, nl_13, nl_25, nl_33, nl_35, nl_45, nl_48, nl_49, nl_50, nl_52, nl_53, nl_57, nl_59, nl_60, nl_61, nl_77, nl_94, nl_97, nl_100, nl_101, nl_119, nl_125, nl_126, nl_137, nl_262, nl_387, nl_500, nl_512, nl_637, nl_999, nl_1022, nl_1137, nl_5685, nm_1b, iN_mI, mI_iN, iN_add, iN_mul, iN_sub, iN_div, iN_rem, iN_lt, iN_le, iN_eq, iN_nat, inB_iN, ↓b_at, ↓b_store, ↓b_place1, ↓b_place0, ↓b_tableOf, ↓b_sqEnd, ↓b_isCell, ↓b_linesOf, ↓b_spanOf, ↓b_isSum, ↓b_sizePlace, ↓b_isBetween, ↓b_sizeOf, ↓b_sizeTogether, Bool.false_eq_true, not_true_eq_false, not_false_eq_true, Nat.add_assoc, Nat.reduceAdd, Nat.add_zero, Nat.mul_comm t 2, rl1, ↓invM_l (g 1 (L - 1) (by omega) (by omega)), loop, ↓invM_l (hst (upM σ (b + 31) (2 * t) (iN (0 + smN f 0 L))) (upM_o (Nat.ne_of_lt (Nat.add_lt_add_left (by decide) b))))]
  · subst h
    have e1 : bef = 0 := hbef
    have e2 : beh = 2 := hbeh
    subst e1 e2
    by_cases h0 : 0 < grS (fun q => e (q * 4 + 2)) t 1 (L - 1)
    · have hc : c0 = 1 := by rw [hc0, if_pos h0]
      subst hc
      simp (disch := omega) only [↓ite_ap, if_true, if_false, if_pos, if_neg, retM_ap, retZ_ap0, retZ_ap1, gM_ap, sM_ap, jM_ap, bI_ap, bL_ap, bD_ap, rdM_ap, wrM_ap, thrM_ap, nl_0, nl_1, nl_2, nl_3, nl_4, nl_5, nl_6, nl_7, nl_8, nl_9, nl_10, nl_11, nl_12, nl_13, nl_25, nl_33, nl_35, nl_45, nl_48, nl_49, nl_50, nl_52, nl_53, nl_57, nl_59, nl_60, nl_61, nl_77, nl_94, nl_97, nl_100, nl_101, nl_119, nl_125, nl_126, nl_137, nl_262, nl_387, nl_500, nl_512, nl_637, nl_999, nl_1022, nl_1137, nl_5685, nm_1b, iN_mI, mI_iN, iN_add, iN_mul, iN_sub, iN_div, iN_rem, iN_lt, iN_le, iN_eq, iN_nat, inB_iN, ↓b_at, ↓b_store, ↓b_place1, ↓b_place0, ↓b_tableOf, ↓b_sqEnd, ↓b_isCell, ↓b_linesOf, ↓b_spanOf, ↓b_isSum, ↓b_sizePlace, ↓b_isBetween, ↓b_sizeOf, ↓b_sizeTogether, Bool.false_eq_true, not_true_eq_false, not_false_eq_true, Nat.add_assoc, Nat.reduceAdd, Nat.add_zero, Nat.mul_comm t 2, rl1, ↓invM_l (g 2 (L - 1) (by omega) (by omega)), loop, ↓invM_l (hst (upM σ (b + 31) (2 * t + 1) (iN (1 + smN f 0 L))) (upM_o (Nat.ne_of_lt (Nat.add_lt_add_left (by decide) b))))]
    · have hc : c0 = 0 := by rw [hc0, if_neg h0]
      subst hc
      simp (disch := omega) only [↓ite_ap, if_true, if_false, if_pos, if_neg, retM_ap, retZ_ap0, retZ_ap1, gM_ap, sM_ap, jM_ap, bI_ap, bL_ap, bD_ap, rdM_ap, wrM_ap, thrM_ap, nl_0, nl_1, nl_2, nl_3, nl_4, nl_5, nl_6, nl_7, nl_8, nl_9, nl_10, nl_11, nl_12, nl_13, nl_25, nl_33, nl_35, nl_45, nl_48, nl_49, nl_50, nl_52, nl_53, nl_57, nl_59, nl_60, nl_61, nl_77, nl_94, nl_97, nl_100, nl_101, nl_119, nl_125, nl_126, nl_137, nl_262, nl_387, nl_500, nl_512, nl_637, nl_999, nl_1022, nl_1137, nl_5685, nm_1b, iN_mI, mI_iN, iN_add, iN_mul, iN_sub, iN_div, iN_rem, iN_lt, iN_le, iN_eq, iN_nat, inB_iN, ↓b_at, ↓b_store, ↓b_place1, ↓b_place0, ↓b_tableOf, ↓b_sqEnd, ↓b_isCell, ↓b_linesOf, ↓b_spanOf, ↓b_isSum, ↓b_sizePlace, ↓b_isBetween, ↓b_sizeOf, ↓b_sizeTogether, Bool.false_eq_true, not_true_eq_false, not_false_eq_true, Nat.add_assoc, Nat.reduceAdd, Nat.add_zero, Nat.mul_comm t 2, rl1, ↓invM_l (g 2 (L - 1) (by omega) (by omega)), loop, ↓invM_l (hst (upM σ (b + 31) (2 * t + 1) (iN (0 + smN f 0 L))) (upM_o (Nat.ne_of_lt (Nat.add_lt_add_left (by decide) b))))]

