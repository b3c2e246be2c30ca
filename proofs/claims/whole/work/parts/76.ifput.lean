/-! WHAT A NUMBER WOULD CHANGE -/
def chS (s s' : Sv) (q : Nat) : Nat := smN (fun k => if (clB s k && decide (k ≠ q) && decide (4 ≤ kiS s k) && decide (shL s k ≠ shL s' k)) = true then 1 else 0) 0 125
def tryB (s : Sv) (q : Nat) : Bool := clB s q && decide (kiS s q ≠ 3)
def anS (s : Sv) (q : Nat) (num : Int32) (k : Nat) : Int32 := if k = 0 then vaL (puS s q 1 num) 0 else if k = 1 then iN (chS s (puS s q 1 num) q) else iN (tsL (puS s q 1 num) 0)
theorem try_may {s : Sv} {q : Nat} (h : tryB s q = true) : isCl s q ∧ kiS s q ≠ 3 ∧ mayP s q := by
  unfold tryB at h
  rw [Bool.and_eq_true, decide_eq_true_eq] at h
  exact ⟨clB_iff.mp h.1, h.2, clB_iff.mp h.1, fun g => absurd g h.2⟩
theorem ok1 {num : Int32} (h : -999 ≤ num.toInt ∧ num.toInt ≤ 999) : okP 1 num := ⟨by omega, by omega, fun _ => h, fun g => by omega⟩
def TLy (s : Sv) (σ : Mm) : Prop := ∀ t, t < tbS s → LM 37 s σ t
theorem f_tryNumber {s : Sv} {σ : Mm} {q : Nat} {num : Int32} (h : CO s σ) (hq : isOf s q) (ht : tryB s q = true) (hn : -999 ≤ num.toInt ∧ num.toInt ≤ 999) : ∃ σ1, F_X5_tryNumber (iN q) num σ = some (.inl (iN 1), σ1) ∧ TLy (puS s q 1 num) σ1 ∧ ∀ k, ¬ (37 ≤ k ∧ k ≤ 72) → σ1 k = σ k := by
  obtain ⟨hw, hr, hL⟩ := h
  obtain ⟨hc, h3, hm⟩ := try_may ht
  have l1 := isOf_lt hw hq
  have r1 := hr.2.2.2.2.1 q hq
  have w3 := hw.2.2.2.2.2.1 q hq
  have k1 : σ 10 q = iN (kiS s q) := r1.2.1.trans w3.1
  have kb := w3.2.1
  obtain ⟨m1, a1, a2, a3⟩ := f_copySheet (b := 38) (o := 2) hw hr (by omega)
  obtain ⟨m2, b1, b2, b3⟩ := f_fill hw a2 hm (ok1 hn)
  obtain ⟨m3, c1, c2, c3, c4⟩ := f_measure (b := 37) (pu_WF hw hm (ok1 hn)) b2
  refine ⟨m3, ?_, c3, fun k hk => ?_⟩
  · unfold F_X5_tryNumber
    simp (disch := omega) only [↓ite_ap, if_true, if_false, if_pos, if_neg, retM_ap, retZ_ap0, retZ_ap1, gM_ap, sM_ap, jM_ap, bI_ap, bL_ap, bD_ap, rdM_ap, wrM_ap, thrM_ap, nl_0, nl_1, nl_2, nl_3, nl_4, nl_5, nl_6, nl_7, nl_8, nl_9, nl_10, nl_11, nl_12, nl_13, nl_25, nl_33, nl_35, nl_45, nl_48, nl_49, nl_50, nl_52, nl_53, nl_57, nl_59, nl_60, nl_61, nl_77, nl_94, nl_97, nl_100, nl_101, nl_119, nl_125, nl_126, nl_137, nl_262, nl_387, nl_500, nl_512, nl_637, nl_999, nl_1022, nl_1137, nl_5685, nm_1b, iN_mI, mI_iN, iN_add, iN_mul, iN_sub, iN_div, iN_rem, iN_lt, iN_le, iN_eq, iN_nat, inB_iN, ↓b_at, ↓b_store, ↓b_place1, ↓b_place0, ↓b_tableOf, ↓b_sqEnd, ↓b_isCell, rel_isCell hw hr hc.1.1, hc, Nat.reduceAdd, k1, ↓invM_l a1, ↓invM_l b1, ↓invM_l c1]
  · funext j
    rw [c4 k j (by omega), b3 k (by omega), a3 k (by omega)]
theorem f_tryNot {s : Sv} {σ : Mm} {q : Nat} {num : Int32} (h : CO s σ) (hq : isOf s q) (ht : tryB s q = false) : F_X5_tryNumber (iN q) num σ = some (.inl (iN 0), σ) := by
  obtain ⟨hw, hr, hL⟩ := h
  have l1 := isOf_lt hw hq
  have r1 := hr.2.2.2.2.1 q hq
  have w3 := hw.2.2.2.2.2.1 q hq
  have k1 : σ 10 q = iN (kiS s q) := r1.2.1.trans w3.1
  have kb := w3.2.1
  unfold F_X5_tryNumber
  by_cases hc : isCl s q
  · have h3 : kiS s q = 3 := by
      by_cases g : kiS s q = 3
      · exact g
      · unfold tryB at ht
        rw [clB_iff.mpr hc, decide_eq_true g] at ht
        cases ht
    simp (disch := omega) only [↓ite_ap, if_true, if_false, if_pos, if_neg, retM_ap, retZ_ap0, retZ_ap1, gM_ap, sM_ap, jM_ap, bI_ap, bL_ap, bD_ap, rdM_ap, wrM_ap, thrM_ap, nl_0, nl_1, nl_2, nl_3, nl_4, nl_5, nl_6, nl_7, nl_8, nl_9, nl_10, nl_11, nl_12, nl_13, nl_25, nl_33, nl_35, nl_45, nl_48, nl_49, nl_50, nl_52, nl_53, nl_57, nl_59, nl_60, nl_61, nl_77, nl_94, nl_97, nl_100, nl_101, nl_119, nl_125, nl_126, nl_137, nl_262, nl_387, nl_500, nl_512, nl_637, nl_999, nl_1022, nl_1137, nl_5685, nm_1b, iN_mI, mI_iN, iN_add, iN_mul, iN_sub, iN_div, iN_rem, iN_lt, iN_le, iN_eq, iN_nat, inB_iN, ↓b_at, ↓b_store, ↓b_place1, ↓b_place0, ↓b_tableOf, ↓b_sqEnd, ↓b_isCell, rel_isCell hw hr hq.1, hc, Nat.reduceAdd, k1, h3]
  · simp (disch := omega) only [↓ite_ap, if_true, if_false, if_pos, if_neg, retM_ap, retZ_ap0, retZ_ap1, gM_ap, sM_ap, jM_ap, bI_ap, bL_ap, bD_ap, rdM_ap, wrM_ap, thrM_ap, nl_0, nl_1, nl_2, nl_3, nl_4, nl_5, nl_6, nl_7, nl_8, nl_9, nl_10, nl_11, nl_12, nl_13, nl_25, nl_33, nl_35, nl_45, nl_48, nl_49, nl_50, nl_52, nl_53, nl_57, nl_59, nl_60, nl_61, nl_77, nl_94, nl_97, nl_100, nl_101, nl_119, nl_125, nl_126, nl_137, nl_262, nl_387, nl_500, nl_512, nl_637, nl_999, nl_1022, nl_1137, nl_5685, nm_1b, iN_mI, mI_iN, iN_add, iN_mul, iN_sub, iN_div, iN_rem, iN_lt, iN_le, iN_eq, iN_nat, inB_iN, ↓b_at, ↓b_store, ↓b_place1, ↓b_place0, ↓b_tableOf, ↓b_sqEnd, ↓b_isCell, rel_isCell hw hr hq.1, hc, Nat.reduceAdd]
theorem f_changed {s s' : Sv} {σ : Mm} {q : Nat} (h : CO s σ) (hq : q < 125) (hT : ∀ t, t < tbS s → LM 37 s' σ t) : F_X5_countChangedSums (iN q) σ = some (.inl (iN (chS s s' q)), σ) := by
  obtain ⟨hw, hr, hL⟩ := h
  have t5 := hw.1.2.2
  obtain ⟨g, hg⟩ : ∃ g : Nat → Nat, g = fun k => if (clB s k && decide (k ≠ q) && decide (4 ≤ kiS s k) && decide (shL s k ≠ shL s' k)) = true then 1 else 0 := ⟨_, rfl⟩
  have e0 : chS s s' q = smN g 0 (tbS s * 25) := by
    unfold chS
    rw [← hg]
    exact smN_ext (by omega) (by omega) (fun j h1 h2 => by
      rw [hg]
      show (if _ then 1 else 0) = 0
      rw [clB_not (fun g => by have := g.1.1; omega)]
      rfl)
  rw [e0]
  refine lp (fun n k (x : Int32) => L_X5_countChangedSums_4 (iN q) n x (iN k) σ) (fun k => iN (smN g 0 k)) (i0 := 0) (N := tbS s * 25) (by omega) (by unfold FU; omega) ?_ ?_
  · intro n k hk1 hk2
    have hqt : k / 25 < tbS s := by omega
    have eg : g k = if (clB s k && decide (k ≠ q) && decide (4 ≤ kiS s k) && decide (shL s k ≠ shL s' k)) = true then 1 else 0 := by rw [hg]
    simp only [L_X5_countChangedSums_4]
    rw [smN_s hk1]
    by_cases hkq : k = q
    · have eg : g k = 0 := by rw [eg, decide_eq_false (not_not_intro hkq), Bool.and_false]; rfl
      rw [eg]
      subst hkq
      simp (disch := omega) only [↓ite_ap, if_true, if_false, if_pos, if_neg, retM_ap, retZ_ap0, retZ_ap1, gM_ap, sM_ap, jM_ap, bI_ap, bL_ap, bD_ap, rdM_ap, wrM_ap, thrM_ap, nl_0, nl_1, nl_2, nl_3, nl_4, nl_5, nl_6, nl_7, nl_8, nl_9, nl_10, nl_11, nl_12, nl_13, nl_25, nl_33, nl_35, nl_45, nl_48, nl_49, nl_50, nl_52, nl_53, nl_57, nl_59, nl_60, nl_61, nl_77, nl_94, nl_97, nl_100, nl_101, nl_119, nl_125, nl_126, nl_137, nl_262, nl_387, nl_500, nl_512, nl_637, nl_999, nl_1022, nl_1137, nl_5685, nm_1b, iN_mI, mI_iN, iN_add, iN_mul, iN_sub, iN_div, iN_rem, iN_lt, iN_le, iN_eq, iN_nat, inB_iN, ↓b_at, ↓b_store, ↓b_place1, ↓b_place0, ↓b_tableOf, ↓b_sqEnd, ↓b_isCell, ↓b_linesOf, ↓b_spanOf, ↓b_isSum, ↓b_sizePlace, ↓b_isBetween, ↓b_sizeOf, ↓b_sizeTogether, Bool.false_eq_true, not_true_eq_false, not_false_eq_true, ↓b_squaresEnd hw hr, Nat.add_zero]
    · rw [decide_eq_true hkq] at eg
      by_cases hc : isCl s k
      · have r1 := hr.2.2.2.2.1 k hc.1
        have w3 := hw.2.2.2.2.2.1 k hc.1
        have k1 : σ 10 k = iN (kiS s k) := r1.2.1.trans w3.1
        have kb := w3.2.1
        rw [clB_iff.mpr hc] at eg
        by_cases h4 : 4 ≤ kiS s k
        · rw [decide_eq_true h4] at eg
          have v1 : σ 20 k = shL s k := (hL _ hqt).2.2.1 k rfl
          have v2 : σ 56 k = shL s' k := (hT _ hqt).2.2.1 k rfl
          by_cases hs : shL s k = shL s' k
          · rw [decide_eq_false (not_not_intro hs)] at eg
            have eg : g k = 0 := eg
            rw [eg]
            rw [← hs] at v2
            simp (disch := omega) only [↓ite_ap, if_true, if_false, if_pos, if_neg, retM_ap, retZ_ap0, retZ_ap1, gM_ap, sM_ap, jM_ap, bI_ap, bL_ap, bD_ap, rdM_ap, wrM_ap, thrM_ap, nl_0, nl_1, nl_2, nl_3, nl_4, nl_5, nl_6, nl_7, nl_8, nl_9, nl_10, nl_11, nl_12, nl_13, nl_25, nl_33, nl_35, nl_45, nl_48, nl_49, nl_50, nl_52, nl_53, nl_57, nl_59, nl_60, nl_61, nl_77, nl_94, nl_97, nl_100, nl_101, nl_119, nl_125, nl_126, nl_137, nl_262, nl_387, nl_500, nl_512, nl_637, nl_999, nl_1022, nl_1137, nl_5685, nm_1b, iN_mI, mI_iN, iN_add, iN_mul, iN_sub, iN_div, iN_rem, iN_lt, iN_le, iN_eq, iN_nat, inB_iN, ↓b_at, ↓b_store, ↓b_place1, ↓b_place0, ↓b_tableOf, ↓b_sqEnd, ↓b_isCell, ↓b_linesOf, ↓b_spanOf, ↓b_isSum, ↓b_sizePlace, ↓b_isBetween, ↓b_sizeOf, ↓b_sizeTogether, Bool.false_eq_true, not_true_eq_false, not_false_eq_true, ↓b_squaresEnd hw hr, Nat.add_zero, rel_isCell hw hr hqt, hc, Nat.reduceAdd, k1, v1, v2]
          · rw [decide_eq_true hs] at eg
            have eg : g k = 1 := eg
            rw [eg]
            simp (disch := omega) only [↓ite_ap, if_true, if_false, if_pos, if_neg, retM_ap, retZ_ap0, retZ_ap1, gM_ap, sM_ap, jM_ap, bI_ap, bL_ap, bD_ap, rdM_ap, wrM_ap, thrM_ap, nl_0, nl_1, nl_2, nl_3, nl_4, nl_5, nl_6, nl_7, nl_8, nl_9, nl_10, nl_11, nl_12, nl_13, nl_25, nl_33, nl_35, nl_45, nl_48, nl_49, nl_50, nl_52, nl_53, nl_57, nl_59, nl_60, nl_61, nl_77, nl_94, nl_97, nl_100, nl_101, nl_119, nl_125, nl_126, nl_137, nl_262, nl_387, nl_500, nl_512, nl_637, nl_999, nl_1022, nl_1137, nl_5685, nm_1b, iN_mI, mI_iN, iN_add, iN_mul, iN_sub, iN_div, iN_rem, iN_lt, iN_le, iN_eq, iN_nat, inB_iN, ↓b_at, ↓b_store, ↓b_place1, ↓b_place0, ↓b_tableOf, ↓b_sqEnd, ↓b_isCell, ↓b_linesOf, ↓b_spanOf, ↓b_isSum, ↓b_sizePlace, ↓b_isBetween, ↓b_sizeOf, ↓b_sizeTogether, Bool.false_eq_true, not_true_eq_false, not_false_eq_true, ↓b_squaresEnd hw hr, rel_isCell hw hr hqt, hc, Nat.reduceAdd, k1, v1, v2, hs]
        · rw [decide_eq_false h4] at eg
          have eg : g k = 0 := by rw [eg, Bool.and_false, Bool.false_and]; rfl
          rw [eg]
          simp (disch := omega) only [↓ite_ap, if_true, if_false, if_pos, if_neg, retM_ap, retZ_ap0, retZ_ap1, gM_ap, sM_ap, jM_ap, bI_ap, bL_ap, bD_ap, rdM_ap, wrM_ap, thrM_ap, nl_0, nl_1, nl_2, nl_3, nl_4, nl_5, nl_6, nl_7, nl_8, nl_9, nl_10, nl_11, nl_12, nl_13, nl_25, nl_33, nl_35, nl_45, nl_48, nl_49, nl_50, nl_52, nl_53, nl_57, nl_59, nl_60, nl_61, nl_77, nl_94, nl_97, nl_100, nl_101, nl_119, nl_125, nl_126, nl_137, nl_262, nl_387, nl_500, nl_512, nl_637, nl_999, nl_1022, nl_1137, nl_5685, nm_1b, iN_mI, mI_iN, iN_add, iN_mul, iN_sub, iN_div, iN_rem, iN_lt, iN_le, iN_eq, iN_nat, inB_iN, ↓b_at, ↓b_store, ↓b_place1, ↓b_place0, ↓b_tableOf, ↓b_sqEnd, ↓b_isCell, ↓b_linesOf, ↓b_spanOf, ↓b_isSum, ↓b_sizePlace, ↓b_isBetween, ↓b_sizeOf, ↓b_sizeTogether, Bool.false_eq_true, not_true_eq_false, not_false_eq_true, ↓b_squaresEnd hw hr, Nat.add_zero, rel_isCell hw hr hqt, hc, Nat.reduceAdd, k1]
      · rw [clB_not hc] at eg
        have eg : g k = 0 := eg
        rw [eg]
        simp (disch := omega) only [↓ite_ap, if_true, if_false, if_pos, if_neg, retM_ap, retZ_ap0, retZ_ap1, gM_ap, sM_ap, jM_ap, bI_ap, bL_ap, bD_ap, rdM_ap, wrM_ap, thrM_ap, nl_0, nl_1, nl_2, nl_3, nl_4, nl_5, nl_6, nl_7, nl_8, nl_9, nl_10, nl_11, nl_12, nl_13, nl_25, nl_33, nl_35, nl_45, nl_48, nl_49, nl_50, nl_52, nl_53, nl_57, nl_59, nl_60, nl_61, nl_77, nl_94, nl_97, nl_100, nl_101, nl_119, nl_125, nl_126, nl_137, nl_262, nl_387, nl_500, nl_512, nl_637, nl_999, nl_1022, nl_1137, nl_5685, nm_1b, iN_mI, mI_iN, iN_add, iN_mul, iN_sub, iN_div, iN_rem, iN_lt, iN_le, iN_eq, iN_nat, inB_iN, ↓b_at, ↓b_store, ↓b_place1, ↓b_place0, ↓b_tableOf, ↓b_sqEnd, ↓b_isCell, ↓b_linesOf, ↓b_spanOf, ↓b_isSum, ↓b_sizePlace, ↓b_isBetween, ↓b_sizeOf, ↓b_sizeTogether, Bool.false_eq_true, not_true_eq_false, not_false_eq_true, ↓b_squaresEnd hw hr, Nat.add_zero, rel_isCell hw hr hqt, hc, Nat.reduceAdd]
  · intro n
    simp only [L_X5_countChangedSums_4]
    simp (disch := omega) only [↓ite_ap, if_true, if_false, if_pos, if_neg, retM_ap, retZ_ap0, retZ_ap1, gM_ap, sM_ap, jM_ap, bI_ap, bL_ap, bD_ap, rdM_ap, wrM_ap, thrM_ap, nl_0, nl_1, nl_2, nl_3, nl_4, nl_5, nl_6, nl_7, nl_8, nl_9, nl_10, nl_11, nl_12, nl_13, nl_25, nl_33, nl_35, nl_45, nl_48, nl_49, nl_50, nl_52, nl_53, nl_57, nl_59, nl_60, nl_61, nl_77, nl_94, nl_97, nl_100, nl_101, nl_119, nl_125, nl_126, nl_137, nl_262, nl_387, nl_500, nl_512, nl_637, nl_999, nl_1022, nl_1137, nl_5685, nm_1b, iN_mI, mI_iN, iN_add, iN_mul, iN_sub, iN_div, iN_rem, iN_lt, iN_le, iN_eq, iN_nat, inB_iN, ↓b_at, ↓b_store, ↓b_place1, ↓b_place0, ↓b_tableOf, ↓b_sqEnd, ↓b_isCell, ↓b_linesOf, ↓b_spanOf, ↓b_isSum, ↓b_sizePlace, ↓b_isBetween, ↓b_sizeOf, ↓b_sizeTogether, Bool.false_eq_true, not_true_eq_false, not_false_eq_true, ↓b_squaresEnd hw hr]
theorem pu_tb1 {s : Sv} {q : Nat} {num : Int32} (hw : WF s) (ht : tryB s q = true) : tbS (puS s q 1 num) = tbS s := by
  rw [pu_tb hw, if_neg (try_may ht).2.1]
theorem f_trialAnswer {s : Sv} {σ : Mm} {q k : Nat} {num : Int32} (h : CO s σ) (hq : isOf s q) (ht : tryB s q = true) (hT : TLy (puS s q 1 num) σ) (hk : k < 3) : F_X5_trialAnswer (iN q) (iN k) σ = some (.inl (anS s q num k), σ) := by
  have hw := h.1
  have t1 := hw.1.2.1
  have e := pu_tb1 (num := num) hw ht
  have hT' : ∀ t, t < tbS s → LM 37 (puS s q 1 num) σ t := fun t g => hT t (by rw [e]; exact g)
  have fc := f_changed h (isOf_lt hw hq) hT'
  have L0 := hT' 0 (by omega)
  have v0 : σ 72 0 = vaL (puS s q 1 num) 0 := L0.1
  have v2 : σ 70 0 = iN (tsL (puS s q 1 num) 0) := L0.2.2.2.2.2.2.1.2.2.2
  unfold F_X5_trialAnswer anS
  have hk' : k = 0 ∨ k = 1 ∨ k = 2 := by omega
  rcases hk' with h | h | h
  · subst h
    simp (disch := omega) only [↓ite_ap, if_true, if_false, if_pos, if_neg, retM_ap, retZ_ap0, retZ_ap1, gM_ap, sM_ap, jM_ap, bI_ap, bL_ap, bD_ap, rdM_ap, wrM_ap, thrM_ap, nl_0, nl_1, nl_2, nl_3, nl_4, nl_5, nl_6, nl_7, nl_8, nl_9, nl_10, nl_11, nl_12, nl_13, nl_25, nl_33, nl_35, nl_45, nl_48, nl_49, nl_50, nl_52, nl_53, nl_57, nl_59, nl_60, nl_61, nl_77, nl_94, nl_97, nl_100, nl_101, nl_119, nl_125, nl_126, nl_137, nl_262, nl_387, nl_500, nl_512, nl_637, nl_999, nl_1022, nl_1137, nl_5685, nm_1b, iN_mI, mI_iN, iN_add, iN_mul, iN_sub, iN_div, iN_rem, iN_lt, iN_le, iN_eq, iN_nat, inB_iN, ↓b_at, ↓b_store, ↓b_place1, ↓b_place0, ↓b_tableOf, ↓b_sqEnd, ↓b_isCell, Nat.reduceAdd, v0]
  · subst h
    simp (disch := omega) only [↓ite_ap, if_true, if_false, if_pos, if_neg, retM_ap, retZ_ap0, retZ_ap1, gM_ap, sM_ap, jM_ap, bI_ap, bL_ap, bD_ap, rdM_ap, wrM_ap, thrM_ap, nl_0, nl_1, nl_2, nl_3, nl_4, nl_5, nl_6, nl_7, nl_8, nl_9, nl_10, nl_11, nl_12, nl_13, nl_25, nl_33, nl_35, nl_45, nl_48, nl_49, nl_50, nl_52, nl_53, nl_57, nl_59, nl_60, nl_61, nl_77, nl_94, nl_97, nl_100, nl_101, nl_119, nl_125, nl_126, nl_137, nl_262, nl_387, nl_500, nl_512, nl_637, nl_999, nl_1022, nl_1137, nl_5685, nm_1b, iN_mI, mI_iN, iN_add, iN_mul, iN_sub, iN_div, iN_rem, iN_lt, iN_le, iN_eq, iN_nat, inB_iN, ↓b_at, ↓b_store, ↓b_place1, ↓b_place0, ↓b_tableOf, ↓b_sqEnd, ↓b_isCell, Nat.reduceAdd, ↓invM_l fc]
  · subst h
    simp (disch := omega) only [↓ite_ap, if_true, if_false, if_pos, if_neg, retM_ap, retZ_ap0, retZ_ap1, gM_ap, sM_ap, jM_ap, bI_ap, bL_ap, bD_ap, rdM_ap, wrM_ap, thrM_ap, nl_0, nl_1, nl_2, nl_3, nl_4, nl_5, nl_6, nl_7, nl_8, nl_9, nl_10, nl_11, nl_12, nl_13, nl_25, nl_33, nl_35, nl_45, nl_48, nl_49, nl_50, nl_52, nl_53, nl_57, nl_59, nl_60, nl_61, nl_77, nl_94, nl_97, nl_100, nl_101, nl_119, nl_125, nl_126, nl_137, nl_262, nl_387, nl_500, nl_512, nl_637, nl_999, nl_1022, nl_1137, nl_5685, nm_1b, iN_mI, mI_iN, iN_add, iN_mul, iN_sub, iN_div, iN_rem, iN_lt, iN_le, iN_eq, iN_nat, inB_iN, ↓b_at, ↓b_store, ↓b_place1, ↓b_place0, ↓b_tableOf, ↓b_sqEnd, ↓b_isCell, Nat.reduceAdd, v2]
/-! the reference -/
theorem pu_cl1 {s : Sv} {q z : Nat} {num : Int32} (hw : WF s) (ht : tryB s q = true) : clB (puS s q 1 num) z = clB s z := by
  have hq := isOf_lt hw (try_may ht).1.1
  cases e : clB s z
  · refine clB_not (fun g => ?_)
    have := ((pu_cl hw hq).mp g).1
    rw [clB_iff.mpr this] at e
    cases e
  · have g := clB_iff.mp e
    exact clB_iff.mpr ((pu_cl hw hq).mpr ⟨g, by rw [pu_tb1 hw ht]; exact g.1.1⟩)
theorem r_had {s : Sv} {σ : Mm} (h : RO s σ) (R : Dm Int32) : L_X6_byPutting_33 FU (iN 0) (fun _ => R) σ = R (setS σ 180 0 125 (fun k => if clB s k = true then shL s k else iN 0)) := by
  obtain ⟨hw, hv, hM⟩ := h
  have h := lp (fun n k (m : Mm) => L_X6_byPutting_33 n (iN k) (fun _ => R) m) (fun k => setS σ 180 0 k (fun k => if clB s k = true then shL s k else iN 0)) (i0 := 0) (N := 125) (r := R (setS σ 180 0 125 (fun k => if clB s k = true then shL s k else iN 0))) (by omega) (by unfold FU; omega) ?_ ?_
  · simp only [setS_0] at h
    exact h
  · intro n k hk1 hk2
    obtain ⟨m, hm⟩ : ∃ m, m = setS σ 180 0 k (fun k => if clB s k = true then shL s k else iN 0) := ⟨_, rfl⟩
    have hvm : Vw 169 s m := hv.fr (by rw [hm, setS_o (by omega)])
    have up : ∀ v, v = (if clB s k = true then shL s k else iN 0) → upM m 180 k v = setS σ 180 0 (k + 1) (fun k => if clB s k = true then shL s k else iN 0) := fun v hv => by
      rw [hm]
      exact setS_up hk1 hv
    simp only [L_X6_byPutting_33]
    rw [← hm]
    by_cases hc : isCl s k
    · have fc := r_isCell1 hw hvm hc
      have v1 : m 179 k = shL s k := by rw [hm, setS_o (by omega)]; exact (hM _ hc.1.1).2.2.2.2.2.1 k rfl
      simp (disch := omega) only [↓ite_ap, if_true, if_false, if_pos, if_neg, retM_ap, retZ_ap0, retZ_ap1, gM_ap, sM_ap, jM_ap, bI_ap, bL_ap, bD_ap, rdM_ap, wrM_ap, thrM_ap, nl_0, nl_1, nl_2, nl_3, nl_4, nl_5, nl_6, nl_7, nl_8, nl_9, nl_10, nl_11, nl_12, nl_13, nl_25, nl_33, nl_35, nl_45, nl_48, nl_49, nl_50, nl_52, nl_53, nl_57, nl_59, nl_60, nl_61, nl_77, nl_94, nl_97, nl_100, nl_101, nl_119, nl_125, nl_126, nl_137, nl_262, nl_387, nl_500, nl_512, nl_637, nl_999, nl_1022, nl_1137, nl_5685, nm_1b, iN_mI, mI_iN, iN_add, iN_mul, iN_sub, iN_div, iN_rem, iN_lt, iN_le, iN_eq, iN_nat, inB_iN, ↓invM_l fc, v1]
      rw [up _ (by rw [if_pos (clB_iff.mpr hc)])]
    · have fc := r_isCell0 hw hvm hk2 hc
      simp (disch := omega) only [↓ite_ap, if_true, if_false, if_pos, if_neg, retM_ap, retZ_ap0, retZ_ap1, gM_ap, sM_ap, jM_ap, bI_ap, bL_ap, bD_ap, rdM_ap, wrM_ap, thrM_ap, nl_0, nl_1, nl_2, nl_3, nl_4, nl_5, nl_6, nl_7, nl_8, nl_9, nl_10, nl_11, nl_12, nl_13, nl_25, nl_33, nl_35, nl_45, nl_48, nl_49, nl_50, nl_52, nl_53, nl_57, nl_59, nl_60, nl_61, nl_77, nl_94, nl_97, nl_100, nl_101, nl_119, nl_125, nl_126, nl_137, nl_262, nl_387, nl_500, nl_512, nl_637, nl_999, nl_1022, nl_1137, nl_5685, nm_1b, iN_mI, mI_iN, iN_add, iN_mul, iN_sub, iN_div, iN_rem, iN_lt, iN_le, iN_eq, iN_nat, inB_iN, ↓invM_l fc]
      rw [up _ (by rw [clB_not hc]; rfl)]
  · intro n
    simp only [L_X6_byPutting_33]
    simp (disch := omega) only [↓ite_ap, if_true, if_false, if_pos, if_neg, retM_ap, retZ_ap0, retZ_ap1, gM_ap, sM_ap, jM_ap, bI_ap, bL_ap, bD_ap, rdM_ap, wrM_ap, thrM_ap, nl_0, nl_1, nl_2, nl_3, nl_4, nl_5, nl_6, nl_7, nl_8, nl_9, nl_10, nl_11, nl_12, nl_13, nl_25, nl_33, nl_35, nl_45, nl_48, nl_49, nl_50, nl_52, nl_53, nl_57, nl_59, nl_60, nl_61, nl_77, nl_94, nl_97, nl_100, nl_101, nl_119, nl_125, nl_126, nl_137, nl_262, nl_387, nl_500, nl_512, nl_637, nl_999, nl_1022, nl_1137, nl_5685, nm_1b, iN_mI, mI_iN, iN_add, iN_mul, iN_sub, iN_div, iN_rem, iN_lt, iN_le, iN_eq, iN_nat, inB_iN]
theorem r_changed {s : Sv} {σ : Mm} {q : Nat} {num : Int32} {K : Int32 → Dm Int32} (hw : WF s) (ht : tryB s q = true) (hw' : WF (puS s q 1 num)) (hv : Vw 170 (puS s q 1 num) σ) (hM : ∀ t, t < tbS s → MR (puS s q 1 num) σ t) (hh : ∀ k, k < 125 → σ 180 k = if clB s k = true then shL s k else iN 0) : L_X6_byPutting_114 FU (iN 0) (iN 0) K σ = K (iN (chS s (puS s q 1 num) q)) σ := by
  have hq5 := isOf_lt hw (try_may ht).1.1
  obtain ⟨s', hs'⟩ : ∃ s', s' = puS s q 1 num := ⟨_, rfl⟩
  obtain ⟨g, hg⟩ : ∃ g : Nat → Nat, g = fun k => if (clB s k && decide (k ≠ q) && decide (4 ≤ kiS s k) && decide (shL s k ≠ shL s' k)) = true then 1 else 0 := ⟨_, rfl⟩
  have e0 : chS s s' q = smN g 0 125 := by
    unfold chS
    rw [← hg]
  rw [← hs'] at hw' hv hM ⊢
  rw [e0]
  refine lp (fun n k (x : Int32) => L_X6_byPutting_114 n x (iN k) K σ) (fun k => iN (smN g 0 k)) (i0 := 0) (N := 125) (by omega) (by unfold FU; omega) ?_ ?_
  · intro n k hk1 hk2
    have eg : g k = if (clB s k && decide (k ≠ q) && decide (4 ≤ kiS s k) && decide (shL s k ≠ shL s' k)) = true then 1 else 0 := by rw [hg]
    simp only [L_X6_byPutting_114]
    rw [smN_s hk1]
    have ecl : clB s' k = clB s k := by rw [hs']; exact pu_cl1 hw ht
    by_cases hc : isCl s k
    · have hc' : isCl s' k := clB_iff.mp (by rw [ecl]; exact clB_iff.mpr hc)
      have fc := r_isCell1 hw' hv hc'
      have fs := r_isSum hw' hv hc'.1
      have ek : kiS s' k = if k = q then 1 else kiS s k := by rw [hs']; exact pu_ki (by omega) hk2
      rw [clB_iff.mpr hc] at eg
      by_cases hkq : k = q
      · rw [if_pos hkq] at ek
        rw [ek, if_neg (by omega)] at fs
        have eg : g k = 0 := by rw [eg, decide_eq_false (not_not_intro hkq)]; rfl
        rw [eg]
        simp (disch := omega) only [↓ite_ap, if_true, if_false, if_pos, if_neg, retM_ap, retZ_ap0, retZ_ap1, gM_ap, sM_ap, jM_ap, bI_ap, bL_ap, bD_ap, rdM_ap, wrM_ap, thrM_ap, nl_0, nl_1, nl_2, nl_3, nl_4, nl_5, nl_6, nl_7, nl_8, nl_9, nl_10, nl_11, nl_12, nl_13, nl_25, nl_33, nl_35, nl_45, nl_48, nl_49, nl_50, nl_52, nl_53, nl_57, nl_59, nl_60, nl_61, nl_77, nl_94, nl_97, nl_100, nl_101, nl_119, nl_125, nl_126, nl_137, nl_262, nl_387, nl_500, nl_512, nl_637, nl_999, nl_1022, nl_1137, nl_5685, nm_1b, iN_mI, mI_iN, iN_add, iN_mul, iN_sub, iN_div, iN_rem, iN_lt, iN_le, iN_eq, iN_nat, inB_iN, ↓invM_l fc, ↓invM_l fs]
      · rw [if_neg hkq] at ek
        rw [ek] at fs
        rw [decide_eq_true hkq] at eg
        by_cases h4 : 4 ≤ kiS s k
        · rw [if_pos h4] at fs
          rw [decide_eq_true h4] at eg
          have v1 : σ 179 k = shL s' k := (hM _ hc.1.1).2.2.2.2.2.1 k rfl
          have v2 := hh k hk2
          rw [if_pos (clB_iff.mpr hc)] at v2
          by_cases hs : shL s k = shL s' k
          · rw [decide_eq_false (not_not_intro hs)] at eg
            have eg : g k = 0 := eg
            rw [eg]
            rw [hs] at v2
            simp (disch := omega) only [↓ite_ap, if_true, if_false, if_pos, if_neg, retM_ap, retZ_ap0, retZ_ap1, gM_ap, sM_ap, jM_ap, bI_ap, bL_ap, bD_ap, rdM_ap, wrM_ap, thrM_ap, nl_0, nl_1, nl_2, nl_3, nl_4, nl_5, nl_6, nl_7, nl_8, nl_9, nl_10, nl_11, nl_12, nl_13, nl_25, nl_33, nl_35, nl_45, nl_48, nl_49, nl_50, nl_52, nl_53, nl_57, nl_59, nl_60, nl_61, nl_77, nl_94, nl_97, nl_100, nl_101, nl_119, nl_125, nl_126, nl_137, nl_262, nl_387, nl_500, nl_512, nl_637, nl_999, nl_1022, nl_1137, nl_5685, nm_1b, iN_mI, mI_iN, iN_add, iN_mul, iN_sub, iN_div, iN_rem, iN_lt, iN_le, iN_eq, iN_nat, inB_iN, ↓invM_l fc, ↓invM_l fs, v1, v2]
          · rw [decide_eq_true hs] at eg
            have eg : g k = 1 := eg
            rw [eg]
            have hs2 : ¬ shL s' k = shL s k := fun g => hs g.symm
            simp (disch := omega) only [↓ite_ap, if_true, if_false, if_pos, if_neg, retM_ap, retZ_ap0, retZ_ap1, gM_ap, sM_ap, jM_ap, bI_ap, bL_ap, bD_ap, rdM_ap, wrM_ap, thrM_ap, nl_0, nl_1, nl_2, nl_3, nl_4, nl_5, nl_6, nl_7, nl_8, nl_9, nl_10, nl_11, nl_12, nl_13, nl_25, nl_33, nl_35, nl_45, nl_48, nl_49, nl_50, nl_52, nl_53, nl_57, nl_59, nl_60, nl_61, nl_77, nl_94, nl_97, nl_100, nl_101, nl_119, nl_125, nl_126, nl_137, nl_262, nl_387, nl_500, nl_512, nl_637, nl_999, nl_1022, nl_1137, nl_5685, nm_1b, iN_mI, mI_iN, iN_add, iN_mul, iN_sub, iN_div, iN_rem, iN_lt, iN_le, iN_eq, iN_nat, inB_iN, ↓invM_l fc, ↓invM_l fs, v1, v2, hs2]
        · rw [if_neg h4] at fs
          have eg : g k = 0 := by rw [eg, decide_eq_false h4]; rfl
          rw [eg]
          simp (disch := omega) only [↓ite_ap, if_true, if_false, if_pos, if_neg, retM_ap, retZ_ap0, retZ_ap1, gM_ap, sM_ap, jM_ap, bI_ap, bL_ap, bD_ap, rdM_ap, wrM_ap, thrM_ap, nl_0, nl_1, nl_2, nl_3, nl_4, nl_5, nl_6, nl_7, nl_8, nl_9, nl_10, nl_11, nl_12, nl_13, nl_25, nl_33, nl_35, nl_45, nl_48, nl_49, nl_50, nl_52, nl_53, nl_57, nl_59, nl_60, nl_61, nl_77, nl_94, nl_97, nl_100, nl_101, nl_119, nl_125, nl_126, nl_137, nl_262, nl_387, nl_500, nl_512, nl_637, nl_999, nl_1022, nl_1137, nl_5685, nm_1b, iN_mI, mI_iN, iN_add, iN_mul, iN_sub, iN_div, iN_rem, iN_lt, iN_le, iN_eq, iN_nat, inB_iN, ↓invM_l fc, ↓invM_l fs]
    · have hc' : ¬ isCl s' k := fun g => by
        have := clB_iff.mpr g
        rw [ecl, clB_not hc] at this
        cases this
      have fc := r_isCell0 hw' hv hk2 hc'
      rw [clB_not hc] at eg
      have eg : g k = 0 := eg
      rw [eg]
      simp (disch := omega) only [↓ite_ap, if_true, if_false, if_pos, if_neg, retM_ap, retZ_ap0, retZ_ap1, gM_ap, sM_ap, jM_ap, bI_ap, bL_ap, bD_ap, rdM_ap, wrM_ap, thrM_ap, nl_0, nl_1, nl_2, nl_3, nl_4, nl_5, nl_6, nl_7, nl_8, nl_9, nl_10, nl_11, nl_12, nl_13, nl_25, nl_33, nl_35, nl_45, nl_48, nl_49, nl_50, nl_52, nl_53, nl_57, nl_59, nl_60, nl_61, nl_77, nl_94, nl_97, nl_100, nl_101, nl_119, nl_125, nl_126, nl_137, nl_262, nl_387, nl_500, nl_512, nl_637, nl_999, nl_1022, nl_1137, nl_5685, nm_1b, iN_mI, mI_iN, iN_add, iN_mul, iN_sub, iN_div, iN_rem, iN_lt, iN_le, iN_eq, iN_nat, inB_iN, ↓invM_l fc]
  · intro n
    simp only [L_X6_byPutting_114]
    simp (disch := omega) only [↓ite_ap, if_true, if_false, if_pos, if_neg, retM_ap, retZ_ap0, retZ_ap1, gM_ap, sM_ap, jM_ap, bI_ap, bL_ap, bD_ap, rdM_ap, wrM_ap, thrM_ap, nl_0, nl_1, nl_2, nl_3, nl_4, nl_5, nl_6, nl_7, nl_8, nl_9, nl_10, nl_11, nl_12, nl_13, nl_25, nl_33, nl_35, nl_45, nl_48, nl_49, nl_50, nl_52, nl_53, nl_57, nl_59, nl_60, nl_61, nl_77, nl_94, nl_97, nl_100, nl_101, nl_119, nl_125, nl_126, nl_137, nl_262, nl_387, nl_500, nl_512, nl_637, nl_999, nl_1022, nl_1137, nl_5685, nm_1b, iN_mI, mI_iN, iN_add, iN_mul, iN_sub, iN_div, iN_rem, iN_lt, iN_le, iN_eq, iN_nat, inB_iN]
/-! (laying leaves the array 180) -/
theorem r_lays6b {a : Nat} {s : Sv} (hw : WF s) (ha : a < 174) : ∀ (T n : Nat) (x : Int32) (σ : Mm), T ≤ tbS s → T < n → (T = 0 → x = mI) → (∀ t, T = t + 1 → x = iN t) → Vw a s σ → (∀ t, T ≤ t → t < tbS s → MR s σ t) → ∃ σ1, L_X6_lays_6 a 1137 n x σ = some (.inl (), σ1) ∧ (∀ t, t < tbS s → MR s σ1 t) ∧ ∀ k j, ¬ (174 ≤ k ∧ k ≤ 183 ∧ k ≠ 180) → σ1 k j = σ k j := by
  have t5 := hw.1.2.2
  intro T
  induction T with
  | zero =>
    intro n x σ _ hn hx _ hv hM
    obtain ⟨n, rfl⟩ : ∃ m, n = m + 1 := ⟨n - 1, by omega⟩
    rw [hx rfl]
    refine ⟨σ, ?_, fun t h => hM t (by omega) h, fun k j _ => rfl⟩
    simp only [L_X6_lays_6]
    have hm : (mI < 0) = True := mI_lt (a := 0) (by omega)
    simp only [↓ite_ap, if_true, if_false, if_pos, if_neg, retM_ap, retZ_ap0, retZ_ap1, gM_ap, sM_ap, jM_ap, bI_ap, bL_ap, bD_ap, rdM_ap, wrM_ap, thrM_ap, hm]
  | succ T ih =>
    intro n x σ hT hn _ hx hv hM
    obtain ⟨n, rfl⟩ : ∃ m, n = m + 1 := ⟨n - 1, by omega⟩
    rw [hx T rfl]
    obtain ⟨m1, a1, a2, a3⟩ := r_laysTable hw hv ha (show T < tbS s by omega) (fun t' h1 h2 => hM t' (by omega) h2)
    have p3 := a3
    unfold PM at a3
    have v1 : Vw a s m1 := hv.fr (funext (fun j => a3 a j (by omega)))
    obtain ⟨σ1, c1, c2, c3⟩ := ih n (iN T + mI) m1 (by omega) (by omega) (fun h => by subst h; rfl) (fun t ht => by subst ht; rw [one_mI (by omega)]; rfl) v1 (fun t h1 h2 => by
      by_cases h : t = T
      · subst h
        exact a2
      · refine (hM t (by omega) h2).fr (fun k j hk => p3 k j ?_)
        unfold PM at hk ⊢
        omega)
    refine ⟨σ1, ?_, c2, fun k j hk => by rw [c3 k j hk, a3 k j (by omega)]⟩
    simp only [L_X6_lays_6]
    have hm : (iN T < 0) = False := by rw [show (iN T < 0) = (T < 0) from iN_lt (b := 0) (by omega) (by omega)]; exact propext ⟨fun h => by omega, fun h => h.elim⟩
    simp only [↓ite_ap, if_true, if_false, if_pos, if_neg, retM_ap, retZ_ap0, retZ_ap1, gM_ap, sM_ap, jM_ap, bI_ap, bL_ap, bD_ap, rdM_ap, wrM_ap, thrM_ap, hm]
    rw [invM_l a1]
    exact c1
theorem r_laysb {a : Nat} {s : Sv} {σ : Mm} (hw : WF s) (hv : Vw a s σ) (ha : a < 174) : ∃ σ1, F_X6_lays a 1137 σ = some (.inl (), σ1) ∧ (∀ t, t < tbS s → MR s σ1 t) ∧ ∀ k j, ¬ (174 ≤ k ∧ k ≤ 183 ∧ k ≠ 180) → σ1 k j = σ k j := by
  have t5 := hw.1.2.2
  have t1 := hw.1.2.1
  obtain ⟨σ1, c1, c2, c3⟩ := r_lays6b hw ha (tbS s) FU (iN (tbS s - 1)) σ (by omega) (by unfold FU; omega) (fun h => by omega) (fun t h => by rw [h]; rfl) hv (fun t h1 h2 => by omega)
  refine ⟨σ1, ?_, c2, c3⟩
  unfold F_X6_lays
  have h0 := hv.tb hw
  simp (disch := omega) only [↓ite_ap, if_true, if_false, if_pos, if_neg, retM_ap, retZ_ap0, retZ_ap1, gM_ap, sM_ap, jM_ap, bI_ap, bL_ap, bD_ap, rdM_ap, wrM_ap, thrM_ap, nl_0, nl_1, nl_2, nl_3, nl_4, nl_5, nl_6, nl_7, nl_8, nl_9, nl_10, nl_11, nl_12, nl_13, nl_25, nl_33, nl_35, nl_45, nl_48, nl_49, nl_50, nl_52, nl_53, nl_57, nl_59, nl_60, nl_61, nl_77, nl_94, nl_97, nl_100, nl_101, nl_119, nl_125, nl_126, nl_137, nl_262, nl_387, nl_500, nl_512, nl_637, nl_999, nl_1022, nl_1137, nl_5685, nm_1b, iN_mI, mI_iN, iN_add, iN_mul, iN_sub, iN_div, iN_rem, iN_lt, iN_le, iN_eq, iN_nat, inB_iN, h0]
  exact c1
def bpS (s : Sv) (q : Nat) (num : Int32) (k : Nat) : Int32 := if tryB s q = true then anS s q num k else mI
theorem r_byPutting {σ : Mm} {q k : Nat} {num : Int32} (h : II σ) (hq : isOf (nowS σ) q) (hn : -999 ≤ num.toInt ∧ num.toInt ≤ 999) (hk : k < 3) : ∃ σ1, F_X6_byPutting (iN q) num (iN k) σ = some (.inl (bpS (nowS σ) q num k), σ1) ∧ II σ1 ∧ (RO (nowS σ) σ → RO (nowS σ) σ1) ∧ ∀ k j, ¬ (k = 170 ∨ (174 ≤ k ∧ k ≤ 183)) → ¬ (k = 168 ∧ j = 12) → σ1 k j = σ k j := by
  have hw := h.1.1
  have hv : Vw 169 (nowS σ) σ := now_vw
  have l1 := isOf_lt hw hq
  have k1 := hv.ki hw hq
  have kb := (hw.2.2.2.2.2.1 q hq).2.1
  unfold F_X6_byPutting bpS
  cases ht : tryB (nowS σ) q
  · refine ⟨σ, ?_, h, fun g => g, fun _ _ _ _ => rfl⟩
    by_cases hc : isCl (nowS σ) q
    · have h3 : kiS (nowS σ) q = 3 := by
        by_cases g : kiS (nowS σ) q = 3
        · exact g
        · unfold tryB at ht
          rw [clB_iff.mpr hc, decide_eq_true g] at ht
          cases ht
      have fc := r_isCell1 hw hv hc
      simp (disch := omega) only [↓ite_ap, if_true, if_false, if_pos, if_neg, retM_ap, retZ_ap0, retZ_ap1, gM_ap, sM_ap, jM_ap, bI_ap, bL_ap, bD_ap, rdM_ap, wrM_ap, thrM_ap, nl_0, nl_1, nl_2, nl_3, nl_4, nl_5, nl_6, nl_7, nl_8, nl_9, nl_10, nl_11, nl_12, nl_13, nl_25, nl_33, nl_35, nl_45, nl_48, nl_49, nl_50, nl_52, nl_53, nl_57, nl_59, nl_60, nl_61, nl_77, nl_94, nl_97, nl_100, nl_101, nl_119, nl_125, nl_126, nl_137, nl_262, nl_387, nl_500, nl_512, nl_637, nl_999, nl_1022, nl_1137, nl_5685, nm_1b, iN_mI, mI_iN, iN_add, iN_mul, iN_sub, iN_div, iN_rem, iN_lt, iN_le, iN_eq, iN_nat, inB_iN, nm_1, ↓invM_l fc, k1, h3, Bool.false_eq_true]
    · have fc := r_isCell0 hw hv l1 hc
      simp (disch := omega) only [↓ite_ap, if_true, if_false, if_pos, if_neg, retM_ap, retZ_ap0, retZ_ap1, gM_ap, sM_ap, jM_ap, bI_ap, bL_ap, bD_ap, rdM_ap, wrM_ap, thrM_ap, nl_0, nl_1, nl_2, nl_3, nl_4, nl_5, nl_6, nl_7, nl_8, nl_9, nl_10, nl_11, nl_12, nl_13, nl_25, nl_33, nl_35, nl_45, nl_48, nl_49, nl_50, nl_52, nl_53, nl_57, nl_59, nl_60, nl_61, nl_77, nl_94, nl_97, nl_100, nl_101, nl_119, nl_125, nl_126, nl_137, nl_262, nl_387, nl_500, nl_512, nl_637, nl_999, nl_1022, nl_1137, nl_5685, nm_1b, iN_mI, mI_iN, iN_add, iN_mul, iN_sub, iN_div, iN_rem, iN_lt, iN_le, iN_eq, iN_nat, inB_iN, nm_1, ↓invM_l fc, Bool.false_eq_true]
  · obtain ⟨hc, h3, hm⟩ := try_may ht
    have fc := r_isCell1 hw hv hc
    obtain ⟨m1, a1, a2, a3, a4, a5⟩ := r_laysNow h
    have fh := fun R => r_had a3 R
    obtain ⟨m2, e2⟩ : ∃ m, m = setS m1 180 0 125 (fun k => if clB (nowS σ) k = true then shL (nowS σ) k else iN 0) := ⟨_, rfl⟩
    rw [← e2] at fh
    have fcp := r_copies (a0 := 169) (na0 := 1137) (p := 0) (a2 := 170) (na2 := 1137) (q := 0) (σ := m2) (by omega) (by omega) (by omega) (by omega) (by omega)
    obtain ⟨m3, e3⟩ : ∃ m, m = setS m2 170 0 (0 + 1137) (fun j => m2 169 (0 + (j - 0))) := ⟨_, rfl⟩
    rw [← e3] at fcp
    have v3 : Vw 170 (nowS σ) m3 := fun j hj => by
      rw [e3, setS_in (by omega) (by omega), e2, setS_o (by omega), show 0 + (j - 0) = j by omega]
      exact a3.2.1 j hj
    obtain ⟨m4, b1, b2, b3⟩ := r_puts hw v3 hm (ok1 hn)
    have hw' := pu_WF hw hm (ok1 hn)
    obtain ⟨m5, c1, c2, c3⟩ := r_laysb hw' b2 (by omega)
    have v5 : Vw 170 (puS (nowS σ) q 1 num) m5 := b2.fr (funext (fun j => c3 170 j (by omega)))
    have e180 : ∀ z, z < 125 → m5 180 z = if clB (nowS σ) z = true then shL (nowS σ) z else iN 0 := fun z hz => by
      rw [c3 180 z (by omega), b3 180 (by omega), e3, setS_o (by omega), e2, setS_in (by omega) (by omega)]
    have fch := fun K => r_changed (num := num) (K := K) hw ht hw' v5 (fun t g => c2 t (by rw [pu_tb1 hw ht]; exact g)) e180
    have p169 : m5 169 = m1 169 := by
      rw [show m5 169 = m4 169 from funext (fun j => c3 169 j (by omega)), b3 169 (by omega), e3, setS_o (by omega), e2, setS_o (by omega)]
    have v6 : Vw 169 (nowS σ) m5 := a3.2.1.fr p169
    obtain ⟨m6, d1, d2, d3⟩ := r_laysb hw v6 (by omega)
    have fr : ∀ k j, ¬ (k = 170 ∨ (174 ≤ k ∧ k ≤ 183)) → m6 k j = m1 k j := fun k j g => by
      rw [d3 k j (by omega), c3 k j (by omega), b3 k (by omega), e3, setS_o (by omega), e2, setS_o (by omega)]
    have n6 : nowS m6 = nowS σ := by
      rw [now_fr (funext (fun j => fr 169 j (by omega))), a4]
    have t1 := hw.1.2.1
    have M0 := c2 0 (by rw [pu_tb1 hw ht]; omega)
    refine ⟨m6, ?_, ⟨?_, ?_, ?_, ?_⟩, fun _ => ⟨hw, v6.fr (funext (fun j => d3 169 j (by omega))), d2⟩, fun k j g1 g2 => by rw [fr k j g1, a5 k j (by omega) g2]⟩
    · rw [if_pos rfl]
      unfold anS
      have hk' : k = 0 ∨ k = 1 ∨ k = 2 := by omega
      rcases hk' with e | e | e
      · subst e
        have v0 := M0.1
        simp (disch := omega) only [↓ite_ap, if_true, if_false, if_pos, if_neg, retM_ap, retZ_ap0, retZ_ap1, gM_ap, sM_ap, jM_ap, bI_ap, bL_ap, bD_ap, rdM_ap, wrM_ap, thrM_ap, nl_0, nl_1, nl_2, nl_3, nl_4, nl_5, nl_6, nl_7, nl_8, nl_9, nl_10, nl_11, nl_12, nl_13, nl_25, nl_33, nl_35, nl_45, nl_48, nl_49, nl_50, nl_52, nl_53, nl_57, nl_59, nl_60, nl_61, nl_77, nl_94, nl_97, nl_100, nl_101, nl_119, nl_125, nl_126, nl_137, nl_262, nl_387, nl_500, nl_512, nl_637, nl_999, nl_1022, nl_1137, nl_5685, nm_1b, iN_mI, mI_iN, iN_add, iN_mul, iN_sub, iN_div, iN_rem, iN_lt, iN_le, iN_eq, iN_nat, inB_iN, nm_1, ↓invM_l fc, k1, ↓invM_l a1, fh, ↓invM_l fcp, ↓invM_l b1, ↓invM_l c1, fch, v0, ↓invM_l d1]
      · subst e
        simp (disch := omega) only [↓ite_ap, if_true, if_false, if_pos, if_neg, retM_ap, retZ_ap0, retZ_ap1, gM_ap, sM_ap, jM_ap, bI_ap, bL_ap, bD_ap, rdM_ap, wrM_ap, thrM_ap, nl_0, nl_1, nl_2, nl_3, nl_4, nl_5, nl_6, nl_7, nl_8, nl_9, nl_10, nl_11, nl_12, nl_13, nl_25, nl_33, nl_35, nl_45, nl_48, nl_49, nl_50, nl_52, nl_53, nl_57, nl_59, nl_60, nl_61, nl_77, nl_94, nl_97, nl_100, nl_101, nl_119, nl_125, nl_126, nl_137, nl_262, nl_387, nl_500, nl_512, nl_637, nl_999, nl_1022, nl_1137, nl_5685, nm_1b, iN_mI, mI_iN, iN_add, iN_mul, iN_sub, iN_div, iN_rem, iN_lt, iN_le, iN_eq, iN_nat, inB_iN, nm_1, ↓invM_l fc, k1, ↓invM_l a1, fh, ↓invM_l fcp, ↓invM_l b1, ↓invM_l c1, fch, ↓invM_l d1]
      · subst e
        have v0 : m5 175 0 = iN (tsL (puS (nowS σ) q 1 num) 0) := M0.2.1
        simp (disch := omega) only [↓ite_ap, if_true, if_false, if_pos, if_neg, retM_ap, retZ_ap0, retZ_ap1, gM_ap, sM_ap, jM_ap, bI_ap, bL_ap, bD_ap, rdM_ap, wrM_ap, thrM_ap, nl_0, nl_1, nl_2, nl_3, nl_4, nl_5, nl_6, nl_7, nl_8, nl_9, nl_10, nl_11, nl_12, nl_13, nl_25, nl_33, nl_35, nl_45, nl_48, nl_49, nl_50, nl_52, nl_53, nl_57, nl_59, nl_60, nl_61, nl_77, nl_94, nl_97, nl_100, nl_101, nl_119, nl_125, nl_126, nl_137, nl_262, nl_387, nl_500, nl_512, nl_637, nl_999, nl_1022, nl_1137, nl_5685, nm_1b, iN_mI, mI_iN, iN_add, iN_mul, iN_sub, iN_div, iN_rem, iN_lt, iN_le, iN_eq, iN_nat, inB_iN, nm_1, ↓invM_l fc, k1, ↓invM_l a1, fh, ↓invM_l fcp, ↓invM_l b1, ↓invM_l c1, fch, v0, ↓invM_l d1]
    · rw [n6, ← a4]
      exact a2.1.fr (fun k hk => funext (fun j => fr k j (by omega)))
    · exact a2.2.1.fr (fun k j g => fr k j (by unfold PI at g; omega))
    · exact a2.2.2.1.fr (fun k j g => fr k j (by unfold PI at g; omega))
    · have e12 : m6 168 12 = m1 168 12 := fr 168 12 (by omega)
      unfold LD
      rw [e12, n6]
      rcases a2.2.2.2 with g | g
      · exact .inl g
      · exact .inr ⟨g.1, d2⟩
theorem btw_999 {p : Int32} (h : btw p (-999) 999 = true) : -999 ≤ p.toInt ∧ p.toInt ≤ 999 := by
  unfold btw at h
  rw [Bool.and_eq_true, decide_eq_true_eq, decide_eq_true_eq, Int32.lt_iff_toInt_lt, Int32.lt_iff_toInt_lt] at h
  have e1 : (-999 : Int32).toInt = -999 := by decide
  have e2 : (999 : Int32).toInt = 999 := by decide
  omega
theorem st_ifPut (p0 p1 p2 p3 p4 : Int32) : StW II cs_ifPut (F_X5_ifPut p0 p1 p2 p3 p4) (F_X6_ifPut p0 p1 p2 p3 p4) := by
  intro σ h
  obtain ⟨hw, hr, hL⟩ := h.1
  have fq := f_requireSquare (p0 := p0) (p1 := p1) (p2 := p2) hw hr
  have fs6 := r_isSquare (p0 := p0) (p1 := p1) (p2 := p2) hw (vw_up (j := 6) (v := iN 0) (show 168 ≠ 169 by omega))
  unfold F_X6_ifPut
  cases e : sqO (nowS σ) p0 p1 p2 with
  | none =>
    rw [e] at fq fs6
    have fs6 : F_X6_isSquare p0 p1 p2 (upM σ 168 6 (iN 0)) = some (.inl (iN 0), upM σ 168 6 (iN 0)) := fs6
    refine st_er (c := 1) h (by unfold F_X5_ifPut; exact invM_r fq) ?_ rfl
    simp (disch := omega) only [↓ite_ap, if_true, if_false, if_pos, if_neg, retM_ap, retZ_ap0, retZ_ap1, gM_ap, sM_ap, jM_ap, bI_ap, bL_ap, bD_ap, rdM_ap, wrM_ap, thrM_ap, nl_0, nl_1, nl_2, nl_3, nl_4, nl_5, nl_6, nl_7, nl_8, nl_9, nl_10, nl_11, nl_12, nl_13, nl_25, nl_33, nl_35, nl_45, nl_48, nl_49, nl_50, nl_52, nl_53, nl_57, nl_59, nl_60, nl_61, nl_77, nl_94, nl_97, nl_100, nl_101, nl_119, nl_125, nl_126, nl_137, nl_262, nl_387, nl_500, nl_512, nl_637, nl_999, nl_1022, nl_1137, nl_5685, nm_1b, iN_mI, mI_iN, iN_add, iN_mul, iN_sub, iN_div, iN_rem, iN_lt, iN_le, iN_eq, iN_nat, inB_iN, ↓invM_l fs6, b_fails]
  | some q =>
    rw [e] at fq fs6
    have fq : F_X5_requireSquare p0 p1 p2 σ = some (.inl (iN q), σ) := fq
    have fs6 : F_X6_isSquare p0 p1 p2 (upM σ 168 6 (iN 0)) = some (.inl (iN 1), upM σ 168 6 (iN 0)) := fs6
    obtain ⟨t, r, c, _, _, _, ht, _, _, _, _, eq, hq, eqt, _⟩ := sqO_some hw e
    have fb := f_requireBetween (p := p3) (lo := -999) (hi := 999) (σ := σ)
    have fi6 := r_in (p := p3) (lo := -999) (hi := 999) (σ := upM σ 168 6 (iN 0))
    cases eb : btw p3 (-999) 999
    · rw [eb, if_neg (by decide)] at fb fi6
      refine st_er (e := 2) (c := 2) h ?_ ?_ rfl
      · unfold F_X5_ifPut
        refine (invM_l fq).trans ?_
        exact invM_r fb
      · simp (disch := omega) only [↓ite_ap, if_true, if_false, if_pos, if_neg, retM_ap, retZ_ap0, retZ_ap1, gM_ap, sM_ap, jM_ap, bI_ap, bL_ap, bD_ap, rdM_ap, wrM_ap, thrM_ap, nl_0, nl_1, nl_2, iN_eq, ↓invM_l fs6, ↓invM_l fi6, b_fails]
    · rw [eb, if_pos rfl] at fb fi6
      have hn := btw_999 eb
      have fb4 := f_requireBetween (p := p4) (lo := iN 0) (hi := iN 2) (σ := σ)
      have fi4 := r_in (p := p4) (lo := iN 0) (hi := iN 2) (σ := upM σ 168 6 (iN 0))
      cases eb4 : btw p4 (iN 0) (iN 2)
      · rw [eb4, if_neg (by decide)] at fb4 fi4
        refine st_er (e := 2) (c := 2) h ?_ ?_ rfl
        · unfold F_X5_ifPut
          refine (invM_l fq).trans ((invM_l fb).trans ?_)
          exact invM_r fb4
        · simp (disch := omega) only [↓ite_ap, if_true, if_false, if_pos, if_neg, retM_ap, retZ_ap0, retZ_ap1, gM_ap, sM_ap, jM_ap, bI_ap, bL_ap, bD_ap, rdM_ap, wrM_ap, thrM_ap, nl_0, nl_1, nl_2, iN_eq, ↓invM_l fs6, ↓invM_l fi6, ↓invM_l fi4, b_fails]
      · rw [eb4, if_pos rfl] at fb4
        obtain ⟨k, ek, hk⟩ := btw_k (by omega) eb4
        obtain ⟨rr, hrr⟩ : ∃ rr, rr = bpS (nowS σ) q p3 k := ⟨_, rfl⟩
        obtain ⟨σ1, g1, g2⟩ : ∃ σ1, F_X5_ifPut p0 p1 p2 p3 p4 σ = some (.inl rr, σ1) ∧ ∀ k, ¬ (37 ≤ k ∧ k ≤ 72) → σ1 k = σ k := by
          unfold F_X5_ifPut
          cases hb : tryB (nowS σ) q
          · have f1 := f_tryNot (num := p3) h.1 hq hb
            refine ⟨σ, ?_, fun _ _ => rfl⟩
            refine (invM_l fq).trans ((invM_l fb).trans ((invM_l fb4).trans ((invM_l f1).trans ?_)))
            rw [hrr]
            unfold bpS
            rw [hb]
            rfl
          · obtain ⟨m, d1, d2, d3⟩ := f_tryNumber (num := p3) h.1 hq hb hn
            have hco : CO (nowS σ) m := h.1.fr (fun k hk => d3 k (by omega))
            have f2 := f_trialAnswer (num := p3) hco hq hb d2 hk
            refine ⟨m, ?_, d3⟩
            refine (invM_l fq).trans ((invM_l fb).trans ((invM_l fb4).trans ((invM_l d1).trans ?_)))
            rw [if_neg (by decide), ek, hrr]
            unfold bpS
            rw [hb, if_pos rfl]
            exact invM_l f2
        have h1 : II σ1 := h.fr (fun k j g => by rw [g2 k (by unfold PI at g; omega)])
        have n1 : nowS (mO σ1 rr) = nowS σ := by rw [now_mO, now_fr (g2 169 (by omega))]
        have v7 : Vw 169 (nowS σ) (mO σ1 rr) := by rw [← n1]; exact now_vw
        have fs7 := r_isSquare (p0 := p0) (p1 := p1) (p2 := p2) hw v7
        rw [e] at fs7
        have fs7 : F_X6_isSquare p0 p1 p2 (mO σ1 rr) = some (.inl (iN 1), mO σ1 rr) := fs7
        have fi7 := r_in (p := p3) (lo := -999) (hi := 999) (σ := mO σ1 rr)
        have fi8 := r_in (p := p4) (lo := iN 0) (hi := iN 2) (σ := mO σ1 rr)
        rw [eb, if_pos rfl] at fi7
        rw [eb4, if_pos rfl] at fi8
        have fsq := r_squareO (σ := mO σ1 rr) hw e
        obtain ⟨m, c1, c2, c3, c4⟩ := r_byPutting (k := k) (num := p3) (h1.mO (r := rr)) (by rw [n1]; exact hq) hn hk
        rw [n1, ← hrr] at c1
        refine st_ok (r := rr) (σ1 := σ1) (σ3 := m) g1 ?_ c2 (by rw [c4 _ _ (by omega) (by omega)]; exact mO_6) (by rw [c4 _ _ (by omega) (by omega)]; exact mO_r)
        show (invM (F_X6_isSquare p0 p1 p2) _) (mO σ1 rr) = _
        refine (invM_l fs7).trans ?_
        rw [if_neg (by decide)]
        refine (invM_l fi7).trans ?_
        simp (disch := omega) only [↓ite_ap, if_true, if_false, if_pos, if_neg, retM_ap, retZ_ap0, retZ_ap1, gM_ap, sM_ap, jM_ap, bI_ap, bL_ap, bD_ap, rdM_ap, wrM_ap, thrM_ap, nl_0, nl_1, nl_2, iN_eq, ↓invM_l fi8, ↓invM_l fsq]
        rw [ek, invM_l c1]
        rfl
