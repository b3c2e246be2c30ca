/-! PUT -/
def okB (p num : Int32) : Bool := if p = iN 1 then btw num (-999) 999 else if p = iN 2 then btw num (iN 1) (iN 12) else btw p (iN 0) (iN 6) && decide (p ≠ iN 3)
def mayB (s : Sv) (q : Nat) : Bool := clB s q && (decide (kiS s q ≠ 3) || decide (nv (nuS s q) = tbS s - 1))
theorem may_P {s : Sv} {q : Nat} (h : mayB s q = true) : mayP s q := by
  unfold mayB at h
  rw [Bool.and_eq_true, Bool.or_eq_true, decide_eq_true_eq, decide_eq_true_eq] at h
  refine ⟨clB_iff.mp h.1, fun h3 => ?_⟩
  rcases h.2 with g | g
  · exact absurd h3 g
  · exact g
theorem ok_P {p num : Int32} (h : okB p num = true) : ∃ kind, p = iN kind ∧ okP kind num := by
  unfold okB at h
  by_cases h1 : p = iN 1
  · rw [if_pos h1] at h
    exact ⟨1, h1, ok1 (btw_999 h)⟩
  · rw [if_neg h1] at h
    by_cases h2 : p = iN 2
    · rw [if_pos h2] at h
      obtain ⟨w, e, a, b⟩ := btw_nat (by omega) (by omega) h
      exact ⟨2, h2, by omega, by omega, fun g => by omega, fun _ => ⟨w, e, a, b⟩⟩
    · rw [if_neg h2, Bool.and_eq_true, decide_eq_true_eq] at h
      obtain ⟨k, e, a, b⟩ := btw_nat (by omega) (by omega) h.1
      have n3 : k ≠ 3 := fun g => h.2 (by rw [e, g])
      have n1 : k ≠ 1 := fun g => h1 (by rw [e, g])
      have n2 : k ≠ 2 := fun g => h2 (by rw [e, g])
      exact ⟨k, e, b, n3, fun g => absurd g n1, fun g => absurd g n2⟩
theorem f_isContent {p num : Int32} {σ : Mm} : F_X5_isContent p num σ = some (.inl (if okB p num = true then iN 1 else iN 0), σ) := by
  unfold F_X5_isContent okB
  have e1 : (p = (1 : Int32)) = (p = iN 1) := by rw [nl_1]
  by_cases h1 : p = iN 1
  · have fb := f_btw (p := num) (lo := -999) (hi := 999) (σ := σ)
    rw [if_pos h1, if_pos (show p = (1 : Int32) from h1)]
    cases eb : btw num (-999) 999
    · rw [eb] at fb
      exact (invM_l fb).trans rfl
    · rw [eb] at fb
      exact (invM_l fb).trans rfl
  · rw [if_neg h1, if_neg (show ¬ p = (1 : Int32) from h1)]
    by_cases h2 : p = iN 2
    · have fb := f_btw (p := num) (lo := iN 1) (hi := iN 12) (σ := σ)
      rw [if_pos h2, if_pos (show p = (2 : Int32) from h2)]
      cases eb : btw num (iN 1) (iN 12)
      · rw [eb] at fb
        exact (invM_l fb).trans rfl
      · rw [eb] at fb
        exact (invM_l fb).trans rfl
    · rw [if_neg h2, if_neg (show ¬ p = (2 : Int32) from h2)]
      cases eb : btw p (iN 0) (iN 6)
      · have n : ∀ k, k ≤ 6 → ¬ p = iN k := fun k hk e => by
          rw [e, btw_iN (by omega) (by omega) (by omega), decide_eq_true (by omega)] at eb
          cases eb
        have fs : F_X5_isSum p σ = some (.inl (iN 0), σ) := by
          unfold F_X5_isSum
          simp (disch := omega) only [↓ite_ap, if_true, if_false, if_pos, if_neg, retM_ap, retZ_ap0, retZ_ap1, gM_ap, sM_ap, jM_ap, bI_ap, bL_ap, bD_ap, rdM_ap, wrM_ap, thrM_ap, nl_0, nl_4, nl_5, nl_6, n]
        simp (disch := omega) only [↓ite_ap, if_true, if_false, if_pos, if_neg, retM_ap, retZ_ap0, retZ_ap1, gM_ap, sM_ap, jM_ap, bI_ap, bL_ap, bD_ap, rdM_ap, wrM_ap, thrM_ap, nl_0, nl_1, n, ↓invM_l fs, Bool.false_and, Bool.false_eq_true]
      · obtain ⟨k, e, a, b⟩ := btw_nat (by omega) (by omega) eb
        subst e
        have n1 : k ≠ 1 := fun g => h1 (by rw [g])
        have n2 : k ≠ 2 := fun g => h2 (by rw [g])
        have fs := f_isSum (k := k) (σ := σ) (by omega)
        have hk : k = 0 ∨ k = 3 ∨ (4 ≤ k ∧ k ≤ 6) := by omega
        rcases hk with h | h | h
        · subst h
          rw [decide_eq_true (show iN 0 ≠ iN 3 by show ¬ iN 0 = iN 3; rw [iN_eq (by omega) (by omega)]; omega)]
          simp (disch := omega) only [↓ite_ap, if_true, if_false, if_pos, if_neg, retM_ap, retZ_ap0, retZ_ap1, gM_ap, sM_ap, jM_ap, bI_ap, bL_ap, bD_ap, rdM_ap, wrM_ap, thrM_ap, nl_0, nl_1, nl_2, nl_3, nl_4, nl_5, nl_6, nl_7, nl_8, nl_9, nl_10, nl_11, nl_12, nl_13, nl_25, nl_33, nl_35, nl_45, nl_48, nl_49, nl_50, nl_52, nl_53, nl_57, nl_59, nl_60, nl_61, nl_77, nl_94, nl_97, nl_100, nl_101, nl_119, nl_125, nl_126, nl_137, nl_262, nl_387, nl_500, nl_512, nl_637, nl_999, nl_1022, nl_1137, nl_5685, nm_1b, iN_mI, mI_iN, iN_add, iN_mul, iN_sub, iN_div, iN_rem, iN_lt, iN_le, iN_eq, iN_nat, inB_iN, Bool.and_true]
        · subst h
          rw [decide_eq_false (not_not_intro rfl)]
          rw [if_neg (by omega)] at fs
          simp (disch := omega) only [↓ite_ap, if_true, if_false, if_pos, if_neg, retM_ap, retZ_ap0, retZ_ap1, gM_ap, sM_ap, jM_ap, bI_ap, bL_ap, bD_ap, rdM_ap, wrM_ap, thrM_ap, nl_0, nl_1, nl_2, nl_3, nl_4, nl_5, nl_6, nl_7, nl_8, nl_9, nl_10, nl_11, nl_12, nl_13, nl_25, nl_33, nl_35, nl_45, nl_48, nl_49, nl_50, nl_52, nl_53, nl_57, nl_59, nl_60, nl_61, nl_77, nl_94, nl_97, nl_100, nl_101, nl_119, nl_125, nl_126, nl_137, nl_262, nl_387, nl_500, nl_512, nl_637, nl_999, nl_1022, nl_1137, nl_5685, nm_1b, iN_mI, mI_iN, iN_add, iN_mul, iN_sub, iN_div, iN_rem, iN_lt, iN_le, iN_eq, iN_nat, inB_iN, ↓invM_l fs, Bool.and_false, Bool.false_eq_true]
        · rw [decide_eq_true (show iN k ≠ iN 3 by show ¬ iN k = iN 3; rw [iN_eq (by omega) (by omega)]; omega)]
          rw [if_pos h] at fs
          simp (disch := omega) only [↓ite_ap, if_true, if_false, if_pos, if_neg, retM_ap, retZ_ap0, retZ_ap1, gM_ap, sM_ap, jM_ap, bI_ap, bL_ap, bD_ap, rdM_ap, wrM_ap, thrM_ap, nl_0, nl_1, nl_2, nl_3, nl_4, nl_5, nl_6, nl_7, nl_8, nl_9, nl_10, nl_11, nl_12, nl_13, nl_25, nl_33, nl_35, nl_45, nl_48, nl_49, nl_50, nl_52, nl_53, nl_57, nl_59, nl_60, nl_61, nl_77, nl_94, nl_97, nl_100, nl_101, nl_119, nl_125, nl_126, nl_137, nl_262, nl_387, nl_500, nl_512, nl_637, nl_999, nl_1022, nl_1137, nl_5685, nm_1b, iN_mI, mI_iN, iN_add, iN_mul, iN_sub, iN_div, iN_rem, iN_lt, iN_le, iN_eq, iN_nat, inB_iN, ↓invM_l fs, Bool.and_true]
theorem f_canFill {b q : Nat} {s : Sv} {σ : Mm} (hw : WF s) (hr : Rel b s σ) (hq : isOf s q) : F_X4_canFill b (iN q) σ = some (.inl (if mayB s q = true then iN 1 else iN 0), σ) := by
  have t5 := hw.1.2.2
  have t1 := hw.1.2.1
  have l1 := isOf_lt hw hq
  have r1 := hr.2.2.2.2.1 q hq
  have w3 := hw.2.2.2.2.2.1 q hq
  have k1 : σ (b + 8) q = iN (kiS s q) := r1.2.1.trans w3.1
  have kb := w3.2.1
  have e1 : σ b 1 = iN (tbS s) := hr.1.trans hw.1.1
  unfold F_X4_canFill mayB
  by_cases hc : isCl s q
  · rw [clB_iff.mpr hc]
    by_cases h3 : kiS s q = 3
    · have w7 := (hw.2.2.2.2.2.2.1 q hc).2.2 h3
      have k2 : σ (b + 10) q = iN (nv (nuS s q)) := r1.2.2.1.trans w7.1
      rw [decide_eq_false (not_not_intro h3)]
      by_cases h4 : nv (nuS s q) = tbS s - 1
      · rw [decide_eq_true h4]
        simp (disch := omega) only [↓ite_ap, if_true, if_false, if_pos, if_neg, retM_ap, retZ_ap0, retZ_ap1, gM_ap, sM_ap, jM_ap, bI_ap, bL_ap, bD_ap, rdM_ap, wrM_ap, thrM_ap, nl_0, nl_1, nl_2, nl_3, nl_4, nl_5, nl_6, nl_7, nl_8, nl_9, nl_10, nl_11, nl_12, nl_13, nl_25, nl_33, nl_35, nl_45, nl_48, nl_49, nl_50, nl_52, nl_53, nl_57, nl_59, nl_60, nl_61, nl_77, nl_94, nl_97, nl_100, nl_101, nl_119, nl_125, nl_126, nl_137, nl_262, nl_387, nl_500, nl_512, nl_637, nl_999, nl_1022, nl_1137, nl_5685, nm_1b, iN_mI, mI_iN, iN_add, iN_mul, iN_sub, iN_div, iN_rem, iN_lt, iN_le, iN_eq, iN_nat, inB_iN, ↓b_at, ↓b_store, ↓b_place1, ↓b_place0, ↓b_tableOf, ↓b_sqEnd, ↓b_isCell, rel_isCell hw hr hq.1, hc, Nat.add_assoc, Nat.reduceAdd, k1, h3, k2, e1, h4, Bool.or_true, Bool.and_true]
      · rw [decide_eq_false h4]
        simp (disch := omega) only [↓ite_ap, if_true, if_false, if_pos, if_neg, retM_ap, retZ_ap0, retZ_ap1, gM_ap, sM_ap, jM_ap, bI_ap, bL_ap, bD_ap, rdM_ap, wrM_ap, thrM_ap, nl_0, nl_1, nl_2, nl_3, nl_4, nl_5, nl_6, nl_7, nl_8, nl_9, nl_10, nl_11, nl_12, nl_13, nl_25, nl_33, nl_35, nl_45, nl_48, nl_49, nl_50, nl_52, nl_53, nl_57, nl_59, nl_60, nl_61, nl_77, nl_94, nl_97, nl_100, nl_101, nl_119, nl_125, nl_126, nl_137, nl_262, nl_387, nl_500, nl_512, nl_637, nl_999, nl_1022, nl_1137, nl_5685, nm_1b, iN_mI, mI_iN, iN_add, iN_mul, iN_sub, iN_div, iN_rem, iN_lt, iN_le, iN_eq, iN_nat, inB_iN, ↓b_at, ↓b_store, ↓b_place1, ↓b_place0, ↓b_tableOf, ↓b_sqEnd, ↓b_isCell, rel_isCell hw hr hq.1, hc, Nat.add_assoc, Nat.reduceAdd, k1, h3, k2, e1, Bool.or_false, Bool.and_false, Bool.false_eq_true]
    · rw [decide_eq_true h3]
      simp (disch := omega) only [↓ite_ap, if_true, if_false, if_pos, if_neg, retM_ap, retZ_ap0, retZ_ap1, gM_ap, sM_ap, jM_ap, bI_ap, bL_ap, bD_ap, rdM_ap, wrM_ap, thrM_ap, nl_0, nl_1, nl_2, nl_3, nl_4, nl_5, nl_6, nl_7, nl_8, nl_9, nl_10, nl_11, nl_12, nl_13, nl_25, nl_33, nl_35, nl_45, nl_48, nl_49, nl_50, nl_52, nl_53, nl_57, nl_59, nl_60, nl_61, nl_77, nl_94, nl_97, nl_100, nl_101, nl_119, nl_125, nl_126, nl_137, nl_262, nl_387, nl_500, nl_512, nl_637, nl_999, nl_1022, nl_1137, nl_5685, nm_1b, iN_mI, mI_iN, iN_add, iN_mul, iN_sub, iN_div, iN_rem, iN_lt, iN_le, iN_eq, iN_nat, inB_iN, ↓b_at, ↓b_store, ↓b_place1, ↓b_place0, ↓b_tableOf, ↓b_sqEnd, ↓b_isCell, rel_isCell hw hr hq.1, hc, Nat.add_assoc, Nat.reduceAdd, k1, Bool.true_or, Bool.and_true]
  · rw [clB_not hc]
    simp (disch := omega) only [↓ite_ap, if_true, if_false, if_pos, if_neg, retM_ap, retZ_ap0, retZ_ap1, gM_ap, sM_ap, jM_ap, bI_ap, bL_ap, bD_ap, rdM_ap, wrM_ap, thrM_ap, nl_0, nl_1, nl_2, nl_3, nl_4, nl_5, nl_6, nl_7, nl_8, nl_9, nl_10, nl_11, nl_12, nl_13, nl_25, nl_33, nl_35, nl_45, nl_48, nl_49, nl_50, nl_52, nl_53, nl_57, nl_59, nl_60, nl_61, nl_77, nl_94, nl_97, nl_100, nl_101, nl_119, nl_125, nl_126, nl_137, nl_262, nl_387, nl_500, nl_512, nl_637, nl_999, nl_1022, nl_1137, nl_5685, nm_1b, iN_mI, mI_iN, iN_add, iN_mul, iN_sub, iN_div, iN_rem, iN_lt, iN_le, iN_eq, iN_nat, inB_iN, ↓b_at, ↓b_store, ↓b_place1, ↓b_place0, ↓b_tableOf, ↓b_sqEnd, ↓b_isCell, rel_isCell hw hr hq.1, hc, Bool.false_and, Bool.false_eq_true]
