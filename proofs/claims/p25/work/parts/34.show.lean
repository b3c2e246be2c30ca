theorem addN0 {x : Int32} : x + iN 0 = x := Int32.add_zero x
theorem upM_setS {σ : Mm} {k k2 lo hi i : Nat} {v : Int32} {F : Nat → Int32} (h : k ≠ k2) : upM (setS σ k2 lo hi F) k i v = setS (upM σ k i v) k2 lo hi F := by
  funext k' j
  unfold setS upM upd
  by_cases h1 : k' = k
  · subst h1
    have h3 : ¬ (k' = k2 ∧ lo ≤ j ∧ j < hi) := fun q => h q.1
    by_cases h2 : j = i
    · simp only [h2, if_true]
      rw [if_neg (fun q => h q.1)]
    · simp only [h2, if_true, if_false]
  · simp only [h1, if_false]
theorem setS_same {σ : Mm} {k lo i : Nat} {F : Nat → Int32} (h : F i = σ k i) : setS σ k lo (i + 1) F = setS σ k lo i F := by
  funext k' j
  unfold setS
  by_cases h1 : k' = k ∧ lo ≤ j ∧ j < i
  · rw [if_pos h1, if_pos ⟨h1.1, h1.2.1, by omega⟩]
  · rw [if_neg h1]
    by_cases h2 : k' = k ∧ lo ≤ j ∧ j < i + 1
    · have : j = i := by omega
      rw [if_pos h2, this, h, h2.1]
    · rw [if_neg h2]
theorem clB_not {s : Sv} {q : Nat} (h : ¬ isCl s q) : clB s q = false := by
  cases e : clB s q
  · rfl
  · exact absurd (clB_iff.mp e) h
/-- what a sum shows, out of the values v of the squares -/
def suS (s : Sv) (v : Nat → Int32) (sum : Nat) : Int32 := smI (fun q => if (clB s q && cnB s sum q) = true then v q else iN 0) (sum / 25 * 25) ((sum / 25 + 1) * 25)
theorem f_sumOf {b sum : Nat} {s : Sv} {σ : Mm} (hw : WF s) (hr : Rel (b + 1) s σ) (hs : isCl s sum) (hk : 4 ≤ kiS s sum) (hst : σ (b + 21) sum = iN (frS s sum)) (hv : ∀ q, q / 25 = sum / 25 → ¬ isCl s q → σ (b + 17) q = iN 0) : F_X1_sumOf b (iN sum) σ = some (.inl (suS s (σ (b + 17)) sum), σ) := by
  have l1 := isOf_lt hw hs.1
  have t5 := hw.1.2.2
  have t6 := hs.1.1
  obtain ⟨g, hg⟩ : ∃ g : Nat → Int32, g = fun q => if (clB s q && cnB s sum q) = true then σ (b + 17) q else iN 0 := ⟨_, rfl⟩
  have hf : suS s (σ (b + 17)) sum = smI g (sum / 25 * 25) ((sum / 25 + 1) * 25) := by rw [hg]; rfl
  have hfr : frS s sum < 5 := by have := frS_lt (s := s) (sum := sum); omega
  have h := lp (fun n i (a : Int32) => L_X1_sumOf_13 b (iN sum) (iN (sum / 25)) n a (iN i) σ) (fun i => smI g (sum / 25 * 25) i) (i0 := sum / 25 * 25) (N := (sum / 25 + 1) * 25) (r := some (.inl (suS s (σ (b + 17)) sum), σ)) (by omega) (by unfold FU; omega) ?_ ?_
  · simp only [smI_0] at h
    unfold F_X1_sumOf
    simp (disch := omega) only [↓ite_ap, if_true, if_false, if_pos, if_neg, retM_ap, retZ_ap0, retZ_ap1, gM_ap, sM_ap, jM_ap, bI_ap, bL_ap, bD_ap, rdM_ap, wrM_ap, thrM_ap, nl_0, nl_1, nl_2, nl_3, nl_4, nl_5, nl_6, nl_7, nl_8, nl_9, nl_10, nl_11, nl_12, nl_13, nl_25, nl_33, nl_35, nl_45, nl_48, nl_49, nl_50, nl_52, nl_53, nl_57, nl_59, nl_60, nl_61, nl_77, nl_94, nl_97, nl_100, nl_101, nl_119, nl_125, nl_126, nl_137, nl_262, nl_387, nl_500, nl_512, nl_637, nl_999, nl_1022, nl_1137, nl_5685, nm_1b, iN_mI, mI_iN, iN_add, iN_mul, iN_sub, iN_div, iN_rem, iN_lt, iN_le, iN_eq, iN_nat, inB_iN, ↓b_at, ↓b_store, ↓b_place1, ↓b_place0, ↓b_tableOf, ↓b_sqEnd, ↓b_isCell, ↓b_linesOf, ↓b_spanOf, ↓b_isSum, ↓b_sizePlace, ↓b_isBetween, ↓b_sizeOf, ↓b_sizeTogether, Bool.false_eq_true, not_true_eq_false, not_false_eq_true]
    exact h
  · intro n i h1 h2
    have hq : i / 25 = sum / 25 := by omega
    simp only [L_X1_sumOf_13]
    rw [smI_s h1]
    by_cases h0 : σ (b + 17) i = iN 0
    · have hgi : g i = iN 0 := by rw [hg]; simp only [h0, ite_self]
      simp (disch := omega) only [↓ite_ap, if_true, if_false, if_pos, if_neg, retM_ap, retZ_ap0, retZ_ap1, gM_ap, sM_ap, jM_ap, bI_ap, bL_ap, bD_ap, rdM_ap, wrM_ap, thrM_ap, nl_0, nl_1, nl_2, nl_3, nl_4, nl_5, nl_6, nl_7, nl_8, nl_9, nl_10, nl_11, nl_12, nl_13, nl_25, nl_33, nl_35, nl_45, nl_48, nl_49, nl_50, nl_52, nl_53, nl_57, nl_59, nl_60, nl_61, nl_77, nl_94, nl_97, nl_100, nl_101, nl_119, nl_125, nl_126, nl_137, nl_262, nl_387, nl_500, nl_512, nl_637, nl_999, nl_1022, nl_1137, nl_5685, nm_1b, iN_mI, mI_iN, iN_add, iN_mul, iN_sub, iN_div, iN_rem, iN_lt, iN_le, iN_eq, iN_nat, inB_iN, ↓b_at, ↓b_store, ↓b_place1, ↓b_place0, ↓b_tableOf, ↓b_sqEnd, ↓b_isCell, ↓b_linesOf, ↓b_spanOf, ↓b_isSum, ↓b_sizePlace, ↓b_isBetween, ↓b_sizeOf, ↓b_sizeTogether, Bool.false_eq_true, not_true_eq_false, not_false_eq_true, Nat.add_assoc, Nat.reduceAdd, h0, hgi, addN0]
    · have hc : isCl s i := Classical.byContradiction (fun hn => h0 (hv i hq hn))
      have c1 := clB_iff.mpr hc
      by_cases hct : ctB s (kiS s sum) (frS s sum) sum i = true
      · have hgi : g i = σ (b + 17) i := by rw [hg]; simp only [c1, cnB, hct, Bool.and_true, if_true]
        simp (disch := omega) only [↓ite_ap, if_true, if_false, if_pos, if_neg, retM_ap, retZ_ap0, retZ_ap1, gM_ap, sM_ap, jM_ap, bI_ap, bL_ap, bD_ap, rdM_ap, wrM_ap, thrM_ap, nl_0, nl_1, nl_2, nl_3, nl_4, nl_5, nl_6, nl_7, nl_8, nl_9, nl_10, nl_11, nl_12, nl_13, nl_25, nl_33, nl_35, nl_45, nl_48, nl_49, nl_50, nl_52, nl_53, nl_57, nl_59, nl_60, nl_61, nl_77, nl_94, nl_97, nl_100, nl_101, nl_119, nl_125, nl_126, nl_137, nl_262, nl_387, nl_500, nl_512, nl_637, nl_999, nl_1022, nl_1137, nl_5685, nm_1b, iN_mI, mI_iN, iN_add, iN_mul, iN_sub, iN_div, iN_rem, iN_lt, iN_le, iN_eq, iN_nat, inB_iN, ↓b_at, ↓b_store, ↓b_place1, ↓b_place0, ↓b_tableOf, ↓b_sqEnd, ↓b_isCell, ↓b_linesOf, ↓b_spanOf, ↓b_isSum, ↓b_sizePlace, ↓b_isBetween, ↓b_sizeOf, ↓b_sizeTogether, Bool.false_eq_true, not_true_eq_false, not_false_eq_true, Nat.add_assoc, Nat.reduceAdd, h0, hgi, ↓b_isCounted hw hr hs hc hk hst hfr, hct]
      · have hgi : g i = iN 0 := by rw [hg]; simp only [c1, cnB, hct, Bool.and_false, Bool.false_eq_true, if_false]
        simp (disch := omega) only [↓ite_ap, if_true, if_false, if_pos, if_neg, retM_ap, retZ_ap0, retZ_ap1, gM_ap, sM_ap, jM_ap, bI_ap, bL_ap, bD_ap, rdM_ap, wrM_ap, thrM_ap, nl_0, nl_1, nl_2, nl_3, nl_4, nl_5, nl_6, nl_7, nl_8, nl_9, nl_10, nl_11, nl_12, nl_13, nl_25, nl_33, nl_35, nl_45, nl_48, nl_49, nl_50, nl_52, nl_53, nl_57, nl_59, nl_60, nl_61, nl_77, nl_94, nl_97, nl_100, nl_101, nl_119, nl_125, nl_126, nl_137, nl_262, nl_387, nl_500, nl_512, nl_637, nl_999, nl_1022, nl_1137, nl_5685, nm_1b, iN_mI, mI_iN, iN_add, iN_mul, iN_sub, iN_div, iN_rem, iN_lt, iN_le, iN_eq, iN_nat, inB_iN, ↓b_at, ↓b_store, ↓b_place1, ↓b_place0, ↓b_tableOf, ↓b_sqEnd, ↓b_isCell, ↓b_linesOf, ↓b_spanOf, ↓b_isSum, ↓b_sizePlace, ↓b_isBetween, ↓b_sizeOf, ↓b_sizeTogether, Bool.false_eq_true, not_true_eq_false, not_false_eq_true, Nat.add_assoc, Nat.reduceAdd, h0, hgi, ↓b_isCounted hw hr hs hc hk hst hfr, hct, addN0]
  · intro n
    simp only [L_X1_sumOf_13]
    simp (disch := omega) only [↓ite_ap, if_true, if_false, if_pos, if_neg, retM_ap, retZ_ap0, retZ_ap1, gM_ap, sM_ap, jM_ap, bI_ap, bL_ap, bD_ap, rdM_ap, wrM_ap, thrM_ap, nl_0, nl_1, nl_2, nl_3, nl_4, nl_5, nl_6, nl_7, nl_8, nl_9, nl_10, nl_11, nl_12, nl_13, nl_25, nl_33, nl_35, nl_45, nl_48, nl_49, nl_50, nl_52, nl_53, nl_57, nl_59, nl_60, nl_61, nl_77, nl_94, nl_97, nl_100, nl_101, nl_119, nl_125, nl_126, nl_137, nl_262, nl_387, nl_500, nl_512, nl_637, nl_999, nl_1022, nl_1137, nl_5685, nm_1b, iN_mI, mI_iN, iN_add, iN_mul, iN_sub, iN_div, iN_rem, iN_lt, iN_le, iN_eq, iN_nat, inB_iN, ↓b_at, ↓b_store, ↓b_place1, ↓b_place0, ↓b_tableOf, ↓b_sqEnd, ↓b_isCell, ↓b_linesOf, ↓b_spanOf, ↓b_isSum, ↓b_sizePlace, ↓b_isBetween, ↓b_sizeOf, ↓b_sizeTogether, Bool.false_eq_true, not_true_eq_false, not_false_eq_true, hf]
theorem f_showNumbers {b t : Nat} {s : Sv} {σ : Mm} (hw : WF s) (hr : Rel (b + 1) s σ) (ht : t < tbS s) (hv : ∀ q, q / 25 = t → ¬ isCl s q → σ (b + 17) q = iN 0) (St Sh : Nat → Int32) (hSt : ∀ q, q / 25 = t → St q = if (clB s q && decide (4 ≤ kiS s q)) = true then iN (frS s q) else σ (b + 21) q) (hSh : ∀ q, q / 25 = t → Sh q = if (clB s q && decide (4 ≤ kiS s q)) = true then suS s (σ (b + 17)) q else σ (b + 17) q) : F_X1_showNumbers b (iN t) σ = some (.inl (), setS (setS σ (b + 21) (t * 25) ((t + 1) * 25) St) (b + 19) (t * 25) ((t + 1) * 25) Sh) := by
  have t5 := hw.1.2.2
  have h := lp (fun n i (a : Mm) => L_X1_showNumbers_5 b (iN t) n (iN i) a) (fun i => setS (setS σ (b + 21) (t * 25) i St) (b + 19) (t * 25) i Sh) (i0 := t * 25) (N := (t + 1) * 25) (r := some (.inl (), setS (setS σ (b + 21) (t * 25) ((t + 1) * 25) St) (b + 19) (t * 25) ((t + 1) * 25) Sh)) (by omega) (by unfold FU; omega) ?_ ?_
  · simp only [setS_0] at h
    unfold F_X1_showNumbers
    simp (disch := omega) only [↓ite_ap, if_true, if_false, if_pos, if_neg, retM_ap, retZ_ap0, retZ_ap1, gM_ap, sM_ap, jM_ap, bI_ap, bL_ap, bD_ap, rdM_ap, wrM_ap, thrM_ap, nl_0, nl_1, nl_2, nl_3, nl_4, nl_5, nl_6, nl_7, nl_8, nl_9, nl_10, nl_11, nl_12, nl_13, nl_25, nl_33, nl_35, nl_45, nl_48, nl_49, nl_50, nl_52, nl_53, nl_57, nl_59, nl_60, nl_61, nl_77, nl_94, nl_97, nl_100, nl_101, nl_119, nl_125, nl_126, nl_137, nl_262, nl_387, nl_500, nl_512, nl_637, nl_999, nl_1022, nl_1137, nl_5685, nm_1b, iN_mI, mI_iN, iN_add, iN_mul, iN_sub, iN_div, iN_rem, iN_lt, iN_le, iN_eq, iN_nat, inB_iN, ↓b_at, ↓b_store, ↓b_place1, ↓b_place0, ↓b_tableOf, ↓b_sqEnd, ↓b_isCell, ↓b_linesOf, ↓b_spanOf, ↓b_isSum, ↓b_sizePlace, ↓b_isBetween, ↓b_sizeOf, ↓b_sizeTogether, Bool.false_eq_true, not_true_eq_false, not_false_eq_true]
    exact h
  · intro n i h1 h2
    have hq : i / 25 = t := by omega
    simp only [L_X1_showNumbers_5]
    obtain ⟨τ, hτ⟩ : ∃ τ, τ = setS (setS σ (b + 21) (t * 25) i St) (b + 19) (t * 25) i Sh := ⟨_, rfl⟩
    have hrτ : Rel (b + 1) s τ := by rw [hτ]; exact (hr.st (by omega)).st (by omega)
    have e17 : τ (b + 17) = σ (b + 17) := by rw [hτ, setS_o (by omega), setS_o (by omega)]
    rw [← hτ]
    have i1 : i / 25 < tbS s := by omega
    by_cases hc : isCl s i
    · have c1 := clB_iff.mpr hc
      have k2 : τ (b + 9) i = iN (kiS s i) := (hrτ.2.2.2.2.1 i hc.1).2.1.trans (hw.2.2.2.2.2.1 i hc.1).1
      have kb := (hw.2.2.2.2.2.1 i hc.1).2.1
      by_cases hk : 4 ≤ kiS s i
      · have s1 : St i = iN (frS s i) := by rw [hSt i hq]; simp only [c1, hk, decide_true, Bool.and_true, if_true]
        have s2 : Sh i = suS s (σ (b + 17)) i := by rw [hSh i hq]; simp only [c1, hk, decide_true, Bool.and_true, if_true]
        have hrτ2 : Rel (b + 1) s (upM τ (b + 21) i (iN (frS s i))) := hrτ.up (by omega)
        have e18 : upM τ (b + 21) i (iN (frS s i)) (b + 17) = σ (b + 17) := by rw [upM_o (by omega), e17]
        have f2 := f_sumOf (b := b) (sum := i) (σ := upM τ (b + 21) i (iN (frS s i))) hw hrτ2 hc hk upM_at (fun q h3 h4 => by rw [e18]; exact hv q (by omega) h4)
        rw [e18] at f2
        simp (disch := omega) only [↓ite_ap, if_true, if_false, if_pos, if_neg, retM_ap, retZ_ap0, retZ_ap1, gM_ap, sM_ap, jM_ap, bI_ap, bL_ap, bD_ap, rdM_ap, wrM_ap, thrM_ap, nl_0, nl_1, nl_2, nl_3, nl_4, nl_5, nl_6, nl_7, nl_8, nl_9, nl_10, nl_11, nl_12, nl_13, nl_25, nl_33, nl_35, nl_45, nl_48, nl_49, nl_50, nl_52, nl_53, nl_57, nl_59, nl_60, nl_61, nl_77, nl_94, nl_97, nl_100, nl_101, nl_119, nl_125, nl_126, nl_137, nl_262, nl_387, nl_500, nl_512, nl_637, nl_999, nl_1022, nl_1137, nl_5685, nm_1b, iN_mI, mI_iN, iN_add, iN_mul, iN_sub, iN_div, iN_rem, iN_lt, iN_le, iN_eq, iN_nat, inB_iN, ↓b_at, ↓b_store, ↓b_place1, ↓b_place0, ↓b_tableOf, ↓b_sqEnd, ↓b_isCell, ↓b_linesOf, ↓b_spanOf, ↓b_isSum, ↓b_sizePlace, ↓b_isBetween, ↓b_sizeOf, ↓b_sizeTogether, Bool.false_eq_true, not_true_eq_false, not_false_eq_true, rel_isCell hw hrτ, hc, Nat.add_assoc, Nat.reduceAdd, e17, k2, hk, kb, and_true, ↓invM_l (f_startSum (b := b) (sum := i) hw hrτ hc hk), ↓invM_l f2]
        rw [hτ, upM_setS (Nat.ne_of_gt (Nat.add_lt_add_left (by decide) b)), setS_up h1 s1.symm, setS_up h1 s2.symm]
      · have s1 : St i = σ (b + 21) i := by rw [hSt i hq]; simp only [c1, hk, decide_false, Bool.and_false, Bool.false_eq_true, if_false]
        have s2 : Sh i = σ (b + 17) i := by rw [hSh i hq]; simp only [c1, hk, decide_false, Bool.and_false, Bool.false_eq_true, if_false]
        simp (disch := omega) only [↓ite_ap, if_true, if_false, if_pos, if_neg, retM_ap, retZ_ap0, retZ_ap1, gM_ap, sM_ap, jM_ap, bI_ap, bL_ap, bD_ap, rdM_ap, wrM_ap, thrM_ap, nl_0, nl_1, nl_2, nl_3, nl_4, nl_5, nl_6, nl_7, nl_8, nl_9, nl_10, nl_11, nl_12, nl_13, nl_25, nl_33, nl_35, nl_45, nl_48, nl_49, nl_50, nl_52, nl_53, nl_57, nl_59, nl_60, nl_61, nl_77, nl_94, nl_97, nl_100, nl_101, nl_119, nl_125, nl_126, nl_137, nl_262, nl_387, nl_500, nl_512, nl_637, nl_999, nl_1022, nl_1137, nl_5685, nm_1b, iN_mI, mI_iN, iN_add, iN_mul, iN_sub, iN_div, iN_rem, iN_lt, iN_le, iN_eq, iN_nat, inB_iN, ↓b_at, ↓b_store, ↓b_place1, ↓b_place0, ↓b_tableOf, ↓b_sqEnd, ↓b_isCell, ↓b_linesOf, ↓b_spanOf, ↓b_isSum, ↓b_sizePlace, ↓b_isBetween, ↓b_sizeOf, ↓b_sizeTogether, Bool.false_eq_true, not_true_eq_false, not_false_eq_true, rel_isCell hw hrτ, hc, Nat.add_assoc, Nat.reduceAdd, e17, k2, hk, false_and]
        rw [setS_same s1, hτ, setS_up h1 s2.symm]
    · have c1 := clB_not hc
      have s1 : St i = σ (b + 21) i := by rw [hSt i hq]; simp only [c1, Bool.false_and, Bool.false_eq_true, if_false]
      have s2 : Sh i = σ (b + 17) i := by rw [hSh i hq]; simp only [c1, Bool.false_and, Bool.false_eq_true, if_false]
      simp (disch := omega) only [↓ite_ap, if_true, if_false, if_pos, if_neg, retM_ap, retZ_ap0, retZ_ap1, gM_ap, sM_ap, jM_ap, bI_ap, bL_ap, bD_ap, rdM_ap, wrM_ap, thrM_ap, nl_0, nl_1, nl_2, nl_3, nl_4, nl_5, nl_6, nl_7, nl_8, nl_9, nl_10, nl_11, nl_12, nl_13, nl_25, nl_33, nl_35, nl_45, nl_48, nl_49, nl_50, nl_52, nl_53, nl_57, nl_59, nl_60, nl_61, nl_77, nl_94, nl_97, nl_100, nl_101, nl_119, nl_125, nl_126, nl_137, nl_262, nl_387, nl_500, nl_512, nl_637, nl_999, nl_1022, nl_1137, nl_5685, nm_1b, iN_mI, mI_iN, iN_add, iN_mul, iN_sub, iN_div, iN_rem, iN_lt, iN_le, iN_eq, iN_nat, inB_iN, ↓b_at, ↓b_store, ↓b_place1, ↓b_place0, ↓b_tableOf, ↓b_sqEnd, ↓b_isCell, ↓b_linesOf, ↓b_spanOf, ↓b_isSum, ↓b_sizePlace, ↓b_isBetween, ↓b_sizeOf, ↓b_sizeTogether, Bool.false_eq_true, not_true_eq_false, not_false_eq_true, rel_isCell hw hrτ, hc, Nat.add_assoc, Nat.reduceAdd, e17]
      rw [setS_same s1, hτ, setS_up h1 s2.symm]
  · intro n
    simp only [L_X1_showNumbers_5]
    simp (disch := omega) only [↓ite_ap, if_true, if_false, if_pos, if_neg, retM_ap, retZ_ap0, retZ_ap1, gM_ap, sM_ap, jM_ap, bI_ap, bL_ap, bD_ap, rdM_ap, wrM_ap, thrM_ap, nl_0, nl_1, nl_2, nl_3, nl_4, nl_5, nl_6, nl_7, nl_8, nl_9, nl_10, nl_11, nl_12, nl_13, nl_25, nl_33, nl_35, nl_45, nl_48, nl_49, nl_50, nl_52, nl_53, nl_57, nl_59, nl_60, nl_61, nl_77, nl_94, nl_97, nl_100, nl_101, nl_119, nl_125, nl_126, nl_137, nl_262, nl_387, nl_500, nl_512, nl_637, nl_999, nl_1022, nl_1137, nl_5685, nm_1b, iN_mI, mI_iN, iN_add, iN_mul, iN_sub, iN_div, iN_rem, iN_lt, iN_le, iN_eq, iN_nat, inB_iN, ↓b_at, ↓b_store, ↓b_place1, ↓b_place0, ↓b_tableOf, ↓b_sqEnd, ↓b_isCell, ↓b_linesOf, ↓b_spanOf, ↓b_isSum, ↓b_sizePlace, ↓b_isBetween, ↓b_sizeOf, ↓b_sizeTogether, Bool.false_eq_true, not_true_eq_false, not_false_eq_true]

