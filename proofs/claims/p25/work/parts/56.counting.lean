/-! THE SUMS THAT COUNT A CELL -/
def csS (s : Sv) (c : Nat) : Nat := smN (fun sum => if (clB s sum && decide (4 ≤ kiS s sum) && cnB s sum c) = true then 1 else 0) (c / 25 * 25) ((c / 25 + 1) * 25)
theorem smN_le1 {p : Nat → Bool} {lo : Nat} : ∀ hi, smN (fun q => if p q = true then 1 else 0) lo hi ≤ hi - lo
  | 0 => Nat.zero_le _
  | n + 1 => by
    by_cases h : lo ≤ n
    · rw [smN_s h]
      have ih := smN_le1 (p := p) (lo := lo) n
      by_cases hp : p n = true
      · rw [if_pos hp]; omega
      · rw [if_neg hp]; omega
    · unfold smN
      rw [if_neg h]
      exact Nat.zero_le _
theorem csS_le {s : Sv} {c : Nat} : csS s c ≤ 25 := by
  have h := smN_le1 (p := fun sum => clB s sum && decide (4 ≤ kiS s sum) && cnB s sum c) (lo := c / 25 * 25) ((c / 25 + 1) * 25)
  unfold csS
  omega
theorem f_countSumsOf {b c : Nat} {s : Sv} {σ : Mm} (hw : WF s) (hr : Rel (b + 1) s σ) (hc : isCl s c) (hst : ∀ q, q / 25 = c / 25 → isCl s q → 4 ≤ kiS s q → σ (b + 21) q = iN (frS s q)) : F_X1_countSumsOf b (iN c) σ = some (.inl (iN (csS s c)), σ) := by
  have t5 := hw.1.2.2
  have l1 := isOf_lt hw hc.1
  have ht := hc.1.1
  have h := lp (fun n i (a : Int32) => L_X1_countSumsOf_13 b (iN c) (iN (c / 25)) n a (iN i) σ) (fun i => iN (smN (fun sum => if (clB s sum && decide (4 ≤ kiS s sum) && cnB s sum c) = true then 1 else 0) (c / 25 * 25) i)) (i0 := c / 25 * 25) (N := (c / 25 + 1) * 25) (r := some (.inl (iN (csS s c)), σ)) (by omega) (by unfold FU; omega) ?_ ?_
  · simp only [smN_0] at h
    unfold F_X1_countSumsOf
    simp (disch := omega) only [↓ite_ap, if_true, if_false, if_pos, if_neg, retM_ap, retZ_ap0, retZ_ap1, gM_ap, sM_ap, jM_ap, bI_ap, bL_ap, bD_ap, rdM_ap, wrM_ap, thrM_ap, nl_0, nl_1, nl_2, nl_3, nl_4, nl_5, nl_6, nl_7, nl_8, nl_9, nl_10, nl_11, nl_12, nl_13, nl_25, nl_33, nl_35, nl_45, nl_48, nl_49, nl_50, nl_52, nl_53, nl_57, nl_59, nl_60, nl_61, nl_77, nl_94, nl_97, nl_100, nl_101, nl_119, nl_125, nl_126, nl_137, nl_262, nl_387, nl_500, nl_512, nl_637, nl_999, nl_1022, nl_1137, nl_5685, nm_1b, iN_mI, mI_iN, iN_add, iN_mul, iN_sub, iN_div, iN_rem, iN_lt, iN_le, iN_eq, iN_nat, inB_iN, ↓b_at, ↓b_store, ↓b_place1, ↓b_place0, ↓b_tableOf, ↓b_sqEnd, ↓b_isCell, ↓b_linesOf, ↓b_spanOf, ↓b_isSum, ↓b_sizePlace, ↓b_isBetween, ↓b_sizeOf, ↓b_sizeTogether, Bool.false_eq_true, not_true_eq_false, not_false_eq_true]
    exact h
  · intro n i h1 h2
    have hq : i / 25 = c / 25 := by omega
    have hq2 : i / 25 < tbS s := by omega
    simp only [L_X1_countSumsOf_13]
    rw [smN_s h1]
    by_cases hi : isCl s i
    · have c1 := clB_iff.mpr hi
      have r1 := hr.2.2.2.2.1 i hi.1
      have w3 := hw.2.2.2.2.2.1 i hi.1
      have kb := w3.2.1
      have k1 : σ (b + 1 + 8) i = iN (kiS s i) := r1.2.1.trans w3.1
      have k1' : σ (b + 9) i = iN (kiS s i) := k1
      by_cases h4 : 4 ≤ kiS s i
      · have fc := f_isCounted (b := b) hw hr hi hc h4 (hst i hq hi h4) (Nat.lt_of_le_of_lt frS_lt (by omega))
        cases ec : ctB s (kiS s i) (frS s i) i c
        · have c2 : (clB s i && decide (4 ≤ kiS s i) && cnB s i c) = false := by unfold cnB; rw [ec, Bool.and_false]
          rw [ec, if_neg (by decide)] at fc
          simp (disch := omega) only [↓ite_ap, if_true, if_false, if_pos, if_neg, retM_ap, retZ_ap0, retZ_ap1, gM_ap, sM_ap, jM_ap, bI_ap, bL_ap, bD_ap, rdM_ap, wrM_ap, thrM_ap, nl_0, nl_1, nl_2, nl_3, nl_4, nl_5, nl_6, nl_7, nl_8, nl_9, nl_10, nl_11, nl_12, nl_13, nl_25, nl_33, nl_35, nl_45, nl_48, nl_49, nl_50, nl_52, nl_53, nl_57, nl_59, nl_60, nl_61, nl_77, nl_94, nl_97, nl_100, nl_101, nl_119, nl_125, nl_126, nl_137, nl_262, nl_387, nl_500, nl_512, nl_637, nl_999, nl_1022, nl_1137, nl_5685, nm_1b, iN_mI, mI_iN, iN_add, iN_mul, iN_sub, iN_div, iN_rem, iN_lt, iN_le, iN_eq, iN_nat, inB_iN, ↓b_at, ↓b_store, ↓b_place1, ↓b_place0, ↓b_tableOf, ↓b_sqEnd, ↓b_isCell, ↓b_linesOf, ↓b_spanOf, ↓b_isSum, ↓b_sizePlace, ↓b_isBetween, ↓b_sizeOf, ↓b_sizeTogether, Bool.false_eq_true, not_true_eq_false, not_false_eq_true, rel_isCell hw hr, hi, Nat.add_assoc, Nat.reduceAdd, k1', ↓invM_l fc, c2, Nat.add_zero]
        · have c2 : (clB s i && decide (4 ≤ kiS s i) && cnB s i c) = true := by unfold cnB; rw [ec, c1, decide_eq_true h4]; rfl
          rw [ec, if_pos rfl] at fc
          simp (disch := omega) only [↓ite_ap, if_true, if_false, if_pos, if_neg, retM_ap, retZ_ap0, retZ_ap1, gM_ap, sM_ap, jM_ap, bI_ap, bL_ap, bD_ap, rdM_ap, wrM_ap, thrM_ap, nl_0, nl_1, nl_2, nl_3, nl_4, nl_5, nl_6, nl_7, nl_8, nl_9, nl_10, nl_11, nl_12, nl_13, nl_25, nl_33, nl_35, nl_45, nl_48, nl_49, nl_50, nl_52, nl_53, nl_57, nl_59, nl_60, nl_61, nl_77, nl_94, nl_97, nl_100, nl_101, nl_119, nl_125, nl_126, nl_137, nl_262, nl_387, nl_500, nl_512, nl_637, nl_999, nl_1022, nl_1137, nl_5685, nm_1b, iN_mI, mI_iN, iN_add, iN_mul, iN_sub, iN_div, iN_rem, iN_lt, iN_le, iN_eq, iN_nat, inB_iN, ↓b_at, ↓b_store, ↓b_place1, ↓b_place0, ↓b_tableOf, ↓b_sqEnd, ↓b_isCell, ↓b_linesOf, ↓b_spanOf, ↓b_isSum, ↓b_sizePlace, ↓b_isBetween, ↓b_sizeOf, ↓b_sizeTogether, Bool.false_eq_true, not_true_eq_false, not_false_eq_true, rel_isCell hw hr, hi, Nat.add_assoc, Nat.reduceAdd, k1', ↓invM_l fc, c2]
      · have c2 : (clB s i && decide (4 ≤ kiS s i) && cnB s i c) = false := by rw [decide_eq_false h4, Bool.and_false]; rfl
        simp (disch := omega) only [↓ite_ap, if_true, if_false, if_pos, if_neg, retM_ap, retZ_ap0, retZ_ap1, gM_ap, sM_ap, jM_ap, bI_ap, bL_ap, bD_ap, rdM_ap, wrM_ap, thrM_ap, nl_0, nl_1, nl_2, nl_3, nl_4, nl_5, nl_6, nl_7, nl_8, nl_9, nl_10, nl_11, nl_12, nl_13, nl_25, nl_33, nl_35, nl_45, nl_48, nl_49, nl_50, nl_52, nl_53, nl_57, nl_59, nl_60, nl_61, nl_77, nl_94, nl_97, nl_100, nl_101, nl_119, nl_125, nl_126, nl_137, nl_262, nl_387, nl_500, nl_512, nl_637, nl_999, nl_1022, nl_1137, nl_5685, nm_1b, iN_mI, mI_iN, iN_add, iN_mul, iN_sub, iN_div, iN_rem, iN_lt, iN_le, iN_eq, iN_nat, inB_iN, ↓b_at, ↓b_store, ↓b_place1, ↓b_place0, ↓b_tableOf, ↓b_sqEnd, ↓b_isCell, ↓b_linesOf, ↓b_spanOf, ↓b_isSum, ↓b_sizePlace, ↓b_isBetween, ↓b_sizeOf, ↓b_sizeTogether, Bool.false_eq_true, not_true_eq_false, not_false_eq_true, rel_isCell hw hr, hi, Nat.add_assoc, Nat.reduceAdd, k1', c2, Nat.add_zero]
    · have c1 := clB_not hi
      simp (disch := omega) only [↓ite_ap, if_true, if_false, if_pos, if_neg, retM_ap, retZ_ap0, retZ_ap1, gM_ap, sM_ap, jM_ap, bI_ap, bL_ap, bD_ap, rdM_ap, wrM_ap, thrM_ap, nl_0, nl_1, nl_2, nl_3, nl_4, nl_5, nl_6, nl_7, nl_8, nl_9, nl_10, nl_11, nl_12, nl_13, nl_25, nl_33, nl_35, nl_45, nl_48, nl_49, nl_50, nl_52, nl_53, nl_57, nl_59, nl_60, nl_61, nl_77, nl_94, nl_97, nl_100, nl_101, nl_119, nl_125, nl_126, nl_137, nl_262, nl_387, nl_500, nl_512, nl_637, nl_999, nl_1022, nl_1137, nl_5685, nm_1b, iN_mI, mI_iN, iN_add, iN_mul, iN_sub, iN_div, iN_rem, iN_lt, iN_le, iN_eq, iN_nat, inB_iN, ↓b_at, ↓b_store, ↓b_place1, ↓b_place0, ↓b_tableOf, ↓b_sqEnd, ↓b_isCell, ↓b_linesOf, ↓b_spanOf, ↓b_isSum, ↓b_sizePlace, ↓b_isBetween, ↓b_sizeOf, ↓b_sizeTogether, Bool.false_eq_true, not_true_eq_false, not_false_eq_true, rel_isCell hw hr, hi, c1, Bool.false_and, Nat.add_zero]
  · intro n
    simp only [L_X1_countSumsOf_13]
    simp (disch := omega) only [↓ite_ap, if_true, if_false, if_pos, if_neg, retM_ap, retZ_ap0, retZ_ap1, gM_ap, sM_ap, jM_ap, bI_ap, bL_ap, bD_ap, rdM_ap, wrM_ap, thrM_ap, nl_0, nl_1, nl_2, nl_3, nl_4, nl_5, nl_6, nl_7, nl_8, nl_9, nl_10, nl_11, nl_12, nl_13, nl_25, nl_33, nl_35, nl_45, nl_48, nl_49, nl_50, nl_52, nl_53, nl_57, nl_59, nl_60, nl_61, nl_77, nl_94, nl_97, nl_100, nl_101, nl_119, nl_125, nl_126, nl_137, nl_262, nl_387, nl_500, nl_512, nl_637, nl_999, nl_1022, nl_1137, nl_5685, nm_1b, iN_mI, mI_iN, iN_add, iN_mul, iN_sub, iN_div, iN_rem, iN_lt, iN_le, iN_eq, iN_nat, inB_iN, ↓b_at, ↓b_store, ↓b_place1, ↓b_place0, ↓b_tableOf, ↓b_sqEnd, ↓b_isCell, ↓b_linesOf, ↓b_spanOf, ↓b_isSum, ↓b_sizePlace, ↓b_isBetween, ↓b_sizeOf, ↓b_sizeTogether, Bool.false_eq_true, not_true_eq_false, not_false_eq_true]
    rfl
/-- the cell of a table -/
def hoS (s : Sv) (t : Nat) : Nat := mxN (fun q => if (clB s q && decide (kiS s q = 3) && decide (nv (nuS s q) = t)) = true then q else 0) 0 125
theorem mxN_one {p : Nat → Bool} {x : Nat} : ∀ {hi : Nat}, x < hi → p x = true → (∀ q, p q = true → q = x) → mxN (fun q => if p q = true then q else 0) 0 hi = x
  | 0, h, _, _ => by omega
  | n + 1, h, hp, hu => by
    rw [mxN_s (Nat.zero_le n)]
    by_cases e : n = x
    · subst e
      rw [if_pos hp]
      have := mxN_leR (g := fun q => if p q = true then q else 0) (lo := 0) (B := n) n (fun i h1 h2 => by
        by_cases g : p i = true
        · rw [if_pos g]; omega
        · rw [if_neg g]; omega)
      omega
    · rw [mxN_one (by omega) hp hu, if_neg (fun g => e (hu n g))]
      omega
theorem hoS_eq {s : Sv} (hw : WF s) {q : Nat} (hc : isCl s q) (h3 : kiS s q = 3) : hoS s (nv (nuS s q)) = q := by
  refine mxN_one (p := fun q' => clB s q' && decide (kiS s q' = 3) && decide (nv (nuS s q') = nv (nuS s q))) (isOf_lt hw hc.1) (by rw [clB_iff.mpr hc, decide_eq_true h3, decide_eq_true rfl]; rfl) (fun q' h => ?_)
  rw [Bool.and_eq_true, Bool.and_eq_true, decide_eq_true_eq, decide_eq_true_eq] at h
  exact hw.2.2.2.2.2.2.2.2 q' q (clB_iff.mp h.1.1) hc h.1.2 h3 h.2
theorem hoS_at {s : Sv} (hw : WF s) {t : Nat} (h1 : 1 ≤ t) (ht : t < tbS s) : isCl s (hoS s t) ∧ kiS s (hoS s t) = 3 ∧ nv (nuS s (hoS s t)) = t ∧ hoS s t / 25 < t := by
  obtain ⟨q, a1, a2, a3⟩ := hw.2.2.2.2.2.2.2.1 t h1 ht
  have e := hoS_eq hw a1 a2
  rw [a3] at e
  rw [e]
  have w7 := (hw.2.2.2.2.2.2.1 q a1).2.2 a2
  exact ⟨a1, a2, a3, by omega⟩
theorem rel_home {b t : Nat} {s : Sv} {σ : Mm} (hw : WF s) (hr : Rel b s σ) (h1 : 1 ≤ t) (ht : t < tbS s) : σ (b + 4) t = iN (hoS s t) := by
  have a := hoS_at hw h1 ht
  have := hr.2.2.2.2.2.2.2 _ a.1 a.2.1
  rw [a.2.2.1] at this
  exact this
/-- .. in its table and around it -/
def ctS (s : Sv) : Nat → Nat → Nat
  | 0, _ => 0
  | n + 1, c => csS s c + (if c / 25 = 0 then 0 else ctS s n (hoS s (c / 25)))
theorem f_counting_l {s : Sv} {σ : Mm} (hw : WF s) (hr : Rel 2 s σ) (hst : ∀ q, isCl s q → 4 ≤ kiS s q → σ 22 q = iN (frS s q)) : ∀ (d n a lev c : Nat), lev + d = 5 → d < n → isCl s c → c / 25 < d → a ≤ lev * 25 → L_X5_countingSums_39 n (iN a) (iN c) (iN lev) σ = some (.inl (iN (a + ctS s d c)), σ)
  | 0, n, a, lev, c, h1, h2, hc, h3, ha => by omega
  | d + 1, n, a, lev, c, h1, h2, hc, h3, ha => by
    obtain ⟨n, rfl⟩ : ∃ m, n = m + 1 := ⟨n - 1, by omega⟩
    have t5 := hw.1.2.2
    have l1 := isOf_lt hw hc.1
    have ht := hc.1.1
    have f1 := f_countSumsOf (b := 1) hw hr hc (fun q _ h5 h6 => hst q h5 h6)
    have b1 := csS_le (s := s) (c := c)
    simp only [L_X5_countingSums_39]
    unfold ctS
    by_cases h0 : c / 25 = 0
    · obtain ⟨n, rfl⟩ : ∃ m, n = m + 1 := ⟨n - 1, by omega⟩
      have h6 : σ 6 0 = mI := hr.2.2.2.2.2.2.1
      rw [if_pos h0]
      by_cases h9 : 5 ≤ lev + 1
      · simp (disch := omega) only [↓ite_ap, if_true, if_false, if_pos, if_neg, retM_ap, retZ_ap0, retZ_ap1, gM_ap, sM_ap, jM_ap, bI_ap, bL_ap, bD_ap, rdM_ap, wrM_ap, thrM_ap, nl_0, nl_1, nl_2, nl_3, nl_4, nl_5, nl_6, nl_7, nl_8, nl_9, nl_10, nl_11, nl_12, nl_13, nl_25, nl_33, nl_35, nl_45, nl_48, nl_49, nl_50, nl_52, nl_53, nl_57, nl_59, nl_60, nl_61, nl_77, nl_94, nl_97, nl_100, nl_101, nl_119, nl_125, nl_126, nl_137, nl_262, nl_387, nl_500, nl_512, nl_637, nl_999, nl_1022, nl_1137, nl_5685, nm_1b, iN_mI, mI_iN, iN_add, iN_mul, iN_sub, iN_div, iN_rem, iN_lt, iN_le, iN_eq, iN_nat, inB_iN, ↓b_at, ↓b_store, ↓b_place1, ↓b_place0, ↓b_tableOf, ↓b_sqEnd, ↓b_isCell, ↓b_linesOf, ↓b_spanOf, ↓b_isSum, ↓b_sizePlace, ↓b_isBetween, ↓b_sizeOf, ↓b_sizeTogether, Bool.false_eq_true, not_true_eq_false, not_false_eq_true, nm_1, ↓invM_l f1, h0, Nat.reduceAdd, h6, L_X5_countingSums_39, Nat.add_zero]
      · simp (disch := omega) only [↓ite_ap, if_true, if_false, if_pos, if_neg, retM_ap, retZ_ap0, retZ_ap1, gM_ap, sM_ap, jM_ap, bI_ap, bL_ap, bD_ap, rdM_ap, wrM_ap, thrM_ap, nl_0, nl_1, nl_2, nl_3, nl_4, nl_5, nl_6, nl_7, nl_8, nl_9, nl_10, nl_11, nl_12, nl_13, nl_25, nl_33, nl_35, nl_45, nl_48, nl_49, nl_50, nl_52, nl_53, nl_57, nl_59, nl_60, nl_61, nl_77, nl_94, nl_97, nl_100, nl_101, nl_119, nl_125, nl_126, nl_137, nl_262, nl_387, nl_500, nl_512, nl_637, nl_999, nl_1022, nl_1137, nl_5685, nm_1b, iN_mI, mI_iN, iN_add, iN_mul, iN_sub, iN_div, iN_rem, iN_lt, iN_le, iN_eq, iN_nat, inB_iN, ↓b_at, ↓b_store, ↓b_place1, ↓b_place0, ↓b_tableOf, ↓b_sqEnd, ↓b_isCell, ↓b_linesOf, ↓b_spanOf, ↓b_isSum, ↓b_sizePlace, ↓b_isBetween, ↓b_sizeOf, ↓b_sizeTogether, Bool.false_eq_true, not_true_eq_false, not_false_eq_true, nm_1, ↓invM_l f1, h0, Nat.reduceAdd, h6, L_X5_countingSums_39, Nat.add_zero]
    · have h6 : σ 6 (c / 25) = iN (hoS s (c / 25)) := rel_home hw hr (by omega) ht
      have a1 := hoS_at hw (show 1 ≤ c / 25 by omega) ht
      have ih := f_counting_l hw hr hst d n (a + csS s c) (lev + 1) (hoS s (c / 25)) (by omega) (by omega) a1.1 (by omega) (by omega)
      rw [if_neg h0]
      simp (disch := omega) only [↓ite_ap, if_true, if_false, if_pos, if_neg, retM_ap, retZ_ap0, retZ_ap1, gM_ap, sM_ap, jM_ap, bI_ap, bL_ap, bD_ap, rdM_ap, wrM_ap, thrM_ap, nl_0, nl_1, nl_2, nl_3, nl_4, nl_5, nl_6, nl_7, nl_8, nl_9, nl_10, nl_11, nl_12, nl_13, nl_25, nl_33, nl_35, nl_45, nl_48, nl_49, nl_50, nl_52, nl_53, nl_57, nl_59, nl_60, nl_61, nl_77, nl_94, nl_97, nl_100, nl_101, nl_119, nl_125, nl_126, nl_137, nl_262, nl_387, nl_500, nl_512, nl_637, nl_999, nl_1022, nl_1137, nl_5685, nm_1b, iN_mI, mI_iN, iN_add, iN_mul, iN_sub, iN_div, iN_rem, iN_lt, iN_le, iN_eq, iN_nat, inB_iN, ↓b_at, ↓b_store, ↓b_place1, ↓b_place0, ↓b_tableOf, ↓b_sqEnd, ↓b_isCell, ↓b_linesOf, ↓b_spanOf, ↓b_isSum, ↓b_sizePlace, ↓b_isBetween, ↓b_sizeOf, ↓b_sizeTogether, Bool.false_eq_true, not_true_eq_false, not_false_eq_true, nm_1, ↓invM_l f1, Nat.reduceAdd, h6, ih, Nat.add_assoc]
def couS (s : Sv) (c : Nat) : Int32 := if clB s c = true then (if 4 ≤ kiS s c then iN 0 else iN (ctS s 5 c)) else mI
theorem f_countingSums {c : Nat} {s : Sv} {σ : Mm} (hw : WF s) (hr : Rel 2 s σ) (hq : c / 25 < tbS s) (hst : ∀ q, isCl s q → 4 ≤ kiS s q → σ 22 q = iN (frS s q)) : F_X5_countingSums (iN c) σ = some (.inl (couS s c), σ) := by
  have t5 := hw.1.2.2
  unfold F_X5_countingSums couS
  by_cases hc : isCl s c
  · have c1 := clB_iff.mpr hc
    have r1 := hr.2.2.2.2.1 c hc.1
    have w3 := hw.2.2.2.2.2.1 c hc.1
    have kb := w3.2.1
    have k1 : σ 10 c = iN (kiS s c) := r1.2.1.trans w3.1
    rw [if_pos c1]
    by_cases h4 : 4 ≤ kiS s c
    · rw [if_pos h4]
      simp (disch := omega) only [↓ite_ap, if_true, if_false, if_pos, if_neg, retM_ap, retZ_ap0, retZ_ap1, gM_ap, sM_ap, jM_ap, bI_ap, bL_ap, bD_ap, rdM_ap, wrM_ap, thrM_ap, nl_0, nl_1, nl_2, nl_3, nl_4, nl_5, nl_6, nl_7, nl_8, nl_9, nl_10, nl_11, nl_12, nl_13, nl_25, nl_33, nl_35, nl_45, nl_48, nl_49, nl_50, nl_52, nl_53, nl_57, nl_59, nl_60, nl_61, nl_77, nl_94, nl_97, nl_100, nl_101, nl_119, nl_125, nl_126, nl_137, nl_262, nl_387, nl_500, nl_512, nl_637, nl_999, nl_1022, nl_1137, nl_5685, nm_1b, iN_mI, mI_iN, iN_add, iN_mul, iN_sub, iN_div, iN_rem, iN_lt, iN_le, iN_eq, iN_nat, inB_iN, ↓b_at, ↓b_store, ↓b_place1, ↓b_place0, ↓b_tableOf, ↓b_sqEnd, ↓b_isCell, ↓b_linesOf, ↓b_spanOf, ↓b_isSum, ↓b_sizePlace, ↓b_isBetween, ↓b_sizeOf, ↓b_sizeTogether, Bool.false_eq_true, not_true_eq_false, not_false_eq_true, nm_1, rel_isCell hw hr, hc, Nat.reduceAdd, k1]
    · rw [if_neg h4]
      have f1 := f_counting_l hw hr hst 5 FU 0 0 c (by omega) (by unfold FU; omega) hc (by omega) (by omega)
      rw [Nat.zero_add] at f1
      simp (disch := omega) only [↓ite_ap, if_true, if_false, if_pos, if_neg, retM_ap, retZ_ap0, retZ_ap1, gM_ap, sM_ap, jM_ap, bI_ap, bL_ap, bD_ap, rdM_ap, wrM_ap, thrM_ap, nl_0, nl_1, nl_2, nl_3, nl_4, nl_5, nl_6, nl_7, nl_8, nl_9, nl_10, nl_11, nl_12, nl_13, nl_25, nl_33, nl_35, nl_45, nl_48, nl_49, nl_50, nl_52, nl_53, nl_57, nl_59, nl_60, nl_61, nl_77, nl_94, nl_97, nl_100, nl_101, nl_119, nl_125, nl_126, nl_137, nl_262, nl_387, nl_500, nl_512, nl_637, nl_999, nl_1022, nl_1137, nl_5685, nm_1b, iN_mI, mI_iN, iN_add, iN_mul, iN_sub, iN_div, iN_rem, iN_lt, iN_le, iN_eq, iN_nat, inB_iN, ↓b_at, ↓b_store, ↓b_place1, ↓b_place0, ↓b_tableOf, ↓b_sqEnd, ↓b_isCell, ↓b_linesOf, ↓b_spanOf, ↓b_isSum, ↓b_sizePlace, ↓b_isBetween, ↓b_sizeOf, ↓b_sizeTogether, Bool.false_eq_true, not_true_eq_false, not_false_eq_true, nm_1, rel_isCell hw hr, hc, Nat.reduceAdd, k1, f1]
  · rw [clB_not hc, if_neg (by decide)]
    simp (disch := omega) only [↓ite_ap, if_true, if_false, if_pos, if_neg, retM_ap, retZ_ap0, retZ_ap1, gM_ap, sM_ap, jM_ap, bI_ap, bL_ap, bD_ap, rdM_ap, wrM_ap, thrM_ap, nl_0, nl_1, nl_2, nl_3, nl_4, nl_5, nl_6, nl_7, nl_8, nl_9, nl_10, nl_11, nl_12, nl_13, nl_25, nl_33, nl_35, nl_45, nl_48, nl_49, nl_50, nl_52, nl_53, nl_57, nl_59, nl_60, nl_61, nl_77, nl_94, nl_97, nl_100, nl_101, nl_119, nl_125, nl_126, nl_137, nl_262, nl_387, nl_500, nl_512, nl_637, nl_999, nl_1022, nl_1137, nl_5685, nm_1b, iN_mI, mI_iN, iN_add, iN_mul, iN_sub, iN_div, iN_rem, iN_lt, iN_le, iN_eq, iN_nat, inB_iN, ↓b_at, ↓b_store, ↓b_place1, ↓b_place0, ↓b_tableOf, ↓b_sqEnd, ↓b_isCell, ↓b_linesOf, ↓b_spanOf, ↓b_isSum, ↓b_sizePlace, ↓b_isBetween, ↓b_sizeOf, ↓b_sizeTogether, Bool.false_eq_true, not_true_eq_false, not_false_eq_true, nm_1, rel_isCell hw hr, hc, Nat.reduceAdd]

