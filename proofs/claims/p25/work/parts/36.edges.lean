/-! EDGES -/
def ofB (s : Sv) (q : Nat) : Bool := decide (q / 25 < tbS s) && decide (q % 25 / 5 < roS s (q / 25)) && decide (q % 5 < coS s (q / 25))
theorem ofB_iff {s : Sv} {q : Nat} : ofB s q = true ↔ isOf s q := by
  unfold ofB isOf
  simp only [Bool.and_eq_true, decide_eq_true_eq, and_assoc]
theorem ofB_not {s : Sv} {q : Nat} (h : ¬ isOf s q) : ofB s q = false := by
  cases e : ofB s q
  · rfl
  · exact absurd (ofB_iff.mp e) h
/-- the edge of a square by a side, out of the cells' rules ru -/
def edS (s : Sv) (ru : Nat → Int32) (q side : Nat) : Int32 := match bsS s q side with
  | none => ru (4 * owS s q + side)
  | some q' => if owS s q' = owS s q then iN 0 else iMax (ru (4 * owS s q + side)) (ru (4 * owS s q' + (side + 2) % 4))
theorem bsS_of {s : Sv} {q side q' : Nat} (hw : WF s) (hq : isOf s q) (h : bsS s q side = some q') : isOf s q' ∧ q' / 25 = q / 25 := by
  have a1 := hw.2.2.1 (q / 25) hq.1
  have a2 := hq.2
  have a3 := hq.1
  have key : ∀ z, z / 25 = q / 25 → z % 25 / 5 < roS s (q / 25) → z % 5 < coS s (q / 25) → isOf s z := fun z h1 h2 h3 => ⟨by omega, by rw [h1]; exact h2, by rw [h1]; exact h3⟩
  unfold bsS at h
  split at h
  · split at h
    · cases h
      exact ⟨key _ (by omega) (by omega) (by omega), by omega⟩
    · cases h
  · split at h
    · split at h
      · cases h
        exact ⟨key _ (by omega) (by omega) (by omega), by omega⟩
      · cases h
    · split at h
      · split at h
        · cases h
          exact ⟨key _ (by omega) (by omega) (by omega), by omega⟩
        · cases h
      · split at h
        · cases h
          exact ⟨key _ (by omega) (by omega) (by omega), by omega⟩
        · cases h
theorem f_edgeRule {b q side : Nat} {s : Sv} {σ : Mm} (hw : WF s) (hr : Rel (b + 1) s σ) (hq : isOf s q) (hs : side < 4) : F_X1_edgeRule b (iN q) (iN side) σ = some (.inl (edS s (σ (b + 25)) q side), σ) := by
  have l1 := isOf_lt hw hq
  have w1 := hw.2.2.2.1 q hq
  have l2 := isOf_lt hw w1.2.1.1
  have k1 : σ (b + 7) q = iN (owS s q) := (hr.2.2.2.2.1 q hq).1.trans w1.1
  have f1 := f_ownerBeside hw hr hq hs
  unfold F_X1_edgeRule edS
  unfold obS at f1
  cases hb : bsS s q side with
  | none =>
    rw [hb] at f1
    simp (disch := omega) only [↓ite_ap, if_true, if_false, if_pos, if_neg, retM_ap, retZ_ap0, retZ_ap1, gM_ap, sM_ap, jM_ap, bI_ap, bL_ap, bD_ap, rdM_ap, wrM_ap, thrM_ap, nl_0, nl_1, nl_2, nl_3, nl_4, nl_5, nl_6, nl_7, nl_8, nl_9, nl_10, nl_11, nl_12, nl_13, nl_25, nl_33, nl_35, nl_45, nl_48, nl_49, nl_50, nl_52, nl_53, nl_57, nl_59, nl_60, nl_61, nl_77, nl_94, nl_97, nl_100, nl_101, nl_119, nl_125, nl_126, nl_137, nl_262, nl_387, nl_500, nl_512, nl_637, nl_999, nl_1022, nl_1137, nl_5685, nm_1b, iN_mI, mI_iN, iN_add, iN_mul, iN_sub, iN_div, iN_rem, iN_lt, iN_le, iN_eq, iN_nat, inB_iN, ↓b_at, ↓b_store, ↓b_place1, ↓b_place0, ↓b_tableOf, ↓b_sqEnd, ↓b_isCell, ↓b_linesOf, ↓b_spanOf, ↓b_isSum, ↓b_sizePlace, ↓b_isBetween, ↓b_sizeOf, ↓b_sizeTogether, Bool.false_eq_true, not_true_eq_false, not_false_eq_true, Nat.add_assoc, Nat.reduceAdd, k1, ↓invM_l f1, Nat.mul_comm (owS s q) 4]
  | some q' =>
    rw [hb] at f1
    have hq2 := bsS_of hw hq hb
    have w2 := hw.2.2.2.1 q' hq2.1
    have l3 := isOf_lt hw w2.2.1.1
    by_cases he : owS s q' = owS s q
    · simp (disch := omega) only [↓ite_ap, if_true, if_false, if_pos, if_neg, retM_ap, retZ_ap0, retZ_ap1, gM_ap, sM_ap, jM_ap, bI_ap, bL_ap, bD_ap, rdM_ap, wrM_ap, thrM_ap, nl_0, nl_1, nl_2, nl_3, nl_4, nl_5, nl_6, nl_7, nl_8, nl_9, nl_10, nl_11, nl_12, nl_13, nl_25, nl_33, nl_35, nl_45, nl_48, nl_49, nl_50, nl_52, nl_53, nl_57, nl_59, nl_60, nl_61, nl_77, nl_94, nl_97, nl_100, nl_101, nl_119, nl_125, nl_126, nl_137, nl_262, nl_387, nl_500, nl_512, nl_637, nl_999, nl_1022, nl_1137, nl_5685, nm_1b, iN_mI, mI_iN, iN_add, iN_mul, iN_sub, iN_div, iN_rem, iN_lt, iN_le, iN_eq, iN_nat, inB_iN, ↓b_at, ↓b_store, ↓b_place1, ↓b_place0, ↓b_tableOf, ↓b_sqEnd, ↓b_isCell, ↓b_linesOf, ↓b_spanOf, ↓b_isSum, ↓b_sizePlace, ↓b_isBetween, ↓b_sizeOf, ↓b_sizeTogether, Bool.false_eq_true, not_true_eq_false, not_false_eq_true, Nat.add_assoc, Nat.reduceAdd, k1, ↓invM_l f1, he]
    · simp (disch := omega) only [↓ite_ap, if_true, if_false, if_pos, if_neg, retM_ap, retZ_ap0, retZ_ap1, gM_ap, sM_ap, jM_ap, bI_ap, bL_ap, bD_ap, rdM_ap, wrM_ap, thrM_ap, nl_0, nl_1, nl_2, nl_3, nl_4, nl_5, nl_6, nl_7, nl_8, nl_9, nl_10, nl_11, nl_12, nl_13, nl_25, nl_33, nl_35, nl_45, nl_48, nl_49, nl_50, nl_52, nl_53, nl_57, nl_59, nl_60, nl_61, nl_77, nl_94, nl_97, nl_100, nl_101, nl_119, nl_125, nl_126, nl_137, nl_262, nl_387, nl_500, nl_512, nl_637, nl_999, nl_1022, nl_1137, nl_5685, nm_1b, iN_mI, mI_iN, iN_add, iN_mul, iN_sub, iN_div, iN_rem, iN_lt, iN_le, iN_eq, iN_nat, inB_iN, ↓b_at, ↓b_store, ↓b_place1, ↓b_place0, ↓b_tableOf, ↓b_sqEnd, ↓b_isCell, ↓b_linesOf, ↓b_spanOf, ↓b_isSum, ↓b_sizePlace, ↓b_isBetween, ↓b_sizeOf, ↓b_sizeTogether, Bool.false_eq_true, not_true_eq_false, not_false_eq_true, Nat.add_assoc, Nat.reduceAdd, k1, ↓invM_l f1, he, Nat.mul_comm (owS s q) 4, Nat.mul_comm (owS s q') 4]
theorem f_edgeRule_n {b q : Nat} {x : Int32} {s : Sv} {σ : Mm} (hw : WF s) (hr : Rel (b + 1) s σ) (ht : q / 25 < tbS s) (hq : ¬ isOf s q) : F_X1_edgeRule b (iN q) x σ = some (.inl (iN 0), σ) := by
  have t5 := hw.1.2.2
  have k1 : σ (b + 7) q = mI := hr.2.2.2.1 q ht hq
  unfold F_X1_edgeRule
  simp (disch := omega) only [↓ite_ap, if_true, if_false, if_pos, if_neg, retM_ap, retZ_ap0, retZ_ap1, gM_ap, sM_ap, jM_ap, bI_ap, bL_ap, bD_ap, rdM_ap, wrM_ap, thrM_ap, nl_0, nl_1, nl_2, nl_3, nl_4, nl_5, nl_6, nl_7, nl_8, nl_9, nl_10, nl_11, nl_12, nl_13, nl_25, nl_33, nl_35, nl_45, nl_48, nl_49, nl_50, nl_52, nl_53, nl_57, nl_59, nl_60, nl_61, nl_77, nl_94, nl_97, nl_100, nl_101, nl_119, nl_125, nl_126, nl_137, nl_262, nl_387, nl_500, nl_512, nl_637, nl_999, nl_1022, nl_1137, nl_5685, nm_1b, iN_mI, mI_iN, iN_add, iN_mul, iN_sub, iN_div, iN_rem, iN_lt, iN_le, iN_eq, iN_nat, inB_iN, ↓b_at, ↓b_store, ↓b_place1, ↓b_place0, ↓b_tableOf, ↓b_sqEnd, ↓b_isCell, ↓b_linesOf, ↓b_spanOf, ↓b_isSum, ↓b_sizePlace, ↓b_isBetween, ↓b_sizeOf, ↓b_sizeTogether, Bool.false_eq_true, not_true_eq_false, not_false_eq_true, Nat.add_assoc, Nat.reduceAdd, k1]
theorem f_ruleEdges {b t : Nat} {s : Sv} {σ : Mm} (hw : WF s) (hr : Rel (b + 1) s σ) (ht : t < tbS s) (E : Nat → Int32) (hE : ∀ q i, q / 25 = t → i < 4 → E (q * 4 + i) = if ofB s q = true then edS s (σ (b + 25)) q i else iN 0) : F_X1_ruleEdges b (iN t) σ = some (.inl (), setS σ (b + 27) (t * 25 * 4) ((t + 1) * 25 * 4) E) := by
  have t5 := hw.1.2.2
  have h := lp (fun n i (a : Mm) => L_X1_ruleEdges_5 b (iN t) n (iN i) a) (fun i => setS σ (b + 27) (t * 25 * 4) (i * 4) E) (i0 := t * 25) (N := (t + 1) * 25) (r := some (.inl (), setS σ (b + 27) (t * 25 * 4) ((t + 1) * 25 * 4) E)) (by omega) (by unfold FU; omega) ?_ ?_
  · simp only [setS_0] at h
    unfold F_X1_ruleEdges
    simp (disch := omega) only [↓ite_ap, if_true, if_false, if_pos, if_neg, retM_ap, retZ_ap0, retZ_ap1, gM_ap, sM_ap, jM_ap, bI_ap, bL_ap, bD_ap, rdM_ap, wrM_ap, thrM_ap, nl_0, nl_1, nl_2, nl_3, nl_4, nl_5, nl_6, nl_7, nl_8, nl_9, nl_10, nl_11, nl_12, nl_13, nl_25, nl_33, nl_35, nl_45, nl_48, nl_49, nl_50, nl_52, nl_53, nl_57, nl_59, nl_60, nl_61, nl_77, nl_94, nl_97, nl_100, nl_101, nl_119, nl_125, nl_126, nl_137, nl_262, nl_387, nl_500, nl_512, nl_637, nl_999, nl_1022, nl_1137, nl_5685, nm_1b, iN_mI, mI_iN, iN_add, iN_mul, iN_sub, iN_div, iN_rem, iN_lt, iN_le, iN_eq, iN_nat, inB_iN, ↓b_at, ↓b_store, ↓b_place1, ↓b_place0, ↓b_tableOf, ↓b_sqEnd, ↓b_isCell, ↓b_linesOf, ↓b_spanOf, ↓b_isSum, ↓b_sizePlace, ↓b_isBetween, ↓b_sizeOf, ↓b_sizeTogether, Bool.false_eq_true, not_true_eq_false, not_false_eq_true]
    exact h
  · intro n i h1 h2
    have hq : i / 25 = t := by omega
    simp only [L_X1_ruleEdges_5]
    simp (disch := omega) only [↓ite_ap, if_true, if_false, if_pos, if_neg, retM_ap, retZ_ap0, retZ_ap1, gM_ap, sM_ap, jM_ap, bI_ap, bL_ap, bD_ap, rdM_ap, wrM_ap, thrM_ap, nl_0, nl_1, nl_2, nl_3, nl_4, nl_5, nl_6, nl_7, nl_8, nl_9, nl_10, nl_11, nl_12, nl_13, nl_25, nl_33, nl_35, nl_45, nl_48, nl_49, nl_50, nl_52, nl_53, nl_57, nl_59, nl_60, nl_61, nl_77, nl_94, nl_97, nl_100, nl_101, nl_119, nl_125, nl_126, nl_137, nl_262, nl_387, nl_500, nl_512, nl_637, nl_999, nl_1022, nl_1137, nl_5685, nm_1b, iN_mI, mI_iN, iN_add, iN_mul, iN_sub, iN_div, iN_rem, iN_lt, iN_le, iN_eq, iN_nat, inB_iN, ↓b_at, ↓b_store, ↓b_place1, ↓b_place0, ↓b_tableOf, ↓b_sqEnd, ↓b_isCell, ↓b_linesOf, ↓b_spanOf, ↓b_isSum, ↓b_sizePlace, ↓b_isBetween, ↓b_sizeOf, ↓b_sizeTogether, Bool.false_eq_true, not_true_eq_false, not_false_eq_true]
    have h9 := lp (fun n9 j (a : Mm) => L_X1_ruleEdges_15 b (iN i) n9 (iN j) (fun _ => L_X1_ruleEdges_5 b (iN t) n (iN (i + 1))) a) (fun j => setS σ (b + 27) (t * 25 * 4) (i * 4 + j) E) (i0 := 0) (N := 4) (r := L_X1_ruleEdges_5 b (iN t) n (iN (i + 1)) (setS σ (b + 27) (t * 25 * 4) ((i + 1) * 4) E)) (by omega) (by unfold FU; omega) ?_ ?_
    · exact h9
    · intro n9 j h3 h4
      simp only [L_X1_ruleEdges_15]
      obtain ⟨τ, hτ⟩ : ∃ τ, τ = setS σ (b + 27) (t * 25 * 4) (i * 4 + j) E := ⟨_, rfl⟩
      have hrτ : Rel (b + 1) s τ := by rw [hτ]; exact hr.st (by omega)
      have e25 : τ (b + 25) = σ (b + 25) := by rw [hτ, setS_o (by omega)]
      rw [← hτ]
      by_cases ho : isOf s i
      · have hv : edS s (σ (b + 25)) i j = E (i * 4 + j) := by rw [hE i j hq h4, if_pos (ofB_iff.mpr ho)]
        have f1 := f_edgeRule (b := b) hw hrτ ho h4
        rw [e25, hv] at f1
        simp (disch := omega) only [↓ite_ap, if_true, if_false, if_pos, if_neg, retM_ap, retZ_ap0, retZ_ap1, gM_ap, sM_ap, jM_ap, bI_ap, bL_ap, bD_ap, rdM_ap, wrM_ap, thrM_ap, nl_0, nl_1, nl_2, nl_3, nl_4, nl_5, nl_6, nl_7, nl_8, nl_9, nl_10, nl_11, nl_12, nl_13, nl_25, nl_33, nl_35, nl_45, nl_48, nl_49, nl_50, nl_52, nl_53, nl_57, nl_59, nl_60, nl_61, nl_77, nl_94, nl_97, nl_100, nl_101, nl_119, nl_125, nl_126, nl_137, nl_262, nl_387, nl_500, nl_512, nl_637, nl_999, nl_1022, nl_1137, nl_5685, nm_1b, iN_mI, mI_iN, iN_add, iN_mul, iN_sub, iN_div, iN_rem, iN_lt, iN_le, iN_eq, iN_nat, inB_iN, ↓b_at, ↓b_store, ↓b_place1, ↓b_place0, ↓b_tableOf, ↓b_sqEnd, ↓b_isCell, ↓b_linesOf, ↓b_spanOf, ↓b_isSum, ↓b_sizePlace, ↓b_isBetween, ↓b_sizeOf, ↓b_sizeTogether, Bool.false_eq_true, not_true_eq_false, not_false_eq_true, ↓invM_l f1, Nat.add_assoc, Nat.reduceAdd]
        rw [hτ, setS_up (by omega) rfl, Nat.add_assoc]
      · have hv : iN 0 = E (i * 4 + j) := by rw [hE i j hq h4, ofB_not ho]; rfl
        have f1 := f_edgeRule_n (b := b) (x := iN j) hw hrτ (by omega) ho
        rw [hv] at f1
        simp (disch := omega) only [↓ite_ap, if_true, if_false, if_pos, if_neg, retM_ap, retZ_ap0, retZ_ap1, gM_ap, sM_ap, jM_ap, bI_ap, bL_ap, bD_ap, rdM_ap, wrM_ap, thrM_ap, nl_0, nl_1, nl_2, nl_3, nl_4, nl_5, nl_6, nl_7, nl_8, nl_9, nl_10, nl_11, nl_12, nl_13, nl_25, nl_33, nl_35, nl_45, nl_48, nl_49, nl_50, nl_52, nl_53, nl_57, nl_59, nl_60, nl_61, nl_77, nl_94, nl_97, nl_100, nl_101, nl_119, nl_125, nl_126, nl_137, nl_262, nl_387, nl_500, nl_512, nl_637, nl_999, nl_1022, nl_1137, nl_5685, nm_1b, iN_mI, mI_iN, iN_add, iN_mul, iN_sub, iN_div, iN_rem, iN_lt, iN_le, iN_eq, iN_nat, inB_iN, ↓b_at, ↓b_store, ↓b_place1, ↓b_place0, ↓b_tableOf, ↓b_sqEnd, ↓b_isCell, ↓b_linesOf, ↓b_spanOf, ↓b_isSum, ↓b_sizePlace, ↓b_isBetween, ↓b_sizeOf, ↓b_sizeTogether, Bool.false_eq_true, not_true_eq_false, not_false_eq_true, ↓invM_l f1, Nat.add_assoc, Nat.reduceAdd]
        rw [hτ, setS_up (by omega) rfl, Nat.add_assoc]
    · intro n9
      simp only [L_X1_ruleEdges_15]
      simp (disch := omega) only [↓ite_ap, if_true, if_false, if_pos, if_neg, retM_ap, retZ_ap0, retZ_ap1, gM_ap, sM_ap, jM_ap, bI_ap, bL_ap, bD_ap, rdM_ap, wrM_ap, thrM_ap, nl_0, nl_1, nl_2, nl_3, nl_4, nl_5, nl_6, nl_7, nl_8, nl_9, nl_10, nl_11, nl_12, nl_13, nl_25, nl_33, nl_35, nl_45, nl_48, nl_49, nl_50, nl_52, nl_53, nl_57, nl_59, nl_60, nl_61, nl_77, nl_94, nl_97, nl_100, nl_101, nl_119, nl_125, nl_126, nl_137, nl_262, nl_387, nl_500, nl_512, nl_637, nl_999, nl_1022, nl_1137, nl_5685, nm_1b, iN_mI, mI_iN, iN_add, iN_mul, iN_sub, iN_div, iN_rem, iN_lt, iN_le, iN_eq, iN_nat, inB_iN, ↓b_at, ↓b_store, ↓b_place1, ↓b_place0, ↓b_tableOf, ↓b_sqEnd, ↓b_isCell, ↓b_linesOf, ↓b_spanOf, ↓b_isSum, ↓b_sizePlace, ↓b_isBetween, ↓b_sizeOf, ↓b_sizeTogether, Bool.false_eq_true, not_true_eq_false, not_false_eq_true, Nat.add_mul, Nat.one_mul]
  · intro n
    simp only [L_X1_ruleEdges_5]
    simp (disch := omega) only [↓ite_ap, if_true, if_false, if_pos, if_neg, retM_ap, retZ_ap0, retZ_ap1, gM_ap, sM_ap, jM_ap, bI_ap, bL_ap, bD_ap, rdM_ap, wrM_ap, thrM_ap, nl_0, nl_1, nl_2, nl_3, nl_4, nl_5, nl_6, nl_7, nl_8, nl_9, nl_10, nl_11, nl_12, nl_13, nl_25, nl_33, nl_35, nl_45, nl_48, nl_49, nl_50, nl_52, nl_53, nl_57, nl_59, nl_60, nl_61, nl_77, nl_94, nl_97, nl_100, nl_101, nl_119, nl_125, nl_126, nl_137, nl_262, nl_387, nl_500, nl_512, nl_637, nl_999, nl_1022, nl_1137, nl_5685, nm_1b, iN_mI, mI_iN, iN_add, iN_mul, iN_sub, iN_div, iN_rem, iN_lt, iN_le, iN_eq, iN_nat, inB_iN, ↓b_at, ↓b_store, ↓b_place1, ↓b_place0, ↓b_tableOf, ↓b_sqEnd, ↓b_isCell, ↓b_linesOf, ↓b_spanOf, ↓b_isSum, ↓b_sizePlace, ↓b_isBetween, ↓b_sizeOf, ↓b_sizeTogether, Bool.false_eq_true, not_true_eq_false, not_false_eq_true]

