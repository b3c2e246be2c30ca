theorem setS_upd {σ : Mm} {k lo hi i : Nat} {F F' : Nat → Int32} {v : Int32} (h1 : lo ≤ i) (h2 : i < hi) (hv : v = F' i) (hn : ∀ j, lo ≤ j → j < hi → j ≠ i → F j = F' j) : upM (setS σ k lo hi F) k i v = setS σ k lo hi F' := by
  subst hv
  funext k' j
  unfold setS upM upd
  by_cases e1 : k' = k
  · by_cases e2 : j = i
    · subst e2
      simp [e1, h1, h2]
    · by_cases e3 : lo ≤ j ∧ j < hi
      · simp [e1, e2, hn j e3.1 e3.2 e2]
      · simp [e1, e2, e3]
  · simp [e1]
def spW (s : Sv) (w q : Nat) : Nat := if w = 1 then hiS s q else brS s q
/-- the size of a line by the cells that lie in it alone, of the squares before i -/
def sgS (s : Sv) (wa : Nat → Nat) (t w line i : Nat) : Nat := mxN (fun q => if (clB s q && decide (spW s w q = 1) && decide (plS w q = line)) = true then wa q else 0) (t * 25) i
theorem rel_span {b q w : Nat} {s : Sv} {σ : Mm} (hw : WF s) (hr : Rel b s σ) (hq : isCl s q) (h2 : w < 2) : σ (b + 12) (2 * q + w) = iN (spW s w q) ∧ 1 ≤ spW s w q ∧ spW s w q ≤ 5 := by
  have r1 := hr.2.2.2.2.1 q hq.1
  have w5 := hw.2.2.2.2.1 q hq
  have a1 := hw.2.2.1 (q / 25) hq.1.1
  have hw2 : w = 0 ∨ w = 1 := by omega
  unfold spW
  rcases hw2 with h | h
  · subst h
    rw [if_neg (by omega)]
    exact ⟨r1.2.2.2.2.1.trans w5.2.1, by omega, by omega⟩
  · subst h
    rw [if_pos rfl]
    exact ⟨r1.2.2.2.1.trans w5.1, by omega, by omega⟩
theorem f_place {q w : Nat} {σ : Mm} (hq : q < 1000) (h2 : w < 2) : F_X5_placeOf (iN q) (iN w) σ = some (.inl (iN (plS w q)), σ) := by
  have hw2 : w = 0 ∨ w = 1 := by omega
  unfold plS
  rcases hw2 with h | h
  · subst h
    rw [f_place0 hq, if_neg (by omega)]
  · subst h
    rw [f_place1 hq, if_pos rfl]
theorem b_place {α : Type} {q w : Nat} {σ : Mm} {K : Int32 → Dm α} (hq : q < 1000) (h2 : w < 2) : invM (F_X5_placeOf (iN q) (iN w)) K σ = K (iN (plS w q)) σ := invM_l (f_place hq h2)
theorem pl_lt {w q : Nat} : plS w q < 5 := by
  unfold plS
  by_cases h : w = 1
  · rw [if_pos h]; omega
  · rw [if_neg h]; omega
theorem f_sizeSingles {b t w : Nat} {s : Sv} {σ : Mm} {wa : Nat → Nat} (hw : WF s) (hr : Rel (b + 1) s σ) (ht : t < tbS s) (h2 : w < 2) (hwa : ∀ q, wa q < 1000000000) (hW : ∀ q, q / 25 = t → σ (b + 23) (2 * q + w) = iN (wa q)) (h0 : ∀ l, l < 5 → σ (b + 29) ((2 * t + w) * 5 + l) = iN 0) : F_X1_sizeSingles b (iN t) (iN w) σ = some (.inl (), setS σ (b + 29) ((2 * t + w) * 5) ((2 * t + w) * 5 + 5) (fun j => iN (sgS s wa t w (j - (2 * t + w) * 5) ((t + 1) * 25)))) := by
  have t5 := hw.1.2.2
  obtain ⟨B, hB⟩ : ∃ B, B = (2 * t + w) * 5 := ⟨_, rfl⟩
  have hlt : ∀ l i, sgS s wa t w l i < 1000000000 := fun l i => mxN_lt (by omega) (fun q => by
    by_cases h : (clB s q && decide (spW s w q = 1) && decide (plS w q = l)) = true
    · rw [if_pos h]; exact hwa q
    · rw [if_neg h]; omega) i
  rw [← hB] at h0 ⊢
  have h := lp (fun n i (a : Mm) => L_X1_sizeSingles_5 b (iN t) (iN w) n (iN i) a) (fun i => setS σ (b + 29) B (B + 5) (fun j => iN (sgS s wa t w (j - B) i))) (i0 := t * 25) (N := (t + 1) * 25) (r := some (.inl (), setS σ (b + 29) B (B + 5) (fun j => iN (sgS s wa t w (j - B) ((t + 1) * 25))))) (by omega) (by unfold FU; omega) ?_ ?_
  · have e0 : setS σ (b + 29) B (B + 5) (fun j => iN (sgS s wa t w (j - B) (t * 25))) = σ := by
      funext k' j
      unfold setS sgS
      simp only [mxN_0]
      by_cases hh : k' = b + 29 ∧ B ≤ j ∧ j < B + 5
      · rw [if_pos hh, hh.1]
        have := h0 (j - B) (by omega)
        rw [show B + (j - B) = j by omega] at this
        exact this.symm
      · rw [if_neg hh]
    simp only [e0] at h
    unfold F_X1_sizeSingles
    simp (disch := omega) only [↓ite_ap, if_true, if_false, if_pos, if_neg, retM_ap, retZ_ap0, retZ_ap1, gM_ap, sM_ap, jM_ap, bI_ap, bL_ap, bD_ap, rdM_ap, wrM_ap, thrM_ap, nl_0, nl_1, nl_2, nl_3, nl_4, nl_5, nl_6, nl_7, nl_8, nl_9, nl_10, nl_11, nl_12, nl_13, nl_25, nl_33, nl_35, nl_45, nl_48, nl_49, nl_50, nl_52, nl_53, nl_57, nl_59, nl_60, nl_61, nl_77, nl_94, nl_97, nl_100, nl_101, nl_119, nl_125, nl_126, nl_137, nl_262, nl_387, nl_500, nl_512, nl_637, nl_999, nl_1022, nl_1137, nl_5685, nm_1b, iN_mI, mI_iN, iN_add, iN_mul, iN_sub, iN_div, iN_rem, iN_lt, iN_le, iN_eq, iN_nat, inB_iN, ↓b_at, ↓b_store, ↓b_place1, ↓b_place0, ↓b_tableOf, ↓b_sqEnd, ↓b_isCell, ↓b_linesOf, ↓b_spanOf, ↓b_isSum, ↓b_sizePlace, ↓b_isBetween, ↓b_sizeOf, ↓b_sizeTogether, Bool.false_eq_true, not_true_eq_false, not_false_eq_true]
    exact h
  · intro n i h1 h3
    have hq : i / 25 = t := by omega
    simp only [L_X1_sizeSingles_5]
    obtain ⟨τ, hτ⟩ : ∃ τ, τ = setS σ (b + 29) B (B + 5) (fun j => iN (sgS s wa t w (j - B) i)) := ⟨_, rfl⟩
    have hrτ : Rel (b + 1) s τ := by rw [hτ]; exact hr.st (by omega)
    have e23 : τ (b + 23) (2 * i + w) = iN (wa i) := by rw [hτ, setS_o (by omega)]; exact hW i hq
    have hs : ∀ l, sgS s wa t w l (i + 1) = max (sgS s wa t w l i) (if (clB s i && decide (spW s w i = 1) && decide (plS w i = l)) = true then wa i else 0) := fun l => mxN_s h1
    rw [← hτ]
    have skip : (∀ l, (clB s i && decide (spW s w i = 1) && decide (plS w i = l)) = false) → τ = setS σ (b + 29) B (B + 5) (fun j => iN (sgS s wa t w (j - B) (i + 1))) := by
      intro hf
      rw [hτ]
      refine congrArg _ (funext fun j => ?_)
      rw [hs, hf, if_neg (by decide), Nat.max_zero]
    by_cases hc : isCl s i
    · have sp := rel_span hw hrτ hc h2
      have sp1 : τ (b + 13) (2 * i + w) = iN (spW s w i) := sp.1
      by_cases h4 : spW s w i = 1
      · have hp := pl_lt (w := w) (q := i)
        have e29 : τ (b + 29) (B + plS w i) = iN (sgS s wa t w (plS w i) i) := by
          rw [hτ, setS_in (by omega) (by omega), show B + plS w i - B = plS w i by omega]
        have l1 := hlt (plS w i) i
        have l2 := hwa i
        have up : upM τ (b + 29) (B + plS w i) (iN (max (sgS s wa t w (plS w i) i) (wa i))) = setS σ (b + 29) B (B + 5) (fun j => iN (sgS s wa t w (j - B) (i + 1))) := by
          rw [hτ]
          refine setS_upd (by omega) (by omega) ?_ (fun j hjB _ hj => ?_)
          · rw [show B + plS w i - B = plS w i by omega, hs]
            simp only [clB_iff.mpr hc, h4, decide_true, Bool.and_true, if_true]
          · rw [hs]
            have : ¬ plS w i = j - B := by omega
            simp only [this, decide_false, Bool.and_false, Bool.false_eq_true, if_false, Nat.max_zero]
        simp (disch := omega) only [↓ite_ap, if_true, if_false, if_pos, if_neg, retM_ap, retZ_ap0, retZ_ap1, gM_ap, sM_ap, jM_ap, bI_ap, bL_ap, bD_ap, rdM_ap, wrM_ap, thrM_ap, nl_0, nl_1, nl_2, nl_3, nl_4, nl_5, nl_6, nl_7, nl_8, nl_9, nl_10, nl_11, nl_12, nl_13, nl_25, nl_33, nl_35, nl_45, nl_48, nl_49, nl_50, nl_52, nl_53, nl_57, nl_59, nl_60, nl_61, nl_77, nl_94, nl_97, nl_100, nl_101, nl_119, nl_125, nl_126, nl_137, nl_262, nl_387, nl_500, nl_512, nl_637, nl_999, nl_1022, nl_1137, nl_5685, nm_1b, iN_mI, mI_iN, iN_add, iN_mul, iN_sub, iN_div, iN_rem, iN_lt, iN_le, iN_eq, iN_nat, inB_iN, ↓b_at, ↓b_store, ↓b_place1, ↓b_place0, ↓b_tableOf, ↓b_sqEnd, ↓b_isCell, ↓b_linesOf, ↓b_spanOf, ↓b_isSum, ↓b_sizePlace, ↓b_isBetween, ↓b_sizeOf, ↓b_sizeTogether, Bool.false_eq_true, not_true_eq_false, not_false_eq_true, rel_isCell hw hrτ, hc, ↓b_place, Nat.add_assoc, Nat.reduceAdd, sp1, h4, ← hB, e29, Nat.mul_comm i 2, e23, iMax_iN, up]
      · have hf := skip (fun l => by simp only [h4, decide_false, Bool.and_false, Bool.false_and])
        simp (disch := omega) only [↓ite_ap, if_true, if_false, if_pos, if_neg, retM_ap, retZ_ap0, retZ_ap1, gM_ap, sM_ap, jM_ap, bI_ap, bL_ap, bD_ap, rdM_ap, wrM_ap, thrM_ap, nl_0, nl_1, nl_2, nl_3, nl_4, nl_5, nl_6, nl_7, nl_8, nl_9, nl_10, nl_11, nl_12, nl_13, nl_25, nl_33, nl_35, nl_45, nl_48, nl_49, nl_50, nl_52, nl_53, nl_57, nl_59, nl_60, nl_61, nl_77, nl_94, nl_97, nl_100, nl_101, nl_119, nl_125, nl_126, nl_137, nl_262, nl_387, nl_500, nl_512, nl_637, nl_999, nl_1022, nl_1137, nl_5685, nm_1b, iN_mI, mI_iN, iN_add, iN_mul, iN_sub, iN_div, iN_rem, iN_lt, iN_le, iN_eq, iN_nat, inB_iN, ↓b_at, ↓b_store, ↓b_place1, ↓b_place0, ↓b_tableOf, ↓b_sqEnd, ↓b_isCell, ↓b_linesOf, ↓b_spanOf, ↓b_isSum, ↓b_sizePlace, ↓b_isBetween, ↓b_sizeOf, ↓b_sizeTogether, Bool.false_eq_true, not_true_eq_false, not_false_eq_true, rel_isCell hw hrτ, hc, Nat.add_assoc, Nat.reduceAdd, sp1, h4]
        rw [hf]
    · have hf := skip (fun l => by simp only [clB_not hc, Bool.false_and])
      simp (disch := omega) only [↓ite_ap, if_true, if_false, if_pos, if_neg, retM_ap, retZ_ap0, retZ_ap1, gM_ap, sM_ap, jM_ap, bI_ap, bL_ap, bD_ap, rdM_ap, wrM_ap, thrM_ap, nl_0, nl_1, nl_2, nl_3, nl_4, nl_5, nl_6, nl_7, nl_8, nl_9, nl_10, nl_11, nl_12, nl_13, nl_25, nl_33, nl_35, nl_45, nl_48, nl_49, nl_50, nl_52, nl_53, nl_57, nl_59, nl_60, nl_61, nl_77, nl_94, nl_97, nl_100, nl_101, nl_119, nl_125, nl_126, nl_137, nl_262, nl_387, nl_500, nl_512, nl_637, nl_999, nl_1022, nl_1137, nl_5685, nm_1b, iN_mI, mI_iN, iN_add, iN_mul, iN_sub, iN_div, iN_rem, iN_lt, iN_le, iN_eq, iN_nat, inB_iN, ↓b_at, ↓b_store, ↓b_place1, ↓b_place0, ↓b_tableOf, ↓b_sqEnd, ↓b_isCell, ↓b_linesOf, ↓b_spanOf, ↓b_isSum, ↓b_sizePlace, ↓b_isBetween, ↓b_sizeOf, ↓b_sizeTogether, Bool.false_eq_true, not_true_eq_false, not_false_eq_true, rel_isCell hw hrτ, hc]
      rw [hf]
  · intro n
    simp only [L_X1_sizeSingles_5]
    simp (disch := omega) only [↓ite_ap, if_true, if_false, if_pos, if_neg, retM_ap, retZ_ap0, retZ_ap1, gM_ap, sM_ap, jM_ap, bI_ap, bL_ap, bD_ap, rdM_ap, wrM_ap, thrM_ap, nl_0, nl_1, nl_2, nl_3, nl_4, nl_5, nl_6, nl_7, nl_8, nl_9, nl_10, nl_11, nl_12, nl_13, nl_25, nl_33, nl_35, nl_45, nl_48, nl_49, nl_50, nl_52, nl_53, nl_57, nl_59, nl_60, nl_61, nl_77, nl_94, nl_97, nl_100, nl_101, nl_119, nl_125, nl_126, nl_137, nl_262, nl_387, nl_500, nl_512, nl_637, nl_999, nl_1022, nl_1137, nl_5685, nm_1b, iN_mI, mI_iN, iN_add, iN_mul, iN_sub, iN_div, iN_rem, iN_lt, iN_le, iN_eq, iN_nat, inB_iN, ↓b_at, ↓b_store, ↓b_place1, ↓b_place0, ↓b_tableOf, ↓b_sqEnd, ↓b_isCell, ↓b_linesOf, ↓b_spanOf, ↓b_isSum, ↓b_sizePlace, ↓b_isBetween, ↓b_sizeOf, ↓b_sizeTogether, Bool.false_eq_true, not_true_eq_false, not_false_eq_true]

