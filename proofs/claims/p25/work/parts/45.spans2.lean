theorem spZ_s {s : Sv} {wa : Nat → Nat} {w lo n : Nat} {z0 : Nat → Nat} (h : lo ≤ n) : spZ s wa w z0 lo (n + 1) = if (clB s n && decide (1 < spW s w n)) = true then (fun l => if l = plS w n + spW s w n - 1 then spZ s wa w z0 lo n l + (wa n - smN (spZ s wa w z0 lo n) (plS w n) (plS w n + spW s w n)) else spZ s wa w z0 lo n l) else spZ s wa w z0 lo n := by
  show (if lo ≤ n then _ else z0) = _
  rw [if_pos h]
theorem spZ_0 {s : Sv} {wa : Nat → Nat} {w lo : Nat} {z0 : Nat → Nat} : spZ s wa w z0 lo lo = z0 := by
  cases lo with
  | zero => rfl
  | succ n => unfold spZ; rw [if_neg (by omega)]
theorem sp_end {s : Sv} {w q : Nat} (hw : WF s) (hq : isCl s q) (h2 : w < 2) : plS w q + spW s w q ≤ 5 := by
  have w5 := hw.2.2.2.2.1 q hq
  have a1 := hw.2.2.1 (q / 25) hq.1.1
  have hw2 : w = 0 ∨ w = 1 := by omega
  unfold spW plS
  rcases hw2 with h | h
  · subst h
    rw [if_neg (by omega), if_neg (by omega)]
    omega
  · subst h
    rw [if_pos rfl, if_pos rfl]
    omega
theorem f_sizeSpans {b t w Wm : Nat} {s : Sv} {σ : Mm} {wa z0 : Nat → Nat} (hw : WF s) (hr : Rel (b + 1) s σ) (ht : t < tbS s) (h2 : w < 2) (hWm : Wm ≤ 10000000) (hwa : ∀ q, wa q ≤ Wm) (hz0 : smN z0 0 5 ≤ 5 * Wm) (hW : ∀ q, q / 25 = t → σ (b + 23) (2 * q + w) = iN (wa q)) (h0 : ∀ l, l < 5 → σ (b + 29) ((2 * t + w) * 5 + l) = iN (z0 l)) : F_X1_sizeSpans b (iN t) (iN w) σ = some (.inl (), setS σ (b + 29) ((2 * t + w) * 5) ((2 * t + w) * 5 + 5) (fun j => iN (spZ s wa w z0 (t * 25) ((t + 1) * 25) (j - (2 * t + w) * 5)))) := by
  have t5 := hw.1.2.2
  obtain ⟨B, hB⟩ : ∃ B, B = (2 * t + w) * 5 := ⟨_, rfl⟩
  have hsum : ∀ i, t * 25 ≤ i → i ≤ (t + 1) * 25 → smN (spZ s wa w z0 (t * 25) i) 0 5 ≤ 30 * Wm := fun i h1 h3 => by
    have h4 := spZ_sum (s := s) (w := w) (lo := t * 25) (z0 := z0) hwa i h1
    have h5 : (i - t * 25) * Wm ≤ 25 * Wm := Nat.mul_le_mul_right _ (by omega)
    omega
  have hone : ∀ i l, t * 25 ≤ i → i ≤ (t + 1) * 25 → l < 5 → spZ s wa w z0 (t * 25) i l ≤ 30 * Wm := fun i l h1 h3 hl => by
    have h4 := hsum i h1 h3
    have h5 := smN_sub (g := spZ s wa w z0 (t * 25) i) (lo := l) (lo' := 0) (by omega) (hi := l + 1) (hi' := 5) (by omega)
    rw [smN_s (Nat.le_refl l), smN_0] at h5
    omega
  rw [← hB] at h0 ⊢
  have h := lp (fun n i (a : Mm) => L_X1_sizeSpans_5 b (iN t) (iN w) n (iN i) a) (fun i => setS σ (b + 29) B (B + 5) (fun j => iN (spZ s wa w z0 (t * 25) i (j - B)))) (i0 := t * 25) (N := (t + 1) * 25) (r := some (.inl (), setS σ (b + 29) B (B + 5) (fun j => iN (spZ s wa w z0 (t * 25) ((t + 1) * 25) (j - B))))) (by omega) (by unfold FU; omega) ?_ ?_
  · have e0 : setS σ (b + 29) B (B + 5) (fun j => iN (spZ s wa w z0 (t * 25) (t * 25) (j - B))) = σ := by
      funext k' j
      unfold setS
      simp only [spZ_0]
      by_cases hh : k' = b + 29 ∧ B ≤ j ∧ j < B + 5
      · rw [if_pos hh, hh.1]
        have := h0 (j - B) (by omega)
        rw [show B + (j - B) = j by omega] at this
        exact this.symm
      · rw [if_neg hh]
    simp only [e0] at h
    unfold F_X1_sizeSpans
    simp (disch := omega) only [↓ite_ap, if_true, if_false, if_pos, if_neg, retM_ap, retZ_ap0, retZ_ap1, gM_ap, sM_ap, jM_ap, bI_ap, bL_ap, bD_ap, rdM_ap, wrM_ap, thrM_ap, nl_0, nl_1, nl_2, nl_3, nl_4, nl_5, nl_6, nl_7, nl_8, nl_9, nl_10, nl_11, nl_12, nl_13, nl_25, nl_33, nl_35, nl_45, nl_48, nl_49, nl_50, nl_52, nl_53, nl_57, nl_59, nl_60, nl_61, nl_77, nl_94, nl_97, nl_100, nl_101, nl_119, nl_125, nl_126, nl_137, nl_262, nl_387, nl_500, nl_512, nl_637, nl_999, nl_1022, nl_1137, nl_5685, nm_1b, iN_mI, mI_iN, iN_add, iN_mul, iN_sub, iN_div, iN_rem, iN_lt, iN_le, iN_eq, iN_nat, inB_iN, ↓b_at, ↓b_store, ↓b_place1, ↓b_place0, ↓b_tableOf, ↓b_sqEnd, ↓b_isCell, ↓b_linesOf, ↓b_spanOf, ↓b_isSum, ↓b_sizePlace, ↓b_isBetween, ↓b_sizeOf, ↓b_sizeTogether, Bool.false_eq_true, not_true_eq_false, not_false_eq_true]
    exact h
  · intro n i h1 h3
    have hq : i / 25 = t := by omega
    simp only [L_X1_sizeSpans_5]
    obtain ⟨z, hz⟩ : ∃ z, z = spZ s wa w z0 (t * 25) i := ⟨_, rfl⟩
    have hs := spZ_s (s := s) (wa := wa) (w := w) (z0 := z0) h1
    have hzs := hsum i h1 (by omega)
    have hzo := fun l => hone i l h1 (by omega)
    rw [← hz] at hs hzs hzo ⊢
    obtain ⟨τ, hτ⟩ : ∃ τ, τ = setS σ (b + 29) B (B + 5) (fun j => iN (z (j - B))) := ⟨_, rfl⟩
    have hrτ : Rel (b + 1) s τ := by rw [hτ]; exact hr.st (by omega)
    have e23 : τ (b + 23) (2 * i + w) = iN (wa i) := by rw [hτ, setS_o (by omega)]; exact hW i hq
    have e29 : ∀ l, l < 5 → τ (b + 29) (B + l) = iN (z l) := fun l hl => by
      rw [hτ, setS_in (by omega) (by omega), show B + l - B = l by omega]
    rw [← hτ]
    by_cases hc : isCl s i
    · have sp := rel_span hw hrτ hc h2
      have sp1 : τ (b + 13) (2 * i + w) = iN (spW s w i) := sp.1
      have se := sp_end hw hc h2
      have hp := pl_lt (w := w) (q := i)
      by_cases h4 : 1 < spW s w i
      · rw [if_pos (by simp only [clB_iff.mpr hc, h4, decide_true, Bool.and_true])] at hs
        have e30 : smI (fun l => τ (b + 29) (B + l)) (plS w i) (plS w i + spW s w i - 1 + 1) = iN (smN z (plS w i) (plS w i + spW s w i)) := by
          rw [show plS w i + spW s w i - 1 + 1 = plS w i + spW s w i by omega, smI_congr (g' := fun l => iN (z l)) (fun j a c => e29 j (by omega))]
          exact smI_iN _
        have b1 := hwa i
        have b2 := smN_sub (g := z) (lo := plS w i) (lo' := 0) (by omega) (hi := plS w i + spW s w i) (hi' := 5) (by omega)
        have b3 := hzo (plS w i + spW s w i - 1) (by omega)
        have up : upM τ (b + 29) (B + (plS w i + spW s w i - 1)) (iN (z (plS w i + spW s w i - 1) + (wa i - smN z (plS w i) (plS w i + spW s w i)))) = setS σ (b + 29) B (B + 5) (fun j => iN (spZ s wa w z0 (t * 25) (i + 1) (j - B))) := by
          rw [hτ]
          refine setS_upd (by omega) (by omega) ?_ (fun j hjB _ hj => ?_)
          · rw [show B + (plS w i + spW s w i - 1) - B = plS w i + spW s w i - 1 by omega, hs]
            simp only [if_true]
          · have : ¬ j - B = plS w i + spW s w i - 1 := by omega
            rw [hs]
            simp only [this, if_false]
        simp (disch := omega) only [↓ite_ap, if_true, if_false, if_pos, if_neg, retM_ap, retZ_ap0, retZ_ap1, gM_ap, sM_ap, jM_ap, bI_ap, bL_ap, bD_ap, rdM_ap, wrM_ap, thrM_ap, nl_0, nl_1, nl_2, nl_3, nl_4, nl_5, nl_6, nl_7, nl_8, nl_9, nl_10, nl_11, nl_12, nl_13, nl_25, nl_33, nl_35, nl_45, nl_48, nl_49, nl_50, nl_52, nl_53, nl_57, nl_59, nl_60, nl_61, nl_77, nl_94, nl_97, nl_100, nl_101, nl_119, nl_125, nl_126, nl_137, nl_262, nl_387, nl_500, nl_512, nl_637, nl_999, nl_1022, nl_1137, nl_5685, nm_1b, iN_mI, mI_iN, iN_add, iN_mul, iN_sub, iN_div, iN_rem, iN_lt, iN_le, iN_eq, iN_nat, inB_iN, ↓b_at, ↓b_store, ↓b_place1, ↓b_place0, ↓b_tableOf, ↓b_sqEnd, ↓b_isCell, ↓b_linesOf, ↓b_spanOf, ↓b_isSum, ↓b_sizePlace, ↓b_isBetween, ↓b_sizeOf, ↓b_sizeTogether, Bool.false_eq_true, not_true_eq_false, not_false_eq_true, rel_isCell hw hrτ, hc, ↓b_place, Nat.add_assoc, Nat.reduceAdd, sp1]
        rw [← hB, Nat.mul_comm i 2, e23, e30, iMax_sub (by omega) (by omega), e29 _ (by omega), iN_add, up]
      · rw [if_neg (by simp only [h4, decide_false, Bool.and_false, Bool.false_eq_true, not_false_eq_true])] at hs
        simp (disch := omega) only [↓ite_ap, if_true, if_false, if_pos, if_neg, retM_ap, retZ_ap0, retZ_ap1, gM_ap, sM_ap, jM_ap, bI_ap, bL_ap, bD_ap, rdM_ap, wrM_ap, thrM_ap, nl_0, nl_1, nl_2, nl_3, nl_4, nl_5, nl_6, nl_7, nl_8, nl_9, nl_10, nl_11, nl_12, nl_13, nl_25, nl_33, nl_35, nl_45, nl_48, nl_49, nl_50, nl_52, nl_53, nl_57, nl_59, nl_60, nl_61, nl_77, nl_94, nl_97, nl_100, nl_101, nl_119, nl_125, nl_126, nl_137, nl_262, nl_387, nl_500, nl_512, nl_637, nl_999, nl_1022, nl_1137, nl_5685, nm_1b, iN_mI, mI_iN, iN_add, iN_mul, iN_sub, iN_div, iN_rem, iN_lt, iN_le, iN_eq, iN_nat, inB_iN, ↓b_at, ↓b_store, ↓b_place1, ↓b_place0, ↓b_tableOf, ↓b_sqEnd, ↓b_isCell, ↓b_linesOf, ↓b_spanOf, ↓b_isSum, ↓b_sizePlace, ↓b_isBetween, ↓b_sizeOf, ↓b_sizeTogether, Bool.false_eq_true, not_true_eq_false, not_false_eq_true, rel_isCell hw hrτ, hc, Nat.add_assoc, Nat.reduceAdd, sp1]
        rw [hs, ← hτ]
    · rw [if_neg (by simp only [clB_not hc, Bool.false_and, Bool.false_eq_true, not_false_eq_true])] at hs
      simp (disch := omega) only [↓ite_ap, if_true, if_false, if_pos, if_neg, retM_ap, retZ_ap0, retZ_ap1, gM_ap, sM_ap, jM_ap, bI_ap, bL_ap, bD_ap, rdM_ap, wrM_ap, thrM_ap, nl_0, nl_1, nl_2, nl_3, nl_4, nl_5, nl_6, nl_7, nl_8, nl_9, nl_10, nl_11, nl_12, nl_13, nl_25, nl_33, nl_35, nl_45, nl_48, nl_49, nl_50, nl_52, nl_53, nl_57, nl_59, nl_60, nl_61, nl_77, nl_94, nl_97, nl_100, nl_101, nl_119, nl_125, nl_126, nl_137, nl_262, nl_387, nl_500, nl_512, nl_637, nl_999, nl_1022, nl_1137, nl_5685, nm_1b, iN_mI, mI_iN, iN_add, iN_mul, iN_sub, iN_div, iN_rem, iN_lt, iN_le, iN_eq, iN_nat, inB_iN, ↓b_at, ↓b_store, ↓b_place1, ↓b_place0, ↓b_tableOf, ↓b_sqEnd, ↓b_isCell, ↓b_linesOf, ↓b_spanOf, ↓b_isSum, ↓b_sizePlace, ↓b_isBetween, ↓b_sizeOf, ↓b_sizeTogether, Bool.false_eq_true, not_true_eq_false, not_false_eq_true, rel_isCell hw hrτ, hc]
      rw [hs, ← hτ]
  · intro n
    simp only [L_X1_sizeSpans_5]
    simp (disch := omega) only [↓ite_ap, if_true, if_false, if_pos, if_neg, retM_ap, retZ_ap0, retZ_ap1, gM_ap, sM_ap, jM_ap, bI_ap, bL_ap, bD_ap, rdM_ap, wrM_ap, thrM_ap, nl_0, nl_1, nl_2, nl_3, nl_4, nl_5, nl_6, nl_7, nl_8, nl_9, nl_10, nl_11, nl_12, nl_13, nl_25, nl_33, nl_35, nl_45, nl_48, nl_49, nl_50, nl_52, nl_53, nl_57, nl_59, nl_60, nl_61, nl_77, nl_94, nl_97, nl_100, nl_101, nl_119, nl_125, nl_126, nl_137, nl_262, nl_387, nl_500, nl_512, nl_637, nl_999, nl_1022, nl_1137, nl_5685, nm_1b, iN_mI, mI_iN, iN_add, iN_mul, iN_sub, iN_div, iN_rem, iN_lt, iN_le, iN_eq, iN_nat, inB_iN, ↓b_at, ↓b_store, ↓b_place1, ↓b_place0, ↓b_tableOf, ↓b_sqEnd, ↓b_isCell, ↓b_linesOf, ↓b_spanOf, ↓b_isSum, ↓b_sizePlace, ↓b_isBetween, ↓b_sizeOf, ↓b_sizeTogether, Bool.false_eq_true, not_true_eq_false, not_false_eq_true]

