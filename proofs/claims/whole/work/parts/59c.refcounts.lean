/-! WHAT A SUM COUNTS -/
theorem r_from {a sum : Nat} {s : Sv} {σ : Mm} (hw : WF s) (hv : Vw a s σ) (hs : isCl s sum) (h6 : kiS s sum = 4 ∨ kiS s sum = 5) : F_X6_from a 1137 (iN sum) σ = some (.inl (iN (frS s sum)), σ) := by
  have l1 := isOf_lt hw hs.1
  have h1 := hv.ki hw hs.1
  have kb := (hw.2.2.2.2.2.1 sum hs.1).2.1
  obtain ⟨g, hg⟩ : ∃ g : Nat → Nat, g = fun q => if (clB s q && decide (kiS s q = kiS s sum) && ctB s (kiS s sum) 0 sum q) = true then alS (kiS s sum) q else 0 := ⟨_, rfl⟩
  have hgl : ∀ q, g q ≤ 4 := fun q => by
    rw [hg]
    show (if _ then _ else _) ≤ 4
    by_cases h : (clB s q && decide (kiS s q = kiS s sum) && ctB s (kiS s sum) 0 sum q) = true
    · rw [if_pos h]
      have := al_lt (k := kiS s sum) (q := q)
      omega
    · rw [if_neg h]
      omega
  have loop : L_X6_from_21 a 1137 (iN sum) (ifk (kiS s sum)) FU (iN 0) (iN 0) σ = some (.inl (iN (frS s sum)), σ) := by
    have h := lp (fun n k (x : Int32) => L_X6_from_21 a 1137 (iN sum) (ifk (kiS s sum)) n x (iN k) σ) (fun k => iN (mxN g (sum / 25 * 25) (sum / 25 * 25 + k))) (i0 := 0) (N := 25) (r := some (.inl (iN (frS s sum)), σ)) (by omega) (by unfold FU; omega) ?_ ?_
    · simp only [Nat.add_zero, mxN_0] at h
      exact h
    · intro n k hk1 hk2
      obtain ⟨q, hq⟩ : ∃ q, q = sum / 25 * 25 + k := ⟨_, rfl⟩
      have e1 : sum - sum % 25 + k = q := by omega
      have hqt : q / 25 = sum / 25 := by omega
      have hq5 : q < 125 := by omega
      have hm := mxN_le (g := g) (lo := sum / 25 * 25) hgl q
      have hal := al_lt (k := kiS s sum) (q := q)
      have hals := al_lt (k := kiS s sum) (q := sum)
      have fa := r_along (q := q) (k := kiS s sum) (σ := σ) (by omega)
      have fs := r_along (q := sum) (k := kiS s sum) (σ := σ) (by omega)
      simp only [L_X6_from_21]
      rw [show sum / 25 * 25 + (k + 1) = q + 1 by omega, mxN_s (by omega), ← hq]
      have skip : g q = 0 → max (mxN g (sum / 25 * 25) q) (g q) = mxN g (sum / 25 * 25) q := fun h => by rw [h, Nat.max_zero]
      by_cases hc : isCl s q
      · have fc := r_isCell1 hw hv hc
        have hkq := hv.ki hw hc.1
        have kbq := (hw.2.2.2.2.2.1 q hc.1).2.1
        by_cases hk : kiS s q = kiS s sum
        · have fm := r_meet (k := kiS s sum) hw hv hc hs
          cases em : meB s (kiS s sum) q sum
          · have g0 : g q = 0 := by
              rw [hg]
              show (if _ then _ else _) = 0
              unfold ctB
              rw [em, Bool.and_false, decide_eq_false (show ¬ kiS s sum = 6 by omega), Bool.or_false, Bool.and_false]
              rfl
            rw [em, if_neg (by decide)] at fm
            rw [skip g0]
            simp (disch := omega) only [↓ite_ap, if_true, if_false, if_pos, if_neg, retM_ap, retZ_ap0, retZ_ap1, gM_ap, sM_ap, jM_ap, bI_ap, bL_ap, bD_ap, rdM_ap, wrM_ap, thrM_ap, nl_0, nl_1, nl_2, nl_3, nl_4, nl_5, nl_6, nl_7, nl_8, nl_9, nl_10, nl_11, nl_12, nl_13, nl_25, nl_33, nl_35, nl_45, nl_48, nl_49, nl_50, nl_52, nl_53, nl_57, nl_59, nl_60, nl_61, nl_77, nl_94, nl_97, nl_100, nl_101, nl_119, nl_125, nl_126, nl_137, nl_262, nl_387, nl_500, nl_512, nl_637, nl_999, nl_1022, nl_1137, nl_5685, nm_1b, iN_mI, mI_iN, iN_add, iN_mul, iN_sub, iN_div, iN_rem, iN_lt, iN_le, iN_eq, iN_nat, inB_iN, e1, ↓invM_l fc, hkq, h1, hk, ↓invM_l fm]
          · rw [em, if_pos rfl] at fm
            by_cases ha : alS (kiS s sum) q < alS (kiS s sum) sum
            · have g1 : g q = alS (kiS s sum) q := by
                rw [hg]
                show (if _ then _ else _) = _
                unfold ctB
                rw [em, clB_iff.mpr hc, decide_eq_true hk, decide_eq_true (Nat.zero_le _), decide_eq_true ha, decide_eq_false (show ¬ kiS s sum = 6 by omega)]
                rfl
              rw [g1]
              by_cases hx : alS (kiS s sum) q ≤ mxN g (sum / 25 * 25) q
              · rw [Nat.max_eq_left hx]
                simp (disch := omega) only [↓ite_ap, if_true, if_false, if_pos, if_neg, retM_ap, retZ_ap0, retZ_ap1, gM_ap, sM_ap, jM_ap, bI_ap, bL_ap, bD_ap, rdM_ap, wrM_ap, thrM_ap, nl_0, nl_1, nl_2, nl_3, nl_4, nl_5, nl_6, nl_7, nl_8, nl_9, nl_10, nl_11, nl_12, nl_13, nl_25, nl_33, nl_35, nl_45, nl_48, nl_49, nl_50, nl_52, nl_53, nl_57, nl_59, nl_60, nl_61, nl_77, nl_94, nl_97, nl_100, nl_101, nl_119, nl_125, nl_126, nl_137, nl_262, nl_387, nl_500, nl_512, nl_637, nl_999, nl_1022, nl_1137, nl_5685, nm_1b, iN_mI, mI_iN, iN_add, iN_mul, iN_sub, iN_div, iN_rem, iN_lt, iN_le, iN_eq, iN_nat, inB_iN, e1, ↓invM_l fc, hkq, h1, hk, ↓invM_l fm, ↓invM_l fa, ↓invM_l fs]
              · rw [Nat.max_eq_right (by omega)]
                simp (disch := omega) only [↓ite_ap, if_true, if_false, if_pos, if_neg, retM_ap, retZ_ap0, retZ_ap1, gM_ap, sM_ap, jM_ap, bI_ap, bL_ap, bD_ap, rdM_ap, wrM_ap, thrM_ap, nl_0, nl_1, nl_2, nl_3, nl_4, nl_5, nl_6, nl_7, nl_8, nl_9, nl_10, nl_11, nl_12, nl_13, nl_25, nl_33, nl_35, nl_45, nl_48, nl_49, nl_50, nl_52, nl_53, nl_57, nl_59, nl_60, nl_61, nl_77, nl_94, nl_97, nl_100, nl_101, nl_119, nl_125, nl_126, nl_137, nl_262, nl_387, nl_500, nl_512, nl_637, nl_999, nl_1022, nl_1137, nl_5685, nm_1b, iN_mI, mI_iN, iN_add, iN_mul, iN_sub, iN_div, iN_rem, iN_lt, iN_le, iN_eq, iN_nat, inB_iN, e1, ↓invM_l fc, hkq, h1, hk, ↓invM_l fm, ↓invM_l fa, ↓invM_l fs]
            · have g0 : g q = 0 := by
                rw [hg]
                show (if _ then _ else _) = 0
                unfold ctB
                rw [decide_eq_false ha, Bool.and_false, Bool.false_and, decide_eq_false (show ¬ kiS s sum = 6 by omega), Bool.or_false, Bool.and_false]
                rfl
              rw [skip g0]
              simp (disch := omega) only [↓ite_ap, if_true, if_false, if_pos, if_neg, retM_ap, retZ_ap0, retZ_ap1, gM_ap, sM_ap, jM_ap, bI_ap, bL_ap, bD_ap, rdM_ap, wrM_ap, thrM_ap, nl_0, nl_1, nl_2, nl_3, nl_4, nl_5, nl_6, nl_7, nl_8, nl_9, nl_10, nl_11, nl_12, nl_13, nl_25, nl_33, nl_35, nl_45, nl_48, nl_49, nl_50, nl_52, nl_53, nl_57, nl_59, nl_60, nl_61, nl_77, nl_94, nl_97, nl_100, nl_101, nl_119, nl_125, nl_126, nl_137, nl_262, nl_387, nl_500, nl_512, nl_637, nl_999, nl_1022, nl_1137, nl_5685, nm_1b, iN_mI, mI_iN, iN_add, iN_mul, iN_sub, iN_div, iN_rem, iN_lt, iN_le, iN_eq, iN_nat, inB_iN, e1, ↓invM_l fc, hkq, h1, hk, ↓invM_l fm, ↓invM_l fa, ↓invM_l fs]
        · have g0 : g q = 0 := by
            rw [hg]
            show (if _ then _ else _) = 0
            rw [decide_eq_false hk, Bool.and_false, Bool.false_and]
            rfl
          rw [skip g0]
          simp (disch := omega) only [↓ite_ap, if_true, if_false, if_pos, if_neg, retM_ap, retZ_ap0, retZ_ap1, gM_ap, sM_ap, jM_ap, bI_ap, bL_ap, bD_ap, rdM_ap, wrM_ap, thrM_ap, nl_0, nl_1, nl_2, nl_3, nl_4, nl_5, nl_6, nl_7, nl_8, nl_9, nl_10, nl_11, nl_12, nl_13, nl_25, nl_33, nl_35, nl_45, nl_48, nl_49, nl_50, nl_52, nl_53, nl_57, nl_59, nl_60, nl_61, nl_77, nl_94, nl_97, nl_100, nl_101, nl_119, nl_125, nl_126, nl_137, nl_262, nl_387, nl_500, nl_512, nl_637, nl_999, nl_1022, nl_1137, nl_5685, nm_1b, iN_mI, mI_iN, iN_add, iN_mul, iN_sub, iN_div, iN_rem, iN_lt, iN_le, iN_eq, iN_nat, inB_iN, e1, ↓invM_l fc, hkq, h1, hk]
      · have fc := r_isCell0 hw hv hq5 hc
        have g0 : g q = 0 := by
          rw [hg]
          show (if _ then _ else _) = 0
          rw [clB_not hc, Bool.false_and, Bool.false_and]
          rfl
        rw [skip g0]
        simp (disch := omega) only [↓ite_ap, if_true, if_false, if_pos, if_neg, retM_ap, retZ_ap0, retZ_ap1, gM_ap, sM_ap, jM_ap, bI_ap, bL_ap, bD_ap, rdM_ap, wrM_ap, thrM_ap, nl_0, nl_1, nl_2, nl_3, nl_4, nl_5, nl_6, nl_7, nl_8, nl_9, nl_10, nl_11, nl_12, nl_13, nl_25, nl_33, nl_35, nl_45, nl_48, nl_49, nl_50, nl_52, nl_53, nl_57, nl_59, nl_60, nl_61, nl_77, nl_94, nl_97, nl_100, nl_101, nl_119, nl_125, nl_126, nl_137, nl_262, nl_387, nl_500, nl_512, nl_637, nl_999, nl_1022, nl_1137, nl_5685, nm_1b, iN_mI, mI_iN, iN_add, iN_mul, iN_sub, iN_div, iN_rem, iN_lt, iN_le, iN_eq, iN_nat, inB_iN, e1, ↓invM_l fc]
    · intro n
      simp only [L_X6_from_21]
      rw [show sum / 25 * 25 + 25 = (sum / 25 + 1) * 25 by omega]
      unfold frS
      rw [hg]
      simp (disch := omega) only [↓ite_ap, if_true, if_false, if_pos, if_neg, retM_ap, retZ_ap0, retZ_ap1, gM_ap, sM_ap, jM_ap, bI_ap, bL_ap, bD_ap, rdM_ap, wrM_ap, thrM_ap, nl_0, nl_1, nl_2, nl_3, nl_4, nl_5, nl_6, nl_7, nl_8, nl_9, nl_10, nl_11, nl_12, nl_13, nl_25, nl_33, nl_35, nl_45, nl_48, nl_49, nl_50, nl_52, nl_53, nl_57, nl_59, nl_60, nl_61, nl_77, nl_94, nl_97, nl_100, nl_101, nl_119, nl_125, nl_126, nl_137, nl_262, nl_387, nl_500, nl_512, nl_637, nl_999, nl_1022, nl_1137, nl_5685, nm_1b, iN_mI, mI_iN, iN_add, iN_mul, iN_sub, iN_div, iN_rem, iN_lt, iN_le, iN_eq, iN_nat, inB_iN]
  unfold F_X6_from
  rcases h6 with h | h
  · have e : ifk (kiS s sum) = iN 1 := by unfold ifk; rw [if_pos h]
    rw [e] at loop
    simp (disch := omega) only [↓ite_ap, if_true, if_false, if_pos, if_neg, retM_ap, retZ_ap0, retZ_ap1, gM_ap, sM_ap, jM_ap, bI_ap, bL_ap, bD_ap, rdM_ap, wrM_ap, thrM_ap, nl_0, nl_1, nl_2, nl_3, nl_4, nl_5, nl_6, nl_7, nl_8, nl_9, nl_10, nl_11, nl_12, nl_13, nl_25, nl_33, nl_35, nl_45, nl_48, nl_49, nl_50, nl_52, nl_53, nl_57, nl_59, nl_60, nl_61, nl_77, nl_94, nl_97, nl_100, nl_101, nl_119, nl_125, nl_126, nl_137, nl_262, nl_387, nl_500, nl_512, nl_637, nl_999, nl_1022, nl_1137, nl_5685, nm_1b, iN_mI, mI_iN, iN_add, iN_mul, iN_sub, iN_div, iN_rem, iN_lt, iN_le, iN_eq, iN_nat, inB_iN, h1, h, loop]
  · have e : ifk (kiS s sum) = iN 0 := by unfold ifk; rw [if_neg (by omega)]
    rw [e] at loop
    simp (disch := omega) only [↓ite_ap, if_true, if_false, if_pos, if_neg, retM_ap, retZ_ap0, retZ_ap1, gM_ap, sM_ap, jM_ap, bI_ap, bL_ap, bD_ap, rdM_ap, wrM_ap, thrM_ap, nl_0, nl_1, nl_2, nl_3, nl_4, nl_5, nl_6, nl_7, nl_8, nl_9, nl_10, nl_11, nl_12, nl_13, nl_25, nl_33, nl_35, nl_45, nl_48, nl_49, nl_50, nl_52, nl_53, nl_57, nl_59, nl_60, nl_61, nl_77, nl_94, nl_97, nl_100, nl_101, nl_119, nl_125, nl_126, nl_137, nl_262, nl_387, nl_500, nl_512, nl_637, nl_999, nl_1022, nl_1137, nl_5685, nm_1b, iN_mI, mI_iN, iN_add, iN_mul, iN_sub, iN_div, iN_rem, iN_lt, iN_le, iN_eq, iN_nat, inB_iN, h1, h, loop]
theorem r_in {p lo hi : Int32} {σ : Mm} : F_X6_in p lo hi σ = some (.inl (if btw p lo hi = true then iN 1 else iN 0), σ) := by
  unfold F_X6_in btw
  by_cases h1 : p < lo
  · rw [if_pos h1, decide_eq_false (not_not_intro h1)]
    rfl
  · rw [if_neg h1, decide_eq_true h1]
    by_cases h2 : hi < p
    · rw [if_pos h2, decide_eq_false (not_not_intro h2)]
      rfl
    · rw [if_neg h2, decide_eq_true h2]
      rfl
/-- .. where the end is one less than n -/
theorem r_inN {k lo n : Nat} {σ : Mm} (hk : k < 100000) (hl : lo < 100000) (hn : n < 100000) : F_X6_in (iN k) (iN lo) (iN n - iN 1) σ = some (.inl (if lo ≤ k ∧ k < n then iN 1 else iN 0), σ) := by
  rw [r_in]
  by_cases h0 : n = 0
  · subst h0
    have e : btw (iN k) (iN lo) (iN 0 - iN 1) = false := by
      unfold btw
      rw [sub01, decide_eq_false (not_not_intro (of_eq_true (mI_lt (show k < 2147483648 by omega)))), Bool.and_false]
    rw [e, if_neg (by decide), if_neg (by omega)]
  · rw [iN_sub (by omega), btw_iN (by omega) (by omega) (by omega)]
    by_cases h : lo ≤ k ∧ k < n
    · rw [if_pos h, if_pos (decide_eq_true (by omega))]
    · rw [if_neg h, if_neg (by rw [decide_eq_false (by omega)]; decide)]
theorem r_counts {a sum q : Nat} {s : Sv} {σ : Mm} (hw : WF s) (hv : Vw a s σ) (hs : isCl s sum) (hq : isCl s q) (h4 : 4 ≤ kiS s sum) : F_X6_counts a 1137 (iN sum) (iN q) σ = some (.inl (if cnB s sum q = true then iN 1 else iN 0), σ) := by
  have l1 := isOf_lt hw hs.1
  have l2 := isOf_lt hw hq.1
  have h1 := hv.ki hw hs.1
  have kb := (hw.2.2.2.2.2.1 sum hs.1).2.1
  unfold F_X6_counts
  by_cases h6 : kiS s sum = 6
  · have e : cnB s sum q = true := by unfold cnB ctB; rw [decide_eq_true h6]; rfl
    rw [if_pos e]
    simp (disch := omega) only [↓ite_ap, if_true, if_false, if_pos, if_neg, retM_ap, retZ_ap0, retZ_ap1, gM_ap, sM_ap, jM_ap, bI_ap, bL_ap, bD_ap, rdM_ap, wrM_ap, thrM_ap, nl_0, nl_1, nl_2, nl_3, nl_4, nl_5, nl_6, nl_7, nl_8, nl_9, nl_10, nl_11, nl_12, nl_13, nl_25, nl_33, nl_35, nl_45, nl_48, nl_49, nl_50, nl_52, nl_53, nl_57, nl_59, nl_60, nl_61, nl_77, nl_94, nl_97, nl_100, nl_101, nl_119, nl_125, nl_126, nl_137, nl_262, nl_387, nl_500, nl_512, nl_637, nl_999, nl_1022, nl_1137, nl_5685, nm_1b, iN_mI, mI_iN, iN_add, iN_mul, iN_sub, iN_div, iN_rem, iN_lt, iN_le, iN_eq, iN_nat, inB_iN, h1, h6]
  · have ff := r_from hw hv hs (by omega)
    have fm := r_meet (k := kiS s sum) hw hv hq hs
    have fa := r_along (q := q) (k := kiS s sum) (σ := σ) (by omega)
    have fs := r_along (q := sum) (k := kiS s sum) (σ := σ) (by omega)
    have hal := al_lt (k := kiS s sum) (q := q)
    have hals := al_lt (k := kiS s sum) (q := sum)
    have hfr := frS_lt (s := s) (sum := sum)
    have fi := r_inN (k := alS (kiS s sum) q) (lo := frS s sum) (n := alS (kiS s sum) sum) (σ := σ) (by omega) (by omega) (by omega)
    have eb : cnB s sum q = (decide (frS s sum ≤ alS (kiS s sum) q) && decide (alS (kiS s sum) q < alS (kiS s sum) sum) && meB s (kiS s sum) q sum) := by
      unfold cnB ctB
      rw [decide_eq_false h6, Bool.false_or]
    have rest : ∀ x : Int32, x = ifk (kiS s sum) → (invM (F_X6_meet a 1137 (iN q) (iN sum) x) fun x4 => (if x4 = 0 then retZ (0 : Int32) else invM (F_X6_along (iN q) x) fun x5 => invM (F_X6_from a 1137 (iN sum)) fun x6 => invM (F_X6_along (iN sum) x) fun x7 => invM (F_X6_in x5 x6 (x7 - (1 : Int32))) fun x8 => (if x8 = 0 then retZ (0 : Int32) else retZ (1 : Int32)))) σ = some (.inl (if cnB s sum q = true then iN 1 else iN 0), σ) := by
      intro x hx
      subst hx
      cases em : meB s (kiS s sum) q sum
      · rw [em, if_neg (by decide)] at fm
        rw [em, Bool.and_false] at eb
        rw [eb, if_neg (by decide)]
        simp (disch := omega) only [↓ite_ap, if_true, if_false, if_pos, if_neg, retM_ap, retZ_ap0, retZ_ap1, gM_ap, sM_ap, jM_ap, bI_ap, bL_ap, bD_ap, rdM_ap, wrM_ap, thrM_ap, nl_0, nl_1, nl_2, nl_3, nl_4, nl_5, nl_6, nl_7, nl_8, nl_9, nl_10, nl_11, nl_12, nl_13, nl_25, nl_33, nl_35, nl_45, nl_48, nl_49, nl_50, nl_52, nl_53, nl_57, nl_59, nl_60, nl_61, nl_77, nl_94, nl_97, nl_100, nl_101, nl_119, nl_125, nl_126, nl_137, nl_262, nl_387, nl_500, nl_512, nl_637, nl_999, nl_1022, nl_1137, nl_5685, nm_1b, iN_mI, mI_iN, iN_add, iN_mul, iN_sub, iN_div, iN_rem, iN_lt, iN_le, iN_eq, iN_nat, inB_iN, ↓invM_l fm]
      · rw [em, if_pos rfl] at fm
        rw [em, Bool.and_true, ← Bool.decide_and] at eb
        rw [eb]
        by_cases hh : frS s sum ≤ alS (kiS s sum) q ∧ alS (kiS s sum) q < alS (kiS s sum) sum
        · rw [if_pos hh] at fi
          rw [if_pos (decide_eq_true hh)]
          simp (disch := omega) only [↓ite_ap, if_true, if_false, if_pos, if_neg, retM_ap, retZ_ap0, retZ_ap1, gM_ap, sM_ap, jM_ap, bI_ap, bL_ap, bD_ap, rdM_ap, wrM_ap, thrM_ap, nl_0, nl_1, iN_eq, ↓invM_l fm, ↓invM_l fa, ↓invM_l fs, ↓invM_l ff, ↓invM_l fi]
        · rw [if_neg hh] at fi
          rw [if_neg (by rw [decide_eq_false hh]; decide)]
          simp (disch := omega) only [↓ite_ap, if_true, if_false, if_pos, if_neg, retM_ap, retZ_ap0, retZ_ap1, gM_ap, sM_ap, jM_ap, bI_ap, bL_ap, bD_ap, rdM_ap, wrM_ap, thrM_ap, nl_0, nl_1, iN_eq, ↓invM_l fm, ↓invM_l fa, ↓invM_l fs, ↓invM_l ff, ↓invM_l fi]
    have h45 : kiS s sum = 4 ∨ kiS s sum = 5 := by omega
    rcases h45 with h | h
    · have r1 := rest (iN 1) (by unfold ifk; rw [if_pos h])
      simp (disch := omega) only [↓ite_ap, if_true, if_false, if_pos, if_neg, retM_ap, retZ_ap0, retZ_ap1, gM_ap, sM_ap, jM_ap, bI_ap, bL_ap, bD_ap, rdM_ap, wrM_ap, thrM_ap, nl_0, nl_1, nl_4, nl_6, nl_12, iN_eq, iN_add, h1, h] at r1 ⊢
      exact r1
    · have r1 := rest (iN 0) (by unfold ifk; rw [if_neg (by omega)])
      simp (disch := omega) only [↓ite_ap, if_true, if_false, if_pos, if_neg, retM_ap, retZ_ap0, retZ_ap1, gM_ap, sM_ap, jM_ap, bI_ap, bL_ap, bD_ap, rdM_ap, wrM_ap, thrM_ap, nl_0, nl_1, nl_4, nl_6, nl_12, iN_eq, iN_add, h1, h] at r1 ⊢
      exact r1
