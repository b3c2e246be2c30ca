/-! THE REFERENCE: VALUES, SHOWN NUMBERS, SIGNS -/
theorem r_valueOf {a q : Nat} {s : Sv} {σ : Mm} (hw : WF s) (hv : Vw a s σ) (hq : isCl s q) (hva : ∀ t', q / 25 < t' → t' < tbS s → σ 174 t' = vaL s t') : F_X6_valueOf a 1137 (iN q) σ = some (.inl (vS s (vaL s) q), σ) := by
  have t5 := hw.1.2.2
  have l1 := isOf_lt hw hq.1
  have h1 := hv.ki hw hq.1
  have h2 := hv.nu hw hq.1
  have kb := (hw.2.2.2.2.2.1 q hq.1).2.1
  have e : vS s (vaL s) q = if kiS s q = 1 then nuS s q else if kiS s q = 3 then vaL s (nv (nuS s q)) else iN 0 := by
    unfold vS
    rw [if_pos (clB_iff.mpr hq)]
  rw [e]
  unfold F_X6_valueOf
  by_cases k1 : kiS s q = 1
  · rw [if_pos k1]
    simp (disch := omega) only [↓ite_ap, if_true, if_false, if_pos, if_neg, retM_ap, retZ_ap0, retZ_ap1, gM_ap, sM_ap, jM_ap, bI_ap, bL_ap, bD_ap, rdM_ap, wrM_ap, thrM_ap, nl_0, nl_1, nl_2, nl_3, nl_4, nl_5, nl_6, nl_7, nl_8, nl_9, nl_10, nl_11, nl_12, nl_13, nl_25, nl_33, nl_35, nl_45, nl_48, nl_49, nl_50, nl_52, nl_53, nl_57, nl_59, nl_60, nl_61, nl_77, nl_94, nl_97, nl_100, nl_101, nl_119, nl_125, nl_126, nl_137, nl_262, nl_387, nl_500, nl_512, nl_637, nl_999, nl_1022, nl_1137, nl_5685, nm_1b, iN_mI, mI_iN, iN_add, iN_mul, iN_sub, iN_div, iN_rem, iN_lt, iN_le, iN_eq, iN_nat, inB_iN, h1, k1, h2]
  · rw [if_neg k1]
    by_cases k3 : kiS s q = 3
    · have w7 := (hw.2.2.2.2.2.2.1 q hq).2.2 k3
      have h3 := hva _ w7.2.1 w7.2.2
      rw [w7.1] at h2
      rw [if_pos k3]
      simp (disch := omega) only [↓ite_ap, if_true, if_false, if_pos, if_neg, retM_ap, retZ_ap0, retZ_ap1, gM_ap, sM_ap, jM_ap, bI_ap, bL_ap, bD_ap, rdM_ap, wrM_ap, thrM_ap, nl_0, nl_1, nl_2, nl_3, nl_4, nl_5, nl_6, nl_7, nl_8, nl_9, nl_10, nl_11, nl_12, nl_13, nl_25, nl_33, nl_35, nl_45, nl_48, nl_49, nl_50, nl_52, nl_53, nl_57, nl_59, nl_60, nl_61, nl_77, nl_94, nl_97, nl_100, nl_101, nl_119, nl_125, nl_126, nl_137, nl_262, nl_387, nl_500, nl_512, nl_637, nl_999, nl_1022, nl_1137, nl_5685, nm_1b, iN_mI, mI_iN, iN_add, iN_mul, iN_sub, iN_div, iN_rem, iN_lt, iN_le, iN_eq, iN_nat, inB_iN, h1, k3, h2, h3]
    · rw [if_neg k3]
      simp (disch := omega) only [↓ite_ap, if_true, if_false, if_pos, if_neg, retM_ap, retZ_ap0, retZ_ap1, gM_ap, sM_ap, jM_ap, bI_ap, bL_ap, bD_ap, rdM_ap, wrM_ap, thrM_ap, nl_0, nl_1, nl_2, nl_3, nl_4, nl_5, nl_6, nl_7, nl_8, nl_9, nl_10, nl_11, nl_12, nl_13, nl_25, nl_33, nl_35, nl_45, nl_48, nl_49, nl_50, nl_52, nl_53, nl_57, nl_59, nl_60, nl_61, nl_77, nl_94, nl_97, nl_100, nl_101, nl_119, nl_125, nl_126, nl_137, nl_262, nl_387, nl_500, nl_512, nl_637, nl_999, nl_1022, nl_1137, nl_5685, nm_1b, iN_mI, mI_iN, iN_add, iN_mul, iN_sub, iN_div, iN_rem, iN_lt, iN_le, iN_eq, iN_nat, inB_iN, h1, k1, k3]
theorem r_summed {a sum : Nat} {s : Sv} {σ : Mm} (hw : WF s) (hv : Vw a s σ) (hs : isCl s sum) (h4 : 4 ≤ kiS s sum) (hva : ∀ t', sum / 25 < t' → t' < tbS s → σ 174 t' = vaL s t') : F_X6_summed a 1137 (iN sum) σ = some (.inl (suS s (vS s (vaL s)) sum), σ) := by
  have l1 := isOf_lt hw hs.1
  obtain ⟨g, hg⟩ : ∃ g : Nat → Int32, g = fun q => if (clB s q && cnB s sum q) = true then vS s (vaL s) q else iN 0 := ⟨_, rfl⟩
  have h := lp (fun n k (x : Int32) => L_X6_summed_5 a 1137 (iN sum) n x (iN k) σ) (fun k => smI g (sum / 25 * 25) (sum / 25 * 25 + k)) (i0 := 0) (N := 25) (r := some (.inl (suS s (vS s (vaL s)) sum), σ)) (by omega) (by unfold FU; omega) ?_ ?_
  · simp only [Nat.add_zero, smI_0] at h
    exact h
  · intro n k hk1 hk2
    obtain ⟨q, hq⟩ : ∃ q, q = sum / 25 * 25 + k := ⟨_, rfl⟩
    have e1 : sum - sum % 25 + k = q := by omega
    have hqt : q / 25 = sum / 25 := by omega
    have hq5 : q < 125 := by omega
    simp only [L_X6_summed_5]
    rw [show sum / 25 * 25 + (k + 1) = q + 1 by omega, smI_s (by omega), ← hq]
    by_cases hc : isCl s q
    · have fc := r_isCell1 hw hv hc
      have ft := r_counts hw hv hs hc h4
      have fv := r_valueOf hw hv hc (fun t' h1 h2 => hva t' (by omega) h2)
      cases ec : cnB s sum q
      · have g0 : g q = iN 0 := by
          rw [hg]
          show (if _ then _ else _) = _
          rw [ec, Bool.and_false]
          rfl
        rw [ec, if_neg (by decide)] at ft
        rw [g0]
        simp (disch := omega) only [↓ite_ap, if_true, if_false, if_pos, if_neg, retM_ap, retZ_ap0, retZ_ap1, gM_ap, sM_ap, jM_ap, bI_ap, bL_ap, bD_ap, rdM_ap, wrM_ap, thrM_ap, nl_0, nl_1, nl_2, nl_3, nl_4, nl_5, nl_6, nl_7, nl_8, nl_9, nl_10, nl_11, nl_12, nl_13, nl_25, nl_33, nl_35, nl_45, nl_48, nl_49, nl_50, nl_52, nl_53, nl_57, nl_59, nl_60, nl_61, nl_77, nl_94, nl_97, nl_100, nl_101, nl_119, nl_125, nl_126, nl_137, nl_262, nl_387, nl_500, nl_512, nl_637, nl_999, nl_1022, nl_1137, nl_5685, nm_1b, iN_mI, mI_iN, iN_add, iN_mul, iN_sub, iN_div, iN_rem, iN_lt, iN_le, iN_eq, iN_nat, inB_iN, e1, ↓invM_l fc, ↓invM_l ft]
      · have g0 : g q = vS s (vaL s) q := by
          rw [hg]
          show (if _ then _ else _) = _
          rw [ec, clB_iff.mpr hc]
          rfl
        rw [ec, if_pos rfl] at ft
        rw [g0]
        simp (disch := omega) only [↓ite_ap, if_true, if_false, if_pos, if_neg, retM_ap, retZ_ap0, retZ_ap1, gM_ap, sM_ap, jM_ap, bI_ap, bL_ap, bD_ap, rdM_ap, wrM_ap, thrM_ap, nl_0, nl_1, nl_2, nl_3, nl_4, nl_5, nl_6, nl_7, nl_8, nl_9, nl_10, nl_11, nl_12, nl_13, nl_25, nl_33, nl_35, nl_45, nl_48, nl_49, nl_50, nl_52, nl_53, nl_57, nl_59, nl_60, nl_61, nl_77, nl_94, nl_97, nl_100, nl_101, nl_119, nl_125, nl_126, nl_137, nl_262, nl_387, nl_500, nl_512, nl_637, nl_999, nl_1022, nl_1137, nl_5685, nm_1b, iN_mI, mI_iN, iN_add, iN_mul, iN_sub, iN_div, iN_rem, iN_lt, iN_le, iN_eq, iN_nat, inB_iN, e1, ↓invM_l fc, ↓invM_l ft, ↓invM_l fv]
    · have fc := r_isCell0 hw hv hq5 hc
      have g0 : g q = iN 0 := by
        rw [hg]
        show (if _ then _ else _) = _
        rw [clB_not hc, Bool.false_and]
        rfl
      rw [g0]
      simp (disch := omega) only [↓ite_ap, if_true, if_false, if_pos, if_neg, retM_ap, retZ_ap0, retZ_ap1, gM_ap, sM_ap, jM_ap, bI_ap, bL_ap, bD_ap, rdM_ap, wrM_ap, thrM_ap, nl_0, nl_1, nl_2, nl_3, nl_4, nl_5, nl_6, nl_7, nl_8, nl_9, nl_10, nl_11, nl_12, nl_13, nl_25, nl_33, nl_35, nl_45, nl_48, nl_49, nl_50, nl_52, nl_53, nl_57, nl_59, nl_60, nl_61, nl_77, nl_94, nl_97, nl_100, nl_101, nl_119, nl_125, nl_126, nl_137, nl_262, nl_387, nl_500, nl_512, nl_637, nl_999, nl_1022, nl_1137, nl_5685, nm_1b, iN_mI, mI_iN, iN_add, iN_mul, iN_sub, iN_div, iN_rem, iN_lt, iN_le, iN_eq, iN_nat, inB_iN, e1, ↓invM_l fc]
  · intro n
    simp only [L_X6_summed_5]
    rw [show sum / 25 * 25 + 25 = (sum / 25 + 1) * 25 by omega]
    unfold suS
    rw [hg]
    simp (disch := omega) only [↓ite_ap, if_true, if_false, if_pos, if_neg, retM_ap, retZ_ap0, retZ_ap1, gM_ap, sM_ap, jM_ap, bI_ap, bL_ap, bD_ap, rdM_ap, wrM_ap, thrM_ap, nl_0, nl_1, nl_2, nl_3, nl_4, nl_5, nl_6, nl_7, nl_8, nl_9, nl_10, nl_11, nl_12, nl_13, nl_25, nl_33, nl_35, nl_45, nl_48, nl_49, nl_50, nl_52, nl_53, nl_57, nl_59, nl_60, nl_61, nl_77, nl_94, nl_97, nl_100, nl_101, nl_119, nl_125, nl_126, nl_137, nl_262, nl_387, nl_500, nl_512, nl_637, nl_999, nl_1022, nl_1137, nl_5685, nm_1b, iN_mI, mI_iN, iN_add, iN_mul, iN_sub, iN_div, iN_rem, iN_lt, iN_le, iN_eq, iN_nat, inB_iN]
theorem r_signs_l : ∀ (d n a m : Nat) (σ : Mm), d < n → m < 10 ^ (d + 1) → m < 2147483648 → L_X6_signs_21 n (iN a) (iN m) σ = some (.inl (iN (a + dgF d (m / 10))), σ) := by
  intro d
  induction d with
  | zero =>
    intro n a m σ h1 h2 h3
    obtain ⟨n, rfl⟩ : ∃ x, n = x + 1 := ⟨n - 1, by omega⟩
    simp only [L_X6_signs_21, dgF]
    have h2 : m < 10 := h2
    simp (disch := omega) only [↓ite_ap, if_true, if_false, if_pos, if_neg, retM_ap, retZ_ap0, retZ_ap1, gM_ap, sM_ap, jM_ap, bI_ap, bL_ap, bD_ap, rdM_ap, wrM_ap, thrM_ap, nl_0, nl_1, nl_2, nl_3, nl_4, nl_5, nl_6, nl_7, nl_8, nl_9, nl_10, nl_11, nl_12, nl_13, nl_25, nl_33, nl_35, nl_45, nl_48, nl_49, nl_50, nl_52, nl_53, nl_57, nl_59, nl_60, nl_61, nl_77, nl_94, nl_97, nl_100, nl_101, nl_119, nl_125, nl_126, nl_137, nl_262, nl_387, nl_500, nl_512, nl_637, nl_999, nl_1022, nl_1137, nl_5685, nm_1b, iN_mI, mI_iN, iN_add, iN_mul, iN_sub, iN_div, iN_rem, iN_lt, iN_le, iN_eq, iN_nat, inB_iN, Nat.add_zero]
  | succ d ih =>
    intro n a m σ h1 h2 h3
    obtain ⟨n, rfl⟩ : ∃ x, n = x + 1 := ⟨n - 1, by omega⟩
    simp only [L_X6_signs_21, dgF]
    by_cases h9 : m ≤ 9
    · rw [if_pos (show m / 10 = 0 by omega)]
      simp (disch := omega) only [↓ite_ap, if_true, if_false, if_pos, if_neg, retM_ap, retZ_ap0, retZ_ap1, gM_ap, sM_ap, jM_ap, bI_ap, bL_ap, bD_ap, rdM_ap, wrM_ap, thrM_ap, nl_0, nl_1, nl_2, nl_3, nl_4, nl_5, nl_6, nl_7, nl_8, nl_9, nl_10, nl_11, nl_12, nl_13, nl_25, nl_33, nl_35, nl_45, nl_48, nl_49, nl_50, nl_52, nl_53, nl_57, nl_59, nl_60, nl_61, nl_77, nl_94, nl_97, nl_100, nl_101, nl_119, nl_125, nl_126, nl_137, nl_262, nl_387, nl_500, nl_512, nl_637, nl_999, nl_1022, nl_1137, nl_5685, nm_1b, iN_mI, mI_iN, iN_add, iN_mul, iN_sub, iN_div, iN_rem, iN_lt, iN_le, iN_eq, iN_nat, inB_iN, Nat.add_zero]
    · rw [if_neg (show ¬ m / 10 = 0 by omega)]
      have e10 : 10 ^ (d + 1 + 1) = 10 ^ (d + 1) * 10 := Nat.pow_succ ..
      have := ih n (a + 1) (m / 10) σ (by omega) (by rw [e10] at h2; omega) (by omega)
      simp (disch := omega) only [↓ite_ap, if_true, if_false, if_pos, if_neg, retM_ap, retZ_ap0, retZ_ap1, gM_ap, sM_ap, jM_ap, bI_ap, bL_ap, bD_ap, rdM_ap, wrM_ap, thrM_ap, nl_0, nl_1, nl_2, nl_3, nl_4, nl_5, nl_6, nl_7, nl_8, nl_9, nl_10, nl_11, nl_12, nl_13, nl_25, nl_33, nl_35, nl_45, nl_48, nl_49, nl_50, nl_52, nl_53, nl_57, nl_59, nl_60, nl_61, nl_77, nl_94, nl_97, nl_100, nl_101, nl_119, nl_125, nl_126, nl_137, nl_262, nl_387, nl_500, nl_512, nl_637, nl_999, nl_1022, nl_1137, nl_5685, nm_1b, iN_mI, mI_iN, iN_add, iN_mul, iN_sub, iN_div, iN_rem, iN_lt, iN_le, iN_eq, iN_nat, inB_iN, this, Nat.add_assoc]
theorem neg_abN {x : Int32} (h : x.toInt < 0) (hb : abN x < 2147483648) : -x = iN (abN x) := by
  rw [← Int32.toInt_inj, iN_int hb, Int32.toInt_neg]
  unfold abN at hb ⊢
  rw [Int.bmod_eq_of_le (by omega) (by omega)]
  omega
theorem r_signs {x : Int32} {σ : Mm} (hb : abN x < 2147483648) : F_X6_signs x σ = some (.inl (iN (sgnI x)), σ) := by
  unfold F_X6_signs sgnI
  have hl := fun a => r_signs_l 10 FU a (abN x) σ (by unfold FU; omega) (by have : 2147483648 ≤ 10 ^ 11 := (by decide); omega) hb
  rcases i32_cases x with ⟨h1, h2⟩ | ⟨k, h1, h2⟩
  · have hn : (iN 0 ≤ x) = False := by
      rw [Int32.le_iff_toInt_le, iN_int (by omega)]
      exact propext ⟨fun g => by omega, fun g => g.elim⟩
    rw [if_pos h2]
    simp (disch := omega) only [↓ite_ap, if_true, if_false, if_pos, if_neg, retM_ap, retZ_ap0, retZ_ap1, gM_ap, sM_ap, jM_ap, bI_ap, bL_ap, bD_ap, rdM_ap, wrM_ap, thrM_ap, nl_0, nl_1, nl_2, hn, neg_abN h2 hb, hl]
  · subst h2
    have ha : abN (iN k) = k := by
      unfold abN
      rw [iN_int h1]
      rfl
    rw [ha] at hl ⊢
    rw [if_neg (by rw [iN_int h1]; omega)]
    simp (disch := omega) only [↓ite_ap, if_true, if_false, if_pos, if_neg, retM_ap, retZ_ap0, retZ_ap1, gM_ap, sM_ap, jM_ap, bI_ap, bL_ap, bD_ap, rdM_ap, wrM_ap, thrM_ap, nl_0, nl_1, nl_2, nl_3, nl_4, nl_5, nl_6, nl_7, nl_8, nl_9, nl_10, nl_11, nl_12, nl_13, nl_25, nl_33, nl_35, nl_45, nl_48, nl_49, nl_50, nl_52, nl_53, nl_57, nl_59, nl_60, nl_61, nl_77, nl_94, nl_97, nl_100, nl_101, nl_119, nl_125, nl_126, nl_137, nl_262, nl_387, nl_500, nl_512, nl_637, nl_999, nl_1022, nl_1137, nl_5685, nm_1b, iN_mI, mI_iN, iN_add, iN_mul, iN_sub, iN_div, iN_rem, iN_lt, iN_le, iN_eq, iN_nat, inB_iN, hl]
/-- what the reference holds of a table's sizes -/
theorem r_widthOf {a q : Nat} {s : Sv} {σ : Mm} (hw : WF s) (hv : Vw a s σ) (hq : isCl s q) (hsh : σ 179 q = shL s q) (hts : ∀ t', q / 25 < t' → t' < tbS s → σ 175 t' = iN (tsL s (2 * t'))) : F_X6_widthOf a 1137 (iN q) σ = some (.inl (iN (waL s (2 * q))), σ) := by
  have t5 := hw.1.2.2
  have l1 := isOf_lt hw hq.1
  have h1 := hv.ki hw hq.1
  have h2 := hv.nu hw hq.1
  have kb := (hw.2.2.2.2.2.1 q hq.1).2.1
  have w7 := hw.2.2.2.2.2.2.1 q hq
  have e := waL_eq (s := s) (q := q) (w := 0) (by omega)
  rw [if_pos (clB_iff.mpr hq), Nat.add_zero] at e
  rw [e]
  unfold F_X6_widthOf waS
  have hk' : kiS s q = 0 ∨ kiS s q = 1 ∨ kiS s q = 2 ∨ kiS s q = 3 ∨ 4 ≤ kiS s q := by omega
  rcases hk' with h | h | h | h | h
  · simp (disch := omega) only [↓ite_ap, if_true, if_false, if_pos, if_neg, retM_ap, retZ_ap0, retZ_ap1, gM_ap, sM_ap, jM_ap, bI_ap, bL_ap, bD_ap, rdM_ap, wrM_ap, thrM_ap, nl_0, nl_1, nl_2, nl_3, nl_4, nl_5, nl_6, nl_7, nl_8, nl_9, nl_10, nl_11, nl_12, nl_13, nl_25, nl_33, nl_35, nl_45, nl_48, nl_49, nl_50, nl_52, nl_53, nl_57, nl_59, nl_60, nl_61, nl_77, nl_94, nl_97, nl_100, nl_101, nl_119, nl_125, nl_126, nl_137, nl_262, nl_387, nl_500, nl_512, nl_637, nl_999, nl_1022, nl_1137, nl_5685, nm_1b, iN_mI, mI_iN, iN_add, iN_mul, iN_sub, iN_div, iN_rem, iN_lt, iN_le, iN_eq, iN_nat, inB_iN, h1, h]
  · have w1 := w7.1 h
    have es : shL s q = nuS s q := by
      unfold shL shS vS
      rw [clB_iff.mpr hq, h]
      rfl
    have fs := r_signs (x := nuS s q) (σ := σ) (by unfold abN; omega)
    simp (disch := omega) only [↓ite_ap, if_true, if_false, if_pos, if_neg, retM_ap, retZ_ap0, retZ_ap1, gM_ap, sM_ap, jM_ap, bI_ap, bL_ap, bD_ap, rdM_ap, wrM_ap, thrM_ap, nl_0, nl_1, nl_2, nl_3, nl_4, nl_5, nl_6, nl_7, nl_8, nl_9, nl_10, nl_11, nl_12, nl_13, nl_25, nl_33, nl_35, nl_45, nl_48, nl_49, nl_50, nl_52, nl_53, nl_57, nl_59, nl_60, nl_61, nl_77, nl_94, nl_97, nl_100, nl_101, nl_119, nl_125, nl_126, nl_137, nl_262, nl_387, nl_500, nl_512, nl_637, nl_999, nl_1022, nl_1137, nl_5685, nm_1b, iN_mI, mI_iN, iN_add, iN_mul, iN_sub, iN_div, iN_rem, iN_lt, iN_le, iN_eq, iN_nat, inB_iN, h1, h, h2, es, ↓invM_l fs]
  · obtain ⟨x, e1, e2, e3⟩ := w7.2.1 h
    rw [e1] at h2
    rw [e1, nv_iN (by omega)]
    simp (disch := omega) only [↓ite_ap, if_true, if_false, if_pos, if_neg, retM_ap, retZ_ap0, retZ_ap1, gM_ap, sM_ap, jM_ap, bI_ap, bL_ap, bD_ap, rdM_ap, wrM_ap, thrM_ap, nl_0, nl_1, nl_2, nl_3, nl_4, nl_5, nl_6, nl_7, nl_8, nl_9, nl_10, nl_11, nl_12, nl_13, nl_25, nl_33, nl_35, nl_45, nl_48, nl_49, nl_50, nl_52, nl_53, nl_57, nl_59, nl_60, nl_61, nl_77, nl_94, nl_97, nl_100, nl_101, nl_119, nl_125, nl_126, nl_137, nl_262, nl_387, nl_500, nl_512, nl_637, nl_999, nl_1022, nl_1137, nl_5685, nm_1b, iN_mI, mI_iN, iN_add, iN_mul, iN_sub, iN_div, iN_rem, iN_lt, iN_le, iN_eq, iN_nat, inB_iN, h1, h, h2]
  · have w8 := w7.2.2 h
    have h3 := hts _ w8.2.1 w8.2.2
    rw [w8.1] at h2
    simp (disch := omega) only [↓ite_ap, if_true, if_false, if_pos, if_neg, retM_ap, retZ_ap0, retZ_ap1, gM_ap, sM_ap, jM_ap, bI_ap, bL_ap, bD_ap, rdM_ap, wrM_ap, thrM_ap, nl_0, nl_1, nl_2, nl_3, nl_4, nl_5, nl_6, nl_7, nl_8, nl_9, nl_10, nl_11, nl_12, nl_13, nl_25, nl_33, nl_35, nl_45, nl_48, nl_49, nl_50, nl_52, nl_53, nl_57, nl_59, nl_60, nl_61, nl_77, nl_94, nl_97, nl_100, nl_101, nl_119, nl_125, nl_126, nl_137, nl_262, nl_387, nl_500, nl_512, nl_637, nl_999, nl_1022, nl_1137, nl_5685, nm_1b, iN_mI, mI_iN, iN_add, iN_mul, iN_sub, iN_div, iN_rem, iN_lt, iN_le, iN_eq, iN_nat, inB_iN, h1, h, h2, h3, Nat.add_zero]
  · have fs := r_signs (x := shL s q) (σ := σ) (Nat.lt_of_le_of_lt (shL_abs hw hq.1.1) (by omega))
    simp (disch := omega) only [↓ite_ap, if_true, if_false, if_pos, if_neg, retM_ap, retZ_ap0, retZ_ap1, gM_ap, sM_ap, jM_ap, bI_ap, bL_ap, bD_ap, rdM_ap, wrM_ap, thrM_ap, nl_0, nl_1, nl_2, nl_3, nl_4, nl_5, nl_6, nl_7, nl_8, nl_9, nl_10, nl_11, nl_12, nl_13, nl_25, nl_33, nl_35, nl_45, nl_48, nl_49, nl_50, nl_52, nl_53, nl_57, nl_59, nl_60, nl_61, nl_77, nl_94, nl_97, nl_100, nl_101, nl_119, nl_125, nl_126, nl_137, nl_262, nl_387, nl_500, nl_512, nl_637, nl_999, nl_1022, nl_1137, nl_5685, nm_1b, iN_mI, mI_iN, iN_add, iN_mul, iN_sub, iN_div, iN_rem, iN_lt, iN_le, iN_eq, iN_nat, inB_iN, h1, hsh, ↓invM_l fs]
theorem r_heightOf {a q : Nat} {s : Sv} {σ : Mm} (hw : WF s) (hv : Vw a s σ) (hq : isCl s q) (hts : ∀ t', q / 25 < t' → t' < tbS s → σ 176 t' = iN (tsL s (2 * t' + 1))) : F_X6_heightOf a 1137 (iN q) σ = some (.inl (iN (waL s (2 * q + 1))), σ) := by
  have t5 := hw.1.2.2
  have l1 := isOf_lt hw hq.1
  have h1 := hv.ki hw hq.1
  have h2 := hv.nu hw hq.1
  have kb := (hw.2.2.2.2.2.1 q hq.1).2.1
  have w7 := hw.2.2.2.2.2.2.1 q hq
  have e := waL_eq (s := s) (q := q) (w := 1) (by omega)
  rw [if_pos (clB_iff.mpr hq)] at e
  rw [e]
  unfold F_X6_heightOf waS
  by_cases h : kiS s q = 0
  · simp (disch := omega) only [↓ite_ap, if_true, if_false, if_pos, if_neg, retM_ap, retZ_ap0, retZ_ap1, gM_ap, sM_ap, jM_ap, bI_ap, bL_ap, bD_ap, rdM_ap, wrM_ap, thrM_ap, nl_0, nl_1, nl_2, nl_3, nl_4, nl_5, nl_6, nl_7, nl_8, nl_9, nl_10, nl_11, nl_12, nl_13, nl_25, nl_33, nl_35, nl_45, nl_48, nl_49, nl_50, nl_52, nl_53, nl_57, nl_59, nl_60, nl_61, nl_77, nl_94, nl_97, nl_100, nl_101, nl_119, nl_125, nl_126, nl_137, nl_262, nl_387, nl_500, nl_512, nl_637, nl_999, nl_1022, nl_1137, nl_5685, nm_1b, iN_mI, mI_iN, iN_add, iN_mul, iN_sub, iN_div, iN_rem, iN_lt, iN_le, iN_eq, iN_nat, inB_iN, h1, h]
  · by_cases h3 : kiS s q = 3
    · have w8 := w7.2.2 h3
      have h4 := hts _ w8.2.1 w8.2.2
      rw [w8.1] at h2
      simp (disch := omega) only [↓ite_ap, if_true, if_false, if_pos, if_neg, retM_ap, retZ_ap0, retZ_ap1, gM_ap, sM_ap, jM_ap, bI_ap, bL_ap, bD_ap, rdM_ap, wrM_ap, thrM_ap, nl_0, nl_1, nl_2, nl_3, nl_4, nl_5, nl_6, nl_7, nl_8, nl_9, nl_10, nl_11, nl_12, nl_13, nl_25, nl_33, nl_35, nl_45, nl_48, nl_49, nl_50, nl_52, nl_53, nl_57, nl_59, nl_60, nl_61, nl_77, nl_94, nl_97, nl_100, nl_101, nl_119, nl_125, nl_126, nl_137, nl_262, nl_387, nl_500, nl_512, nl_637, nl_999, nl_1022, nl_1137, nl_5685, nm_1b, iN_mI, mI_iN, iN_add, iN_mul, iN_sub, iN_div, iN_rem, iN_lt, iN_le, iN_eq, iN_nat, inB_iN, h1, h3, h2, h4]
    · simp (disch := omega) only [↓ite_ap, if_true, if_false, if_pos, if_neg, retM_ap, retZ_ap0, retZ_ap1, gM_ap, sM_ap, jM_ap, bI_ap, bL_ap, bD_ap, rdM_ap, wrM_ap, thrM_ap, nl_0, nl_1, nl_2, nl_3, nl_4, nl_5, nl_6, nl_7, nl_8, nl_9, nl_10, nl_11, nl_12, nl_13, nl_25, nl_33, nl_35, nl_45, nl_48, nl_49, nl_50, nl_52, nl_53, nl_57, nl_59, nl_60, nl_61, nl_77, nl_94, nl_97, nl_100, nl_101, nl_119, nl_125, nl_126, nl_137, nl_262, nl_387, nl_500, nl_512, nl_637, nl_999, nl_1022, nl_1137, nl_5685, nm_1b, iN_mI, mI_iN, iN_add, iN_mul, iN_sub, iN_div, iN_rem, iN_lt, iN_le, iN_eq, iN_nat, inB_iN, h1, h, h3]
