/-! PUT -/
def okB (p num : Int32) : Bool := if p = iN 1 then btw num (-999) 999 else if p = iN 2 then btw num (iN 1) (iN 12) else btw p (iN 0) (iN 6) && decide (p ≠ iN 3)
def mayB (s : Sv) (q : Nat) : Bool := clB s q && (decide (kiS s q ≠ 3) || decide (nv (nuS s q) = tbS s - 1))
theorem may_P {s : Sv} {q : Nat} (h : mayB s q = true) : mayP s q := by
  unfold mayB at h
  rw [Bool.and_eq_true, Bool.or_eq_true, decide_eq_true_eq, decide_eq_true_eq] at h
  refine ⟨clB_iff.mp h.1, fun h3 => ?_⟩
  rcases h.2 with g | g
  · exact absurd h3 g
  · exact g
theorem ok_P {p num : Int32} (h : okB p num = true) : ∃ kind, p = iN kind ∧ okP kind num := by
  unfold okB at h
  by_cases h1 : p = iN 1
  · rw [if_pos h1] at h
    exact ⟨1, h1, ok1 (btw_999 h)⟩
  · rw [if_neg h1] at h
    by_cases h2 : p = iN 2
    · rw [if_pos h2] at h
      obtain ⟨w, e, a, b⟩ := btw_nat (by omega) (by omega) h
      exact ⟨2, h2, by omega, by omega, fun g => by omega, fun _ => ⟨w, e, a, b⟩⟩
    · rw [if_neg h2, Bool.and_eq_true, decide_eq_true_eq] at h
      obtain ⟨k, e, a, b⟩ := btw_nat (by omega) (by omega) h.1
      have n3 : k ≠ 3 := fun g => h.2 (by rw [e, g])
      have n1 : k ≠ 1 := fun g => h1 (by rw [e, g])
      have n2 : k ≠ 2 := fun g => h2 (by rw [e, g])
      exact ⟨k, e, b, n3, fun g => absurd g n1, fun g => absurd g n2⟩
theorem f_isContent {p num : Int32} {σ : Mm} : F_X5_isContent p num σ = some (.inl (if okB p num = true then iN 1 else iN 0), σ) := by
  unfold F_X5_isContent okB
  have e1 : (p = (1 : Int32)) = (p = iN 1) := by rw [nl_1]
  by_cases h1 : p = iN 1
  · have fb := f_btw (p := num) (lo := -999) (hi := 999) (σ := σ)
    rw [if_pos h1, if_pos (show p = (1 : Int32) from h1)]
    cases eb : btw num (-999) 999
    · rw [eb] at fb
      exact (invM_l fb).trans rfl
    · rw [eb] at fb
      exact (invM_l fb).trans rfl
  · rw [if_neg h1, if_neg (show ¬ p = (1 : Int32) from h1)]
    by_cases h2 : p = iN 2
    · have fb := f_btw (p := num) (lo := iN 1) (hi := iN 12) (σ := σ)
      rw [if_pos h2, if_pos (show p = (2 : Int32) from h2)]
      cases eb : btw num (iN 1) (iN 12)
      · rw [eb] at fb
        exact (invM_l fb).trans rfl
      · rw [eb] at fb
        exact (invM_l fb).trans rfl
    · rw [if_neg h2, if_neg (show ¬ p = (2 : Int32) from h2)]
      cases eb : btw p (iN 0) (iN 6)
      · have n : ∀ k, k ≤ 6 → ¬ p = iN k := fun k hk e => by
          rw [e, btw_iN (by omega) (by omega) (by omega), decide_eq_true (by omega)] at eb
          cases eb
        have fs : F_X5_isSum p σ = some (.inl (iN 0), σ) := by
          unfold F_X5_isSum
          simp (disch := omega) only [↓ite_ap, if_true, if_false, if_pos, if_neg, retM_ap, retZ_ap0, retZ_ap1, gM_ap, sM_ap, jM_ap, bI_ap, bL_ap, bD_ap, rdM_ap, wrM_ap, thrM_ap, nl_0, nl_4, nl_5, nl_6, n]
        simp (disch := omega) only [↓ite_ap, if_true, if_false, if_pos, if_neg, retM_ap, retZ_ap0, retZ_ap1, gM_ap, sM_ap, jM_ap, bI_ap, bL_ap, bD_ap, rdM_ap, wrM_ap, thrM_ap, nl_0, nl_1, n, ↓invM_l fs, Bool.false_and, Bool.false_eq_true]
      · obtain ⟨k, e, a, b⟩ := btw_nat (by omega) (by omega) eb
        subst e
        have n1 : k ≠ 1 := fun g => h1 (by rw [g])
        have n2 : k ≠ 2 := fun g => h2 (by rw [g])
        have fs := f_isSum (k := k) (σ := σ) (by omega)
        have hk : k = 0 ∨ k = 3 ∨ (4 ≤ k ∧ k ≤ 6) := by omega
        rcases hk with h | h | h
        · subst h
          rw [decide_eq_true (show iN 0 ≠ iN 3 by show ¬ iN 0 = iN 3; rw [iN_eq (by omega) (by omega)]; omega)]
          simp (disch := omega) only [↓ite_ap, if_true, if_false, if_pos, if_neg, retM_ap, retZ_ap0, retZ_ap1, gM_ap, sM_ap, jM_ap, bI_ap, bL_ap, bD_ap, rdM_ap, wrM_ap, thrM_ap, nl_0, nl_1, nl_2, nl_3, nl_4, nl_5, nl_6, nl_7, nl_8, nl_9, nl_10, nl_11, nl_12, nl_13, nl_25, nl_33, nl_35, nl_45, nl_48, nl_49, nl_50, nl_52, nl_53, nl_57, nl_59, nl_60, nl_61, nl_77, nl_94, nl_97, nl_100, nl_101, nl_119, nl_125, nl_126, nl_137, nl_262, nl_387, nl_500, nl_512, nl_637, nl_999, nl_1022, nl_1137, nl_5685, nm_1b, iN_mI, mI_iN, iN_add, iN_mul, iN_sub, iN_div, iN_rem, iN_lt, iN_le, iN_eq, iN_nat, inB_iN, Bool.and_true]
        · subst h
          rw [decide_eq_false (not_not_intro rfl)]
          rw [if_neg (by omega)] at fs
          simp (disch := omega) only [↓ite_ap, if_true, if_false, if_pos, if_neg, retM_ap, retZ_ap0, retZ_ap1, gM_ap, sM_ap, jM_ap, bI_ap, bL_ap, bD_ap, rdM_ap, wrM_ap, thrM_ap, nl_0, nl_1, nl_2, nl_3, nl_4, nl_5, nl_6, nl_7, nl_8, nl_9, nl_10, nl_11, nl_12, nl_13, nl_25, nl_33, nl_35, nl_45, nl_48, nl_49, nl_50, nl_52, nl_53, nl_57, nl_59, nl_60, nl_61, nl_77, nl_94, nl_97, nl_100, nl_101, nl_119, nl_125, nl_126, nl_137, nl_262, nl_387, nl_500, nl_512, nl_637, nl_999, nl_1022, nl_1137, nl_5685, nm_1b, iN_mI, mI_iN, iN_add, iN_mul, iN_sub, iN_div, iN_rem, iN_lt, iN_le, iN_eq, iN_nat, inB_iN, ↓invM_l fs, Bool.and_false, Bool.false_eq_true]
        · rw [decide_eq_true (show iN k ≠ iN 3 by show ¬ iN k = iN 3; rw [iN_eq (by omega) (by omega)]; omega)]
          rw [if_pos h] at fs
          simp (disch := omega) only [↓ite_ap, if_true, if_false, if_pos, if_neg, retM_ap, retZ_ap0, retZ_ap1, gM_ap, sM_ap, jM_ap, bI_ap, bL_ap, bD_ap, rdM_ap, wrM_ap, thrM_ap, nl_0, nl_1, nl_2, nl_3, nl_4, nl_5, nl_6, nl_7, nl_8, nl_9, nl_10, nl_11, nl_12, nl_13, nl_25, nl_33, nl_35, nl_45, nl_48, nl_49, nl_50, nl_52, nl_53, nl_57, nl_59, nl_60, nl_61, nl_77, nl_94, nl_97, nl_100, nl_101, nl_119, nl_125, nl_126, nl_137, nl_262, nl_387, nl_500, nl_512, nl_637, nl_999, nl_1022, nl_1137, nl_5685, nm_1b, iN_mI, mI_iN, iN_add, iN_mul, iN_sub, iN_div, iN_rem, iN_lt, iN_le, iN_eq, iN_nat, inB_iN, ↓invM_l fs, Bool.and_true]
theorem r_isKind {p num : Int32} {σ : Mm} : F_X6_isKind p num σ = some (.inl (if okB p num = true then iN 1 else iN 0), σ) := by
  unfold F_X6_isKind okB
  by_cases h1 : p = iN 1
  · have fb := r_in (p := num) (lo := -999) (hi := 999) (σ := σ)
    rw [if_pos h1, if_pos (show p = (1 : Int32) from h1)]
    cases eb : btw num (-999) 999
    · rw [eb] at fb
      exact (invM_l fb).trans rfl
    · rw [eb] at fb
      exact (invM_l fb).trans rfl
  · rw [if_neg h1, if_neg (show ¬ p = (1 : Int32) from h1)]
    by_cases h2 : p = iN 2
    · have fb := r_in (p := num) (lo := iN 1) (hi := iN 12) (σ := σ)
      rw [if_pos h2, if_pos (show p = (2 : Int32) from h2)]
      cases eb : btw num (iN 1) (iN 12)
      · rw [eb] at fb
        exact (invM_l fb).trans rfl
      · rw [eb] at fb
        exact (invM_l fb).trans rfl
    · rw [if_neg h2, if_neg (show ¬ p = (2 : Int32) from h2)]
      have fb := r_in (p := p) (lo := iN 0) (hi := iN 6) (σ := σ)
      cases eb : btw p (iN 0) (iN 6)
      · rw [eb, if_neg (by decide)] at fb
        simp (disch := omega) only [↓ite_ap, if_true, if_false, if_pos, if_neg, retM_ap, retZ_ap0, retZ_ap1, gM_ap, sM_ap, jM_ap, bI_ap, bL_ap, bD_ap, rdM_ap, wrM_ap, thrM_ap, nl_0, nl_1, nl_6, iN_eq, ↓invM_l fb, Bool.false_and, Bool.false_eq_true]
      · rw [eb, if_pos rfl] at fb
        by_cases h3 : p = iN 3
        · rw [decide_eq_false (not_not_intro h3)]
          simp (disch := omega) only [↓ite_ap, if_true, if_false, if_pos, if_neg, retM_ap, retZ_ap0, retZ_ap1, gM_ap, sM_ap, jM_ap, bI_ap, bL_ap, bD_ap, rdM_ap, wrM_ap, thrM_ap, nl_0, nl_1, nl_3, nl_6, iN_eq, ↓invM_l fb, h3, Bool.and_false, Bool.false_eq_true]
          rw [h3] at fb
          simp (disch := omega) only [↓ite_ap, if_true, if_false, if_pos, if_neg, retM_ap, retZ_ap0, retZ_ap1, gM_ap, sM_ap, jM_ap, bI_ap, bL_ap, bD_ap, rdM_ap, wrM_ap, thrM_ap, iN_eq, ↓invM_l fb]
        · rw [decide_eq_true h3]
          simp (disch := omega) only [↓ite_ap, if_true, if_false, if_pos, if_neg, retM_ap, retZ_ap0, retZ_ap1, gM_ap, sM_ap, jM_ap, bI_ap, bL_ap, bD_ap, rdM_ap, wrM_ap, thrM_ap, nl_0, nl_1, nl_3, nl_6, iN_eq, ↓invM_l fb, h3, Bool.and_true]
theorem f_canFill {b q : Nat} {s : Sv} {σ : Mm} (hw : WF s) (hr : Rel b s σ) (hq : isOf s q) : F_X4_canFill b (iN q) σ = some (.inl (if mayB s q = true then iN 1 else iN 0), σ) := by
  have t5 := hw.1.2.2
  have t1 := hw.1.2.1
  have l1 := isOf_lt hw hq
  have r1 := hr.2.2.2.2.1 q hq
  have w3 := hw.2.2.2.2.2.1 q hq
  have k1 : σ (b + 8) q = iN (kiS s q) := r1.2.1.trans w3.1
  have kb := w3.2.1
  have e1 : σ b 1 = iN (tbS s) := hr.1.trans hw.1.1
  unfold F_X4_canFill mayB
  by_cases hc : isCl s q
  · rw [clB_iff.mpr hc]
    by_cases h3 : kiS s q = 3
    · have w7 := (hw.2.2.2.2.2.2.1 q hc).2.2 h3
      have k2 : σ (b + 10) q = iN (nv (nuS s q)) := r1.2.2.1.trans w7.1
      rw [decide_eq_false (not_not_intro h3)]
      by_cases h4 : nv (nuS s q) = tbS s - 1
      · rw [decide_eq_true h4]
        simp (disch := omega) only [↓ite_ap, if_true, if_false, if_pos, if_neg, retM_ap, retZ_ap0, retZ_ap1, gM_ap, sM_ap, jM_ap, bI_ap, bL_ap, bD_ap, rdM_ap, wrM_ap, thrM_ap, nl_0, nl_1, nl_2, nl_3, nl_4, nl_5, nl_6, nl_7, nl_8, nl_9, nl_10, nl_11, nl_12, nl_13, nl_25, nl_33, nl_35, nl_45, nl_48, nl_49, nl_50, nl_52, nl_53, nl_57, nl_59, nl_60, nl_61, nl_77, nl_94, nl_97, nl_100, nl_101, nl_119, nl_125, nl_126, nl_137, nl_262, nl_387, nl_500, nl_512, nl_637, nl_999, nl_1022, nl_1137, nl_5685, nm_1b, iN_mI, mI_iN, iN_add, iN_mul, iN_sub, iN_div, iN_rem, iN_lt, iN_le, iN_eq, iN_nat, inB_iN, ↓b_at, ↓b_store, ↓b_place1, ↓b_place0, ↓b_tableOf, ↓b_sqEnd, ↓b_isCell, rel_isCell hw hr hq.1, hc, Nat.add_assoc, Nat.reduceAdd, k1, h3, k2, e1, h4, Bool.or_true, Bool.and_true]
      · rw [decide_eq_false h4]
        simp (disch := omega) only [↓ite_ap, if_true, if_false, if_pos, if_neg, retM_ap, retZ_ap0, retZ_ap1, gM_ap, sM_ap, jM_ap, bI_ap, bL_ap, bD_ap, rdM_ap, wrM_ap, thrM_ap, nl_0, nl_1, nl_2, nl_3, nl_4, nl_5, nl_6, nl_7, nl_8, nl_9, nl_10, nl_11, nl_12, nl_13, nl_25, nl_33, nl_35, nl_45, nl_48, nl_49, nl_50, nl_52, nl_53, nl_57, nl_59, nl_60, nl_61, nl_77, nl_94, nl_97, nl_100, nl_101, nl_119, nl_125, nl_126, nl_137, nl_262, nl_387, nl_500, nl_512, nl_637, nl_999, nl_1022, nl_1137, nl_5685, nm_1b, iN_mI, mI_iN, iN_add, iN_mul, iN_sub, iN_div, iN_rem, iN_lt, iN_le, iN_eq, iN_nat, inB_iN, ↓b_at, ↓b_store, ↓b_place1, ↓b_place0, ↓b_tableOf, ↓b_sqEnd, ↓b_isCell, rel_isCell hw hr hq.1, hc, Nat.add_assoc, Nat.reduceAdd, k1, h3, k2, e1, Bool.or_false, Bool.and_false, Bool.false_eq_true]
    · rw [decide_eq_true h3]
      simp (disch := omega) only [↓ite_ap, if_true, if_false, if_pos, if_neg, retM_ap, retZ_ap0, retZ_ap1, gM_ap, sM_ap, jM_ap, bI_ap, bL_ap, bD_ap, rdM_ap, wrM_ap, thrM_ap, nl_0, nl_1, nl_2, nl_3, nl_4, nl_5, nl_6, nl_7, nl_8, nl_9, nl_10, nl_11, nl_12, nl_13, nl_25, nl_33, nl_35, nl_45, nl_48, nl_49, nl_50, nl_52, nl_53, nl_57, nl_59, nl_60, nl_61, nl_77, nl_94, nl_97, nl_100, nl_101, nl_119, nl_125, nl_126, nl_137, nl_262, nl_387, nl_500, nl_512, nl_637, nl_999, nl_1022, nl_1137, nl_5685, nm_1b, iN_mI, mI_iN, iN_add, iN_mul, iN_sub, iN_div, iN_rem, iN_lt, iN_le, iN_eq, iN_nat, inB_iN, ↓b_at, ↓b_store, ↓b_place1, ↓b_place0, ↓b_tableOf, ↓b_sqEnd, ↓b_isCell, rel_isCell hw hr hq.1, hc, Nat.add_assoc, Nat.reduceAdd, k1, Bool.true_or, Bool.and_true]
  · rw [clB_not hc]
    simp (disch := omega) only [↓ite_ap, if_true, if_false, if_pos, if_neg, retM_ap, retZ_ap0, retZ_ap1, gM_ap, sM_ap, jM_ap, bI_ap, bL_ap, bD_ap, rdM_ap, wrM_ap, thrM_ap, nl_0, nl_1, nl_2, nl_3, nl_4, nl_5, nl_6, nl_7, nl_8, nl_9, nl_10, nl_11, nl_12, nl_13, nl_25, nl_33, nl_35, nl_45, nl_48, nl_49, nl_50, nl_52, nl_53, nl_57, nl_59, nl_60, nl_61, nl_77, nl_94, nl_97, nl_100, nl_101, nl_119, nl_125, nl_126, nl_137, nl_262, nl_387, nl_500, nl_512, nl_637, nl_999, nl_1022, nl_1137, nl_5685, nm_1b, iN_mI, mI_iN, iN_add, iN_mul, iN_sub, iN_div, iN_rem, iN_lt, iN_le, iN_eq, iN_nat, inB_iN, ↓b_at, ↓b_store, ↓b_place1, ↓b_place0, ↓b_tableOf, ↓b_sqEnd, ↓b_isCell, rel_isCell hw hr hq.1, hc, Bool.false_and, Bool.false_eq_true]
def mpC (s : Sv) (p0 p1 p2 p3 p4 : Int32) : Nat := match sqO s p0 p1 p2 with
  | none => 1
  | some q => if okB p3 p4 = true then (if mayB s q = true then 0 else 3) else 2
theorem r_mayPut {p0 p1 p2 p3 p4 : Int32} {s : Sv} {σ : Mm} (hw : WF s) (hv : Vw 169 s σ) : F_X6_mayPut p0 p1 p2 p3 p4 σ = some (.inl (iN (mpC s p0 p1 p2 p3 p4)), σ) := by
  have t5 := hw.1.2.2
  have t1 := hw.1.2.1
  have fs := r_isSquare (p0 := p0) (p1 := p1) (p2 := p2) hw hv
  have fk := r_isKind (p := p3) (num := p4) (σ := σ)
  have e0 := hv.tb hw
  cases e : sqO s p0 p1 p2 with
  | none =>
    rw [e] at fs
    have fs : F_X6_isSquare p0 p1 p2 σ = some (.inl (iN 0), σ) := fs
    have em : mpC s p0 p1 p2 p3 p4 = 1 := by unfold mpC; rw [e]
    rw [em]
    unfold F_X6_mayPut
    simp (disch := omega) only [↓ite_ap, if_true, if_false, if_pos, if_neg, retM_ap, retZ_ap0, retZ_ap1, gM_ap, sM_ap, jM_ap, bI_ap, bL_ap, bD_ap, rdM_ap, wrM_ap, thrM_ap, nl_0, nl_1, nl_2, nl_3, nl_4, nl_5, nl_6, nl_7, nl_8, nl_9, nl_10, nl_11, nl_12, nl_13, nl_25, nl_33, nl_35, nl_45, nl_48, nl_49, nl_50, nl_52, nl_53, nl_57, nl_59, nl_60, nl_61, nl_77, nl_94, nl_97, nl_100, nl_101, nl_119, nl_125, nl_126, nl_137, nl_262, nl_387, nl_500, nl_512, nl_637, nl_999, nl_1022, nl_1137, nl_5685, nm_1b, iN_mI, mI_iN, iN_add, iN_mul, iN_sub, iN_div, iN_rem, iN_lt, iN_le, iN_eq, iN_nat, inB_iN, ↓invM_l fs]
  | some q =>
    rw [e] at fs
    have fs : F_X6_isSquare p0 p1 p2 σ = some (.inl (iN 1), σ) := fs
    have em : mpC s p0 p1 p2 p3 p4 = if okB p3 p4 = true then (if mayB s q = true then 0 else 3) else 2 := by unfold mpC; rw [e]
    rw [em]
    have fsq := r_squareO (σ := σ) hw e
    obtain ⟨t, r, c, _, _, _, ht, _, _, _, _, eq, hq, eqt, _⟩ := sqO_some hw e
    have l1 := isOf_lt hw hq
    have k1 := hv.ki hw hq
    have k2 := hv.nu hw hq
    have kb := (hw.2.2.2.2.2.1 q hq).2.1
    unfold F_X6_mayPut
    cases ek : okB p3 p4
    · rw [ek, if_neg (by decide)] at fk
      rw [if_neg (show ¬ (false = true) by decide)]
      simp (disch := omega) only [↓ite_ap, if_true, if_false, if_pos, if_neg, retM_ap, retZ_ap0, retZ_ap1, gM_ap, sM_ap, jM_ap, bI_ap, bL_ap, bD_ap, rdM_ap, wrM_ap, thrM_ap, nl_0, nl_1, nl_2, iN_eq, ↓invM_l fs, ↓invM_l fk]
    · rw [ek, if_pos rfl] at fk
      rw [if_pos rfl]
      unfold mayB
      by_cases hc : isCl s q
      · have fc := r_isCell1 hw hv hc
        rw [clB_iff.mpr hc]
        by_cases h3 : kiS s q = 3
        · have w7 := (hw.2.2.2.2.2.2.1 q hc).2.2 h3
          rw [w7.1] at k2
          rw [decide_eq_false (not_not_intro h3)]
          by_cases h4 : nv (nuS s q) = tbS s - 1
          · rw [decide_eq_true h4]
            simp (disch := omega) only [↓ite_ap, if_true, if_false, if_pos, if_neg, retM_ap, retZ_ap0, retZ_ap1, gM_ap, sM_ap, jM_ap, bI_ap, bL_ap, bD_ap, rdM_ap, wrM_ap, thrM_ap, nl_0, nl_1, nl_2, nl_3, nl_4, nl_5, nl_6, nl_7, nl_8, nl_9, nl_10, nl_11, nl_12, nl_13, nl_25, nl_33, nl_35, nl_45, nl_48, nl_49, nl_50, nl_52, nl_53, nl_57, nl_59, nl_60, nl_61, nl_77, nl_94, nl_97, nl_100, nl_101, nl_119, nl_125, nl_126, nl_137, nl_262, nl_387, nl_500, nl_512, nl_637, nl_999, nl_1022, nl_1137, nl_5685, nm_1b, iN_mI, mI_iN, iN_add, iN_mul, iN_sub, iN_div, iN_rem, iN_lt, iN_le, iN_eq, iN_nat, inB_iN, ↓invM_l fs, ↓invM_l fk, ↓invM_l fsq, ↓invM_l fc, k1, h3, k2, e0, h4, Bool.or_true, Bool.and_true]
          · rw [decide_eq_false h4]
            simp (disch := omega) only [↓ite_ap, if_true, if_false, if_pos, if_neg, retM_ap, retZ_ap0, retZ_ap1, gM_ap, sM_ap, jM_ap, bI_ap, bL_ap, bD_ap, rdM_ap, wrM_ap, thrM_ap, nl_0, nl_1, nl_2, nl_3, nl_4, nl_5, nl_6, nl_7, nl_8, nl_9, nl_10, nl_11, nl_12, nl_13, nl_25, nl_33, nl_35, nl_45, nl_48, nl_49, nl_50, nl_52, nl_53, nl_57, nl_59, nl_60, nl_61, nl_77, nl_94, nl_97, nl_100, nl_101, nl_119, nl_125, nl_126, nl_137, nl_262, nl_387, nl_500, nl_512, nl_637, nl_999, nl_1022, nl_1137, nl_5685, nm_1b, iN_mI, mI_iN, iN_add, iN_mul, iN_sub, iN_div, iN_rem, iN_lt, iN_le, iN_eq, iN_nat, inB_iN, ↓invM_l fs, ↓invM_l fk, ↓invM_l fsq, ↓invM_l fc, k1, h3, k2, e0, Bool.or_false, Bool.and_false, Bool.false_eq_true]
        · rw [decide_eq_true h3]
          simp (disch := omega) only [↓ite_ap, if_true, if_false, if_pos, if_neg, retM_ap, retZ_ap0, retZ_ap1, gM_ap, sM_ap, jM_ap, bI_ap, bL_ap, bD_ap, rdM_ap, wrM_ap, thrM_ap, nl_0, nl_1, nl_2, nl_3, nl_4, nl_5, nl_6, nl_7, nl_8, nl_9, nl_10, nl_11, nl_12, nl_13, nl_25, nl_33, nl_35, nl_45, nl_48, nl_49, nl_50, nl_52, nl_53, nl_57, nl_59, nl_60, nl_61, nl_77, nl_94, nl_97, nl_100, nl_101, nl_119, nl_125, nl_126, nl_137, nl_262, nl_387, nl_500, nl_512, nl_637, nl_999, nl_1022, nl_1137, nl_5685, nm_1b, iN_mI, mI_iN, iN_add, iN_mul, iN_sub, iN_div, iN_rem, iN_lt, iN_le, iN_eq, iN_nat, inB_iN, ↓invM_l fs, ↓invM_l fk, ↓invM_l fsq, ↓invM_l fc, k1, Bool.true_or, Bool.and_true]
      · have fc := r_isCell0 hw hv l1 hc
        rw [clB_not hc]
        simp (disch := omega) only [↓ite_ap, if_true, if_false, if_pos, if_neg, retM_ap, retZ_ap0, retZ_ap1, gM_ap, sM_ap, jM_ap, bI_ap, bL_ap, bD_ap, rdM_ap, wrM_ap, thrM_ap, nl_0, nl_1, nl_2, nl_3, nl_4, nl_5, nl_6, nl_7, nl_8, nl_9, nl_10, nl_11, nl_12, nl_13, nl_25, nl_33, nl_35, nl_45, nl_48, nl_49, nl_50, nl_52, nl_53, nl_57, nl_59, nl_60, nl_61, nl_77, nl_94, nl_97, nl_100, nl_101, nl_119, nl_125, nl_126, nl_137, nl_262, nl_387, nl_500, nl_512, nl_637, nl_999, nl_1022, nl_1137, nl_5685, nm_1b, iN_mI, mI_iN, iN_add, iN_mul, iN_sub, iN_div, iN_rem, iN_lt, iN_le, iN_eq, iN_nat, inB_iN, ↓invM_l fs, ↓invM_l fk, ↓invM_l fsq, ↓invM_l fc, Bool.false_and, Bool.false_eq_true]
theorem pu_z {s : Sv} {q kind : Nat} {num : Int32} (hq : q < 125) (hz : ∀ j, 1137 ≤ j → s j = iN 0) {j : Nat} (h : 1137 ≤ j) : puS s q kind num j = iN 0 := by
  rw [pu_o (by omega) (by omega) (by omega)]
  exact hz j h
theorem st_put (p0 p1 p2 p3 p4 : Int32) : StW II cs_put (F_X5_put p0 p1 p2 p3 p4) (F_X6_put p0 p1 p2 p3 p4) := by
  intro σ h
  obtain ⟨hw, hr, hL⟩ := h.1
  obtain ⟨n, o, P, hn, ho, hc, hir⟩ := HI_cr h.2.1
  have fq := f_requireSquare (p0 := p0) (p1 := p1) (p2 := p2) hw hr
  have fm := r_mayPut (p0 := p0) (p1 := p1) (p2 := p2) (p3 := p3) (p4 := p4) hw (now_vw (σ := σ))
  have err : ∀ c, 1 ≤ c → c ≤ 3 → mpC (nowS σ) p0 p1 p2 p3 p4 = c → F_X5_put p0 p1 p2 p3 p4 σ = some (.inr c, σ) → ∃ o σ1, F_X5_put p0 p1 p2 p3 p4 σ = some (o, σ1) ∧ ∃ v σ3, F_X6_put p0 p1 p2 p3 p4 (wm o σ1) = some (.inl v, σ3) ∧ II σ3 ∧ StR cs_put o v σ3 := by
    intro c hc1 hc3 hm hF
    refine ⟨.inr c, σ, hF, iN 0, upM σ 168 6 (iN c), ?_, h.up (.inl ⟨rfl, rfl⟩), ?_⟩
    · show F_X6_put p0 p1 p2 p3 p4 σ = _
      rw [hm] at fm
      unfold F_X6_put
      have hz : ¬ iN c = iN 0 := by rw [iN_eq (by omega) (by omega)]; omega
      simp (disch := omega) only [↓ite_ap, if_true, if_false, if_pos, if_neg, retM_ap, retZ_ap0, retZ_ap1, gM_ap, sM_ap, jM_ap, bI_ap, bL_ap, bD_ap, rdM_ap, wrM_ap, thrM_ap, nl_0, ↓invM_l fm, upM_at, hz]
    · show lkc cs_put c = some (upM σ 168 6 (iN c) 168 6)
      rw [upM_at]
      have : c = 1 ∨ c = 2 ∨ c = 3 := by omega
      rcases this with e | e | e <;> subst e <;> rfl
  cases e : sqO (nowS σ) p0 p1 p2 with
  | none =>
    rw [e] at fq
    exact err 1 (by omega) (by omega) (by unfold mpC; rw [e]) (by unfold F_X5_put; exact invM_r fq)
  | some q =>
    rw [e] at fq
    have fq : F_X5_requireSquare p0 p1 p2 σ = some (.inl (iN q), σ) := fq
    obtain ⟨t, r, c, _, _, _, ht, _, _, _, _, eq, hq, eqt, _⟩ := sqO_some hw e
    have hq5 := isOf_lt hw hq
    have fk := f_isContent (p := p3) (num := p4) (σ := σ)
    cases ek : okB p3 p4
    · rw [ek, if_neg (by decide)] at fk
      refine err 2 (by omega) (by omega) (by unfold mpC; rw [e]; show (if okB p3 p4 = true then _ else 2) = 2; rw [ek]; rfl) ?_
      unfold F_X5_put
      simp (disch := omega) only [↓ite_ap, if_true, if_false, if_pos, if_neg, retM_ap, retZ_ap0, retZ_ap1, gM_ap, sM_ap, jM_ap, bI_ap, bL_ap, bD_ap, rdM_ap, wrM_ap, thrM_ap, nl_0, ↓invM_l fq, ↓invM_l fk]
    · rw [ek, if_pos rfl] at fk
      have ff := f_canFill hw hr hq
      cases em : mayB (nowS σ) q
      · rw [em, if_neg (by decide)] at ff
        refine err 3 (by omega) (by omega) (by unfold mpC; rw [e]; show (if okB p3 p4 = true then (if mayB (nowS σ) q = true then 0 else 3) else 2) = 3; rw [ek, em]; rfl) ?_
        unfold F_X5_put
        simp (disch := omega) only [↓ite_ap, if_true, if_false, if_pos, if_neg, retM_ap, retZ_ap0, retZ_ap1, gM_ap, sM_ap, jM_ap, bI_ap, bL_ap, bD_ap, rdM_ap, wrM_ap, thrM_ap, nl_0, iN_eq, ↓invM_l fq, ↓invM_l fk, ↓invM_l ff]
      · rw [em, if_pos rfl] at ff
        obtain ⟨kind, ekd, hok⟩ := ok_P ek
        have hm := may_P em
        obtain ⟨rr, hrr⟩ : ∃ rr, rr = iN (kiS (nowS σ) q) := ⟨_, rfl⟩
        obtain ⟨σ1, o', a1, a2, a3, a4⟩ := f_save hw hr hn ho hc
        obtain ⟨σ2, σ3, c1, c2, c3, c4⟩ := cls_chg (s' := puS (nowS σ) q kind p4) (σ1 := σ1) (OP := F_X4_fill 2 (iN q) (iN kind) p4) (x := rr) h rfl a4 (fun g => by rw [hrr]; exact f_fill (b := 2) hw g hm hok) (pu_WF hw hm hok)
        have hrM : HIr (mO σ3 rr) n P := hir.fr (by rw [mO_q (by omega), c4 168 (by omega), a4 168 (by omega)]) (funext (fun j => by rw [mO_q (by omega), c4 171 (by omega), a4 171 (by omega)]))
        have en : nowS (mO σ3 rr) = nowS σ := by rw [now_mO, now_fr (by rw [c4 169 (by omega), a4 169 (by omega)])]
        obtain ⟨m1, b1, b2, b3, b4⟩ := r_saves hn hrM
        rw [en] at b2
        have v7 : Vw 169 (nowS σ) (mO σ3 rr) := by
          have := now_vw (σ := mO σ3 rr)
          rw [en] at this
          exact this
        have v1 : Vw 169 (nowS σ) m1 := v7.fr (funext (fun j => b4 169 j (by omega) (by omega)))
        obtain ⟨m2, d1, d2, d3⟩ := r_puts hw v1 hm hok
        rw [← hrr] at d1
        have g := chg_end (r := rr) h hn a2 a3 a4 c4 c3 b2 b3 b4 d3 d2 (fun j hj => pu_z hq5 (fun j hj => now_z hj) hj)
        have v8 : Vw 169 (nowS σ) (upM σ3 185 0 rr) := now_vw.fr (by rw [upM_o (by omega), c4 169 (by omega), a4 169 (by omega)])
        have fm2 := r_mayPut (p0 := p0) (p1 := p1) (p2 := p2) (p3 := p3) (p4 := p4) hw v8
        have emp : mpC (nowS σ) p0 p1 p2 p3 p4 = 0 := by
          unfold mpC
          rw [e]
          show (if okB p3 p4 = true then (if mayB (nowS σ) q = true then 0 else 3) else 2) = 0
          rw [ek, em]
          rfl
        rw [emp] at fm2
        have fsq := r_squareO (σ := m1) hw e
        have e6 : upM (upM σ3 185 0 rr) 168 6 (iN 0) = mO σ3 rr := rfl
        refine ⟨.inl rr, σ3, ?_, rr, m2, ?_, g.1, g.2.1, g.2.2, rfl⟩
        · unfold F_X5_put
          rw [ekd] at fk ⊢
          simp (disch := omega) only [↓ite_ap, if_true, if_false, if_pos, if_neg, retM_ap, retZ_ap0, retZ_ap1, gM_ap, sM_ap, jM_ap, bI_ap, bL_ap, bD_ap, rdM_ap, wrM_ap, thrM_ap, nl_0, iN_eq, ↓invM_l fq, ↓invM_l fk, ↓invM_l ff, ↓invM_l a1, ↓invM_l c1, ↓invM_l c2]
        · show F_X6_put p0 p1 p2 p3 p4 (upM σ3 185 0 rr) = _
          unfold F_X6_put
          rw [ekd] at fm2 ⊢
          simp (disch := omega) only [↓ite_ap, if_true, if_false, if_pos, if_neg, retM_ap, retZ_ap0, retZ_ap1, gM_ap, sM_ap, jM_ap, bI_ap, bL_ap, bD_ap, rdM_ap, wrM_ap, thrM_ap, nl_0, iN_eq, ↓invM_l fm2, e6, mO_6, ↓invM_l b1, ↓invM_l fsq, ↓invM_l d1]
