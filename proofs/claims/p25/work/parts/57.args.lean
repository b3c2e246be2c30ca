/-! ARGUMENTS -/
theorem i32_cases (p : Int32) : ((p < iN 0) = True ∧ p.toInt < 0) ∨ ∃ k, k < 2147483648 ∧ p = iN k := by
  have h2 := Int32.toInt_lt p
  by_cases h : p.toInt < 0
  · refine .inl ⟨?_, h⟩
    rw [Int32.lt_iff_toInt_lt, iN_int (by omega)]
    exact eq_true (by omega)
  · refine .inr ⟨p.toInt.toNat, by omega, ?_⟩
    rw [← Int32.toInt_inj, iN_int (by omega)]
    omega
/-- the number, if it is below n -/
def dI (p : Int32) (n : Nat) : Option Nat := if p < iN 0 then none else if nv p < n then some (nv p) else none
theorem dI_iN {k n : Nat} (hk : k < 2147483648) : dI (iN k) n = if k < n then some k else none := by
  unfold dI
  rw [nv_iN hk, if_neg (by rw [iN_lt hk (by omega)]; omega)]
theorem dI_neg {p : Int32} {n : Nat} (h : (p < iN 0) = True) : dI p n = none := by
  unfold dI
  rw [if_pos (of_eq_true h)]
theorem dI_cases (p : Int32) (n : Nat) : (∃ k, k < 2147483648 ∧ p = iN k ∧ k < n ∧ dI p n = some k) ∨ ((p < iN 0) = True ∧ dI p n = none) ∨ (∃ k, k < 2147483648 ∧ p = iN k ∧ n ≤ k ∧ dI p n = none) := by
  rcases i32_cases p with h | ⟨k, h1, h2⟩
  · exact .inr (.inl ⟨h.1, dI_neg h.1⟩)
  · subst h2
    by_cases h : k < n
    · exact .inl ⟨k, h1, rfl, h, by rw [dI_iN h1, if_pos h]⟩
    · exact .inr (.inr ⟨k, h1, rfl, by omega, by rw [dI_iN h1, if_neg h]⟩)
/-- the square that three numbers tell -/
def sqO (s : Sv) (p0 p1 p2 : Int32) : Option Nat := match dI p0 (tbS s) with
  | none => none
  | some t => match dI p1 (roS s t) with
    | none => none
    | some r => match dI p2 (coS s t) with
      | none => none
      | some c => some (t * 25 + r * 5 + c)
theorem sqO_some {s : Sv} {p0 p1 p2 : Int32} {q : Nat} (hw : WF s) (h : sqO s p0 p1 p2 = some q) : ∃ t r c, p0 = iN t ∧ p1 = iN r ∧ p2 = iN c ∧ t < tbS s ∧ r < roS s t ∧ c < coS s t ∧ r < 5 ∧ c < 5 ∧ q = t * 25 + r * 5 + c ∧ isOf s q ∧ q / 25 = t ∧ q % 25 / 5 = r ∧ q % 5 = c := by
  unfold sqO at h
  rcases dI_cases p0 (tbS s) with ⟨t, a1, a2, a3, a4⟩ | ⟨_, a4⟩ | ⟨_, _, _, _, a4⟩
  · rw [a4] at h
    have w := hw.2.2.1 t a3
    rcases dI_cases p1 (roS s t) with ⟨r, b1, b2, b3, b4⟩ | ⟨_, b4⟩ | ⟨_, _, _, _, b4⟩
    · have h : (match dI p1 (roS s t) with | none => none | some r => match dI p2 (coS s t) with | none => none | some c => some (t * 25 + r * 5 + c)) = some q := h
      rw [b4] at h
      rcases dI_cases p2 (coS s t) with ⟨c, c1, c2, c3, c4⟩ | ⟨_, c4⟩ | ⟨_, _, _, _, c4⟩
      · have h : (match dI p2 (coS s t) with | none => none | some c => some (t * 25 + r * 5 + c)) = some q := h
        rw [c4] at h
        have h : some (t * 25 + r * 5 + c) = some q := h
        injection h with h
        have e1 : q / 25 = t := by omega
        have e2 : q % 25 / 5 = r := by omega
        have e3 : q % 5 = c := by omega
        exact ⟨t, r, c, a2, b2, c2, a3, b3, c3, by omega, by omega, h.symm, ⟨by omega, by rw [e1, e2]; exact b3, by rw [e1, e3]; exact c3⟩, e1, e2, e3⟩
      · have h : (match dI p2 (coS s t) with | none => none | some c => some (t * 25 + r * 5 + c)) = some q := h
        rw [c4] at h
        cases h
      · have h : (match dI p2 (coS s t) with | none => none | some c => some (t * 25 + r * 5 + c)) = some q := h
        rw [c4] at h
        cases h
    · have h : (match dI p1 (roS s t) with | none => none | some r => match dI p2 (coS s t) with | none => none | some c => some (t * 25 + r * 5 + c)) = some q := h
      rw [b4] at h
      cases h
    · have h : (match dI p1 (roS s t) with | none => none | some r => match dI p2 (coS s t) with | none => none | some c => some (t * 25 + r * 5 + c)) = some q := h
      rw [b4] at h
      cases h
  · rw [a4] at h
    cases h
  · rw [a4] at h
    cases h
theorem f_hasTable {b : Nat} {p : Int32} {s : Sv} {σ : Mm} (hw : WF s) (hr : Rel b s σ) : F_X4_hasTable b p σ = some (.inl (if (dI p (tbS s)).isSome = true then iN 1 else iN 0), σ) := by
  have t5 := hw.1.2.2
  have e1 : σ b 1 = iN (tbS s) := hr.1.trans hw.1.1
  unfold F_X4_hasTable
  rcases dI_cases p (tbS s) with ⟨t, a1, a2, a3, a4⟩ | ⟨a3, a4⟩ | ⟨t, a1, a2, a3, a4⟩
  · subst a2
    simp (disch := omega) only [↓ite_ap, if_true, if_false, if_pos, if_neg, retM_ap, retZ_ap0, retZ_ap1, gM_ap, sM_ap, jM_ap, bI_ap, bL_ap, bD_ap, rdM_ap, wrM_ap, thrM_ap, nl_0, nl_1, nl_2, nl_3, nl_4, nl_5, nl_6, nl_7, nl_8, nl_9, nl_10, nl_11, nl_12, nl_13, nl_25, nl_33, nl_35, nl_45, nl_48, nl_49, nl_50, nl_52, nl_53, nl_57, nl_59, nl_60, nl_61, nl_77, nl_94, nl_97, nl_100, nl_101, nl_119, nl_125, nl_126, nl_137, nl_262, nl_387, nl_500, nl_512, nl_637, nl_999, nl_1022, nl_1137, nl_5685, nm_1b, iN_mI, mI_iN, iN_add, iN_mul, iN_sub, iN_div, iN_rem, iN_lt, iN_le, iN_eq, iN_nat, inB_iN, e1, a4, Option.isSome_some]
  · simp (disch := omega) only [↓ite_ap, if_true, if_false, if_pos, if_neg, retM_ap, retZ_ap0, retZ_ap1, gM_ap, sM_ap, jM_ap, bI_ap, bL_ap, bD_ap, rdM_ap, wrM_ap, thrM_ap, nl_0, a3, a4, Option.isSome_none]
    rfl
  · subst a2
    simp (disch := omega) only [↓ite_ap, if_true, if_false, if_pos, if_neg, retM_ap, retZ_ap0, retZ_ap1, gM_ap, sM_ap, jM_ap, bI_ap, bL_ap, bD_ap, rdM_ap, wrM_ap, thrM_ap, nl_0, nl_1, nl_2, nl_3, nl_4, nl_5, nl_6, nl_7, nl_8, nl_9, nl_10, nl_11, nl_12, nl_13, nl_25, nl_33, nl_35, nl_45, nl_48, nl_49, nl_50, nl_52, nl_53, nl_57, nl_59, nl_60, nl_61, nl_77, nl_94, nl_97, nl_100, nl_101, nl_119, nl_125, nl_126, nl_137, nl_262, nl_387, nl_500, nl_512, nl_637, nl_999, nl_1022, nl_1137, nl_5685, nm_1b, iN_mI, mI_iN, iN_add, iN_mul, iN_sub, iN_div, iN_rem, iN_lt, iN_le, iN_eq, iN_nat, inB_iN, e1, a4, Option.isSome_none]
    rfl
def sqI (s : Sv) (p0 p1 p2 : Int32) : Int32 := match sqO s p0 p1 p2 with
  | some q => iN q
  | none => mI
theorem f_squareAt {b : Nat} {p0 p1 p2 : Int32} {s : Sv} {σ : Mm} (hw : WF s) (hr : Rel b s σ) : F_X4_squareAt b p0 p1 p2 σ = some (.inl (sqI s p0 p1 p2), σ) := by
  have t5 := hw.1.2.2
  have fh := f_hasTable (p := p0) hw hr
  unfold F_X4_squareAt sqI sqO
  rcases dI_cases p0 (tbS s) with ⟨t, a1, a2, a3, a4⟩ | ⟨a3, a4⟩ | ⟨t, a1, a2, a3, a4⟩
  · subst a2
    have l1 := rel_lines hw hr a3 (w := 1) (by omega)
    have l0 := rel_lines hw hr a3 (w := 0) (by omega)
    have l1' : σ (b + 2) (2 * t + 1) = iN (roS s t) := l1.1
    have l0' : σ (b + 2) (2 * t) = iN (coS s t) := l0.1
    have w := hw.2.2.1 t a3
    rw [a4] at fh
    rw [a4]
    have fh : F_X4_hasTable b (iN t) σ = some (.inl (iN 1), σ) := fh
    show _ = some (Sum.inl (match (match dI p1 (roS s t) with | none => none | some r => match dI p2 (coS s t) with | none => none | some c => some (t * 25 + r * 5 + c)) with | some q => iN q | none => mI), σ)
    rcases dI_cases p1 (roS s t) with ⟨r, b1, b2, b3, b4⟩ | ⟨b3, b4⟩ | ⟨r, b1, b2, b3, b4⟩
    · subst b2
      rw [b4]
      show _ = some (Sum.inl (match (match dI p2 (coS s t) with | none => none | some c => some (t * 25 + r * 5 + c)) with | some q => iN q | none => mI), σ)
      rcases dI_cases p2 (coS s t) with ⟨c, c1, c2, c3, c4⟩ | ⟨c3, c4⟩ | ⟨c, c1, c2, c3, c4⟩
      · subst c2
        rw [c4]
        simp (disch := omega) only [↓ite_ap, if_true, if_false, if_pos, if_neg, retM_ap, retZ_ap0, retZ_ap1, gM_ap, sM_ap, jM_ap, bI_ap, bL_ap, bD_ap, rdM_ap, wrM_ap, thrM_ap, nl_0, nl_1, nl_2, nl_3, nl_4, nl_5, nl_6, nl_7, nl_8, nl_9, nl_10, nl_11, nl_12, nl_13, nl_25, nl_33, nl_35, nl_45, nl_48, nl_49, nl_50, nl_52, nl_53, nl_57, nl_59, nl_60, nl_61, nl_77, nl_94, nl_97, nl_100, nl_101, nl_119, nl_125, nl_126, nl_137, nl_262, nl_387, nl_500, nl_512, nl_637, nl_999, nl_1022, nl_1137, nl_5685, nm_1b, iN_mI, mI_iN, iN_add, iN_mul, iN_sub, iN_div, iN_rem, iN_lt, iN_le, iN_eq, iN_nat, inB_iN, ↓b_at, ↓b_store, ↓b_place1, ↓b_place0, ↓b_tableOf, ↓b_sqEnd, ↓b_isCell, ↓b_linesOf, ↓b_spanOf, ↓b_isSum, ↓b_sizePlace, ↓b_isBetween, ↓b_sizeOf, ↓b_sizeTogether, Bool.false_eq_true, not_true_eq_false, not_false_eq_true, ↓invM_l fh, Nat.add_assoc, Nat.reduceAdd, Nat.add_zero, l1', l0']
      · rw [c4]
        simp (disch := omega) only [↓ite_ap, if_true, if_false, if_pos, if_neg, retM_ap, retZ_ap0, retZ_ap1, gM_ap, sM_ap, jM_ap, bI_ap, bL_ap, bD_ap, rdM_ap, wrM_ap, thrM_ap, nl_0, nl_1, nl_2, nl_3, nl_4, nl_5, nl_6, nl_7, nl_8, nl_9, nl_10, nl_11, nl_12, nl_13, nl_25, nl_33, nl_35, nl_45, nl_48, nl_49, nl_50, nl_52, nl_53, nl_57, nl_59, nl_60, nl_61, nl_77, nl_94, nl_97, nl_100, nl_101, nl_119, nl_125, nl_126, nl_137, nl_262, nl_387, nl_500, nl_512, nl_637, nl_999, nl_1022, nl_1137, nl_5685, nm_1b, iN_mI, mI_iN, iN_add, iN_mul, iN_sub, iN_div, iN_rem, iN_lt, iN_le, iN_eq, iN_nat, inB_iN, ↓b_at, ↓b_store, ↓b_place1, ↓b_place0, ↓b_tableOf, ↓b_sqEnd, ↓b_isCell, ↓b_linesOf, ↓b_spanOf, ↓b_isSum, ↓b_sizePlace, ↓b_isBetween, ↓b_sizeOf, ↓b_sizeTogether, Bool.false_eq_true, not_true_eq_false, not_false_eq_true, ↓invM_l fh, Nat.add_assoc, Nat.reduceAdd, Nat.add_zero, l1', l0', c3, nm_1]
      · subst c2
        rw [c4]
        simp (disch := omega) only [↓ite_ap, if_true, if_false, if_pos, if_neg, retM_ap, retZ_ap0, retZ_ap1, gM_ap, sM_ap, jM_ap, bI_ap, bL_ap, bD_ap, rdM_ap, wrM_ap, thrM_ap, nl_0, nl_1, nl_2, nl_3, nl_4, nl_5, nl_6, nl_7, nl_8, nl_9, nl_10, nl_11, nl_12, nl_13, nl_25, nl_33, nl_35, nl_45, nl_48, nl_49, nl_50, nl_52, nl_53, nl_57, nl_59, nl_60, nl_61, nl_77, nl_94, nl_97, nl_100, nl_101, nl_119, nl_125, nl_126, nl_137, nl_262, nl_387, nl_500, nl_512, nl_637, nl_999, nl_1022, nl_1137, nl_5685, nm_1b, iN_mI, mI_iN, iN_add, iN_mul, iN_sub, iN_div, iN_rem, iN_lt, iN_le, iN_eq, iN_nat, inB_iN, ↓b_at, ↓b_store, ↓b_place1, ↓b_place0, ↓b_tableOf, ↓b_sqEnd, ↓b_isCell, ↓b_linesOf, ↓b_spanOf, ↓b_isSum, ↓b_sizePlace, ↓b_isBetween, ↓b_sizeOf, ↓b_sizeTogether, Bool.false_eq_true, not_true_eq_false, not_false_eq_true, ↓invM_l fh, Nat.add_assoc, Nat.reduceAdd, Nat.add_zero, l1', l0', nm_1]
    · rw [b4]
      simp (disch := omega) only [↓ite_ap, if_true, if_false, if_pos, if_neg, retM_ap, retZ_ap0, retZ_ap1, gM_ap, sM_ap, jM_ap, bI_ap, bL_ap, bD_ap, rdM_ap, wrM_ap, thrM_ap, nl_0, nl_1, nl_2, nl_3, nl_4, nl_5, nl_6, nl_7, nl_8, nl_9, nl_10, nl_11, nl_12, nl_13, nl_25, nl_33, nl_35, nl_45, nl_48, nl_49, nl_50, nl_52, nl_53, nl_57, nl_59, nl_60, nl_61, nl_77, nl_94, nl_97, nl_100, nl_101, nl_119, nl_125, nl_126, nl_137, nl_262, nl_387, nl_500, nl_512, nl_637, nl_999, nl_1022, nl_1137, nl_5685, nm_1b, iN_mI, mI_iN, iN_add, iN_mul, iN_sub, iN_div, iN_rem, iN_lt, iN_le, iN_eq, iN_nat, inB_iN, ↓b_at, ↓b_store, ↓b_place1, ↓b_place0, ↓b_tableOf, ↓b_sqEnd, ↓b_isCell, ↓b_linesOf, ↓b_spanOf, ↓b_isSum, ↓b_sizePlace, ↓b_isBetween, ↓b_sizeOf, ↓b_sizeTogether, Bool.false_eq_true, not_true_eq_false, not_false_eq_true, ↓invM_l fh, Nat.add_assoc, Nat.reduceAdd, Nat.add_zero, l1', l0', b3, nm_1]
    · subst b2
      rw [b4]
      simp (disch := omega) only [↓ite_ap, if_true, if_false, if_pos, if_neg, retM_ap, retZ_ap0, retZ_ap1, gM_ap, sM_ap, jM_ap, bI_ap, bL_ap, bD_ap, rdM_ap, wrM_ap, thrM_ap, nl_0, nl_1, nl_2, nl_3, nl_4, nl_5, nl_6, nl_7, nl_8, nl_9, nl_10, nl_11, nl_12, nl_13, nl_25, nl_33, nl_35, nl_45, nl_48, nl_49, nl_50, nl_52, nl_53, nl_57, nl_59, nl_60, nl_61, nl_77, nl_94, nl_97, nl_100, nl_101, nl_119, nl_125, nl_126, nl_137, nl_262, nl_387, nl_500, nl_512, nl_637, nl_999, nl_1022, nl_1137, nl_5685, nm_1b, iN_mI, mI_iN, iN_add, iN_mul, iN_sub, iN_div, iN_rem, iN_lt, iN_le, iN_eq, iN_nat, inB_iN, ↓b_at, ↓b_store, ↓b_place1, ↓b_place0, ↓b_tableOf, ↓b_sqEnd, ↓b_isCell, ↓b_linesOf, ↓b_spanOf, ↓b_isSum, ↓b_sizePlace, ↓b_isBetween, ↓b_sizeOf, ↓b_sizeTogether, Bool.false_eq_true, not_true_eq_false, not_false_eq_true, ↓invM_l fh, Nat.add_assoc, Nat.reduceAdd, Nat.add_zero, l1', l0', nm_1]
  · rw [a4] at fh
    rw [a4]
    have fh : F_X4_hasTable b p0 σ = some (.inl (iN 0), σ) := fh
    simp (disch := omega) only [↓ite_ap, if_true, if_false, if_pos, if_neg, retM_ap, retZ_ap0, retZ_ap1, gM_ap, sM_ap, jM_ap, bI_ap, bL_ap, bD_ap, rdM_ap, wrM_ap, thrM_ap, nl_0, nl_1, nl_2, nl_3, nl_4, nl_5, nl_6, nl_7, nl_8, nl_9, nl_10, nl_11, nl_12, nl_13, nl_25, nl_33, nl_35, nl_45, nl_48, nl_49, nl_50, nl_52, nl_53, nl_57, nl_59, nl_60, nl_61, nl_77, nl_94, nl_97, nl_100, nl_101, nl_119, nl_125, nl_126, nl_137, nl_262, nl_387, nl_500, nl_512, nl_637, nl_999, nl_1022, nl_1137, nl_5685, nm_1b, iN_mI, mI_iN, iN_add, iN_mul, iN_sub, iN_div, iN_rem, iN_lt, iN_le, iN_eq, iN_nat, inB_iN, ↓invM_l fh, nm_1]
  · rw [a4] at fh
    rw [a4]
    have fh : F_X4_hasTable b p0 σ = some (.inl (iN 0), σ) := fh
    simp (disch := omega) only [↓ite_ap, if_true, if_false, if_pos, if_neg, retM_ap, retZ_ap0, retZ_ap1, gM_ap, sM_ap, jM_ap, bI_ap, bL_ap, bD_ap, rdM_ap, wrM_ap, thrM_ap, nl_0, nl_1, nl_2, nl_3, nl_4, nl_5, nl_6, nl_7, nl_8, nl_9, nl_10, nl_11, nl_12, nl_13, nl_25, nl_33, nl_35, nl_45, nl_48, nl_49, nl_50, nl_52, nl_53, nl_57, nl_59, nl_60, nl_61, nl_77, nl_94, nl_97, nl_100, nl_101, nl_119, nl_125, nl_126, nl_137, nl_262, nl_387, nl_500, nl_512, nl_637, nl_999, nl_1022, nl_1137, nl_5685, nm_1b, iN_mI, mI_iN, iN_add, iN_mul, iN_sub, iN_div, iN_rem, iN_lt, iN_le, iN_eq, iN_nat, inB_iN, ↓invM_l fh, nm_1]
theorem f_requireSquare {p0 p1 p2 : Int32} {s : Sv} {σ : Mm} (hw : WF s) (hr : Rel 2 s σ) : F_X5_requireSquare p0 p1 p2 σ = match sqO s p0 p1 p2 with
    | some q => some (.inl (iN q), σ)
    | none => some (.inr 1, σ) := by
  have f1 := f_squareAt (p0 := p0) (p1 := p1) (p2 := p2) hw hr
  unfold F_X5_requireSquare
  rw [invM_l f1]
  unfold sqI
  cases e : sqO s p0 p1 p2 with
  | none =>
    show (if mI = (-1 : Int32) then thrM 1 else retM mI) σ = some (.inr 1, σ)
    rw [if_pos nm_1.symm]
    rfl
  | some q =>
    obtain ⟨t, r, c, _, _, _, _, _, _, _, _, _, hq, _⟩ := sqO_some hw e
    have := isOf_lt hw hq
    show (if iN q = (-1 : Int32) then thrM 1 else retM (iN q)) σ = some (.inl (iN q), σ)
    rw [if_neg (by rw [nm_1, iN_mI (by omega)]; exact fun h => h)]
    rfl
/-! ranges -/
def btw (p lo hi : Int32) : Bool := decide (¬ p < lo) && decide (¬ hi < p)
theorem f_btw {p lo hi : Int32} {σ : Mm} : F_X5_isBetween p lo hi σ = some (.inl (if btw p lo hi = true then iN 1 else iN 0), σ) := by
  unfold F_X5_isBetween btw
  by_cases h1 : p < lo
  · rw [if_pos h1, decide_eq_false (not_not_intro h1)]
    rfl
  · rw [if_neg h1, decide_eq_true h1]
    by_cases h2 : hi < p
    · rw [if_pos h2, decide_eq_false (not_not_intro h2)]
      rfl
    · rw [if_neg h2, decide_eq_true h2]
      rfl
theorem f_requireBetween {p lo hi : Int32} {σ : Mm} : F_X5_requireBetween p lo hi σ = if btw p lo hi = true then some (.inl (), σ) else some (.inr 2, σ) := by
  unfold F_X5_requireBetween
  rw [invM_l f_btw]
  cases btw p lo hi
  · rfl
  · rfl
theorem btw_nat {p : Int32} {lo hi : Nat} (hl : lo < 2147483648) (hh : hi < 2147483648) (h : btw p (iN lo) (iN hi) = true) : ∃ k, p = iN k ∧ lo ≤ k ∧ k ≤ hi := by
  unfold btw at h
  rw [Bool.and_eq_true, decide_eq_true_eq, decide_eq_true_eq] at h
  rcases i32_cases p with g | ⟨k, g1, g2⟩
  · refine absurd ?_ h.1
    rw [Int32.lt_iff_toInt_lt, iN_int hl]
    omega
  · subst g2
    rw [iN_lt g1 hl, iN_lt hh g1] at h
    exact ⟨k, rfl, by omega, by omega⟩
theorem btw_iN {k lo hi : Nat} (hk : k < 2147483648) (hl : lo < 2147483648) (hh : hi < 2147483648) : btw (iN k) (iN lo) (iN hi) = decide (lo ≤ k ∧ k ≤ hi) := by
  unfold btw
  rw [← Bool.decide_and]
  refine decide_eq_decide.mpr ?_
  rw [iN_lt hk hl, iN_lt hh hk]
  omega

