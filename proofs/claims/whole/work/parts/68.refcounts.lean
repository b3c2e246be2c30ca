/-! THE REFERENCE: COUNTS -/
theorem r_cellsAll {s : Sv} {σ : Mm} (hw : WF s) (hv : Vw 169 s σ) : F_X6_cells mI σ = some (.inl (iN (cellsS s)), σ) := by
  refine lp (fun n k (x : Int32) => L_X6_cells_4 mI n x (iN k) σ) (fun k => iN (smN (fun q => if clB s q = true then 1 else 0) 0 k)) (i0 := 0) (N := 125) (by omega) (by unfold FU; omega) ?_ ?_
  · intro n q hk1 hk2
    simp only [L_X6_cells_4]
    rw [smN_s hk1]
    by_cases hc : isCl s q
    · have fc := r_isCell1 hw hv hc
      have c1 := clB_iff.mpr hc
      simp (disch := omega) only [↓ite_ap, if_true, if_false, if_pos, if_neg, retM_ap, retZ_ap0, retZ_ap1, gM_ap, sM_ap, jM_ap, bI_ap, bL_ap, bD_ap, rdM_ap, wrM_ap, thrM_ap, nl_0, nl_1, nl_2, nl_3, nl_4, nl_5, nl_6, nl_7, nl_8, nl_9, nl_10, nl_11, nl_12, nl_13, nl_25, nl_33, nl_35, nl_45, nl_48, nl_49, nl_50, nl_52, nl_53, nl_57, nl_59, nl_60, nl_61, nl_77, nl_94, nl_97, nl_100, nl_101, nl_119, nl_125, nl_126, nl_137, nl_262, nl_387, nl_500, nl_512, nl_637, nl_999, nl_1022, nl_1137, nl_5685, nm_1b, iN_mI, mI_iN, iN_add, iN_mul, iN_sub, iN_div, iN_rem, iN_lt, iN_le, iN_eq, iN_nat, inB_iN, ↓invM_l fc, c1]
    · have fc := r_isCell0 hw hv hk2 hc
      have c1 := clB_not hc
      simp (disch := omega) only [↓ite_ap, if_true, if_false, if_pos, if_neg, retM_ap, retZ_ap0, retZ_ap1, gM_ap, sM_ap, jM_ap, bI_ap, bL_ap, bD_ap, rdM_ap, wrM_ap, thrM_ap, nl_0, nl_1, nl_2, nl_3, nl_4, nl_5, nl_6, nl_7, nl_8, nl_9, nl_10, nl_11, nl_12, nl_13, nl_25, nl_33, nl_35, nl_45, nl_48, nl_49, nl_50, nl_52, nl_53, nl_57, nl_59, nl_60, nl_61, nl_77, nl_94, nl_97, nl_100, nl_101, nl_119, nl_125, nl_126, nl_137, nl_262, nl_387, nl_500, nl_512, nl_637, nl_999, nl_1022, nl_1137, nl_5685, nm_1b, iN_mI, mI_iN, iN_add, iN_mul, iN_sub, iN_div, iN_rem, iN_lt, iN_le, iN_eq, iN_nat, inB_iN, ↓invM_l fc, c1, Bool.false_eq_true]
  · intro n
    simp only [L_X6_cells_4]
    simp (disch := omega) only [↓ite_ap, if_true, if_false, if_pos, if_neg, retM_ap, retZ_ap0, retZ_ap1, gM_ap, sM_ap, jM_ap, bI_ap, bL_ap, bD_ap, rdM_ap, wrM_ap, thrM_ap, nl_0, nl_1, nl_2, nl_3, nl_4, nl_5, nl_6, nl_7, nl_8, nl_9, nl_10, nl_11, nl_12, nl_13, nl_25, nl_33, nl_35, nl_45, nl_48, nl_49, nl_50, nl_52, nl_53, nl_57, nl_59, nl_60, nl_61, nl_77, nl_94, nl_97, nl_100, nl_101, nl_119, nl_125, nl_126, nl_137, nl_262, nl_387, nl_500, nl_512, nl_637, nl_999, nl_1022, nl_1137, nl_5685, nm_1b, iN_mI, mI_iN, iN_add, iN_mul, iN_sub, iN_div, iN_rem, iN_lt, iN_le, iN_eq, iN_nat, inB_iN]
    rfl
theorem r_cells {k0 : Nat} {s : Sv} {σ : Mm} (hw : WF s) (hv : Vw 169 s σ) (hk0 : k0 < 1000) : F_X6_cells (iN k0) σ = some (.inl (iN (kindsS s k0)), σ) := by
  refine lp (fun n k (x : Int32) => L_X6_cells_4 (iN k0) n x (iN k) σ) (fun k => iN (smN (fun q => if (clB s q && decide (kiS s q = k0)) = true then 1 else 0) 0 k)) (i0 := 0) (N := 125) (by omega) (by unfold FU; omega) ?_ ?_
  · intro n q hk1 hk2
    simp only [L_X6_cells_4]
    rw [smN_s hk1]
    by_cases hc : isCl s q
    · have fc := r_isCell1 hw hv hc
      have c1 := clB_iff.mpr hc
      have hk := hv.ki hw hc.1
      have kb := (hw.2.2.2.2.2.1 q hc.1).2.1
      by_cases h3 : kiS s q = k0
      · have c2 : (clB s q && decide (kiS s q = k0)) = true := by rw [c1, decide_eq_true h3]; rfl
        simp (disch := omega) only [↓ite_ap, if_true, if_false, if_pos, if_neg, retM_ap, retZ_ap0, retZ_ap1, gM_ap, sM_ap, jM_ap, bI_ap, bL_ap, bD_ap, rdM_ap, wrM_ap, thrM_ap, nl_0, nl_1, nl_2, nl_3, nl_4, nl_5, nl_6, nl_7, nl_8, nl_9, nl_10, nl_11, nl_12, nl_13, nl_25, nl_33, nl_35, nl_45, nl_48, nl_49, nl_50, nl_52, nl_53, nl_57, nl_59, nl_60, nl_61, nl_77, nl_94, nl_97, nl_100, nl_101, nl_119, nl_125, nl_126, nl_137, nl_262, nl_387, nl_500, nl_512, nl_637, nl_999, nl_1022, nl_1137, nl_5685, nm_1b, iN_mI, mI_iN, iN_add, iN_mul, iN_sub, iN_div, iN_rem, iN_lt, iN_le, iN_eq, iN_nat, inB_iN, ↓invM_l fc, c2, hk]
      · have c2 : (clB s q && decide (kiS s q = k0)) = false := by rw [c1, decide_eq_false h3]; rfl
        simp (disch := omega) only [↓ite_ap, if_true, if_false, if_pos, if_neg, retM_ap, retZ_ap0, retZ_ap1, gM_ap, sM_ap, jM_ap, bI_ap, bL_ap, bD_ap, rdM_ap, wrM_ap, thrM_ap, nl_0, nl_1, nl_2, nl_3, nl_4, nl_5, nl_6, nl_7, nl_8, nl_9, nl_10, nl_11, nl_12, nl_13, nl_25, nl_33, nl_35, nl_45, nl_48, nl_49, nl_50, nl_52, nl_53, nl_57, nl_59, nl_60, nl_61, nl_77, nl_94, nl_97, nl_100, nl_101, nl_119, nl_125, nl_126, nl_137, nl_262, nl_387, nl_500, nl_512, nl_637, nl_999, nl_1022, nl_1137, nl_5685, nm_1b, iN_mI, mI_iN, iN_add, iN_mul, iN_sub, iN_div, iN_rem, iN_lt, iN_le, iN_eq, iN_nat, inB_iN, ↓invM_l fc, c2, hk, Bool.false_eq_true]
    · have fc := r_isCell0 hw hv hk2 hc
      have c2 : (clB s q && decide (kiS s q = k0)) = false := by rw [clB_not hc]; rfl
      simp (disch := omega) only [↓ite_ap, if_true, if_false, if_pos, if_neg, retM_ap, retZ_ap0, retZ_ap1, gM_ap, sM_ap, jM_ap, bI_ap, bL_ap, bD_ap, rdM_ap, wrM_ap, thrM_ap, nl_0, nl_1, nl_2, nl_3, nl_4, nl_5, nl_6, nl_7, nl_8, nl_9, nl_10, nl_11, nl_12, nl_13, nl_25, nl_33, nl_35, nl_45, nl_48, nl_49, nl_50, nl_52, nl_53, nl_57, nl_59, nl_60, nl_61, nl_77, nl_94, nl_97, nl_100, nl_101, nl_119, nl_125, nl_126, nl_137, nl_262, nl_387, nl_500, nl_512, nl_637, nl_999, nl_1022, nl_1137, nl_5685, nm_1b, iN_mI, mI_iN, iN_add, iN_mul, iN_sub, iN_div, iN_rem, iN_lt, iN_le, iN_eq, iN_nat, inB_iN, ↓invM_l fc, c2, Bool.false_eq_true]
  · intro n
    simp only [L_X6_cells_4]
    simp (disch := omega) only [↓ite_ap, if_true, if_false, if_pos, if_neg, retM_ap, retZ_ap0, retZ_ap1, gM_ap, sM_ap, jM_ap, bI_ap, bL_ap, bD_ap, rdM_ap, wrM_ap, thrM_ap, nl_0, nl_1, nl_2, nl_3, nl_4, nl_5, nl_6, nl_7, nl_8, nl_9, nl_10, nl_11, nl_12, nl_13, nl_25, nl_33, nl_35, nl_45, nl_48, nl_49, nl_50, nl_52, nl_53, nl_57, nl_59, nl_60, nl_61, nl_77, nl_94, nl_97, nl_100, nl_101, nl_119, nl_125, nl_126, nl_137, nl_262, nl_387, nl_500, nl_512, nl_637, nl_999, nl_1022, nl_1137, nl_5685, nm_1b, iN_mI, mI_iN, iN_add, iN_mul, iN_sub, iN_div, iN_rem, iN_lt, iN_le, iN_eq, iN_nat, inB_iN]
    rfl
theorem smN_shift {g : Nat → Nat} {a lo : Nat} : ∀ {hi : Nat}, smN (fun q => g (q + a)) lo hi = smN g (lo + a) (hi + a)
  | 0 => by
    rw [Nat.zero_add]
    cases a with
    | zero => rfl
    | succ a => unfold smN; rw [if_neg (by omega)]
  | n + 1 => by
    by_cases h : lo ≤ n
    · rw [smN_s h, show n + 1 + a = n + a + 1 by omega, smN_s (by omega), smN_shift]
    · rw [show n + 1 + a = n + a + 1 by omega]
      unfold smN
      rw [if_neg h, if_neg (by omega)]
theorem smN_split {g : Nat → Nat} {lo m : Nat} (h : lo ≤ m) : ∀ {hi : Nat}, m ≤ hi → smN g lo hi = smN g lo m + smN g m hi
  | 0, h1 => by
    obtain rfl : m = 0 := by omega
    obtain rfl : lo = 0 := by omega
    rfl
  | n + 1, h1 => by
    by_cases e : m = n + 1
    · subst e
      rw [smN_0]
      rfl
    · rw [smN_s (by omega), smN_s (by omega), smN_split h (by omega), Nat.add_assoc]
theorem smN_zero {g : Nat → Nat} {lo : Nat} : ∀ {hi : Nat}, (∀ j, lo ≤ j → j < hi → g j = 0) → smN g lo hi = 0
  | 0, _ => rfl
  | n + 1, h => by
    unfold smN
    by_cases h1 : lo ≤ n
    · rw [if_pos h1, smN_zero (fun j a b => h j a (by omega)), h n h1 (by omega)]
    · rw [if_neg h1]
theorem smN_add {g g' : Nat → Nat} {lo : Nat} : ∀ {hi : Nat}, smN (fun q => g q + g' q) lo hi = smN g lo hi + smN g' lo hi
  | 0 => rfl
  | n + 1 => by
    by_cases h1 : lo ≤ n
    · rw [smN_s h1, smN_s h1, smN_s h1, smN_add]
      omega
    · unfold smN
      rw [if_neg h1, if_neg h1, if_neg h1]
theorem sq_one : ∀ r, r < 6 → ∀ c, c < 6 → smN (fun j => if (decide (j % 25 / 5 < r) && decide (j % 5 < c)) = true then 1 else 0) 0 25 = r * c := by decide
theorem sq_table {s : Sv} (hw : WF s) {t : Nat} : smN (fun q => if ofB s q = true then 1 else 0) (t * 25) (t * 25 + 25) = if t < tbS s then roS s t * coS s t else 0 := by
  by_cases ht : t < tbS s
  · have w := hw.2.2.1 t ht
    rw [if_pos ht, ← sq_one (roS s t) (by omega) (coS s t) (by omega), show t * 25 = 0 + t * 25 by omega, show 0 + t * 25 + 25 = 25 + t * 25 by omega, ← smN_shift]
    refine smN_congr (fun j h1 h2 => ?_)
    have e1 : (j + t * 25) / 25 = t := by omega
    have e2 : (j + t * 25) % 25 / 5 = j % 25 / 5 := by omega
    have e3 : (j + t * 25) % 5 = j % 5 := by omega
    unfold ofB
    rw [e1, e2, e3, decide_eq_true ht, Bool.true_and]
  · rw [if_neg ht]
    refine smN_zero (fun j h1 h2 => ?_)
    show (if ofB s j = true then 1 else 0) = 0
    rw [ofB_not (fun g => by have := g.1; omega)]
    rfl
theorem r_squares {s : Sv} {σ : Mm} (hw : WF s) (hv : Vw 169 s σ) : F_X6_squares σ = some (.inl (iN (squaresS s)), σ) := by
  have e : squaresS s = smN (fun q => if ofB s q = true then 1 else 0) 0 125 := by
    unfold squaresS
    rw [smN_5]
    rw [smN_split (m := 100) (by omega) (by omega), smN_split (m := 75) (by omega) (by omega), smN_split (m := 50) (by omega) (by omega), smN_split (m := 25) (by omega) (by omega)]
    have h0 := sq_table hw (t := 0)
    have h1 := sq_table hw (t := 1)
    have h2 := sq_table hw (t := 2)
    have h3 := sq_table hw (t := 3)
    have h4 := sq_table hw (t := 4)
    simp only [Nat.reduceMul, Nat.reduceAdd] at h0 h1 h2 h3 h4
    rw [h0, h1, h2, h3, h4]
  rw [e]
  refine lp (fun n k (x : Int32) => L_X6_squares_4 n x (iN k) σ) (fun k => iN (smN (fun q => if ofB s q = true then 1 else 0) 0 k)) (i0 := 0) (N := 125) (by omega) (by unfold FU; omega) ?_ ?_
  · intro n q hk1 hk2
    have fo := r_isOf hw hv hk2
    simp only [L_X6_squares_4]
    rw [smN_s hk1]
    cases eo : ofB s q
    · rw [eo, if_neg (by decide)] at fo
      simp (disch := omega) only [↓ite_ap, if_true, if_false, if_pos, if_neg, retM_ap, retZ_ap0, retZ_ap1, gM_ap, sM_ap, jM_ap, bI_ap, bL_ap, bD_ap, rdM_ap, wrM_ap, thrM_ap, nl_0, nl_1, nl_2, nl_3, nl_4, nl_5, nl_6, nl_7, nl_8, nl_9, nl_10, nl_11, nl_12, nl_13, nl_25, nl_33, nl_35, nl_45, nl_48, nl_49, nl_50, nl_52, nl_53, nl_57, nl_59, nl_60, nl_61, nl_77, nl_94, nl_97, nl_100, nl_101, nl_119, nl_125, nl_126, nl_137, nl_262, nl_387, nl_500, nl_512, nl_637, nl_999, nl_1022, nl_1137, nl_5685, nm_1b, iN_mI, mI_iN, iN_add, iN_mul, iN_sub, iN_div, iN_rem, iN_lt, iN_le, iN_eq, iN_nat, inB_iN, ↓invM_l fo, Bool.false_eq_true]
    · rw [eo, if_pos rfl] at fo
      simp (disch := omega) only [↓ite_ap, if_true, if_false, if_pos, if_neg, retM_ap, retZ_ap0, retZ_ap1, gM_ap, sM_ap, jM_ap, bI_ap, bL_ap, bD_ap, rdM_ap, wrM_ap, thrM_ap, nl_0, nl_1, nl_2, nl_3, nl_4, nl_5, nl_6, nl_7, nl_8, nl_9, nl_10, nl_11, nl_12, nl_13, nl_25, nl_33, nl_35, nl_45, nl_48, nl_49, nl_50, nl_52, nl_53, nl_57, nl_59, nl_60, nl_61, nl_77, nl_94, nl_97, nl_100, nl_101, nl_119, nl_125, nl_126, nl_137, nl_262, nl_387, nl_500, nl_512, nl_637, nl_999, nl_1022, nl_1137, nl_5685, nm_1b, iN_mI, mI_iN, iN_add, iN_mul, iN_sub, iN_div, iN_rem, iN_lt, iN_le, iN_eq, iN_nat, inB_iN, ↓invM_l fo]
  · intro n
    simp only [L_X6_squares_4]
    simp (disch := omega) only [↓ite_ap, if_true, if_false, if_pos, if_neg, retM_ap, retZ_ap0, retZ_ap1, gM_ap, sM_ap, jM_ap, bI_ap, bL_ap, bD_ap, rdM_ap, wrM_ap, thrM_ap, nl_0, nl_1, nl_2, nl_3, nl_4, nl_5, nl_6, nl_7, nl_8, nl_9, nl_10, nl_11, nl_12, nl_13, nl_25, nl_33, nl_35, nl_45, nl_48, nl_49, nl_50, nl_52, nl_53, nl_57, nl_59, nl_60, nl_61, nl_77, nl_94, nl_97, nl_100, nl_101, nl_119, nl_125, nl_126, nl_137, nl_262, nl_387, nl_500, nl_512, nl_637, nl_999, nl_1022, nl_1137, nl_5685, nm_1b, iN_mI, mI_iN, iN_add, iN_mul, iN_sub, iN_div, iN_rem, iN_lt, iN_le, iN_eq, iN_nat, inB_iN]
/-! edges, each once -/
def edgR (s : Sv) (k : Nat) : Nat := if (ofB s (k / 4) && (decide (k % 4 = 1 ∨ k % 4 = 2) || (bsS s (k / 4) (k % 4)).isNone) && decide (0 < eL s k)) = true then 1 else 0
def edB (s : Sv) (i q : Nat) : Nat := if (ofB s q && (bsS s q i).isNone && decide (0 < eL s (q * 4 + i))) = true then 1 else 0
def edI (s : Sv) (i q : Nat) : Nat := if (ofB s q && (bsS s q i).isSome && decide (0 < eL s (q * 4 + i))) = true then 1 else 0
theorem smN_4 {g : Nat → Nat} : ∀ n, smN g 0 (4 * n) = smN (fun q => g (q * 4) + g (q * 4 + 1) + g (q * 4 + 2) + g (q * 4 + 3)) 0 n
  | 0 => rfl
  | n + 1 => by
    rw [show 4 * (n + 1) = 4 * n + 1 + 1 + 1 + 1 by omega, smN_s (by omega), smN_s (by omega), smN_s (by omega), smN_s (by omega), smN_s (by omega), smN_4 n, show 4 * n = n * 4 by omega]
    omega
theorem edI_02 {s : Sv} (hw : WF s) (q : Nat) : edI s 2 q = edI s 0 (q + 5) := by
  unfold edI
  by_cases h : isOf s q ∧ q % 25 / 5 + 1 < roS s (q / 25)
  · have hb2 : bsS s q 2 = some (q + 5) := by unfold bsS; rw [if_neg (by omega), if_neg (by omega), if_pos rfl, if_pos h.2]
    have w := hw.2.2.1 _ h.1.1
    have g := bsS_of hw h.1 hb2
    have hb0 : bsS s (q + 5) 0 = some q := by unfold bsS; rw [if_pos rfl, if_pos (by omega), Nat.add_sub_cancel]
    have ee : eL s (q * 4 + 2) = eL s ((q + 5) * 4 + 0) := by
      rw [eL_eq hw (by omega), eL_eq hw (by omega), if_pos (ofB_iff.mpr h.1), if_pos (ofB_iff.mpr g.1)]
      unfold edN
      rw [hb2, hb0]
      show (if owS s (q + 5) = owS s q then 0 else max _ _) = (if owS s q = owS s (q + 5) then 0 else max _ _)
      by_cases e : owS s q = owS s (q + 5)
      · rw [if_pos e, if_pos e.symm]
      · rw [if_neg e, if_neg (fun x => e x.symm), Nat.max_comm]
    rw [hb2, hb0, ofB_iff.mpr h.1, ofB_iff.mpr g.1, ee]
    rfl
  · have l : (ofB s q && (bsS s q 2).isSome) = false := by
      by_cases ho : isOf s q
      · have hb2 : bsS s q 2 = none := by unfold bsS; rw [if_neg (by omega), if_neg (by omega), if_pos rfl, if_neg (fun x => h ⟨ho, x⟩)]
        rw [hb2]
        exact Bool.and_false _
      · rw [ofB_not ho]
        rfl
    have r : (ofB s (q + 5) && (bsS s (q + 5) 0).isSome) = false := by
      by_cases ho : isOf s (q + 5)
      · have hb0 : bsS s (q + 5) 0 = none := by
          unfold bsS
          rw [if_pos rfl]
          by_cases h0 : 0 < (q + 5) % 25 / 5
          · have e1 : (q + 5) / 25 = q / 25 := by omega
            have o1 := ho.1
            have o2 := ho.2.1
            have o3 := ho.2.2
            rw [e1] at o1 o2 o3
            exact absurd ⟨⟨o1, by omega, by omega⟩, by omega⟩ h
          · rw [if_neg h0]
        rw [hb0]
        exact Bool.and_false _
      · rw [ofB_not ho]
        rfl
    rw [l, r]
    rfl
theorem edI_31 {s : Sv} (hw : WF s) (q : Nat) : edI s 1 q = edI s 3 (q + 1) := by
  unfold edI
  by_cases h : isOf s q ∧ q % 5 + 1 < coS s (q / 25)
  · have hb2 : bsS s q 1 = some (q + 1) := by unfold bsS; rw [if_neg (by omega), if_pos rfl, if_pos h.2]
    have w := hw.2.2.1 _ h.1.1
    have g := bsS_of hw h.1 hb2
    have hb0 : bsS s (q + 1) 3 = some q := by unfold bsS; rw [if_neg (by omega), if_neg (by omega), if_neg (by omega), if_pos (by omega), Nat.add_sub_cancel]
    have ee : eL s (q * 4 + 1) = eL s ((q + 1) * 4 + 3) := by
      rw [eL_eq hw (by omega), eL_eq hw (by omega), if_pos (ofB_iff.mpr h.1), if_pos (ofB_iff.mpr g.1)]
      unfold edN
      rw [hb2, hb0]
      show (if owS s (q + 1) = owS s q then 0 else max _ _) = (if owS s q = owS s (q + 1) then 0 else max _ _)
      by_cases e : owS s q = owS s (q + 1)
      · rw [if_pos e, if_pos e.symm]
      · rw [if_neg e, if_neg (fun x => e x.symm), Nat.max_comm]
    rw [hb2, hb0, ofB_iff.mpr h.1, ofB_iff.mpr g.1, ee]
    rfl
  · have l : (ofB s q && (bsS s q 1).isSome) = false := by
      by_cases ho : isOf s q
      · have hb2 : bsS s q 1 = none := by unfold bsS; rw [if_neg (by omega), if_pos rfl, if_neg (fun x => h ⟨ho, x⟩)]
        rw [hb2]
        exact Bool.and_false _
      · rw [ofB_not ho]
        rfl
    have r : (ofB s (q + 1) && (bsS s (q + 1) 3).isSome) = false := by
      by_cases ho : isOf s (q + 1)
      · have hb0 : bsS s (q + 1) 3 = none := by
          unfold bsS
          rw [if_neg (by omega), if_neg (by omega), if_neg (by omega)]
          by_cases h0 : 0 < (q + 1) % 5
          · have e1 : (q + 1) / 25 = q / 25 := by omega
            have o1 := ho.1
            have o2 := ho.2.1
            have o3 := ho.2.2
            rw [e1] at o1 o2 o3
            exact absurd ⟨⟨o1, by omega, by omega⟩, by omega⟩ h
          · rw [if_neg h0]
        rw [hb0]
        exact Bool.and_false _
      · rw [ofB_not ho]
        rfl
    rw [l, r]
    rfl
theorem edI_sum {s : Sv} (hw : WF s) : smN (edI s 2) 0 125 = smN (edI s 0) 0 125 ∧ smN (edI s 1) 0 125 = smN (edI s 3) 0 125 := by
  have t5 := hw.1.2.2
  have out : ∀ i q, 125 ≤ q → edI s i q = 0 := fun i q h => by
    unfold edI
    rw [ofB_not (fun g => by have := g.1; omega)]
    rfl
  constructor
  · rw [show smN (edI s 2) 0 125 = smN (fun q => edI s 0 (q + 5)) 0 125 from smN_congr (fun q _ _ => edI_02 hw q), smN_shift]
    have a1 := smN_split (g := edI s 0) (lo := 0) (m := 5) (by omega) (hi := 130) (by omega)
    have a2 := smN_split (g := edI s 0) (lo := 0) (m := 125) (by omega) (hi := 130) (by omega)
    have a3 := smN_zero (g := edI s 0) (lo := 0) (hi := 5) (fun j _ h => by
      have hb : bsS s j 0 = none := by unfold bsS; rw [if_pos rfl, if_neg (by omega)]
      unfold edI
      rw [hb]
      show (if (ofB s j && false && _) = true then 1 else 0) = 0
      rw [Bool.and_false, Bool.false_and]
      rfl)
    have a4 := smN_zero (g := edI s 0) (lo := 125) (hi := 130) (fun j h _ => out 0 j h)
    show smN (edI s 0) 5 130 = _
    omega
  · rw [show smN (edI s 1) 0 125 = smN (fun q => edI s 3 (q + 1)) 0 125 from smN_congr (fun q _ _ => edI_31 hw q), smN_shift]
    have a1 := smN_split (g := edI s 3) (lo := 0) (m := 1) (by omega) (hi := 126) (by omega)
    have a2 := smN_split (g := edI s 3) (lo := 0) (m := 125) (by omega) (hi := 126) (by omega)
    have a3 := smN_zero (g := edI s 3) (lo := 0) (hi := 1) (fun j _ h => by
      have hb : bsS s j 3 = none := by unfold bsS; rw [if_neg (by omega), if_neg (by omega), if_neg (by omega), if_neg (by omega)]
      unfold edI
      rw [hb]
      show (if (ofB s j && false && _) = true then 1 else 0) = 0
      rw [Bool.and_false, Bool.false_and]
      rfl)
    have a4 := smN_zero (g := edI s 3) (lo := 125) (hi := 126) (fun j h _ => out 3 j h)
    show smN (edI s 3) 1 126 = _
    omega
theorem ed_bool (o n e : Bool) : (if (o && (true || n) && e) = true then 1 else 0) = (if (o && n && e) = true then 1 else 0) + (if (o && !n && e) = true then 1 else 0) := by
  cases o <;> cases n <;> cases e <;> rfl
theorem isSome_not {q : Option Nat} : q.isSome = !q.isNone := by cases q <;> rfl
theorem edges_eq {s : Sv} (hw : WF s) : smN (edgR s) 0 500 = edgesS s (eL s) := by
  have hI := edI_sum hw
  have both : ∀ i q, i < 4 → (if (ofB s q && (true || (bsS s q i).isNone) && decide (0 < eL s (q * 4 + i))) = true then 1 else 0) = edB s i q + edI s i q := fun i q _ => by
    unfold edB edI
    rw [isSome_not]
    exact ed_bool _ _ _
  have hC : ∀ q, edgC s (eL s) (q * 4) + edgC s (eL s) (q * 4 + 1) + edgC s (eL s) (q * 4 + 2) + edgC s (eL s) (q * 4 + 3) = (edB s 0 q + edI s 0 q) + edB s 1 q + edB s 2 q + (edB s 3 q + edI s 3 q) := fun q => by
    have e0 : edgC s (eL s) (q * 4) = edB s 0 q + edI s 0 q := by
      rw [← both 0 q (by omega)]
      unfold edgC
      rw [show q * 4 / 4 = q by omega, show q * 4 % 4 = 0 by omega]
      rfl
    have e3 : edgC s (eL s) (q * 4 + 3) = edB s 3 q + edI s 3 q := by
      rw [← both 3 q (by omega)]
      unfold edgC
      rw [show (q * 4 + 3) / 4 = q by omega, show (q * 4 + 3) % 4 = 3 by omega]
      rfl
    have e1 : edgC s (eL s) (q * 4 + 1) = edB s 1 q := by
      unfold edgC edB
      rw [show (q * 4 + 1) / 4 = q by omega, show (q * 4 + 1) % 4 = 1 by omega]
      rfl
    have e2 : edgC s (eL s) (q * 4 + 2) = edB s 2 q := by
      unfold edgC edB
      rw [show (q * 4 + 2) / 4 = q by omega, show (q * 4 + 2) % 4 = 2 by omega]
      rfl
    rw [e0, e1, e2, e3]
  have hR : ∀ q, edgR s (q * 4) + edgR s (q * 4 + 1) + edgR s (q * 4 + 2) + edgR s (q * 4 + 3) = edB s 0 q + (edB s 1 q + edI s 1 q) + (edB s 2 q + edI s 2 q) + edB s 3 q := fun q => by
    have e1 : edgR s (q * 4 + 1) = edB s 1 q + edI s 1 q := by
      rw [← both 1 q (by omega)]
      unfold edgR
      rw [show (q * 4 + 1) / 4 = q by omega, show (q * 4 + 1) % 4 = 1 by omega]
      rfl
    have e2 : edgR s (q * 4 + 2) = edB s 2 q + edI s 2 q := by
      rw [← both 2 q (by omega)]
      unfold edgR
      rw [show (q * 4 + 2) / 4 = q by omega, show (q * 4 + 2) % 4 = 2 by omega]
      rfl
    have e0 : edgR s (q * 4) = edB s 0 q := by
      unfold edgR edB
      rw [show q * 4 / 4 = q by omega, show q * 4 % 4 = 0 by omega]
      rfl
    have e3 : edgR s (q * 4 + 3) = edB s 3 q := by
      unfold edgR edB
      rw [show (q * 4 + 3) / 4 = q by omega, show (q * 4 + 3) % 4 = 3 by omega]
      rfl
    rw [e0, e1, e2, e3]
  unfold edgesS
  rw [show 500 = 4 * 125 from rfl, smN_4, smN_4, smN_congr (fun q _ _ => hC q), smN_congr (fun q _ _ => hR q)]
  simp only [smN_add]
  omega
theorem r_edges {s : Sv} {σ : Mm} (hw : WF s) (hv : Vw 169 s σ) (hM : ∀ t, t < tbS s → MR s σ t) : F_X6_edges σ = some (.inl (iN (edgesS s (eL s))), σ) := by
  rw [← edges_eq hw]
  refine lp (fun n k (x : Int32) => L_X6_edges_4 n x (iN k) σ) (fun k => iN (smN (edgR s) 0 k)) (i0 := 0) (N := 500) (by omega) (by unfold FU; omega) ?_ ?_
  · intro n k hk1 hk2
    obtain ⟨q, hq⟩ : ∃ q, q = k / 4 := ⟨_, rfl⟩
    obtain ⟨i, hi⟩ : ∃ i, i = k % 4 := ⟨_, rfl⟩
    have hi4 : i < 4 := by omega
    have fo := r_isOf hw hv (show q < 125 by omega)
    simp only [L_X6_edges_4]
    rw [smN_s hk1]
    have eg : edgR s k = if (ofB s q && (decide (i = 1 ∨ i = 2) || (bsS s q i).isNone) && decide (0 < eL s (q * 4 + i))) = true then 1 else 0 := by
      unfold edgR
      rw [← hq, ← hi, show k = q * 4 + i by omega]
    by_cases ho : isOf s q
    · rw [if_pos (ofB_iff.mpr ho)] at fo
      have fe := r_edgeOf hw hv ho hi4 (fun q' i' h1 h2 h3 => (hM _ h2.1).2.2.2.2.2.2.1 q' i' rfl h2 h3)
      have b3 := eL_le3 hw (q * 4 + i)
      have fb := r_beside hw hv ho hi4
      rw [ofB_iff.mpr ho, Bool.true_and] at eg
      by_cases hz : 0 < eL s (q * 4 + i)
      · rw [decide_eq_true hz, Bool.and_true] at eg
        by_cases h12 : i = 1 ∨ i = 2
        · rw [decide_eq_true h12, Bool.true_or, if_pos rfl] at eg
          rw [eg]
          rcases h12 with h | h
          · rw [h] at fe b3 hz hi
            simp (disch := omega) only [↓ite_ap, if_true, if_false, if_pos, if_neg, retM_ap, retZ_ap0, retZ_ap1, gM_ap, sM_ap, jM_ap, bI_ap, bL_ap, bD_ap, rdM_ap, wrM_ap, thrM_ap, nl_0, nl_1, nl_2, nl_3, nl_4, nl_5, nl_6, nl_7, nl_8, nl_9, nl_10, nl_11, nl_12, nl_13, nl_25, nl_33, nl_35, nl_45, nl_48, nl_49, nl_50, nl_52, nl_53, nl_57, nl_59, nl_60, nl_61, nl_77, nl_94, nl_97, nl_100, nl_101, nl_119, nl_125, nl_126, nl_137, nl_262, nl_387, nl_500, nl_512, nl_637, nl_999, nl_1022, nl_1137, nl_5685, nm_1b, iN_mI, mI_iN, iN_add, iN_mul, iN_sub, iN_div, iN_rem, iN_lt, iN_le, iN_eq, iN_nat, inB_iN, ← hq, ← hi, ↓invM_l fo, ↓invM_l fe]
          · rw [h] at fe b3 hz hi
            simp (disch := omega) only [↓ite_ap, if_true, if_false, if_pos, if_neg, retM_ap, retZ_ap0, retZ_ap1, gM_ap, sM_ap, jM_ap, bI_ap, bL_ap, bD_ap, rdM_ap, wrM_ap, thrM_ap, nl_0, nl_1, nl_2, nl_3, nl_4, nl_5, nl_6, nl_7, nl_8, nl_9, nl_10, nl_11, nl_12, nl_13, nl_25, nl_33, nl_35, nl_45, nl_48, nl_49, nl_50, nl_52, nl_53, nl_57, nl_59, nl_60, nl_61, nl_77, nl_94, nl_97, nl_100, nl_101, nl_119, nl_125, nl_126, nl_137, nl_262, nl_387, nl_500, nl_512, nl_637, nl_999, nl_1022, nl_1137, nl_5685, nm_1b, iN_mI, mI_iN, iN_add, iN_mul, iN_sub, iN_div, iN_rem, iN_lt, iN_le, iN_eq, iN_nat, inB_iN, ← hq, ← hi, ↓invM_l fo, ↓invM_l fe]
        · rw [decide_eq_false h12, Bool.false_or] at eg
          cases e : bsS s q i with
          | none =>
            rw [e] at fb eg
            have fb : F_X6_beside 169 1137 (iN q) (iN i) σ = some (.inl mI, σ) := fb
            have eg : edgR s k = 1 := eg
            rw [eg]
            simp (disch := omega) only [↓ite_ap, if_true, if_false, if_pos, if_neg, retM_ap, retZ_ap0, retZ_ap1, gM_ap, sM_ap, jM_ap, bI_ap, bL_ap, bD_ap, rdM_ap, wrM_ap, thrM_ap, nl_0, nl_1, nl_2, nl_3, nl_4, nl_5, nl_6, nl_7, nl_8, nl_9, nl_10, nl_11, nl_12, nl_13, nl_25, nl_33, nl_35, nl_45, nl_48, nl_49, nl_50, nl_52, nl_53, nl_57, nl_59, nl_60, nl_61, nl_77, nl_94, nl_97, nl_100, nl_101, nl_119, nl_125, nl_126, nl_137, nl_262, nl_387, nl_500, nl_512, nl_637, nl_999, nl_1022, nl_1137, nl_5685, nm_1b, iN_mI, mI_iN, iN_add, iN_mul, iN_sub, iN_div, iN_rem, iN_lt, iN_le, iN_eq, iN_nat, inB_iN, ← hq, ← hi, ↓invM_l fo, ↓invM_l fb, ↓invM_l fe]
          | some q' =>
            rw [e] at fb eg
            have fb : F_X6_beside 169 1137 (iN q) (iN i) σ = some (.inl (iN q'), σ) := fb
            have eg : edgR s k = 0 := eg
            have l3 := isOf_lt hw (bsS_of hw ho e).1
            rw [eg]
            simp (disch := omega) only [↓ite_ap, if_true, if_false, if_pos, if_neg, retM_ap, retZ_ap0, retZ_ap1, gM_ap, sM_ap, jM_ap, bI_ap, bL_ap, bD_ap, rdM_ap, wrM_ap, thrM_ap, nl_0, nl_1, nl_2, nl_3, nl_4, nl_5, nl_6, nl_7, nl_8, nl_9, nl_10, nl_11, nl_12, nl_13, nl_25, nl_33, nl_35, nl_45, nl_48, nl_49, nl_50, nl_52, nl_53, nl_57, nl_59, nl_60, nl_61, nl_77, nl_94, nl_97, nl_100, nl_101, nl_119, nl_125, nl_126, nl_137, nl_262, nl_387, nl_500, nl_512, nl_637, nl_999, nl_1022, nl_1137, nl_5685, nm_1b, iN_mI, mI_iN, iN_add, iN_mul, iN_sub, iN_div, iN_rem, iN_lt, iN_le, iN_eq, iN_nat, inB_iN, ← hq, ← hi, ↓invM_l fo, ↓invM_l fb]
      · rw [decide_eq_false hz, Bool.and_false] at eg
        have eg : edgR s k = 0 := eg
        have hz0 : eL s (q * 4 + i) = 0 := by omega
        rw [hz0] at fe
        rw [eg]
        by_cases h12 : i = 1 ∨ i = 2
        · rcases h12 with h | h
          · rw [h] at fe hi
            simp (disch := omega) only [↓ite_ap, if_true, if_false, if_pos, if_neg, retM_ap, retZ_ap0, retZ_ap1, gM_ap, sM_ap, jM_ap, bI_ap, bL_ap, bD_ap, rdM_ap, wrM_ap, thrM_ap, nl_0, nl_1, nl_2, nl_3, nl_4, nl_5, nl_6, nl_7, nl_8, nl_9, nl_10, nl_11, nl_12, nl_13, nl_25, nl_33, nl_35, nl_45, nl_48, nl_49, nl_50, nl_52, nl_53, nl_57, nl_59, nl_60, nl_61, nl_77, nl_94, nl_97, nl_100, nl_101, nl_119, nl_125, nl_126, nl_137, nl_262, nl_387, nl_500, nl_512, nl_637, nl_999, nl_1022, nl_1137, nl_5685, nm_1b, iN_mI, mI_iN, iN_add, iN_mul, iN_sub, iN_div, iN_rem, iN_lt, iN_le, iN_eq, iN_nat, inB_iN, ← hq, ← hi, ↓invM_l fo, ↓invM_l fe]
          · rw [h] at fe hi
            simp (disch := omega) only [↓ite_ap, if_true, if_false, if_pos, if_neg, retM_ap, retZ_ap0, retZ_ap1, gM_ap, sM_ap, jM_ap, bI_ap, bL_ap, bD_ap, rdM_ap, wrM_ap, thrM_ap, nl_0, nl_1, nl_2, nl_3, nl_4, nl_5, nl_6, nl_7, nl_8, nl_9, nl_10, nl_11, nl_12, nl_13, nl_25, nl_33, nl_35, nl_45, nl_48, nl_49, nl_50, nl_52, nl_53, nl_57, nl_59, nl_60, nl_61, nl_77, nl_94, nl_97, nl_100, nl_101, nl_119, nl_125, nl_126, nl_137, nl_262, nl_387, nl_500, nl_512, nl_637, nl_999, nl_1022, nl_1137, nl_5685, nm_1b, iN_mI, mI_iN, iN_add, iN_mul, iN_sub, iN_div, iN_rem, iN_lt, iN_le, iN_eq, iN_nat, inB_iN, ← hq, ← hi, ↓invM_l fo, ↓invM_l fe]
        · cases e : bsS s q i with
          | none =>
            rw [e] at fb
            have fb : F_X6_beside 169 1137 (iN q) (iN i) σ = some (.inl mI, σ) := fb
            simp (disch := omega) only [↓ite_ap, if_true, if_false, if_pos, if_neg, retM_ap, retZ_ap0, retZ_ap1, gM_ap, sM_ap, jM_ap, bI_ap, bL_ap, bD_ap, rdM_ap, wrM_ap, thrM_ap, nl_0, nl_1, nl_2, nl_3, nl_4, nl_5, nl_6, nl_7, nl_8, nl_9, nl_10, nl_11, nl_12, nl_13, nl_25, nl_33, nl_35, nl_45, nl_48, nl_49, nl_50, nl_52, nl_53, nl_57, nl_59, nl_60, nl_61, nl_77, nl_94, nl_97, nl_100, nl_101, nl_119, nl_125, nl_126, nl_137, nl_262, nl_387, nl_500, nl_512, nl_637, nl_999, nl_1022, nl_1137, nl_5685, nm_1b, iN_mI, mI_iN, iN_add, iN_mul, iN_sub, iN_div, iN_rem, iN_lt, iN_le, iN_eq, iN_nat, inB_iN, ← hq, ← hi, ↓invM_l fo, ↓invM_l fb, ↓invM_l fe]
          | some q' =>
            rw [e] at fb
            have fb : F_X6_beside 169 1137 (iN q) (iN i) σ = some (.inl (iN q'), σ) := fb
            have l3 := isOf_lt hw (bsS_of hw ho e).1
            simp (disch := omega) only [↓ite_ap, if_true, if_false, if_pos, if_neg, retM_ap, retZ_ap0, retZ_ap1, gM_ap, sM_ap, jM_ap, bI_ap, bL_ap, bD_ap, rdM_ap, wrM_ap, thrM_ap, nl_0, nl_1, nl_2, nl_3, nl_4, nl_5, nl_6, nl_7, nl_8, nl_9, nl_10, nl_11, nl_12, nl_13, nl_25, nl_33, nl_35, nl_45, nl_48, nl_49, nl_50, nl_52, nl_53, nl_57, nl_59, nl_60, nl_61, nl_77, nl_94, nl_97, nl_100, nl_101, nl_119, nl_125, nl_126, nl_137, nl_262, nl_387, nl_500, nl_512, nl_637, nl_999, nl_1022, nl_1137, nl_5685, nm_1b, iN_mI, mI_iN, iN_add, iN_mul, iN_sub, iN_div, iN_rem, iN_lt, iN_le, iN_eq, iN_nat, inB_iN, ← hq, ← hi, ↓invM_l fo, ↓invM_l fb]
    · rw [if_neg (fun g => ho (ofB_iff.mp g))] at fo
      rw [ofB_not ho, Bool.false_and] at eg
      have eg : edgR s k = 0 := eg
      rw [eg]
      simp (disch := omega) only [↓ite_ap, if_true, if_false, if_pos, if_neg, retM_ap, retZ_ap0, retZ_ap1, gM_ap, sM_ap, jM_ap, bI_ap, bL_ap, bD_ap, rdM_ap, wrM_ap, thrM_ap, nl_0, nl_1, nl_2, nl_3, nl_4, nl_5, nl_6, nl_7, nl_8, nl_9, nl_10, nl_11, nl_12, nl_13, nl_25, nl_33, nl_35, nl_45, nl_48, nl_49, nl_50, nl_52, nl_53, nl_57, nl_59, nl_60, nl_61, nl_77, nl_94, nl_97, nl_100, nl_101, nl_119, nl_125, nl_126, nl_137, nl_262, nl_387, nl_500, nl_512, nl_637, nl_999, nl_1022, nl_1137, nl_5685, nm_1b, iN_mI, mI_iN, iN_add, iN_mul, iN_sub, iN_div, iN_rem, iN_lt, iN_le, iN_eq, iN_nat, inB_iN, ← hq, ← hi, ↓invM_l fo]
  · intro n
    simp only [L_X6_edges_4]
    simp (disch := omega) only [↓ite_ap, if_true, if_false, if_pos, if_neg, retM_ap, retZ_ap0, retZ_ap1, gM_ap, sM_ap, jM_ap, bI_ap, bL_ap, bD_ap, rdM_ap, wrM_ap, thrM_ap, nl_0, nl_1, nl_2, nl_3, nl_4, nl_5, nl_6, nl_7, nl_8, nl_9, nl_10, nl_11, nl_12, nl_13, nl_25, nl_33, nl_35, nl_45, nl_48, nl_49, nl_50, nl_52, nl_53, nl_57, nl_59, nl_60, nl_61, nl_77, nl_94, nl_97, nl_100, nl_101, nl_119, nl_125, nl_126, nl_137, nl_262, nl_387, nl_500, nl_512, nl_637, nl_999, nl_1022, nl_1137, nl_5685, nm_1b, iN_mI, mI_iN, iN_add, iN_mul, iN_sub, iN_div, iN_rem, iN_lt, iN_le, iN_eq, iN_nat, inB_iN]
