/-! SIZE, PAGE, SHARE -/
theorem f_page {r : Nat} {s : Sv} {σ : Mm} (h : CO s σ) (hr5 : r < roS s 0) : F_X5_page (iN r) σ = some (.inl (iN (pgS s (szL s 0 1) (nv (s 1)) (r + 1)).1), σ) := by
  obtain ⟨hw, hr, hL⟩ := h
  have t1 := hw.1.2.1
  have a1 := hw.2.2.1 0 (by omega)
  obtain ⟨hh, eh, hh1, hh2⟩ := hw.2.1
  have e1 : σ 2 0 = iN hh := hr.2.1.trans eh
  have hz := CO.z ⟨hw, hr, hL⟩
  have f1 := f_pageOf (b := 1) (h := hh) hw hr hr5 (by omega) hz.1 hz.2
  have l1 := rel_lines hr (hw := hw) (t := 0) (w := 1) (by omega) (by omega)
  have l1' : σ 4 1 = iN (roS s 0) := l1.1
  rw [eh, nv_iN (by omega)]
  unfold F_X5_page
  simp (disch := omega) only [↓ite_ap, if_true, if_false, if_pos, if_neg, retM_ap, retZ_ap0, retZ_ap1, gM_ap, sM_ap, jM_ap, bI_ap, bL_ap, bD_ap, rdM_ap, wrM_ap, thrM_ap, nl_0, nl_1, nl_2, nl_3, nl_4, nl_5, nl_6, nl_7, nl_8, nl_9, nl_10, nl_11, nl_12, nl_13, nl_25, nl_33, nl_35, nl_45, nl_48, nl_49, nl_50, nl_52, nl_53, nl_57, nl_59, nl_60, nl_61, nl_77, nl_94, nl_97, nl_100, nl_101, nl_119, nl_125, nl_126, nl_137, nl_262, nl_387, nl_500, nl_512, nl_637, nl_999, nl_1022, nl_1137, nl_5685, nm_1b, iN_mI, mI_iN, iN_add, iN_mul, iN_sub, iN_div, iN_rem, iN_lt, iN_le, iN_eq, iN_nat, inB_iN, ↓b_at, ↓b_store, ↓b_place1, ↓b_place0, ↓b_tableOf, ↓b_sqEnd, ↓b_isCell, ↓b_linesOf, ↓b_spanOf, ↓b_isSum, ↓b_sizePlace, ↓b_isBetween, ↓b_sizeOf, ↓b_sizeTogether, Bool.false_eq_true, not_true_eq_false, not_false_eq_true, Nat.reduceAdd, Nat.reduceMul, l1', e1, ↓invM_l f1]
/-! the share -/
theorem smN_pos {p : Nat → Bool} {x : Nat} (hp : p x = true) : ∀ {hi : Nat}, x < hi → 1 ≤ smN (fun q => if p q = true then 1 else 0) 0 hi
  | 0, h => by omega
  | n + 1, h => by
    rw [smN_s (Nat.zero_le _)]
    by_cases e : x = n
    · subst e
      rw [if_pos hp]
      omega
    · have := smN_pos hp (hi := n) (by omega)
      omega
theorem smN_mono {g g' : Nat → Nat} (h : ∀ q, g q ≤ g' q) : ∀ hi, smN g 0 hi ≤ smN g' 0 hi
  | 0 => Nat.le_refl _
  | n + 1 => by
    rw [smN_s (Nat.zero_le _), smN_s (Nat.zero_le _)]
    exact Nat.add_le_add (smN_mono h n) (h n)
theorem cells_1 {s : Sv} (hw : WF s) : 1 ≤ cellsS s := by
  have t1 := hw.1.2.1
  have w0 := hw.2.2.1 0 (by omega)
  have ho : isOf s 0 := ⟨(show 0 < tbS s by omega), (show 0 < roS s 0 by omega), (show 0 < coS s 0 by omega)⟩
  have hc := (hw.2.2.2.1 0 ho).2.1
  exact smN_pos (p := clB s) (clB_iff.mpr hc) (isOf_lt hw hc.1)
theorem cells_125 {s : Sv} : cellsS s ≤ 125 := Nat.le_trans (smN_le1 (p := clB s) (lo := 0) 125) (Nat.sub_le _ _)
theorem kinds_le {s : Sv} : kindsS s 0 ≤ cellsS s := smN_mono (fun q => by
  cases e1 : clB s q
  · rw [Bool.false_and]
    exact Nat.le_refl _
  · by_cases e2 : kiS s q = 0
    · rw [decide_eq_true e2]
      exact Nat.le_refl _
    · rw [decide_eq_false e2]
      exact Nat.zero_le _) 125
theorem cells_b {s : Sv} (hw : WF s) : 1 ≤ cellsS s ∧ cellsS s ≤ 125 ∧ kindsS s 0 ≤ cellsS s := ⟨cells_1 hw, cells_125, kinds_le⟩
def shr (s : Sv) : UInt64 := fpV (cellsS s - kindsS s 0) (cellsS s)
theorem f_filledShare {s : Sv} {σ : Mm} (hw : WF s) (hr : Rel 2 s σ) : F_X5_filledShare σ = some (.inl (shr s), σ) := by
  have hb := cells_b hw
  have f1 := f_countCells hw hr
  have f2 := f_countKind hw hr (show 0 < 1000 by omega)
  have hn := (fp_nf hb.1 hb.2.1 (Nat.sub_le (cellsS s) (kindsS s 0))).1
  unfold F_X5_filledShare
  simp (disch := omega) only [↓ite_ap, if_true, if_false, if_pos, if_neg, retM_ap, retZ_ap0, retZ_ap1, gM_ap, sM_ap, jM_ap, bI_ap, bL_ap, bD_ap, rdM_ap, wrM_ap, thrM_ap, nl_0, nl_1, nl_2, nl_3, nl_4, nl_5, nl_6, nl_7, nl_8, nl_9, nl_10, nl_11, nl_12, nl_13, nl_25, nl_33, nl_35, nl_45, nl_48, nl_49, nl_50, nl_52, nl_53, nl_57, nl_59, nl_60, nl_61, nl_77, nl_94, nl_97, nl_100, nl_101, nl_119, nl_125, nl_126, nl_137, nl_262, nl_387, nl_500, nl_512, nl_637, nl_999, nl_1022, nl_1137, nl_5685, nm_1b, iN_mI, mI_iN, iN_add, iN_mul, iN_sub, iN_div, iN_rem, iN_lt, iN_le, iN_eq, iN_nat, inB_iN, ↓invM_l f1, ↓invM_l f2]
  exact nfM_t hn
