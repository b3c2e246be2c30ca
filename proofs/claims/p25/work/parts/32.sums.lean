/-! WHICH CELLS A SUM COUNTS -/
def clB (s : Sv) (q : Nat) : Bool := decide (q / 25 < tbS s) && decide (q % 25 / 5 < roS s (q / 25)) && decide (q % 5 < coS s (q / 25)) && decide (owS s q = q)
theorem clB_iff {s : Sv} {q : Nat} : clB s q = true ↔ isCl s q := by
  unfold clB isCl isOf
  simp only [Bool.and_eq_true, decide_eq_true_eq, and_assoc]
def meB (s : Sv) (k a c : Nat) : Bool := if k = 4 then decide (a % 5 < c % 5 + brS s c) && decide (c % 5 < a % 5 + brS s a) else decide (a % 25 / 5 < c % 25 / 5 + hiS s c) && decide (c % 25 / 5 < a % 25 / 5 + hiS s a)
/-- whether a sum of kind k that starts at st counts a cell -/
def ctB (s : Sv) (k st sum q : Nat) : Bool := decide (k = 6) || (decide (st ≤ alS k q) && decide (alS k q < alS k sum) && meB s k q sum)
/-- where a sum starts -/
def frS (s : Sv) (sum : Nat) : Nat := mxN (fun q => if (clB s q && decide (kiS s q = kiS s sum) && ctB s (kiS s sum) 0 sum q) = true then alS (kiS s sum) q else 0) (sum / 25 * 25) ((sum / 25 + 1) * 25)
def cnB (s : Sv) (sum q : Nat) : Bool := ctB s (kiS s sum) (frS s sum) sum q
theorem f_isCounted {b sum q st : Nat} {s : Sv} {σ : Mm} (hw : WF s) (hr : Rel (b + 1) s σ) (hs : isCl s sum) (hq : isCl s q) (hk : 4 ≤ kiS s sum) (hst : σ (b + 21) sum = iN st) (h5 : st < 5) : F_X1_isCounted b (iN sum) (iN q) σ = some (.inl (if ctB s (kiS s sum) st sum q = true then iN 1 else iN 0), σ) := by
  have l1 := isOf_lt hw hs.1
  have l2 := isOf_lt hw hq.1
  have r1 := hr.2.2.2.2.1 sum hs.1
  have r2 := hr.2.2.2.2.1 q hq.1
  have w1 := hw.2.2.2.2.1 sum hs
  have w2 := hw.2.2.2.2.1 q hq
  have w3 := hw.2.2.2.2.2.1 sum hs.1
  have k1 : σ (b + 1 + 8) sum = iN (kiS s sum) := r1.2.1.trans w3.1
  have k2 : σ (b + 1 + 12) (2 * sum + 1) = iN (hiS s sum) := r1.2.2.2.1.trans w1.1
  have k3 : σ (b + 1 + 12) (2 * sum) = iN (brS s sum) := r1.2.2.2.2.1.trans w1.2.1
  have k4 : σ (b + 1 + 12) (2 * q + 1) = iN (hiS s q) := r2.2.2.2.1.trans w2.1
  have k5 : σ (b + 1 + 12) (2 * q) = iN (brS s q) := r2.2.2.2.2.1.trans w2.2.1
  have t5 : hiS s sum ≤ 5 ∧ brS s sum ≤ 5 ∧ hiS s q ≤ 5 ∧ brS s q ≤ 5 := by
    have a1 := hw.2.2.1 (sum / 25) hs.1.1
    have a2 := hw.2.2.1 (q / 25) hq.1.1
    omega
  unfold F_X1_isCounted ctB alS meB
  simp (disch := omega) only [↓ite_ap, if_true, if_false, if_pos, if_neg, retM_ap, retZ_ap0, retZ_ap1, gM_ap, sM_ap, jM_ap, bI_ap, bL_ap, bD_ap, rdM_ap, wrM_ap, thrM_ap, nl_0, nl_1, nl_2, nl_3, nl_4, nl_5, nl_6, nl_7, nl_8, nl_9, nl_10, nl_11, nl_12, nl_13, nl_25, nl_33, nl_35, nl_45, nl_48, nl_49, nl_50, nl_52, nl_53, nl_57, nl_59, nl_60, nl_61, nl_77, nl_94, nl_97, nl_100, nl_101, nl_119, nl_125, nl_126, nl_137, nl_262, nl_387, nl_500, nl_512, nl_637, nl_999, nl_1022, nl_1137, nl_5685, nm_1b, iN_mI, mI_iN, iN_add, iN_mul, iN_sub, iN_div, iN_rem, iN_lt, iN_le, iN_eq, iN_nat, inB_iN, ↓b_at, ↓b_store, ↓b_place1, ↓b_place0, ↓b_tableOf, ↓b_sqEnd, ↓b_isCell, ↓b_linesOf, ↓b_spanOf, ↓b_isSum, ↓b_sizePlace, ↓b_isBetween, ↓b_sizeOf, ↓b_sizeTogether, Bool.false_eq_true, not_true_eq_false, not_false_eq_true, Nat.add_assoc, Nat.reduceAdd] at k1 k2 k3 k4 k5 ⊢
  have hk6 : kiS s sum = 6 ∨ kiS s sum = 4 ∨ kiS s sum = 5 := by omega
  rcases hk6 with h | h | h
  · simp (disch := omega) only [k1, h, ↓ite_ap, if_true, if_false, if_pos, if_neg, retM_ap, retZ_ap0, retZ_ap1, gM_ap, sM_ap, jM_ap, bI_ap, bL_ap, bD_ap, rdM_ap, wrM_ap, thrM_ap, nl_0, nl_1, nl_2, nl_3, nl_4, nl_5, nl_6, nl_7, nl_8, nl_9, nl_10, nl_11, nl_12, nl_13, nl_25, nl_33, nl_35, nl_45, nl_48, nl_49, nl_50, nl_52, nl_53, nl_57, nl_59, nl_60, nl_61, nl_77, nl_94, nl_97, nl_100, nl_101, nl_119, nl_125, nl_126, nl_137, nl_262, nl_387, nl_500, nl_512, nl_637, nl_999, nl_1022, nl_1137, nl_5685, nm_1b, iN_mI, mI_iN, iN_add, iN_mul, iN_sub, iN_div, iN_rem, iN_lt, iN_le, iN_eq, iN_nat, inB_iN, decide_true, Bool.true_or]
  · simp (disch := omega) only [k1, h, hst, ↓ite_ap, if_true, if_false, if_pos, if_neg, retM_ap, retZ_ap0, retZ_ap1, gM_ap, sM_ap, jM_ap, bI_ap, bL_ap, bD_ap, rdM_ap, wrM_ap, thrM_ap, nl_0, nl_1, nl_2, nl_3, nl_4, nl_5, nl_6, nl_7, nl_8, nl_9, nl_10, nl_11, nl_12, nl_13, nl_25, nl_33, nl_35, nl_45, nl_48, nl_49, nl_50, nl_52, nl_53, nl_57, nl_59, nl_60, nl_61, nl_77, nl_94, nl_97, nl_100, nl_101, nl_119, nl_125, nl_126, nl_137, nl_262, nl_387, nl_500, nl_512, nl_637, nl_999, nl_1022, nl_1137, nl_5685, nm_1b, iN_mI, mI_iN, iN_add, iN_mul, iN_sub, iN_div, iN_rem, iN_lt, iN_le, iN_eq, iN_nat, inB_iN, ↓b_at, ↓b_store, ↓b_place1, ↓b_place0, ↓b_tableOf, ↓b_sqEnd, ↓b_isCell, ↓b_linesOf, ↓b_spanOf, ↓b_isSum, ↓b_sizePlace, ↓b_isBetween, ↓b_sizeOf, ↓b_sizeTogether, Bool.false_eq_true, not_true_eq_false, not_false_eq_true, Nat.mul_comm _ 2, k2, k3, k4, k5, Nat.add_assoc, Nat.reduceAdd, Nat.add_zero]
    by_cases c1 : st ≤ q % 25 / 5
    · by_cases c2 : q % 25 / 5 < sum % 25 / 5
      · by_cases c3 : q % 5 < sum % 5 + brS s sum
        · by_cases c4 : sum % 5 < q % 5 + brS s q
          · simp (disch := omega) [c1, c2, c3, c4, Nat.not_lt.mpr c1, ↓ite_ap, if_true, if_false, if_pos, if_neg, retM_ap, retZ_ap0, retZ_ap1, gM_ap, sM_ap, jM_ap, bI_ap, bL_ap, bD_ap, rdM_ap, wrM_ap, thrM_ap]
          · simp (disch := omega) [c1, c2, c3, c4, Nat.not_lt.mpr c1, ↓ite_ap, if_true, if_false, if_pos, if_neg, retM_ap, retZ_ap0, retZ_ap1, gM_ap, sM_ap, jM_ap, bI_ap, bL_ap, bD_ap, rdM_ap, wrM_ap, thrM_ap]
        · simp (disch := omega) [c1, c2, c3, Nat.not_lt.mpr c1, ↓ite_ap, if_true, if_false, if_pos, if_neg, retM_ap, retZ_ap0, retZ_ap1, gM_ap, sM_ap, jM_ap, bI_ap, bL_ap, bD_ap, rdM_ap, wrM_ap, thrM_ap]
      · simp (disch := omega) [c1, c2, Nat.not_lt.mpr c1, ↓ite_ap, if_true, if_false, if_pos, if_neg, retM_ap, retZ_ap0, retZ_ap1, gM_ap, sM_ap, jM_ap, bI_ap, bL_ap, bD_ap, rdM_ap, wrM_ap, thrM_ap]
    · simp (disch := omega) [c1, Nat.not_le.mp c1, ↓ite_ap, if_true, if_false, if_pos, if_neg, retM_ap, retZ_ap0, retZ_ap1, gM_ap, sM_ap, jM_ap, bI_ap, bL_ap, bD_ap, rdM_ap, wrM_ap, thrM_ap]
  · simp (disch := omega) only [k1, h, hst, ↓ite_ap, if_true, if_false, if_pos, if_neg, retM_ap, retZ_ap0, retZ_ap1, gM_ap, sM_ap, jM_ap, bI_ap, bL_ap, bD_ap, rdM_ap, wrM_ap, thrM_ap, nl_0, nl_1, nl_2, nl_3, nl_4, nl_5, nl_6, nl_7, nl_8, nl_9, nl_10, nl_11, nl_12, nl_13, nl_25, nl_33, nl_35, nl_45, nl_48, nl_49, nl_50, nl_52, nl_53, nl_57, nl_59, nl_60, nl_61, nl_77, nl_94, nl_97, nl_100, nl_101, nl_119, nl_125, nl_126, nl_137, nl_262, nl_387, nl_500, nl_512, nl_637, nl_999, nl_1022, nl_1137, nl_5685, nm_1b, iN_mI, mI_iN, iN_add, iN_mul, iN_sub, iN_div, iN_rem, iN_lt, iN_le, iN_eq, iN_nat, inB_iN, ↓b_at, ↓b_store, ↓b_place1, ↓b_place0, ↓b_tableOf, ↓b_sqEnd, ↓b_isCell, ↓b_linesOf, ↓b_spanOf, ↓b_isSum, ↓b_sizePlace, ↓b_isBetween, ↓b_sizeOf, ↓b_sizeTogether, Bool.false_eq_true, not_true_eq_false, not_false_eq_true, Nat.mul_comm _ 2, k2, k3, k4, k5, Nat.add_assoc, Nat.reduceAdd, Nat.add_zero]
    by_cases c1 : st ≤ q % 5
    · by_cases c2 : q % 5 < sum % 5
      · by_cases c3 : q % 25 / 5 < sum % 25 / 5 + hiS s sum
        · by_cases c4 : sum % 25 / 5 < q % 25 / 5 + hiS s q
          · simp (disch := omega) [c1, c2, c3, c4, Nat.not_lt.mpr c1, ↓ite_ap, if_true, if_false, if_pos, if_neg, retM_ap, retZ_ap0, retZ_ap1, gM_ap, sM_ap, jM_ap, bI_ap, bL_ap, bD_ap, rdM_ap, wrM_ap, thrM_ap]
          · simp (disch := omega) [c1, c2, c3, c4, Nat.not_lt.mpr c1, ↓ite_ap, if_true, if_false, if_pos, if_neg, retM_ap, retZ_ap0, retZ_ap1, gM_ap, sM_ap, jM_ap, bI_ap, bL_ap, bD_ap, rdM_ap, wrM_ap, thrM_ap]
        · simp (disch := omega) [c1, c2, c3, Nat.not_lt.mpr c1, ↓ite_ap, if_true, if_false, if_pos, if_neg, retM_ap, retZ_ap0, retZ_ap1, gM_ap, sM_ap, jM_ap, bI_ap, bL_ap, bD_ap, rdM_ap, wrM_ap, thrM_ap]
      · simp (disch := omega) [c1, c2, Nat.not_lt.mpr c1, ↓ite_ap, if_true, if_false, if_pos, if_neg, retM_ap, retZ_ap0, retZ_ap1, gM_ap, sM_ap, jM_ap, bI_ap, bL_ap, bD_ap, rdM_ap, wrM_ap, thrM_ap]
    · simp (disch := omega) [c1, Nat.not_le.mp c1, ↓ite_ap, if_true, if_false, if_pos, if_neg, retM_ap, retZ_ap0, retZ_ap1, gM_ap, sM_ap, jM_ap, bI_ap, bL_ap, bD_ap, rdM_ap, wrM_ap, thrM_ap]

