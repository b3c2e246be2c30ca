/-! SPAN: MAY IT; THE REFERENCE'S LOOPS -/
def bad (s : Sv) (q z : Nat) : Bool := !(decide (owS s z = q) || (decide (kiS s (owS s z) = 0) && decide (hiS s (owS s z) = 1) && decide (brS s (owS s z) = 1)))
theorem bad_no {s : Sv} {q z : Nat} : bad s q z = false ↔ owS s z = q ∨ (kiS s (owS s z) = 0 ∧ hiS s (owS s z) = 1 ∧ brS s (owS s z) = 1) := by
  unfold bad
  rw [Bool.not_eq_false', Bool.or_eq_true, Bool.and_eq_true, Bool.and_eq_true, decide_eq_true_eq, decide_eq_true_eq, decide_eq_true_eq, decide_eq_true_eq, and_assoc]
def rowB (s : Sv) (q br r : Nat) : Bool := anB (fun c => bad s q (q + r * 5 + c)) br
def cvC (s : Sv) (q hi br : Nat) : Bool := anB (rowB s q br) hi
def cvR (s : Sv) (q hi br : Nat) : Bool := anB (fun k => bad s q (q + 5 * (k / br) + k % br)) (hi * br)
theorem anB_no {p : Nat → Bool} {N : Nat} : anB p N = false ↔ ∀ i, i < N → p i = false := by
  constructor
  · intro h i hi
    cases e : p i
    · rfl
    · rw [anB_iff.mpr ⟨i, hi, e⟩] at h
      cases h
  · intro h
    cases e : anB p N
    · rfl
    · obtain ⟨i, h1, h2⟩ := anB_iff.mp e
      rw [h i h1] at h2
      cases h2
theorem cvC_iff {s : Sv} {q hi br : Nat} (h5 : q % 25 / 5 + hi ≤ 5) (h6 : q % 5 + br ≤ 5) : cvC s q hi br = false ↔ cvO s q hi br := by
  unfold cvC cvO
  rw [anB_no]
  constructor
  · intro h z hz
    have h1 := anB_no.mp (h (z % 25 / 5 - q % 25 / 5) (by omega)) (z % 5 - q % 5) (by omega)
    have e : q + (z % 25 / 5 - q % 25 / 5) * 5 + (z % 5 - q % 5) = z := by omega
    have h1 : bad s q (q + (z % 25 / 5 - q % 25 / 5) * 5 + (z % 5 - q % 5)) = false := h1
    rw [e] at h1
    exact bad_no.mp h1
  · intro h r hr
    exact anB_no.mpr (fun c hc => bad_no.mpr (h _ (by unfold inN; omega)))
theorem cvR_iff {s : Sv} {q hi br : Nat} (hb : 1 ≤ br) (h5 : q % 25 / 5 + hi ≤ 5) (h6 : q % 5 + br ≤ 5) : cvR s q hi br = false ↔ cvO s q hi br := by
  unfold cvR cvO
  rw [anB_no]
  constructor
  · intro h z hz
    have hk : (z % 25 / 5 - q % 25 / 5) * br + (z % 5 - q % 5) < hi * br := by
      have h1 : (z % 25 / 5 - q % 25 / 5) + 1 ≤ hi := by omega
      have h2 := Nat.mul_le_mul h1 (Nat.le_refl br)
      rw [Nat.add_mul, Nat.one_mul] at h2
      omega
    have h1 := h _ hk
    have e1 : ((z % 25 / 5 - q % 25 / 5) * br + (z % 5 - q % 5)) / br = z % 25 / 5 - q % 25 / 5 := by
      rw [Nat.add_comm, Nat.add_mul_div_right _ _ (by omega), Nat.div_eq_of_lt (by omega), Nat.zero_add]
    have e2 : ((z % 25 / 5 - q % 25 / 5) * br + (z % 5 - q % 5)) % br = z % 5 - q % 5 := by
      rw [Nat.add_comm, Nat.add_mul_mod_self_right, Nat.mod_eq_of_lt (by omega)]
    have h1 : bad s q (q + 5 * (((z % 25 / 5 - q % 25 / 5) * br + (z % 5 - q % 5)) / br) + ((z % 25 / 5 - q % 25 / 5) * br + (z % 5 - q % 5)) % br) = false := h1
    rw [e1, e2, show q + 5 * (z % 25 / 5 - q % 25 / 5) + (z % 5 - q % 5) = z by omega] at h1
    exact bad_no.mp h1
  · intro h k hk
    have k1 : k / br < hi := Nat.div_lt_of_lt_mul (by rw [Nat.mul_comm]; exact hk)
    have k2 : k % br < br := Nat.mod_lt _ (by omega)
    exact bad_no.mpr (h _ (by unfold inN; omega))
theorem f_single {b o : Nat} {s : Sv} {σ : Mm} (hw : WF s) (hr : Rel b s σ) (ho : isCl s o) : F_X4_isSingleEmpty b (iN o) σ = some (.inl (if kiS s o = 0 ∧ hiS s o = 1 ∧ brS s o = 1 then iN 1 else iN 0), σ) := by
  have l1 := isOf_lt hw ho.1
  have r1 := hr.2.2.2.2.1 o ho.1
  have w3 := hw.2.2.2.2.2.1 o ho.1
  have k1 : σ (b + 8) o = iN (kiS s o) := r1.2.1.trans w3.1
  have kb := w3.2.1
  have s1 := rel_span hw hr ho (w := 1) (by omega)
  have s0 := rel_span hw hr ho (w := 0) (by omega)
  have s1' : σ (b + 12) (2 * o + 1) = iN (hiS s o) := s1.1
  have s0' : σ (b + 12) (2 * o) = iN (brS s o) := s0.1
  have g1 : hiS s o ≤ 5 := s1.2.2
  have g0 : brS s o ≤ 5 := s0.2.2
  unfold F_X4_isSingleEmpty
  by_cases c1 : kiS s o = 0
  · by_cases c2 : hiS s o = 1
    · by_cases c3 : brS s o = 1
      · rw [if_pos ⟨c1, c2, c3⟩]
        simp (disch := omega) only [↓ite_ap, if_true, if_false, if_pos, if_neg, retM_ap, retZ_ap0, retZ_ap1, gM_ap, sM_ap, jM_ap, bI_ap, bL_ap, bD_ap, rdM_ap, wrM_ap, thrM_ap, nl_0, nl_1, nl_2, nl_3, nl_4, nl_5, nl_6, nl_7, nl_8, nl_9, nl_10, nl_11, nl_12, nl_13, nl_25, nl_33, nl_35, nl_45, nl_48, nl_49, nl_50, nl_52, nl_53, nl_57, nl_59, nl_60, nl_61, nl_77, nl_94, nl_97, nl_100, nl_101, nl_119, nl_125, nl_126, nl_137, nl_262, nl_387, nl_500, nl_512, nl_637, nl_999, nl_1022, nl_1137, nl_5685, nm_1b, iN_mI, mI_iN, iN_add, iN_mul, iN_sub, iN_div, iN_rem, iN_lt, iN_le, iN_eq, iN_nat, inB_iN, ↓b_at, ↓b_store, ↓b_place1, ↓b_place0, ↓b_tableOf, ↓b_sqEnd, ↓b_isCell, ↓b_linesOf, ↓b_spanOf, ↓b_isSum, ↓b_sizePlace, ↓b_isBetween, ↓b_sizeOf, ↓b_sizeTogether, Bool.false_eq_true, not_true_eq_false, not_false_eq_true, Nat.add_assoc, Nat.reduceAdd, Nat.add_zero, k1, c1, s1', c2, s0', c3]
      · rw [if_neg (fun g => c3 g.2.2)]
        simp (disch := omega) only [↓ite_ap, if_true, if_false, if_pos, if_neg, retM_ap, retZ_ap0, retZ_ap1, gM_ap, sM_ap, jM_ap, bI_ap, bL_ap, bD_ap, rdM_ap, wrM_ap, thrM_ap, nl_0, nl_1, nl_2, nl_3, nl_4, nl_5, nl_6, nl_7, nl_8, nl_9, nl_10, nl_11, nl_12, nl_13, nl_25, nl_33, nl_35, nl_45, nl_48, nl_49, nl_50, nl_52, nl_53, nl_57, nl_59, nl_60, nl_61, nl_77, nl_94, nl_97, nl_100, nl_101, nl_119, nl_125, nl_126, nl_137, nl_262, nl_387, nl_500, nl_512, nl_637, nl_999, nl_1022, nl_1137, nl_5685, nm_1b, iN_mI, mI_iN, iN_add, iN_mul, iN_sub, iN_div, iN_rem, iN_lt, iN_le, iN_eq, iN_nat, inB_iN, ↓b_at, ↓b_store, ↓b_place1, ↓b_place0, ↓b_tableOf, ↓b_sqEnd, ↓b_isCell, ↓b_linesOf, ↓b_spanOf, ↓b_isSum, ↓b_sizePlace, ↓b_isBetween, ↓b_sizeOf, ↓b_sizeTogether, Bool.false_eq_true, not_true_eq_false, not_false_eq_true, Nat.add_assoc, Nat.reduceAdd, Nat.add_zero, k1, c1, s1', c2, s0']
    · rw [if_neg (fun g => c2 g.2.1)]
      simp (disch := omega) only [↓ite_ap, if_true, if_false, if_pos, if_neg, retM_ap, retZ_ap0, retZ_ap1, gM_ap, sM_ap, jM_ap, bI_ap, bL_ap, bD_ap, rdM_ap, wrM_ap, thrM_ap, nl_0, nl_1, nl_2, nl_3, nl_4, nl_5, nl_6, nl_7, nl_8, nl_9, nl_10, nl_11, nl_12, nl_13, nl_25, nl_33, nl_35, nl_45, nl_48, nl_49, nl_50, nl_52, nl_53, nl_57, nl_59, nl_60, nl_61, nl_77, nl_94, nl_97, nl_100, nl_101, nl_119, nl_125, nl_126, nl_137, nl_262, nl_387, nl_500, nl_512, nl_637, nl_999, nl_1022, nl_1137, nl_5685, nm_1b, iN_mI, mI_iN, iN_add, iN_mul, iN_sub, iN_div, iN_rem, iN_lt, iN_le, iN_eq, iN_nat, inB_iN, ↓b_at, ↓b_store, ↓b_place1, ↓b_place0, ↓b_tableOf, ↓b_sqEnd, ↓b_isCell, ↓b_linesOf, ↓b_spanOf, ↓b_isSum, ↓b_sizePlace, ↓b_isBetween, ↓b_sizeOf, ↓b_sizeTogether, Bool.false_eq_true, not_true_eq_false, not_false_eq_true, Nat.add_assoc, Nat.reduceAdd, Nat.add_zero, k1, c1, s1']
  · rw [if_neg (fun g => c1 g.1)]
    simp (disch := omega) only [↓ite_ap, if_true, if_false, if_pos, if_neg, retM_ap, retZ_ap0, retZ_ap1, gM_ap, sM_ap, jM_ap, bI_ap, bL_ap, bD_ap, rdM_ap, wrM_ap, thrM_ap, nl_0, nl_1, nl_2, nl_3, nl_4, nl_5, nl_6, nl_7, nl_8, nl_9, nl_10, nl_11, nl_12, nl_13, nl_25, nl_33, nl_35, nl_45, nl_48, nl_49, nl_50, nl_52, nl_53, nl_57, nl_59, nl_60, nl_61, nl_77, nl_94, nl_97, nl_100, nl_101, nl_119, nl_125, nl_126, nl_137, nl_262, nl_387, nl_500, nl_512, nl_637, nl_999, nl_1022, nl_1137, nl_5685, nm_1b, iN_mI, mI_iN, iN_add, iN_mul, iN_sub, iN_div, iN_rem, iN_lt, iN_le, iN_eq, iN_nat, inB_iN, ↓b_at, ↓b_store, ↓b_place1, ↓b_place0, ↓b_tableOf, ↓b_sqEnd, ↓b_isCell, ↓b_linesOf, ↓b_spanOf, ↓b_isSum, ↓b_sizePlace, ↓b_isBetween, ↓b_sizeOf, ↓b_sizeTogether, Bool.false_eq_true, not_true_eq_false, not_false_eq_true, Nat.add_assoc, Nat.reduceAdd, k1]
theorem f_canCover {b q hi br : Nat} {s : Sv} {σ : Mm} (hw : WF s) (hr : Rel b s σ) (hc : isCl s q) (f1 : q % 25 / 5 + hi ≤ roS s (q / 25)) (f2 : q % 5 + br ≤ coS s (q / 25)) : F_X4_canCover b (iN q) (iN hi) (iN br) σ = some (.inl (if cvC s q hi br = true then iN 0 else iN 1), σ) := by
  have t5 := hw.1.2.2
  have hq5 := isOf_lt hw hc.1
  have w6 := hw.2.2.1 _ hc.1.1
  have inner : ∀ r, r < hi → ∀ R : Dm Int32, L_X4_canCover_12 b (iN q) (iN br) (iN r) FU (iN 0) (fun _ => R) σ = if rowB s q br r = true then some (.inl (iN 0), σ) else R σ := by
    intro r hr' R
    refine lpx (fun n c (_ : Unit) => L_X4_canCover_12 b (iN q) (iN br) (iN r) n (iN c) (fun _ => R) σ) (fun _ => ()) (fun c => anB (fun c => bad s q (q + r * 5 + c)) c = false) (i0 := 0) (N := br) (by omega) (by unfold FU; omega) rfl ?_ ?_
    · intro n c hc1 hc2 hp
      have hz : isOf s (q + r * 5 + c) := by
        have e : (q + r * 5 + c) / 25 = q / 25 := by omega
        exact ⟨by have := hc.1.1; omega, by rw [e]; omega, by rw [e]; omega⟩
      have l1 := isOf_lt hw hz
      have wz := hw.2.2.2.1 _ hz
      have l2 := isOf_lt hw wz.2.1.1
      have ro : σ (b + 6) (q + r * 5 + c) = iN (owS s (q + r * 5 + c)) := (hr.2.2.2.2.1 _ hz).1.trans wz.1
      have fs := f_single hw hr wz.2.1
      have ea : anB (fun c => bad s q (q + r * 5 + c)) (c + 1) = (anB (fun c => bad s q (q + r * 5 + c)) c || bad s q (q + r * 5 + c)) := rfl
      simp only [L_X4_canCover_12]
      cases eb : bad s q (q + r * 5 + c)
      · refine .inr ⟨by rw [ea, hp, eb]; rfl, ?_⟩
        rcases bad_no.mp eb with g | g
        · simp (disch := omega) only [↓ite_ap, if_true, if_false, if_pos, if_neg, retM_ap, retZ_ap0, retZ_ap1, gM_np, sM_ap, jM_np, bI_ap, bL_ap, bD_ap, rdM_ap, wrM_ap, thrM_ap, nl_0, nl_1, nl_2, nl_3, nl_4, nl_5, nl_6, nl_7, nl_8, nl_9, nl_10, nl_11, nl_12, nl_13, nl_25, nl_33, nl_35, nl_45, nl_48, nl_49, nl_50, nl_52, nl_53, nl_57, nl_59, nl_60, nl_61, nl_77, nl_94, nl_97, nl_100, nl_101, nl_119, nl_125, nl_126, nl_137, nl_262, nl_387, nl_500, nl_512, nl_637, nl_999, nl_1022, nl_1137, nl_5685, nm_1b, iN_mI, mI_iN, iN_add, iN_mul, iN_sub, iN_div, iN_rem, iN_lt, iN_le, iN_eq, iN_nat, inB_iN, ↓b_at, ↓b_store, ↓b_place1, ↓b_place0, ↓b_tableOf, ↓b_sqEnd, ↓b_isCell, ↓b_linesOf, ↓b_spanOf, ↓b_isSum, ↓b_sizePlace, ↓b_isBetween, ↓b_sizeOf, ↓b_sizeTogether, Bool.false_eq_true, not_true_eq_false, not_false_eq_true, Nat.add_assoc, Nat.reduceAdd] at ro g ⊢
          simp (disch := omega) only [↓ite_ap, if_true, if_false, if_pos, if_neg, retM_ap, retZ_ap0, retZ_ap1, gM_np, sM_ap, jM_np, bI_ap, bL_ap, bD_ap, rdM_ap, wrM_ap, thrM_ap, nl_0, nl_1, nl_2, nl_3, nl_4, nl_5, nl_6, nl_7, nl_8, nl_9, nl_10, nl_11, nl_12, nl_13, nl_25, nl_33, nl_35, nl_45, nl_48, nl_49, nl_50, nl_52, nl_53, nl_57, nl_59, nl_60, nl_61, nl_77, nl_94, nl_97, nl_100, nl_101, nl_119, nl_125, nl_126, nl_137, nl_262, nl_387, nl_500, nl_512, nl_637, nl_999, nl_1022, nl_1137, nl_5685, nm_1b, iN_mI, mI_iN, iN_add, iN_mul, iN_sub, iN_div, iN_rem, iN_lt, iN_le, iN_eq, iN_nat, inB_iN, ro, g]
        · rw [if_pos g] at fs
          by_cases g2 : owS s (q + r * 5 + c) = q
          · simp (disch := omega) only [↓ite_ap, if_true, if_false, if_pos, if_neg, retM_ap, retZ_ap0, retZ_ap1, gM_np, sM_ap, jM_np, bI_ap, bL_ap, bD_ap, rdM_ap, wrM_ap, thrM_ap, nl_0, nl_1, nl_2, nl_3, nl_4, nl_5, nl_6, nl_7, nl_8, nl_9, nl_10, nl_11, nl_12, nl_13, nl_25, nl_33, nl_35, nl_45, nl_48, nl_49, nl_50, nl_52, nl_53, nl_57, nl_59, nl_60, nl_61, nl_77, nl_94, nl_97, nl_100, nl_101, nl_119, nl_125, nl_126, nl_137, nl_262, nl_387, nl_500, nl_512, nl_637, nl_999, nl_1022, nl_1137, nl_5685, nm_1b, iN_mI, mI_iN, iN_add, iN_mul, iN_sub, iN_div, iN_rem, iN_lt, iN_le, iN_eq, iN_nat, inB_iN, ↓b_at, ↓b_store, ↓b_place1, ↓b_place0, ↓b_tableOf, ↓b_sqEnd, ↓b_isCell, ↓b_linesOf, ↓b_spanOf, ↓b_isSum, ↓b_sizePlace, ↓b_isBetween, ↓b_sizeOf, ↓b_sizeTogether, Bool.false_eq_true, not_true_eq_false, not_false_eq_true, Nat.add_assoc, Nat.reduceAdd] at ro g2 ⊢
            simp (disch := omega) only [↓ite_ap, if_true, if_false, if_pos, if_neg, retM_ap, retZ_ap0, retZ_ap1, gM_np, sM_ap, jM_np, bI_ap, bL_ap, bD_ap, rdM_ap, wrM_ap, thrM_ap, nl_0, nl_1, nl_2, nl_3, nl_4, nl_5, nl_6, nl_7, nl_8, nl_9, nl_10, nl_11, nl_12, nl_13, nl_25, nl_33, nl_35, nl_45, nl_48, nl_49, nl_50, nl_52, nl_53, nl_57, nl_59, nl_60, nl_61, nl_77, nl_94, nl_97, nl_100, nl_101, nl_119, nl_125, nl_126, nl_137, nl_262, nl_387, nl_500, nl_512, nl_637, nl_999, nl_1022, nl_1137, nl_5685, nm_1b, iN_mI, mI_iN, iN_add, iN_mul, iN_sub, iN_div, iN_rem, iN_lt, iN_le, iN_eq, iN_nat, inB_iN, ro, g2]
          · simp (disch := omega) only [↓ite_ap, if_true, if_false, if_pos, if_neg, retM_ap, retZ_ap0, retZ_ap1, gM_np, sM_ap, jM_np, bI_ap, bL_ap, bD_ap, rdM_ap, wrM_ap, thrM_ap, nl_0, nl_1, nl_2, nl_3, nl_4, nl_5, nl_6, nl_7, nl_8, nl_9, nl_10, nl_11, nl_12, nl_13, nl_25, nl_33, nl_35, nl_45, nl_48, nl_49, nl_50, nl_52, nl_53, nl_57, nl_59, nl_60, nl_61, nl_77, nl_94, nl_97, nl_100, nl_101, nl_119, nl_125, nl_126, nl_137, nl_262, nl_387, nl_500, nl_512, nl_637, nl_999, nl_1022, nl_1137, nl_5685, nm_1b, iN_mI, mI_iN, iN_add, iN_mul, iN_sub, iN_div, iN_rem, iN_lt, iN_le, iN_eq, iN_nat, inB_iN, ↓b_at, ↓b_store, ↓b_place1, ↓b_place0, ↓b_tableOf, ↓b_sqEnd, ↓b_isCell, ↓b_linesOf, ↓b_spanOf, ↓b_isSum, ↓b_sizePlace, ↓b_isBetween, ↓b_sizeOf, ↓b_sizeTogether, Bool.false_eq_true, not_true_eq_false, not_false_eq_true, Nat.add_assoc, Nat.reduceAdd] at ro g2 fs l2 ⊢
            simp (disch := omega) only [↓ite_ap, if_true, if_false, if_pos, if_neg, retM_ap, retZ_ap0, retZ_ap1, gM_np, sM_ap, jM_np, bI_ap, bL_ap, bD_ap, rdM_ap, wrM_ap, thrM_ap, nl_0, nl_1, nl_2, nl_3, nl_4, nl_5, nl_6, nl_7, nl_8, nl_9, nl_10, nl_11, nl_12, nl_13, nl_25, nl_33, nl_35, nl_45, nl_48, nl_49, nl_50, nl_52, nl_53, nl_57, nl_59, nl_60, nl_61, nl_77, nl_94, nl_97, nl_100, nl_101, nl_119, nl_125, nl_126, nl_137, nl_262, nl_387, nl_500, nl_512, nl_637, nl_999, nl_1022, nl_1137, nl_5685, nm_1b, iN_mI, mI_iN, iN_add, iN_mul, iN_sub, iN_div, iN_rem, iN_lt, iN_le, iN_eq, iN_nat, inB_iN, ro, g2, ↓invM_l fs]
      · refine .inl ?_
        have eR : rowB s q br r = true := anB_iff.mpr ⟨c, hc2, eb⟩
        rw [if_pos eR]
        have ng : ¬ (owS s (q + r * 5 + c) = q ∨ (kiS s (owS s (q + r * 5 + c)) = 0 ∧ hiS s (owS s (q + r * 5 + c)) = 1 ∧ brS s (owS s (q + r * 5 + c)) = 1)) := fun g => by
          rw [bad_no.mpr g] at eb
          cases eb
        have g2 : ¬ owS s (q + r * 5 + c) = q := fun g => ng (.inl g)
        rw [if_neg (fun g => ng (.inr g))] at fs
        simp (disch := omega) only [↓ite_ap, if_true, if_false, if_pos, if_neg, retM_ap, retZ_ap0, retZ_ap1, gM_np, sM_ap, jM_np, bI_ap, bL_ap, bD_ap, rdM_ap, wrM_ap, thrM_ap, nl_0, nl_1, nl_2, nl_3, nl_4, nl_5, nl_6, nl_7, nl_8, nl_9, nl_10, nl_11, nl_12, nl_13, nl_25, nl_33, nl_35, nl_45, nl_48, nl_49, nl_50, nl_52, nl_53, nl_57, nl_59, nl_60, nl_61, nl_77, nl_94, nl_97, nl_100, nl_101, nl_119, nl_125, nl_126, nl_137, nl_262, nl_387, nl_500, nl_512, nl_637, nl_999, nl_1022, nl_1137, nl_5685, nm_1b, iN_mI, mI_iN, iN_add, iN_mul, iN_sub, iN_div, iN_rem, iN_lt, iN_le, iN_eq, iN_nat, inB_iN, ↓b_at, ↓b_store, ↓b_place1, ↓b_place0, ↓b_tableOf, ↓b_sqEnd, ↓b_isCell, ↓b_linesOf, ↓b_spanOf, ↓b_isSum, ↓b_sizePlace, ↓b_isBetween, ↓b_sizeOf, ↓b_sizeTogether, Bool.false_eq_true, not_true_eq_false, not_false_eq_true, Nat.add_assoc, Nat.reduceAdd] at ro g2 fs l2 ⊢
        simp (disch := omega) only [↓ite_ap, if_true, if_false, if_pos, if_neg, retM_ap, retZ_ap0, retZ_ap1, gM_np, sM_ap, jM_np, bI_ap, bL_ap, bD_ap, rdM_ap, wrM_ap, thrM_ap, nl_0, nl_1, nl_2, nl_3, nl_4, nl_5, nl_6, nl_7, nl_8, nl_9, nl_10, nl_11, nl_12, nl_13, nl_25, nl_33, nl_35, nl_45, nl_48, nl_49, nl_50, nl_52, nl_53, nl_57, nl_59, nl_60, nl_61, nl_77, nl_94, nl_97, nl_100, nl_101, nl_119, nl_125, nl_126, nl_137, nl_262, nl_387, nl_500, nl_512, nl_637, nl_999, nl_1022, nl_1137, nl_5685, nm_1b, iN_mI, mI_iN, iN_add, iN_mul, iN_sub, iN_div, iN_rem, iN_lt, iN_le, iN_eq, iN_nat, inB_iN, ro, g2, ↓invM_l fs]
    · intro n hp
      have eR : rowB s q br r = false := hp
      rw [eR, if_neg (by decide)]
      simp only [L_X4_canCover_12]
      simp (disch := omega) only [↓ite_ap, if_true, if_false, if_pos, if_neg, retM_ap, retZ_ap0, retZ_ap1, gM_ap, sM_ap, jM_ap, bI_ap, bL_ap, bD_ap, rdM_ap, wrM_ap, thrM_ap, nl_0, nl_1, nl_2, nl_3, nl_4, nl_5, nl_6, nl_7, nl_8, nl_9, nl_10, nl_11, nl_12, nl_13, nl_25, nl_33, nl_35, nl_45, nl_48, nl_49, nl_50, nl_52, nl_53, nl_57, nl_59, nl_60, nl_61, nl_77, nl_94, nl_97, nl_100, nl_101, nl_119, nl_125, nl_126, nl_137, nl_262, nl_387, nl_500, nl_512, nl_637, nl_999, nl_1022, nl_1137, nl_5685, nm_1b, iN_mI, mI_iN, iN_add, iN_mul, iN_sub, iN_div, iN_rem, iN_lt, iN_le, iN_eq, iN_nat, inB_iN]
  refine lpx (fun n r (_ : Unit) => L_X4_canCover_3 b (iN q) (iN hi) (iN br) n (iN r) σ) (fun _ => ()) (fun r => anB (rowB s q br) r = false) (i0 := 0) (N := hi) (by omega) (by unfold FU; omega) rfl ?_ ?_
  · intro n r hr1 hr2 hp
    have ea : anB (rowB s q br) (r + 1) = (anB (rowB s q br) r || rowB s q br r) := rfl
    have fi := inner r hr2 (L_X4_canCover_3 b (iN q) (iN hi) (iN br) n (iN (r + 1)))
    simp only [L_X4_canCover_3]
    cases er : rowB s q br r
    · rw [er, if_neg (by decide)] at fi
      refine .inr ⟨by rw [ea, hp, er]; rfl, ?_⟩
      simp (disch := omega) only [↓ite_ap, if_true, if_false, if_pos, if_neg, retM_ap, retZ_ap0, retZ_ap1, gM_ap, sM_ap, jM_ap, bI_ap, bL_ap, bD_ap, rdM_ap, wrM_ap, thrM_ap, nl_0, nl_1, nl_2, nl_3, nl_4, nl_5, nl_6, nl_7, nl_8, nl_9, nl_10, nl_11, nl_12, nl_13, nl_25, nl_33, nl_35, nl_45, nl_48, nl_49, nl_50, nl_52, nl_53, nl_57, nl_59, nl_60, nl_61, nl_77, nl_94, nl_97, nl_100, nl_101, nl_119, nl_125, nl_126, nl_137, nl_262, nl_387, nl_500, nl_512, nl_637, nl_999, nl_1022, nl_1137, nl_5685, nm_1b, iN_mI, mI_iN, iN_add, iN_mul, iN_sub, iN_div, iN_rem, iN_lt, iN_le, iN_eq, iN_nat, inB_iN, fi]
    · rw [er, if_pos rfl] at fi
      refine .inl ?_
      have eC : cvC s q hi br = true := anB_iff.mpr ⟨r, hr2, er⟩
      rw [if_pos eC]
      simp (disch := omega) only [↓ite_ap, if_true, if_false, if_pos, if_neg, retM_ap, retZ_ap0, retZ_ap1, gM_ap, sM_ap, jM_ap, bI_ap, bL_ap, bD_ap, rdM_ap, wrM_ap, thrM_ap, nl_0, nl_1, nl_2, nl_3, nl_4, nl_5, nl_6, nl_7, nl_8, nl_9, nl_10, nl_11, nl_12, nl_13, nl_25, nl_33, nl_35, nl_45, nl_48, nl_49, nl_50, nl_52, nl_53, nl_57, nl_59, nl_60, nl_61, nl_77, nl_94, nl_97, nl_100, nl_101, nl_119, nl_125, nl_126, nl_137, nl_262, nl_387, nl_500, nl_512, nl_637, nl_999, nl_1022, nl_1137, nl_5685, nm_1b, iN_mI, mI_iN, iN_add, iN_mul, iN_sub, iN_div, iN_rem, iN_lt, iN_le, iN_eq, iN_nat, inB_iN, fi]
  · intro n hp
    have eC : cvC s q hi br = false := hp
    rw [eC, if_neg (by decide)]
    simp only [L_X4_canCover_3]
    simp (disch := omega) only [↓ite_ap, if_true, if_false, if_pos, if_neg, retM_ap, retZ_ap0, retZ_ap1, gM_ap, sM_ap, jM_ap, bI_ap, bL_ap, bD_ap, rdM_ap, wrM_ap, thrM_ap, nl_0, nl_1, nl_2, nl_3, nl_4, nl_5, nl_6, nl_7, nl_8, nl_9, nl_10, nl_11, nl_12, nl_13, nl_25, nl_33, nl_35, nl_45, nl_48, nl_49, nl_50, nl_52, nl_53, nl_57, nl_59, nl_60, nl_61, nl_77, nl_94, nl_97, nl_100, nl_101, nl_119, nl_125, nl_126, nl_137, nl_262, nl_387, nl_500, nl_512, nl_637, nl_999, nl_1022, nl_1137, nl_5685, nm_1b, iN_mI, mI_iN, iN_add, iN_mul, iN_sub, iN_div, iN_rem, iN_lt, iN_le, iN_eq, iN_nat, inB_iN]
theorem r_canSpan {q hi br : Nat} {s : Sv} {σ : Mm} (hw : WF s) (hv : Vw 169 s σ) (hc : isCl s q) (h1 : 1 ≤ br) (f1 : q % 25 / 5 + hi ≤ roS s (q / 25)) (f2 : q % 5 + br ≤ coS s (q / 25)) : F_X6_canSpan (iN q) (iN hi) (iN br) σ = some (.inl (if cvR s q hi br = true then iN 0 else iN 1), σ) := by
  have t5 := hw.1.2.2
  have hq5 := isOf_lt hw hc.1
  have w6 := hw.2.2.1 _ hc.1.1
  have fc := r_isCell1 hw hv hc
  have hN : hi * br ≤ 25 := mul_le25 (by omega) (by omega)
  unfold F_X6_canSpan
  rw [invM_l fc]
  obtain ⟨p, hp⟩ : ∃ p : Nat → Bool, p = fun k => bad s q (q + 5 * (k / br) + k % br) := ⟨_, rfl⟩
  have ecv : cvR s q hi br = anB p (hi * br) := by unfold cvR; rw [hp]
  rw [ecv]
  have hnb : ¬ iN br = 0 := by rw [nl_0, iN_eq (by omega) (by omega)]; omega
  have fck : ∀ X : Dm Int32, ckM (¬ iN br = (0 : Int32)) X σ = X σ := fun X => ckM_t hnb
  have stop : ∀ n k, L_X6_canSpan_13 (iN q) (iN hi) (iN br) (n + 1) (iN 0) (iN k) σ = some (.inl (iN 0), σ) := fun n k => by
    simp only [L_X6_canSpan_13]
    rw [nl_0]
    by_cases g : iN hi * iN br ≤ iN k
    · rw [if_pos g]
      rfl
    · rw [if_neg g, if_pos rfl]
      rfl
  have key : ∀ d k n, k + d = hi * br → d + 1 < n → anB p k = false → L_X6_canSpan_13 (iN q) (iN hi) (iN br) n (iN 1) (iN k) σ = some (.inl (if anB p (hi * br) = true then iN 0 else iN 1), σ) := by
    intro d
    induction d with
    | zero =>
      intro k n a1 a2 a3
      obtain ⟨n, rfl⟩ : ∃ m, n = m + 1 := ⟨n - 1, by omega⟩
      have ek : k = hi * br := by omega
      rw [← ek, a3, if_neg (by decide)]
      simp only [L_X6_canSpan_13]
      simp (disch := omega) only [↓ite_ap, if_true, if_false, if_pos, if_neg, retM_ap, retZ_ap0, retZ_ap1, gM_np, sM_ap, jM_np, bI_ap, bL_ap, bD_ap, rdM_ap, wrM_ap, thrM_ap, nl_0, nl_1, nl_2, nl_3, nl_4, nl_5, nl_6, nl_7, nl_8, nl_9, nl_10, nl_11, nl_12, nl_13, nl_25, nl_33, nl_35, nl_45, nl_48, nl_49, nl_50, nl_52, nl_53, nl_57, nl_59, nl_60, nl_61, nl_77, nl_94, nl_97, nl_100, nl_101, nl_119, nl_125, nl_126, nl_137, nl_262, nl_387, nl_500, nl_512, nl_637, nl_999, nl_1022, nl_1137, nl_5685, nm_1b, iN_mI, mI_iN, iN_add, iN_mul, iN_sub, iN_div, iN_rem, iN_lt, iN_le, iN_eq, iN_nat, inB_iN]
    | succ d ih =>
      intro k n a1 a2 a3
      obtain ⟨n, rfl⟩ : ∃ m, n = m + 1 := ⟨n - 1, by omega⟩
      have hk : k < hi * br := by omega
      have k1 : k / br < hi := Nat.div_lt_of_lt_mul (by rw [Nat.mul_comm]; exact hk)
      have k2 : k % br < br := Nat.mod_lt _ (by omega)
      obtain ⟨r, hr⟩ : ∃ r, r = k / br := ⟨_, rfl⟩
      obtain ⟨c, hcc⟩ : ∃ c, c = k % br := ⟨_, rfl⟩
      rw [← hr] at k1
      rw [← hcc] at k2
      have ed : iN k / iN br = iN r := by rw [iN_div (by omega) (by omega), hr]
      have em : iR (iN k) (iN br) = iN c := by rw [iN_rem (by omega) (by omega), hcc]
      have ep : p k = bad s q (q + 5 * r + c) := by rw [hp, hr, hcc]
      have hz : isOf s (q + 5 * r + c) := by
        have e : (q + 5 * r + c) / 25 = q / 25 := by omega
        exact ⟨by have := hc.1.1; omega, by rw [e]; omega, by rw [e]; omega⟩
      have l1 := isOf_lt hw hz
      have wz := hw.2.2.2.1 _ hz
      obtain ⟨o, ho⟩ : ∃ o, o = owS s (q + 5 * r + c) := ⟨_, rfl⟩
      have wo := wz.2.1
      rw [← ho] at wo
      have l2 := isOf_lt hw wo.1
      have ro := hv.ow hw hz
      rw [← ho] at ro
      have eidx : 512 + q + 5 * r + c = 512 + (q + 5 * r + c) := by omega
      have kk := hv.ki hw wo.1
      have kb := (hw.2.2.2.2.2.1 o wo.1).2.1
      have hh := hv.hi hw wo
      have hbb := hv.br hw wo
      have w5 := hw.2.2.2.2.1 o wo
      have w7 := hw.2.2.1 _ wo.1.1
      have ea : anB p (k + 1) = (anB p k || p k) := rfl
      simp only [L_X6_canSpan_13]
      cases eb : p k
      · have ih' := ih (k + 1) n (by omega) (by omega) (by rw [ea, a3, eb]; rfl)
        rw [ep] at eb
        rcases bad_no.mp eb with g | g
        · rw [← ho] at g
          simp (disch := omega) only [↓ite_ap, if_true, if_false, if_pos, if_neg, retM_ap, retZ_ap0, retZ_ap1, gM_np, sM_ap, jM_np, bI_ap, bL_ap, bD_ap, rdM_ap, wrM_ap, thrM_ap, nl_0, nl_1, nl_2, nl_3, nl_4, nl_5, nl_6, nl_7, nl_8, nl_9, nl_10, nl_11, nl_12, nl_13, nl_25, nl_33, nl_35, nl_45, nl_48, nl_49, nl_50, nl_52, nl_53, nl_57, nl_59, nl_60, nl_61, nl_77, nl_94, nl_97, nl_100, nl_101, nl_119, nl_125, nl_126, nl_137, nl_262, nl_387, nl_500, nl_512, nl_637, nl_999, nl_1022, nl_1137, nl_5685, nm_1b, iN_mI, mI_iN, iN_add, iN_mul, iN_sub, iN_div, iN_rem, iN_lt, iN_le, iN_eq, iN_nat, inB_iN, ↓fck, ed, em, eidx, ro, g, ih']
        · rw [← ho] at g
          by_cases g2 : o = q
          · simp (disch := omega) only [↓ite_ap, if_true, if_false, if_pos, if_neg, retM_ap, retZ_ap0, retZ_ap1, gM_np, sM_ap, jM_np, bI_ap, bL_ap, bD_ap, rdM_ap, wrM_ap, thrM_ap, nl_0, nl_1, nl_2, nl_3, nl_4, nl_5, nl_6, nl_7, nl_8, nl_9, nl_10, nl_11, nl_12, nl_13, nl_25, nl_33, nl_35, nl_45, nl_48, nl_49, nl_50, nl_52, nl_53, nl_57, nl_59, nl_60, nl_61, nl_77, nl_94, nl_97, nl_100, nl_101, nl_119, nl_125, nl_126, nl_137, nl_262, nl_387, nl_500, nl_512, nl_637, nl_999, nl_1022, nl_1137, nl_5685, nm_1b, iN_mI, mI_iN, iN_add, iN_mul, iN_sub, iN_div, iN_rem, iN_lt, iN_le, iN_eq, iN_nat, inB_iN, ↓fck, ed, em, eidx, ro, g2, ih']
          · obtain ⟨q1, q2, q3⟩ := g
            simp (disch := omega) only [↓ite_ap, if_true, if_false, if_pos, if_neg, retM_ap, retZ_ap0, retZ_ap1, gM_np, sM_ap, jM_np, bI_ap, bL_ap, bD_ap, rdM_ap, wrM_ap, thrM_ap, nl_0, nl_1, nl_2, nl_3, nl_4, nl_5, nl_6, nl_7, nl_8, nl_9, nl_10, nl_11, nl_12, nl_13, nl_25, nl_33, nl_35, nl_45, nl_48, nl_49, nl_50, nl_52, nl_53, nl_57, nl_59, nl_60, nl_61, nl_77, nl_94, nl_97, nl_100, nl_101, nl_119, nl_125, nl_126, nl_137, nl_262, nl_387, nl_500, nl_512, nl_637, nl_999, nl_1022, nl_1137, nl_5685, nm_1b, iN_mI, mI_iN, iN_add, iN_mul, iN_sub, iN_div, iN_rem, iN_lt, iN_le, iN_eq, iN_nat, inB_iN, ↓fck, ed, em, eidx, ro, g2, kk, q1, hh, hbb, q2, q3, ih']
      · have eT : anB p (hi * br) = true := anB_iff.mpr ⟨k, hk, eb⟩
        rw [if_pos eT]
        rw [ep] at eb
        have ng : ¬ (o = q ∨ (kiS s o = 0 ∧ hiS s o = 1 ∧ brS s o = 1)) := fun g => by
          rw [ho] at g
          rw [bad_no.mpr g] at eb
          cases eb
        have g2 : ¬ o = q := fun g => ng (.inl g)
        obtain ⟨n, rfl⟩ : ∃ m, n = m + 1 := ⟨n - 1, by omega⟩
        have st := stop n (k + 1)
        by_cases c1 : kiS s o = 0
        · have hne : ¬ hiS s o * brS s o = 1 := fun g => by
            have := Nat.eq_one_of_mul_eq_one_right g
            have := Nat.eq_one_of_mul_eq_one_left g
            exact ng (.inr ⟨c1, by assumption, by assumption⟩)
          have hm : hiS s o * brS s o ≤ 25 := mul_le25 (by omega) (by omega)
          simp (disch := omega) only [↓ite_ap, if_true, if_false, if_pos, if_neg, retM_ap, retZ_ap0, retZ_ap1, gM_np, sM_ap, jM_np, bI_ap, bL_ap, bD_ap, rdM_ap, wrM_ap, thrM_ap, nl_0, nl_1, nl_2, nl_3, nl_4, nl_5, nl_6, nl_7, nl_8, nl_9, nl_10, nl_11, nl_12, nl_13, nl_25, nl_33, nl_35, nl_45, nl_48, nl_49, nl_50, nl_52, nl_53, nl_57, nl_59, nl_60, nl_61, nl_77, nl_94, nl_97, nl_100, nl_101, nl_119, nl_125, nl_126, nl_137, nl_262, nl_387, nl_500, nl_512, nl_637, nl_999, nl_1022, nl_1137, nl_5685, nm_1b, iN_mI, mI_iN, iN_add, iN_mul, iN_sub, iN_div, iN_rem, iN_lt, iN_le, iN_eq, iN_nat, inB_iN, ↓fck, ed, em, eidx, ro, g2, kk, c1, hh, hbb, st]
        · simp (disch := omega) only [↓ite_ap, if_true, if_false, if_pos, if_neg, retM_ap, retZ_ap0, retZ_ap1, gM_np, sM_ap, jM_np, bI_ap, bL_ap, bD_ap, rdM_ap, wrM_ap, thrM_ap, nl_0, nl_1, nl_2, nl_3, nl_4, nl_5, nl_6, nl_7, nl_8, nl_9, nl_10, nl_11, nl_12, nl_13, nl_25, nl_33, nl_35, nl_45, nl_48, nl_49, nl_50, nl_52, nl_53, nl_57, nl_59, nl_60, nl_61, nl_77, nl_94, nl_97, nl_100, nl_101, nl_119, nl_125, nl_126, nl_137, nl_262, nl_387, nl_500, nl_512, nl_637, nl_999, nl_1022, nl_1137, nl_5685, nm_1b, iN_mI, mI_iN, iN_add, iN_mul, iN_sub, iN_div, iN_rem, iN_lt, iN_le, iN_eq, iN_nat, inB_iN, ↓fck, ed, em, eidx, ro, g2, kk, st]
  exact key (hi * br) 0 FU (by omega) (by unfold FU; omega) rfl
