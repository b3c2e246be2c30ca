/-! THE REFERENCE: EDGES -/
theorem one_mI {k : Nat} (h : 1 ≤ k) : iN k + mI = iN (k - 1) := by
  rw [show mI = -(iN 1) from rfl, ← Int32.sub_eq_add_neg, iN_sub h]
theorem iN0_mI : iN 0 + mI = mI := by
  rw [Int32.add_comm, addN0]
theorem r_in_m {lo n : Nat} {x : Int32} {σ : Mm} (hl : lo < 100000) : F_X6_in mI (iN lo) x σ = some (.inl (iN 0), σ) := by
  rw [r_in]
  have : btw mI (iN lo) x = false := by
    unfold btw
    rw [decide_eq_false (not_not_intro (of_eq_true (mI_lt (show lo < 2147483648 by omega)))), Bool.false_and]
  rw [this, if_neg (by decide)]
theorem r_square {t r c : Nat} {σ : Mm} : F_X6_square (iN t) (iN r) (iN c) σ = some (.inl (iN (25 * t + 5 * r + c)), σ) := by
  unfold F_X6_square
  simp (disch := omega) only [↓ite_ap, if_true, if_false, if_pos, if_neg, retM_ap, retZ_ap0, retZ_ap1, gM_ap, sM_ap, jM_ap, bI_ap, bL_ap, bD_ap, rdM_ap, wrM_ap, thrM_ap, nl_0, nl_1, nl_2, nl_3, nl_4, nl_5, nl_6, nl_7, nl_8, nl_9, nl_10, nl_11, nl_12, nl_13, nl_25, nl_33, nl_35, nl_45, nl_48, nl_49, nl_50, nl_52, nl_53, nl_57, nl_59, nl_60, nl_61, nl_77, nl_94, nl_97, nl_100, nl_101, nl_119, nl_125, nl_126, nl_137, nl_262, nl_387, nl_500, nl_512, nl_637, nl_999, nl_1022, nl_1137, nl_5685, nm_1b, iN_mI, mI_iN, iN_add, iN_mul, iN_sub, iN_div, iN_rem, iN_lt, iN_le, iN_eq, iN_nat, inB_iN]
theorem r_beside {a q i : Nat} {s : Sv} {σ : Mm} (hw : WF s) (hv : Vw a s σ) (hq : isOf s q) (hi : i < 4) : F_X6_beside a 1137 (iN q) (iN i) σ = some (.inl (match bsS s q i with | some q' => iN q' | none => mI), σ) := by
  have t5 := hw.1.2.2
  have l1 := isOf_lt hw hq
  have w := hw.2.2.1 _ hq.1
  have hro := hv.ro hw hq.1
  have hco := hv.co hw hq.1
  have f1 := r_rowOf (q := q) (σ := σ) (by omega)
  have q2 := hq.2.1
  have q3 := hq.2.2
  have fr := fun k => r_inN (k := k) (lo := 0) (n := roS s (q / 25)) (σ := σ)
  have fc := fun k => r_inN (k := k) (lo := 0) (n := coS s (q / 25)) (σ := σ)
  have fm := fun n => r_in_m (lo := 0) (n := n) (x := iN (coS s (q / 25)) - iN 1) (σ := σ) (by omega)
  have fm2 := fun n => r_in_m (lo := 0) (n := n) (x := iN (roS s (q / 25)) - iN 1) (σ := σ) (by omega)
  have hsd : i = 0 ∨ i = 1 ∨ i = 2 ∨ i = 3 := by omega
  unfold F_X6_beside bsS
  rcases hsd with h | h | h | h
  · subst h
    rw [if_pos rfl]
    by_cases h0 : 0 < q % 25 / 5
    · have e1 := one_mI (k := q % 25 / 5) (by omega)
      have a1 := fr (q % 25 / 5 - 1) (by omega) (by omega) (by omega)
      have a2 := fc (q % 5) (by omega) (by omega) (by omega)
      rw [if_pos (show 0 ≤ q % 25 / 5 - 1 ∧ q % 25 / 5 - 1 < roS s (q / 25) by omega)] at a1
      rw [if_pos (show 0 ≤ q % 5 ∧ q % 5 < coS s (q / 25) by omega)] at a2
      have e : 25 * (q / 25) + 5 * (q % 25 / 5 - 1) + q % 5 = q - 5 := by omega
      rw [if_pos h0]
      simp (disch := omega) only [↓ite_ap, if_true, if_false, if_pos, if_neg, retM_ap, retZ_ap0, retZ_ap1, gM_ap, sM_ap, jM_ap, bI_ap, bL_ap, bD_ap, rdM_ap, wrM_ap, thrM_ap, nl_0, nl_1, nl_2, nl_3, nl_5, nl_7, nl_25, nm_1b, iN_add, iN_div, iN_rem, iN_eq, ↓invM_l f1, e1, hro, hco, ↓invM_l a1, ↓invM_l a2, Nat.add_zero, ↓invM_l r_square, e]
    · have e0 : q % 25 / 5 = 0 := by omega
      have a1 := fm2 0
      rw [if_neg h0]
      rw [e0] at f1
      simp (disch := omega) only [↓ite_ap, if_true, if_false, if_pos, if_neg, retM_ap, retZ_ap0, retZ_ap1, gM_ap, sM_ap, jM_ap, bI_ap, bL_ap, bD_ap, rdM_ap, wrM_ap, thrM_ap, nl_0, nl_1, nl_2, nl_3, nl_5, nl_7, nl_25, nm_1b, iN_add, iN_div, iN_rem, iN_eq, ↓invM_l f1, iN0_mI, hro, hco, ↓invM_l a1, Nat.add_zero]
  · subst h
    rw [if_neg (by omega), if_pos rfl]
    have a1 := fr (q % 25 / 5) (by omega) (by omega) (by omega)
    rw [if_pos (show 0 ≤ q % 25 / 5 ∧ q % 25 / 5 < roS s (q / 25) by omega)] at a1
    have a2 := fc (q % 5 + 1) (by omega) (by omega) (by omega)
    by_cases h0 : q % 5 + 1 < coS s (q / 25)
    · rw [if_pos (show 0 ≤ q % 5 + 1 ∧ q % 5 + 1 < coS s (q / 25) by omega)] at a2
      have e : 25 * (q / 25) + 5 * (q % 25 / 5) + (q % 5 + 1) = q + 1 := by omega
      rw [if_pos h0]
      simp (disch := omega) only [↓ite_ap, if_true, if_false, if_pos, if_neg, retM_ap, retZ_ap0, retZ_ap1, gM_ap, sM_ap, jM_ap, bI_ap, bL_ap, bD_ap, rdM_ap, wrM_ap, thrM_ap, nl_0, nl_1, nl_2, nl_3, nl_5, nl_7, nl_25, nm_1b, iN_add, iN_div, iN_rem, iN_eq, ↓invM_l f1, hro, hco, ↓invM_l a1, ↓invM_l a2, Nat.add_zero, ↓invM_l r_square, e]
    · rw [if_neg (show ¬ (0 ≤ q % 5 + 1 ∧ q % 5 + 1 < coS s (q / 25)) by omega)] at a2
      rw [if_neg h0]
      simp (disch := omega) only [↓ite_ap, if_true, if_false, if_pos, if_neg, retM_ap, retZ_ap0, retZ_ap1, gM_ap, sM_ap, jM_ap, bI_ap, bL_ap, bD_ap, rdM_ap, wrM_ap, thrM_ap, nl_0, nl_1, nl_2, nl_3, nl_5, nl_7, nl_25, nm_1b, iN_add, iN_div, iN_rem, iN_eq, ↓invM_l f1, hro, hco, ↓invM_l a1, ↓invM_l a2, Nat.add_zero]
  · subst h
    rw [if_neg (by omega), if_neg (by omega), if_pos rfl]
    have a1 := fr (q % 25 / 5 + 1) (by omega) (by omega) (by omega)
    have a2 := fc (q % 5) (by omega) (by omega) (by omega)
    rw [if_pos (show 0 ≤ q % 5 ∧ q % 5 < coS s (q / 25) by omega)] at a2
    by_cases h0 : q % 25 / 5 + 1 < roS s (q / 25)
    · rw [if_pos (show 0 ≤ q % 25 / 5 + 1 ∧ q % 25 / 5 + 1 < roS s (q / 25) by omega)] at a1
      have e : 25 * (q / 25) + 5 * (q % 25 / 5 + 1) + q % 5 = q + 5 := by omega
      rw [if_pos h0]
      simp (disch := omega) only [↓ite_ap, if_true, if_false, if_pos, if_neg, retM_ap, retZ_ap0, retZ_ap1, gM_ap, sM_ap, jM_ap, bI_ap, bL_ap, bD_ap, rdM_ap, wrM_ap, thrM_ap, nl_0, nl_1, nl_2, nl_3, nl_5, nl_7, nl_25, nm_1b, iN_add, iN_div, iN_rem, iN_eq, ↓invM_l f1, hro, hco, ↓invM_l a1, ↓invM_l a2, Nat.add_zero, ↓invM_l r_square, e]
    · rw [if_neg (show ¬ (0 ≤ q % 25 / 5 + 1 ∧ q % 25 / 5 + 1 < roS s (q / 25)) by omega)] at a1
      rw [if_neg h0]
      simp (disch := omega) only [↓ite_ap, if_true, if_false, if_pos, if_neg, retM_ap, retZ_ap0, retZ_ap1, gM_ap, sM_ap, jM_ap, bI_ap, bL_ap, bD_ap, rdM_ap, wrM_ap, thrM_ap, nl_0, nl_1, nl_2, nl_3, nl_5, nl_7, nl_25, nm_1b, iN_add, iN_div, iN_rem, iN_eq, ↓invM_l f1, hro, hco, ↓invM_l a1, Nat.add_zero]
  · subst h
    rw [if_neg (by omega), if_neg (by omega), if_neg (by omega)]
    have a1 := fr (q % 25 / 5) (by omega) (by omega) (by omega)
    rw [if_pos (show 0 ≤ q % 25 / 5 ∧ q % 25 / 5 < roS s (q / 25) by omega)] at a1
    by_cases h0 : 0 < q % 5
    · have e1 := one_mI (k := q % 5) (by omega)
      have a2 := fc (q % 5 - 1) (by omega) (by omega) (by omega)
      rw [if_pos (show 0 ≤ q % 5 - 1 ∧ q % 5 - 1 < coS s (q / 25) by omega)] at a2
      have e : 25 * (q / 25) + 5 * (q % 25 / 5) + (q % 5 - 1) = q - 1 := by omega
      rw [if_pos h0]
      simp (disch := omega) only [↓ite_ap, if_true, if_false, if_pos, if_neg, retM_ap, retZ_ap0, retZ_ap1, gM_ap, sM_ap, jM_ap, bI_ap, bL_ap, bD_ap, rdM_ap, wrM_ap, thrM_ap, nl_0, nl_1, nl_2, nl_3, nl_5, nl_7, nl_25, nm_1b, iN_add, iN_div, iN_rem, iN_eq, ↓invM_l f1, e1, hro, hco, ↓invM_l a1, ↓invM_l a2, Nat.add_zero, ↓invM_l r_square, e]
    · have e0 : q % 5 = 0 := by omega
      have a2 := fm 0
      rw [if_neg h0]
      simp (disch := omega) only [↓ite_ap, if_true, if_false, if_pos, if_neg, retM_ap, retZ_ap0, retZ_ap1, gM_ap, sM_ap, jM_ap, bI_ap, bL_ap, bD_ap, rdM_ap, wrM_ap, thrM_ap, nl_0, nl_1, nl_2, nl_3, nl_5, nl_7, nl_25, nm_1b, iN_add, iN_div, iN_rem, iN_eq, ↓invM_l f1, e0, iN0_mI, hro, hco, ↓invM_l a1, ↓invM_l a2, Nat.add_zero]
theorem r_edgeOf {a q i : Nat} {s : Sv} {σ : Mm} (hw : WF s) (hv : Vw a s σ) (hq : isOf s q) (hi : i < 4) (hru : ∀ q' i', q' / 25 = q / 25 → isOf s q' → i' < 4 → σ 181 (4 * q' + i') = iN (rlL s (q' * 4 + i'))) : F_X6_edgeOf a 1137 (iN q) (iN i) σ = some (.inl (iN (eL s (q * 4 + i))), σ) := by
  have t5 := hw.1.2.2
  have l1 := isOf_lt hw hq
  have fb := r_beside hw hv hq hi
  have o := hw.2.2.2.1 q hq
  have l2 := isOf_lt hw o.2.1.1
  have h1 := hv.ow hw hq
  have h2 := hru (owS s q) i (by have := o.2.2.1; omega) o.2.1.1 hi
  have b1 := rlL_le3 hw (owS s q * 4 + i)
  rw [eL_eq hw hi, if_pos (ofB_iff.mpr hq)]
  cases e : bsS s q i with
  | none =>
    have ed : edN s (rlL s) q i = rlL s (owS s q * 4 + i) := by unfold edN; rw [e]
    rw [ed]
    unfold F_X6_edgeOf
    rw [e] at fb
    have fb : F_X6_beside a 1137 (iN q) (iN i) σ = some (.inl mI, σ) := fb
    simp (disch := omega) only [↓ite_ap, if_true, if_false, if_pos, if_neg, retM_ap, retZ_ap0, retZ_ap1, gM_ap, sM_ap, jM_ap, bI_ap, bL_ap, bD_ap, rdM_ap, wrM_ap, thrM_ap, nl_0, nl_1, nl_2, nl_3, nl_4, nl_5, nl_6, nl_7, nl_8, nl_9, nl_10, nl_11, nl_12, nl_13, nl_25, nl_33, nl_35, nl_45, nl_48, nl_49, nl_50, nl_52, nl_53, nl_57, nl_59, nl_60, nl_61, nl_77, nl_94, nl_97, nl_100, nl_101, nl_119, nl_125, nl_126, nl_137, nl_262, nl_387, nl_500, nl_512, nl_637, nl_999, nl_1022, nl_1137, nl_5685, nm_1b, iN_mI, mI_iN, iN_add, iN_mul, iN_sub, iN_div, iN_rem, iN_lt, iN_le, iN_eq, iN_nat, inB_iN, ↓invM_l fb, h1, h2]
  | some q' =>
    rw [e] at fb
    have fb : F_X6_beside a 1137 (iN q) (iN i) σ = some (.inl (iN q'), σ) := fb
    have g := bsS_of hw hq e
    have l3 := isOf_lt hw g.1
    have o' := hw.2.2.2.1 q' g.1
    have l4 := isOf_lt hw o'.2.1.1
    have h3 := hv.ow hw g.1
    have h4 := hru (owS s q') ((i + 2) % 4) (by have := o'.2.2.1; omega) o'.2.1.1 (by omega)
    have b2 := rlL_le3 hw (owS s q' * 4 + (i + 2) % 4)
    have ed : edN s (rlL s) q i = if owS s q' = owS s q then 0 else max (rlL s (owS s q * 4 + i)) (rlL s (owS s q' * 4 + (i + 2) % 4)) := by unfold edN; rw [e]
    rw [ed]
    unfold F_X6_edgeOf
    by_cases he : owS s q' = owS s q
    · rw [if_pos he]
      simp (disch := omega) only [↓ite_ap, if_true, if_false, if_pos, if_neg, retM_ap, retZ_ap0, retZ_ap1, gM_ap, sM_ap, jM_ap, bI_ap, bL_ap, bD_ap, rdM_ap, wrM_ap, thrM_ap, nl_0, nl_1, nl_2, nl_3, nl_4, nl_5, nl_6, nl_7, nl_8, nl_9, nl_10, nl_11, nl_12, nl_13, nl_25, nl_33, nl_35, nl_45, nl_48, nl_49, nl_50, nl_52, nl_53, nl_57, nl_59, nl_60, nl_61, nl_77, nl_94, nl_97, nl_100, nl_101, nl_119, nl_125, nl_126, nl_137, nl_262, nl_387, nl_500, nl_512, nl_637, nl_999, nl_1022, nl_1137, nl_5685, nm_1b, iN_mI, mI_iN, iN_add, iN_mul, iN_sub, iN_div, iN_rem, iN_lt, iN_le, iN_eq, iN_nat, inB_iN, ↓invM_l fb, h1, h2, h3, h4, he]
    · rw [if_neg he]
      by_cases hm : rlL s (owS s q' * 4 + (i + 2) % 4) ≤ rlL s (owS s q * 4 + i)
      · rw [Nat.max_eq_left hm]
        simp (disch := omega) only [↓ite_ap, if_true, if_false, if_pos, if_neg, retM_ap, retZ_ap0, retZ_ap1, gM_ap, sM_ap, jM_ap, bI_ap, bL_ap, bD_ap, rdM_ap, wrM_ap, thrM_ap, nl_0, nl_1, nl_2, nl_3, nl_4, nl_5, nl_6, nl_7, nl_8, nl_9, nl_10, nl_11, nl_12, nl_13, nl_25, nl_33, nl_35, nl_45, nl_48, nl_49, nl_50, nl_52, nl_53, nl_57, nl_59, nl_60, nl_61, nl_77, nl_94, nl_97, nl_100, nl_101, nl_119, nl_125, nl_126, nl_137, nl_262, nl_387, nl_500, nl_512, nl_637, nl_999, nl_1022, nl_1137, nl_5685, nm_1b, iN_mI, mI_iN, iN_add, iN_mul, iN_sub, iN_div, iN_rem, iN_lt, iN_le, iN_eq, iN_nat, inB_iN, ↓invM_l fb, h1, h2, h3, h4, he]
      · rw [Nat.max_eq_right (by omega)]
        simp (disch := omega) only [↓ite_ap, if_true, if_false, if_pos, if_neg, retM_ap, retZ_ap0, retZ_ap1, gM_ap, sM_ap, jM_ap, bI_ap, bL_ap, bD_ap, rdM_ap, wrM_ap, thrM_ap, nl_0, nl_1, nl_2, nl_3, nl_4, nl_5, nl_6, nl_7, nl_8, nl_9, nl_10, nl_11, nl_12, nl_13, nl_25, nl_33, nl_35, nl_45, nl_48, nl_49, nl_50, nl_52, nl_53, nl_57, nl_59, nl_60, nl_61, nl_77, nl_94, nl_97, nl_100, nl_101, nl_119, nl_125, nl_126, nl_137, nl_262, nl_387, nl_500, nl_512, nl_637, nl_999, nl_1022, nl_1137, nl_5685, nm_1b, iN_mI, mI_iN, iN_add, iN_mul, iN_sub, iN_div, iN_rem, iN_lt, iN_le, iN_eq, iN_nat, inB_iN, ↓invM_l fb, h1, h2, h3, h4, he]
theorem r_border {a t i : Nat} {s : Sv} {σ : Mm} (hw : WF s) (hv : Vw a s σ) (ht : t < tbS s) (hi : i < 4) (hru : ∀ q' i', q' / 25 = t → isOf s q' → i' < 4 → σ 181 (4 * q' + i') = iN (rlL s (q' * 4 + i'))) : F_X6_border a 1137 (iN t) (iN i) σ = some (.inl (iN (bdS s (eL s) t i)), σ) := by
  have t5 := hw.1.2.2
  obtain ⟨g, hg⟩ : ∃ g : Nat → Nat, g = fun q => if (ofB s q && (bsS s q i).isNone) = true then eL s (q * 4 + i) else 0 := ⟨_, rfl⟩
  have hgl : ∀ q, g q ≤ 3 := fun q => by
    rw [hg]
    show (if _ then _ else _) ≤ 3
    by_cases h : (ofB s q && (bsS s q i).isNone) = true
    · rw [if_pos h]; exact eL_le3 hw _
    · rw [if_neg h]; omega
  have eb : bdS s (eL s) t i = mxN g (t * 25) ((t + 1) * 25) := by
    unfold bdS grS
    refine mxN_congr (fun q h1 h2 => ?_)
    have hqt : q / 25 = t := by omega
    rw [hg]
    show (if _ then _ else _) = (if _ then _ else _)
    have w := hw.2.2.1 t ht
    by_cases ho : isOf s q
    · have o2 := ho.2.1
      have o3 := ho.2.2
      rw [hqt] at o2 o3
      rw [ofB_iff.mpr ho, Bool.true_and]
      have hsd : i = 0 ∨ i = 1 ∨ i = 2 ∨ i = 3 := by omega
      unfold bsS
      rw [hqt]
      rcases hsd with h | h | h | h
      · subst h
        refine Eq.trans (show _ = (if q % 25 / 5 = 0 then eL s (q * 4 + 0) else 0) from rfl) ?_
        by_cases h0 : 0 < q % 25 / 5
        · rw [if_neg (show ¬ (q % 25 / 5 = 0) by omega)]
          rw [if_pos rfl, if_pos h0]
          rfl
        · rw [if_pos (show q % 25 / 5 = 0 by omega)]
          rw [if_pos rfl, if_neg h0]
          rfl
      · subst h
        refine Eq.trans (show _ = (if q % 5 = coS s t - 1 then eL s (q * 4 + 1) else 0) from rfl) ?_
        by_cases h0 : q % 5 + 1 < coS s t
        · rw [if_neg (show ¬ (q % 5 = coS s t - 1) by omega)]
          rw [if_neg (show ¬ (1 = 0) by omega), if_pos rfl, if_pos h0]
          rfl
        · rw [if_pos (show q % 5 = coS s t - 1 by omega)]
          rw [if_neg (show ¬ (1 = 0) by omega), if_pos rfl, if_neg h0]
          rfl
      · subst h
        refine Eq.trans (show _ = (if q % 25 / 5 = roS s t - 1 then eL s (q * 4 + 2) else 0) from rfl) ?_
        by_cases h0 : q % 25 / 5 + 1 < roS s t
        · rw [if_neg (show ¬ (q % 25 / 5 = roS s t - 1) by omega)]
          rw [if_neg (show ¬ (2 = 0) by omega), if_neg (show ¬ (2 = 1) by omega), if_pos rfl, if_pos h0]
          rfl
        · rw [if_pos (show q % 25 / 5 = roS s t - 1 by omega)]
          rw [if_neg (show ¬ (2 = 0) by omega), if_neg (show ¬ (2 = 1) by omega), if_pos rfl, if_neg h0]
          rfl
      · subst h
        refine Eq.trans (show _ = (if q % 5 = 0 then eL s (q * 4 + 3) else 0) from rfl) ?_
        by_cases h0 : 0 < q % 5
        · rw [if_neg (show ¬ (q % 5 = 0) by omega)]
          rw [if_neg (show ¬ (3 = 0) by omega), if_neg (show ¬ (3 = 1) by omega), if_neg (show ¬ (3 = 2) by omega), if_pos h0]
          rfl
        · rw [if_pos (show q % 5 = 0 by omega)]
          rw [if_neg (show ¬ (3 = 0) by omega), if_neg (show ¬ (3 = 1) by omega), if_neg (show ¬ (3 = 2) by omega), if_neg h0]
          rfl
    · have e0 : eL s (q * 4 + i) = 0 := by rw [eL_eq hw hi, ofB_not ho]; rfl
      rw [e0, ofB_not ho, Bool.false_and]
      by_cases hp : plS (if i = 0 ∨ i = 2 then 1 else 0) q = (if i = 0 ∨ i = 3 then 0 else if i = 2 then roS s t - 1 else coS s t - 1)
      · rw [if_pos hp]; exact e0
      · rw [if_neg hp]; rfl
  have h := lp (fun n k (x : Int32) => L_X6_border_6 a 1137 (iN t) (iN i) n x (iN k) σ) (fun k => iN (mxN g (t * 25) (t * 25 + k))) (i0 := 0) (N := 25) (r := some (.inl (iN (bdS s (eL s) t i)), σ)) (by omega) (by unfold FU; omega) ?_ ?_
  · simp only [Nat.add_zero, mxN_0] at h
    exact h
  · intro n k hk1 hk2
    obtain ⟨q, hq⟩ : ∃ q, q = t * 25 + k := ⟨_, rfl⟩
    have e1 : 25 * t + k = q := by omega
    have hqt : q / 25 = t := by omega
    have hq5 : q < 125 := by omega
    have hm := mxN_le (g := g) (lo := t * 25) hgl q
    simp only [L_X6_border_6]
    rw [show t * 25 + (k + 1) = q + 1 by omega, mxN_s (by omega), ← hq]
    have fo := r_isOf hw hv hq5
    by_cases ho : isOf s q
    · have fb := r_beside hw hv ho hi
      rw [if_pos (ofB_iff.mpr ho)] at fo
      cases e : bsS s q i with
      | none =>
        rw [e] at fb
        have fb : F_X6_beside a 1137 (iN q) (iN i) σ = some (.inl mI, σ) := fb
        have fe := r_edgeOf hw hv ho hi (fun q' i' h1 => hru q' i' (by omega))
        have g1 : g q = eL s (q * 4 + i) := by
          rw [hg]
          show (if _ then _ else _) = _
          rw [ofB_iff.mpr ho, e]
          rfl
        have b3 := eL_le3 hw (q * 4 + i)
        rw [g1]
        by_cases hx : eL s (q * 4 + i) ≤ mxN g (t * 25) q
        · rw [Nat.max_eq_left hx]
          simp (disch := omega) only [↓ite_ap, if_true, if_false, if_pos, if_neg, retM_ap, retZ_ap0, retZ_ap1, gM_ap, sM_ap, jM_ap, bI_ap, bL_ap, bD_ap, rdM_ap, wrM_ap, thrM_ap, nl_0, nl_1, nl_2, nl_3, nl_4, nl_5, nl_6, nl_7, nl_8, nl_9, nl_10, nl_11, nl_12, nl_13, nl_25, nl_33, nl_35, nl_45, nl_48, nl_49, nl_50, nl_52, nl_53, nl_57, nl_59, nl_60, nl_61, nl_77, nl_94, nl_97, nl_100, nl_101, nl_119, nl_125, nl_126, nl_137, nl_262, nl_387, nl_500, nl_512, nl_637, nl_999, nl_1022, nl_1137, nl_5685, nm_1b, iN_mI, mI_iN, iN_add, iN_mul, iN_sub, iN_div, iN_rem, iN_lt, iN_le, iN_eq, iN_nat, inB_iN, e1, ↓invM_l fo, ↓invM_l fb, ↓invM_l fe]
        · rw [Nat.max_eq_right (by omega)]
          simp (disch := omega) only [↓ite_ap, if_true, if_false, if_pos, if_neg, retM_ap, retZ_ap0, retZ_ap1, gM_ap, sM_ap, jM_ap, bI_ap, bL_ap, bD_ap, rdM_ap, wrM_ap, thrM_ap, nl_0, nl_1, nl_2, nl_3, nl_4, nl_5, nl_6, nl_7, nl_8, nl_9, nl_10, nl_11, nl_12, nl_13, nl_25, nl_33, nl_35, nl_45, nl_48, nl_49, nl_50, nl_52, nl_53, nl_57, nl_59, nl_60, nl_61, nl_77, nl_94, nl_97, nl_100, nl_101, nl_119, nl_125, nl_126, nl_137, nl_262, nl_387, nl_500, nl_512, nl_637, nl_999, nl_1022, nl_1137, nl_5685, nm_1b, iN_mI, mI_iN, iN_add, iN_mul, iN_sub, iN_div, iN_rem, iN_lt, iN_le, iN_eq, iN_nat, inB_iN, e1, ↓invM_l fo, ↓invM_l fb, ↓invM_l fe]
      | some q' =>
        rw [e] at fb
        have fb : F_X6_beside a 1137 (iN q) (iN i) σ = some (.inl (iN q'), σ) := fb
        have l3 := isOf_lt hw (bsS_of hw ho e).1
        have g1 : g q = 0 := by
          rw [hg]
          show (if _ then _ else _) = _
          rw [ofB_iff.mpr ho, e]
          rfl
        rw [g1, Nat.max_zero]
        simp (disch := omega) only [↓ite_ap, if_true, if_false, if_pos, if_neg, retM_ap, retZ_ap0, retZ_ap1, gM_ap, sM_ap, jM_ap, bI_ap, bL_ap, bD_ap, rdM_ap, wrM_ap, thrM_ap, nl_0, nl_1, nl_2, nl_3, nl_4, nl_5, nl_6, nl_7, nl_8, nl_9, nl_10, nl_11, nl_12, nl_13, nl_25, nl_33, nl_35, nl_45, nl_48, nl_49, nl_50, nl_52, nl_53, nl_57, nl_59, nl_60, nl_61, nl_77, nl_94, nl_97, nl_100, nl_101, nl_119, nl_125, nl_126, nl_137, nl_262, nl_387, nl_500, nl_512, nl_637, nl_999, nl_1022, nl_1137, nl_5685, nm_1b, iN_mI, mI_iN, iN_add, iN_mul, iN_sub, iN_div, iN_rem, iN_lt, iN_le, iN_eq, iN_nat, inB_iN, e1, ↓invM_l fo, ↓invM_l fb]
    · rw [if_neg (fun g => ho (ofB_iff.mp g))] at fo
      have g1 : g q = 0 := by
        rw [hg]
        show (if _ then _ else _) = _
        rw [ofB_not ho]
        rfl
      rw [g1, Nat.max_zero]
      simp (disch := omega) only [↓ite_ap, if_true, if_false, if_pos, if_neg, retM_ap, retZ_ap0, retZ_ap1, gM_ap, sM_ap, jM_ap, bI_ap, bL_ap, bD_ap, rdM_ap, wrM_ap, thrM_ap, nl_0, nl_1, nl_2, nl_3, nl_4, nl_5, nl_6, nl_7, nl_8, nl_9, nl_10, nl_11, nl_12, nl_13, nl_25, nl_33, nl_35, nl_45, nl_48, nl_49, nl_50, nl_52, nl_53, nl_57, nl_59, nl_60, nl_61, nl_77, nl_94, nl_97, nl_100, nl_101, nl_119, nl_125, nl_126, nl_137, nl_262, nl_387, nl_500, nl_512, nl_637, nl_999, nl_1022, nl_1137, nl_5685, nm_1b, iN_mI, mI_iN, iN_add, iN_mul, iN_sub, iN_div, iN_rem, iN_lt, iN_le, iN_eq, iN_nat, inB_iN, e1, ↓invM_l fo]
  · intro n
    simp only [L_X6_border_6]
    rw [show t * 25 + 25 = (t + 1) * 25 by omega, ← eb]
    simp (disch := omega) only [↓ite_ap, if_true, if_false, if_pos, if_neg, retM_ap, retZ_ap0, retZ_ap1, gM_ap, sM_ap, jM_ap, bI_ap, bL_ap, bD_ap, rdM_ap, wrM_ap, thrM_ap, nl_0, nl_1, nl_2, nl_3, nl_4, nl_5, nl_6, nl_7, nl_8, nl_9, nl_10, nl_11, nl_12, nl_13, nl_25, nl_33, nl_35, nl_45, nl_48, nl_49, nl_50, nl_52, nl_53, nl_57, nl_59, nl_60, nl_61, nl_77, nl_94, nl_97, nl_100, nl_101, nl_119, nl_125, nl_126, nl_137, nl_262, nl_387, nl_500, nl_512, nl_637, nl_999, nl_1022, nl_1137, nl_5685, nm_1b, iN_mI, mI_iN, iN_add, iN_mul, iN_sub, iN_div, iN_rem, iN_lt, iN_le, iN_eq, iN_nat, inB_iN]
