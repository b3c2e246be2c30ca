/-! THE REFERENCE: ITS LEAVES -/
/-- the reference's array a holds s -/
def Vw (a : Nat) (s : Sv) (σ : Mm) : Prop := ∀ j, j < 1137 → σ a j = s j
theorem Vw.fr {a : Nat} {s : Sv} {σ σ1 : Mm} (h : Vw a s σ) (hf : σ1 a = σ a) : Vw a s σ1 := fun j hj => by rw [hf]; exact h j hj
theorem Vw.tb {a : Nat} {s : Sv} {σ : Mm} (h : Vw a s σ) (hw : WF s) : σ a 0 = iN (tbS s) := (h 0 (by omega)).trans hw.1.1
theorem Vw.ro {a t : Nat} {s : Sv} {σ : Mm} (h : Vw a s σ) (hw : WF s) (ht : t < tbS s) : σ a (2 + t) = iN (roS s t) := (h _ (by have := hw.1.2.2; omega)).trans (hw.2.2.1 t ht).1
theorem Vw.co {a t : Nat} {s : Sv} {σ : Mm} (h : Vw a s σ) (hw : WF s) (ht : t < tbS s) : σ a (7 + t) = iN (coS s t) := (h _ (by have := hw.1.2.2; omega)).trans (hw.2.2.1 t ht).2.2.2.1
theorem Vw.ki {a q : Nat} {s : Sv} {σ : Mm} (h : Vw a s σ) (hw : WF s) (hq : isOf s q) : σ a (12 + q) = iN (kiS s q) := (h _ (by have := isOf_lt hw hq; omega)).trans (hw.2.2.2.2.2.1 q hq).1
theorem Vw.nu {a q : Nat} {s : Sv} {σ : Mm} (h : Vw a s σ) (hw : WF s) (hq : isOf s q) : σ a (137 + q) = nuS s q := h _ (by have := isOf_lt hw hq; omega)
theorem Vw.ow {a q : Nat} {s : Sv} {σ : Mm} (h : Vw a s σ) (hw : WF s) (hq : isOf s q) : σ a (512 + q) = iN (owS s q) := (h _ (by have := isOf_lt hw hq; omega)).trans (hw.2.2.2.1 q hq).1
theorem Vw.hi {a q : Nat} {s : Sv} {σ : Mm} (h : Vw a s σ) (hw : WF s) (hq : isCl s q) : σ a (262 + q) = iN (hiS s q) := (h _ (by have := isOf_lt hw hq.1; omega)).trans (hw.2.2.2.2.1 q hq).1
theorem Vw.br {a q : Nat} {s : Sv} {σ : Mm} (h : Vw a s σ) (hw : WF s) (hq : isCl s q) : σ a (387 + q) = iN (brS s q) := (h _ (by have := isOf_lt hw hq.1; omega)).trans (hw.2.2.2.2.1 q hq).2.1
theorem Vw.ru {a q i : Nat} {s : Sv} {σ : Mm} (h : Vw a s σ) (hw : WF s) (hq : isOf s q) (hi : i < 4) : σ a (637 + (4 * q + i)) = iN (ruS s (4 * q + i)) := (h _ (by have := isOf_lt hw hq; omega)).trans ((hw.2.2.2.2.2.1 q hq).2.2.1 i hi).1
theorem r_isOf {a q : Nat} {s : Sv} {σ : Mm} (hw : WF s) (hv : Vw a s σ) (hq : q < 125) : F_X6_isOf a 1137 (iN q) σ = some (.inl (if ofB s q = true then iN 1 else iN 0), σ) := by
  have t5 := hw.1.2.2
  have h0 := hv.tb hw
  unfold F_X6_isOf
  by_cases ht : q / 25 < tbS s
  · have h1 := hv.ro hw ht
    have h2 := hv.co hw ht
    have w := hw.2.2.1 _ ht
    by_cases hr : q % 25 / 5 < roS s (q / 25)
    · by_cases hc : q % 5 < coS s (q / 25)
      · rw [if_pos (ofB_iff.mpr ⟨ht, hr, hc⟩)]
        simp (disch := omega) only [↓ite_ap, if_true, if_false, if_pos, if_neg, retM_ap, retZ_ap0, retZ_ap1, gM_ap, sM_ap, jM_ap, bI_ap, bL_ap, bD_ap, rdM_ap, wrM_ap, thrM_ap, nl_0, nl_1, nl_2, nl_3, nl_4, nl_5, nl_6, nl_7, nl_8, nl_9, nl_10, nl_11, nl_12, nl_13, nl_25, nl_33, nl_35, nl_45, nl_48, nl_49, nl_50, nl_52, nl_53, nl_57, nl_59, nl_60, nl_61, nl_77, nl_94, nl_97, nl_100, nl_101, nl_119, nl_125, nl_126, nl_137, nl_262, nl_387, nl_500, nl_512, nl_637, nl_999, nl_1022, nl_1137, nl_5685, nm_1b, iN_mI, mI_iN, iN_add, iN_mul, iN_sub, iN_div, iN_rem, iN_lt, iN_le, iN_eq, iN_nat, inB_iN, h0, h1, h2]
      · rw [if_neg (fun g => hc (ofB_iff.mp g).2.2)]
        simp (disch := omega) only [↓ite_ap, if_true, if_false, if_pos, if_neg, retM_ap, retZ_ap0, retZ_ap1, gM_ap, sM_ap, jM_ap, bI_ap, bL_ap, bD_ap, rdM_ap, wrM_ap, thrM_ap, nl_0, nl_1, nl_2, nl_3, nl_4, nl_5, nl_6, nl_7, nl_8, nl_9, nl_10, nl_11, nl_12, nl_13, nl_25, nl_33, nl_35, nl_45, nl_48, nl_49, nl_50, nl_52, nl_53, nl_57, nl_59, nl_60, nl_61, nl_77, nl_94, nl_97, nl_100, nl_101, nl_119, nl_125, nl_126, nl_137, nl_262, nl_387, nl_500, nl_512, nl_637, nl_999, nl_1022, nl_1137, nl_5685, nm_1b, iN_mI, mI_iN, iN_add, iN_mul, iN_sub, iN_div, iN_rem, iN_lt, iN_le, iN_eq, iN_nat, inB_iN, h0, h1, h2]
    · rw [if_neg (fun g => hr (ofB_iff.mp g).2.1)]
      simp (disch := omega) only [↓ite_ap, if_true, if_false, if_pos, if_neg, retM_ap, retZ_ap0, retZ_ap1, gM_ap, sM_ap, jM_ap, bI_ap, bL_ap, bD_ap, rdM_ap, wrM_ap, thrM_ap, nl_0, nl_1, nl_2, nl_3, nl_4, nl_5, nl_6, nl_7, nl_8, nl_9, nl_10, nl_11, nl_12, nl_13, nl_25, nl_33, nl_35, nl_45, nl_48, nl_49, nl_50, nl_52, nl_53, nl_57, nl_59, nl_60, nl_61, nl_77, nl_94, nl_97, nl_100, nl_101, nl_119, nl_125, nl_126, nl_137, nl_262, nl_387, nl_500, nl_512, nl_637, nl_999, nl_1022, nl_1137, nl_5685, nm_1b, iN_mI, mI_iN, iN_add, iN_mul, iN_sub, iN_div, iN_rem, iN_lt, iN_le, iN_eq, iN_nat, inB_iN, h0, h1, h2]
  · rw [if_neg (fun g => ht (ofB_iff.mp g).1)]
    simp (disch := omega) only [↓ite_ap, if_true, if_false, if_pos, if_neg, retM_ap, retZ_ap0, retZ_ap1, gM_ap, sM_ap, jM_ap, bI_ap, bL_ap, bD_ap, rdM_ap, wrM_ap, thrM_ap, nl_0, nl_1, nl_2, nl_3, nl_4, nl_5, nl_6, nl_7, nl_8, nl_9, nl_10, nl_11, nl_12, nl_13, nl_25, nl_33, nl_35, nl_45, nl_48, nl_49, nl_50, nl_52, nl_53, nl_57, nl_59, nl_60, nl_61, nl_77, nl_94, nl_97, nl_100, nl_101, nl_119, nl_125, nl_126, nl_137, nl_262, nl_387, nl_500, nl_512, nl_637, nl_999, nl_1022, nl_1137, nl_5685, nm_1b, iN_mI, mI_iN, iN_add, iN_mul, iN_sub, iN_div, iN_rem, iN_lt, iN_le, iN_eq, iN_nat, inB_iN, h0]
theorem r_isCell {a q : Nat} {s : Sv} {σ : Mm} (hw : WF s) (hv : Vw a s σ) (hq : q < 125) : F_X6_isCell a 1137 (iN q) σ = some (.inl (if clB s q = true then iN 1 else iN 0), σ) := by
  have f1 := r_isOf hw hv hq
  unfold F_X6_isCell
  by_cases ho : isOf s q
  · have h1 := hv.ow hw ho
    have b1 := isOf_lt hw (hw.2.2.2.1 q ho).2.1.1
    rw [if_pos (ofB_iff.mpr ho)] at f1
    by_cases hc : owS s q = q
    · rw [if_pos (clB_iff.mpr ⟨ho, hc⟩)]
      simp (disch := omega) only [↓ite_ap, if_true, if_false, if_pos, if_neg, retM_ap, retZ_ap0, retZ_ap1, gM_ap, sM_ap, jM_ap, bI_ap, bL_ap, bD_ap, rdM_ap, wrM_ap, thrM_ap, nl_0, nl_1, nl_2, nl_3, nl_4, nl_5, nl_6, nl_7, nl_8, nl_9, nl_10, nl_11, nl_12, nl_13, nl_25, nl_33, nl_35, nl_45, nl_48, nl_49, nl_50, nl_52, nl_53, nl_57, nl_59, nl_60, nl_61, nl_77, nl_94, nl_97, nl_100, nl_101, nl_119, nl_125, nl_126, nl_137, nl_262, nl_387, nl_500, nl_512, nl_637, nl_999, nl_1022, nl_1137, nl_5685, nm_1b, iN_mI, mI_iN, iN_add, iN_mul, iN_sub, iN_div, iN_rem, iN_lt, iN_le, iN_eq, iN_nat, inB_iN, ↓invM_l f1, h1]
    · rw [if_neg (fun g => hc (clB_iff.mp g).2)]
      simp (disch := omega) only [↓ite_ap, if_true, if_false, if_pos, if_neg, retM_ap, retZ_ap0, retZ_ap1, gM_ap, sM_ap, jM_ap, bI_ap, bL_ap, bD_ap, rdM_ap, wrM_ap, thrM_ap, nl_0, nl_1, nl_2, nl_3, nl_4, nl_5, nl_6, nl_7, nl_8, nl_9, nl_10, nl_11, nl_12, nl_13, nl_25, nl_33, nl_35, nl_45, nl_48, nl_49, nl_50, nl_52, nl_53, nl_57, nl_59, nl_60, nl_61, nl_77, nl_94, nl_97, nl_100, nl_101, nl_119, nl_125, nl_126, nl_137, nl_262, nl_387, nl_500, nl_512, nl_637, nl_999, nl_1022, nl_1137, nl_5685, nm_1b, iN_mI, mI_iN, iN_add, iN_mul, iN_sub, iN_div, iN_rem, iN_lt, iN_le, iN_eq, iN_nat, inB_iN, ↓invM_l f1, h1]
  · rw [if_neg (fun g => ho (ofB_iff.mp g))] at f1
    rw [if_neg (fun g => ho (clB_iff.mp g).1)]
    simp (disch := omega) only [↓ite_ap, if_true, if_false, if_pos, if_neg, retM_ap, retZ_ap0, retZ_ap1, gM_ap, sM_ap, jM_ap, bI_ap, bL_ap, bD_ap, rdM_ap, wrM_ap, thrM_ap, nl_0, nl_1, nl_2, nl_3, nl_4, nl_5, nl_6, nl_7, nl_8, nl_9, nl_10, nl_11, nl_12, nl_13, nl_25, nl_33, nl_35, nl_45, nl_48, nl_49, nl_50, nl_52, nl_53, nl_57, nl_59, nl_60, nl_61, nl_77, nl_94, nl_97, nl_100, nl_101, nl_119, nl_125, nl_126, nl_137, nl_262, nl_387, nl_500, nl_512, nl_637, nl_999, nl_1022, nl_1137, nl_5685, nm_1b, iN_mI, mI_iN, iN_add, iN_mul, iN_sub, iN_div, iN_rem, iN_lt, iN_le, iN_eq, iN_nat, inB_iN, ↓invM_l f1]
theorem r_isCell1 {a q : Nat} {s : Sv} {σ : Mm} (hw : WF s) (hv : Vw a s σ) (hq : isCl s q) : F_X6_isCell a 1137 (iN q) σ = some (.inl (iN 1), σ) := by
  rw [r_isCell hw hv (isOf_lt hw hq.1), if_pos (clB_iff.mpr hq)]
theorem r_isCell0 {a q : Nat} {s : Sv} {σ : Mm} (hw : WF s) (hv : Vw a s σ) (h5 : q < 125) (hq : ¬ isCl s q) : F_X6_isCell a 1137 (iN q) σ = some (.inl (iN 0), σ) := by
  rw [r_isCell hw hv h5, if_neg (fun g => hq (clB_iff.mp g))]
theorem r_isSum {a q : Nat} {s : Sv} {σ : Mm} (hw : WF s) (hv : Vw a s σ) (hq : isOf s q) : F_X6_isSum a 1137 (iN q) σ = some (.inl (if 4 ≤ kiS s q then iN 1 else iN 0), σ) := by
  have h1 := hv.ki hw hq
  have l1 := isOf_lt hw hq
  have kb := (hw.2.2.2.2.2.1 q hq).2.1
  unfold F_X6_isSum
  by_cases h4 : 4 ≤ kiS s q
  · simp (disch := omega) only [↓ite_ap, if_true, if_false, if_pos, if_neg, retM_ap, retZ_ap0, retZ_ap1, gM_ap, sM_ap, jM_ap, bI_ap, bL_ap, bD_ap, rdM_ap, wrM_ap, thrM_ap, nl_0, nl_1, nl_2, nl_3, nl_4, nl_5, nl_6, nl_7, nl_8, nl_9, nl_10, nl_11, nl_12, nl_13, nl_25, nl_33, nl_35, nl_45, nl_48, nl_49, nl_50, nl_52, nl_53, nl_57, nl_59, nl_60, nl_61, nl_77, nl_94, nl_97, nl_100, nl_101, nl_119, nl_125, nl_126, nl_137, nl_262, nl_387, nl_500, nl_512, nl_637, nl_999, nl_1022, nl_1137, nl_5685, nm_1b, iN_mI, mI_iN, iN_add, iN_mul, iN_sub, iN_div, iN_rem, iN_lt, iN_le, iN_eq, iN_nat, inB_iN, h1]
  · simp (disch := omega) only [↓ite_ap, if_true, if_false, if_pos, if_neg, retM_ap, retZ_ap0, retZ_ap1, gM_ap, sM_ap, jM_ap, bI_ap, bL_ap, bD_ap, rdM_ap, wrM_ap, thrM_ap, nl_0, nl_1, nl_2, nl_3, nl_4, nl_5, nl_6, nl_7, nl_8, nl_9, nl_10, nl_11, nl_12, nl_13, nl_25, nl_33, nl_35, nl_45, nl_48, nl_49, nl_50, nl_52, nl_53, nl_57, nl_59, nl_60, nl_61, nl_77, nl_94, nl_97, nl_100, nl_101, nl_119, nl_125, nl_126, nl_137, nl_262, nl_387, nl_500, nl_512, nl_637, nl_999, nl_1022, nl_1137, nl_5685, nm_1b, iN_mI, mI_iN, iN_add, iN_mul, iN_sub, iN_div, iN_rem, iN_lt, iN_le, iN_eq, iN_nat, inB_iN, h1]
theorem r_rowOf {q : Nat} {σ : Mm} (hq : q < 1000) : F_X6_rowOf (iN q) σ = some (.inl (iN (q % 25 / 5)), σ) := by
  unfold F_X6_rowOf
  simp (disch := omega) only [↓ite_ap, if_true, if_false, if_pos, if_neg, retM_ap, retZ_ap0, retZ_ap1, gM_ap, sM_ap, jM_ap, bI_ap, bL_ap, bD_ap, rdM_ap, wrM_ap, thrM_ap, nl_0, nl_1, nl_2, nl_3, nl_4, nl_5, nl_6, nl_7, nl_8, nl_9, nl_10, nl_11, nl_12, nl_13, nl_25, nl_33, nl_35, nl_45, nl_48, nl_49, nl_50, nl_52, nl_53, nl_57, nl_59, nl_60, nl_61, nl_77, nl_94, nl_97, nl_100, nl_101, nl_119, nl_125, nl_126, nl_137, nl_262, nl_387, nl_500, nl_512, nl_637, nl_999, nl_1022, nl_1137, nl_5685, nm_1b, iN_mI, mI_iN, iN_add, iN_mul, iN_sub, iN_div, iN_rem, iN_lt, iN_le, iN_eq, iN_nat, inB_iN]
def ifk (k : Nat) : Int32 := if k = 4 then iN 1 else iN 0
theorem r_along {q k : Nat} {σ : Mm} (hq : q < 1000) : F_X6_along (iN q) (ifk k) σ = some (.inl (iN (alS k q)), σ) := by
  unfold F_X6_along ifk alS
  have f1 := r_rowOf (σ := σ) hq
  by_cases h : k = 4
  · simp (disch := omega) only [↓ite_ap, if_true, if_false, if_pos, if_neg, retM_ap, retZ_ap0, retZ_ap1, gM_ap, sM_ap, jM_ap, bI_ap, bL_ap, bD_ap, rdM_ap, wrM_ap, thrM_ap, nl_0, nl_1, nl_2, nl_3, nl_4, nl_5, nl_6, nl_7, nl_8, nl_9, nl_10, nl_11, nl_12, nl_13, nl_25, nl_33, nl_35, nl_45, nl_48, nl_49, nl_50, nl_52, nl_53, nl_57, nl_59, nl_60, nl_61, nl_77, nl_94, nl_97, nl_100, nl_101, nl_119, nl_125, nl_126, nl_137, nl_262, nl_387, nl_500, nl_512, nl_637, nl_999, nl_1022, nl_1137, nl_5685, nm_1b, iN_mI, mI_iN, iN_add, iN_mul, iN_sub, iN_div, iN_rem, iN_lt, iN_le, iN_eq, iN_nat, inB_iN, ↓invM_l f1]
  · simp (disch := omega) only [↓ite_ap, if_true, if_false, if_pos, if_neg, retM_ap, retZ_ap0, retZ_ap1, gM_ap, sM_ap, jM_ap, bI_ap, bL_ap, bD_ap, rdM_ap, wrM_ap, thrM_ap, nl_0, nl_1, nl_2, nl_3, nl_4, nl_5, nl_6, nl_7, nl_8, nl_9, nl_10, nl_11, nl_12, nl_13, nl_25, nl_33, nl_35, nl_45, nl_48, nl_49, nl_50, nl_52, nl_53, nl_57, nl_59, nl_60, nl_61, nl_77, nl_94, nl_97, nl_100, nl_101, nl_119, nl_125, nl_126, nl_137, nl_262, nl_387, nl_500, nl_512, nl_637, nl_999, nl_1022, nl_1137, nl_5685, nm_1b, iN_mI, mI_iN, iN_add, iN_mul, iN_sub, iN_div, iN_rem, iN_lt, iN_le, iN_eq, iN_nat, inB_iN, ↓invM_l f1]
