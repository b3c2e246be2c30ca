/-! WHAT IS IN A CELL FITS INTO ITS COLUMNS; A TABLE WITHIN IS INSIDE OF ITS RULES -/
section Cp
variable {s : Sv} {q : Nat}
theorem cp_0 (hc : clB s q = true) : cpS s q 0 = iN (kiS s q) := if_pos hc
theorem cp_1 (hc : clB s q = true) : cpS s q 1 = vS s (vaL s) q := if_pos hc
theorem cp_2 (hc : clB s q = true) : cpS s q 2 = shL s q := if_pos hc
theorem cp_4 (hc : clB s q = true) : cpS s q 4 = iN (brS s q) := if_pos hc
theorem cp_5 (hc : clB s q = true) : cpS s q 5 = iN (waL s (2 * q)) := if_pos hc
theorem cp_7 (hc : clB s q = true) : cpS s q 7 = if kiS s q = 3 then iN (nv (nuS s q)) else mI := if_pos hc
theorem cp_8 (hc : clB s q = true) : cpS s q 8 = iN (rlL s (q * 4 + 0)) := if_pos hc
theorem cp_11 (hc : clB s q = true) : cpS s q 11 = iN (rlL s (q * 4 + 3)) := if_pos hc
theorem cp_no {k : Nat} (hc : ¬ clB s q = true) : cpS s q k = mI := if_neg hc
end Cp
theorem lp_w17 {t r c br : Nat} {z : Nat → Nat} {σ : Mm} {k1 : Int32 → Dm Int32} (h4 : F_X5_cell (iN t) (iN r) (iN c) (iN 4) σ = some (.inl (iN br), σ)) (hz : ∀ a, c ≤ a → a < c + br → F_X5_size (iN t) (iN 0) (iN a) σ = some (.inl (iN (z a)), σ)) (h5 : c + br ≤ 5) : ∀ d n a, a + d = c + br → d < n → c ≤ a → L_L_wide_17 (iN t) (iN r) (iN c) n (iN (smN z c a)) (iN a) k1 σ = k1 (iN (smN z c (c + br))) σ
  | 0, n, a, h1, h2, h3 => by
    obtain ⟨n, rfl⟩ : ∃ m, n = m + 1 := ⟨n - 1, by omega⟩
    obtain rfl : a = c + br := by omega
    simp only [L_L_wide_17]
    clear hz
    simp (disch := omega) only [↓ite_ap, if_true, if_false, if_pos, if_neg, retM_ap, retZ_ap0, retZ_ap1, gM_ap, sM_ap, jM_ap, bI_ap, bL_ap, bD_ap, rdM_ap, wrM_ap, thrM_ap, nl_0, nl_1, nl_2, nl_3, nl_4, nl_5, nl_6, nl_7, nl_8, nl_9, nl_10, nl_11, nl_12, nl_13, nl_25, nl_33, nl_35, nl_45, nl_48, nl_49, nl_50, nl_52, nl_53, nl_57, nl_59, nl_60, nl_61, nl_77, nl_94, nl_97, nl_100, nl_101, nl_119, nl_125, nl_126, nl_137, nl_262, nl_387, nl_500, nl_512, nl_637, nl_999, nl_1022, nl_1137, nl_5685, nm_1b, iN_mI, mI_iN, iN_add, iN_mul, iN_sub, iN_div, iN_rem, iN_lt, iN_le, iN_eq, iN_nat, inB_iN, ↓invM_l h4]
  | d + 1, n, a, h1, h2, h3 => by
    obtain ⟨n, rfl⟩ : ∃ m, n = m + 1 := ⟨n - 1, by omega⟩
    have ih := lp_w17 (k1 := k1) h4 hz h5 d n (a + 1) (by omega) (by omega) (by omega)
    have fz := hz a h3 (by omega)
    rw [smN_s h3] at ih
    simp only [L_L_wide_17]
    clear hz
    simp (disch := omega) only [↓ite_ap, if_true, if_false, if_pos, if_neg, retM_ap, retZ_ap0, retZ_ap1, gM_ap, sM_ap, jM_ap, bI_ap, bL_ap, bD_ap, rdM_ap, wrM_ap, thrM_ap, nl_0, nl_1, nl_2, nl_3, nl_4, nl_5, nl_6, nl_7, nl_8, nl_9, nl_10, nl_11, nl_12, nl_13, nl_25, nl_33, nl_35, nl_45, nl_48, nl_49, nl_50, nl_52, nl_53, nl_57, nl_59, nl_60, nl_61, nl_77, nl_94, nl_97, nl_100, nl_101, nl_119, nl_125, nl_126, nl_137, nl_262, nl_387, nl_500, nl_512, nl_637, nl_999, nl_1022, nl_1137, nl_5685, nm_1b, iN_mI, mI_iN, iN_add, iN_mul, iN_sub, iN_div, iN_rem, iN_lt, iN_le, iN_eq, iN_nat, inB_iN, ↓invM_l h4, ↓invM_l fz, ih]
theorem lp_w74 {t r c m ro co : Nat} {e0 e3 : Nat → Nat} {g8 g11 : Nat} {σ : Mm} (hm : m < 5) (hro : ro ≤ 5) (hco : co ≤ 5) (ht0 : F_X5_table (iN m) (iN 0) σ = some (.inl (iN ro), σ)) (ht1 : F_X5_table (iN m) (iN 1) σ = some (.inl (iN co), σ)) (h8 : F_X5_cell (iN t) (iN r) (iN c) (iN 8) σ = some (.inl (iN g8), σ)) (h11 : F_X5_cell (iN t) (iN r) (iN c) (iN 11) σ = some (.inl (iN g11), σ)) (hg : g8 ≤ 3 ∧ g11 ≤ 3) (he0 : ∀ j, j < co → F_X5_edge (iN m) (iN 0) (iN j) (iN 0) σ = some (.inl (iN (e0 j)), σ)) (he3 : ∀ j, j < ro → F_X5_edge (iN m) (iN j) (iN 0) (iN 3) σ = some (.inl (iN (e3 j)), σ)) (hl0 : ∀ j, j < co → e0 j ≤ g8) (hl3 : ∀ j, j < ro → e3 j ≤ g11) : ∀ d n k, k + d = 25 → d < n → L_L_wide_74 (iN t) (iN r) (iN c) (iN m) n (iN 1) (iN k) σ = some (.inl (iN 1), σ)
  | 0, n, k, h1, h2 => by
    obtain ⟨n, rfl⟩ : ∃ m, n = m + 1 := ⟨n - 1, by omega⟩
    obtain rfl : k = 25 := by omega
    simp only [L_L_wide_74]
    clear he0 he3 hl0 hl3
    simp (disch := omega) only [↓ite_ap, if_true, if_false, if_pos, if_neg, retM_ap, retZ_ap0, retZ_ap1, gM_ap, sM_ap, jM_ap, bI_ap, bL_ap, bD_ap, rdM_ap, wrM_ap, thrM_ap, nl_0, nl_1, nl_2, nl_3, nl_4, nl_5, nl_6, nl_7, nl_8, nl_9, nl_10, nl_11, nl_12, nl_13, nl_25, nl_33, nl_35, nl_45, nl_48, nl_49, nl_50, nl_52, nl_53, nl_57, nl_59, nl_60, nl_61, nl_77, nl_94, nl_97, nl_100, nl_101, nl_119, nl_125, nl_126, nl_137, nl_262, nl_387, nl_500, nl_512, nl_637, nl_999, nl_1022, nl_1137, nl_5685, nm_1b, iN_mI, mI_iN, iN_add, iN_mul, iN_sub, iN_div, iN_rem, iN_lt, iN_le, iN_eq, iN_nat, inB_iN]
  | d + 1, n, k, h1, h2 => by
    obtain ⟨n, rfl⟩ : ∃ m, n = m + 1 := ⟨n - 1, by omega⟩
    have ih := lp_w74 hm hro hco ht0 ht1 h8 h11 hg he0 he3 hl0 hl3 d n (k + 1) (by omega) (by omega)
    simp only [L_L_wide_74]
    by_cases c0 : ro ≤ k / 5
    · clear he0 he3 hl0 hl3
      simp (disch := omega) only [↓ite_ap, if_true, if_false, if_pos, if_neg, retM_ap, retZ_ap0, retZ_ap1, gM_ap, sM_ap, jM_ap, bI_ap, bL_ap, bD_ap, rdM_ap, wrM_ap, thrM_ap, nl_0, nl_1, nl_2, nl_3, nl_4, nl_5, nl_6, nl_7, nl_8, nl_9, nl_10, nl_11, nl_12, nl_13, nl_25, nl_33, nl_35, nl_45, nl_48, nl_49, nl_50, nl_52, nl_53, nl_57, nl_59, nl_60, nl_61, nl_77, nl_94, nl_97, nl_100, nl_101, nl_119, nl_125, nl_126, nl_137, nl_262, nl_387, nl_500, nl_512, nl_637, nl_999, nl_1022, nl_1137, nl_5685, nm_1b, iN_mI, mI_iN, iN_add, iN_mul, iN_sub, iN_div, iN_rem, iN_lt, iN_le, iN_eq, iN_nat, inB_iN, ↓invM_l ht0, ih]
    · by_cases c1 : co ≤ k % 5
      · clear he0 he3 hl0 hl3
        simp (disch := omega) only [↓ite_ap, if_true, if_false, if_pos, if_neg, retM_ap, retZ_ap0, retZ_ap1, gM_ap, sM_ap, jM_ap, bI_ap, bL_ap, bD_ap, rdM_ap, wrM_ap, thrM_ap, nl_0, nl_1, nl_2, nl_3, nl_4, nl_5, nl_6, nl_7, nl_8, nl_9, nl_10, nl_11, nl_12, nl_13, nl_25, nl_33, nl_35, nl_45, nl_48, nl_49, nl_50, nl_52, nl_53, nl_57, nl_59, nl_60, nl_61, nl_77, nl_94, nl_97, nl_100, nl_101, nl_119, nl_125, nl_126, nl_137, nl_262, nl_387, nl_500, nl_512, nl_637, nl_999, nl_1022, nl_1137, nl_5685, nm_1b, iN_mI, mI_iN, iN_add, iN_mul, iN_sub, iN_div, iN_rem, iN_lt, iN_le, iN_eq, iN_nat, inB_iN, ↓invM_l ht0, ↓invM_l ht1, ih]
      · have f0 := he0 (k % 5) (by omega)
        have f3 := he3 (k / 5) (by omega)
        have l0 := hl0 (k % 5) (by omega)
        have l3 := hl3 (k / 5) (by omega)
        clear he0 he3 hl0 hl3
        obtain ⟨E0, hE0⟩ : ∃ E0, E0 = e0 (k % 5) := ⟨_, rfl⟩
        obtain ⟨E3, hE3⟩ : ∃ E3, E3 = e3 (k / 5) := ⟨_, rfl⟩
        rw [← hE0] at f0 l0
        rw [← hE3] at f3 l3
        clear hE0 hE3
        by_cases z0 : 0 < k / 5
        · by_cases z1 : 0 < k % 5
          · simp (disch := omega) only [↓ite_ap, if_true, if_false, if_pos, if_neg, retM_ap, retZ_ap0, retZ_ap1, gM_ap, sM_ap, jM_ap, bI_ap, bL_ap, bD_ap, rdM_ap, wrM_ap, thrM_ap, nl_0, nl_1, nl_2, nl_3, nl_4, nl_5, nl_6, nl_7, nl_8, nl_9, nl_10, nl_11, nl_12, nl_13, nl_25, nl_33, nl_35, nl_45, nl_48, nl_49, nl_50, nl_52, nl_53, nl_57, nl_59, nl_60, nl_61, nl_77, nl_94, nl_97, nl_100, nl_101, nl_119, nl_125, nl_126, nl_137, nl_262, nl_387, nl_500, nl_512, nl_637, nl_999, nl_1022, nl_1137, nl_5685, nm_1b, iN_mI, mI_iN, iN_add, iN_mul, iN_sub, iN_div, iN_rem, iN_lt, iN_le, iN_eq, iN_nat, inB_iN, ↓invM_l ht0, ↓invM_l ht1, ih]
          · have e1 : k % 5 = 0 := by omega
            simp (disch := omega) only [↓ite_ap, if_true, if_false, if_pos, if_neg, retM_ap, retZ_ap0, retZ_ap1, gM_ap, sM_ap, jM_ap, bI_ap, bL_ap, bD_ap, rdM_ap, wrM_ap, thrM_ap, nl_0, nl_1, nl_2, nl_3, nl_4, nl_5, nl_6, nl_7, nl_8, nl_9, nl_10, nl_11, nl_12, nl_13, nl_25, nl_33, nl_35, nl_45, nl_48, nl_49, nl_50, nl_52, nl_53, nl_57, nl_59, nl_60, nl_61, nl_77, nl_94, nl_97, nl_100, nl_101, nl_119, nl_125, nl_126, nl_137, nl_262, nl_387, nl_500, nl_512, nl_637, nl_999, nl_1022, nl_1137, nl_5685, nm_1b, iN_mI, mI_iN, iN_add, iN_mul, iN_sub, iN_div, iN_rem, iN_lt, iN_le, iN_eq, iN_nat, inB_iN, ↓invM_l ht0, ↓invM_l ht1, ↓invM_l f3, ↓invM_l h11, ih]
        · by_cases z1 : 0 < k % 5
          · simp (disch := omega) only [↓ite_ap, if_true, if_false, if_pos, if_neg, retM_ap, retZ_ap0, retZ_ap1, gM_ap, sM_ap, jM_ap, bI_ap, bL_ap, bD_ap, rdM_ap, wrM_ap, thrM_ap, nl_0, nl_1, nl_2, nl_3, nl_4, nl_5, nl_6, nl_7, nl_8, nl_9, nl_10, nl_11, nl_12, nl_13, nl_25, nl_33, nl_35, nl_45, nl_48, nl_49, nl_50, nl_52, nl_53, nl_57, nl_59, nl_60, nl_61, nl_77, nl_94, nl_97, nl_100, nl_101, nl_119, nl_125, nl_126, nl_137, nl_262, nl_387, nl_500, nl_512, nl_637, nl_999, nl_1022, nl_1137, nl_5685, nm_1b, iN_mI, mI_iN, iN_add, iN_mul, iN_sub, iN_div, iN_rem, iN_lt, iN_le, iN_eq, iN_nat, inB_iN, ↓invM_l ht0, ↓invM_l ht1, ↓invM_l f0, ↓invM_l h8, ih]
          · simp (disch := omega) only [↓ite_ap, if_true, if_false, if_pos, if_neg, retM_ap, retZ_ap0, retZ_ap1, gM_ap, sM_ap, jM_ap, bI_ap, bL_ap, bD_ap, rdM_ap, wrM_ap, thrM_ap, nl_0, nl_1, nl_2, nl_3, nl_4, nl_5, nl_6, nl_7, nl_8, nl_9, nl_10, nl_11, nl_12, nl_13, nl_25, nl_33, nl_35, nl_45, nl_48, nl_49, nl_50, nl_52, nl_53, nl_57, nl_59, nl_60, nl_61, nl_77, nl_94, nl_97, nl_100, nl_101, nl_119, nl_125, nl_126, nl_137, nl_262, nl_387, nl_500, nl_512, nl_637, nl_999, nl_1022, nl_1137, nl_5685, nm_1b, iN_mI, mI_iN, iN_add, iN_mul, iN_sub, iN_div, iN_rem, iN_lt, iN_le, iN_eq, iN_nat, inB_iN, ↓invM_l ht0, ↓invM_l ht1, ↓invM_l f0, ↓invM_l h8, ↓invM_l f3, ↓invM_l h11, ih]
theorem l_wide {s : Sv} {σ : Mm} {t r c : Nat} (h : CO s σ) (ht : t < tbS s) (hr : r < roS s t) (hc : c < coS s t) (hcl : isCl s (t * 25 + r * 5 + c)) : F_L_wide (iN t) (iN r) (iN c) σ = some (.inl (iN 1), σ) := by
  have hw := h.1
  have t5 := hw.1.2.2
  have w3 := hw.2.2.1 t ht
  have f4 := g_cell h (k := 4) ht hr hc (by omega)
  have f5 := g_cell h (k := 5) ht hr hc (by omega)
  have f7 := g_cell h (k := 7) ht hr hc (by omega)
  have f8 := g_cell h (k := 8) ht hr hc (by omega)
  have f11 := g_cell h (k := 11) ht hr hc (by omega)
  obtain ⟨q, hq⟩ : ∃ q, q = t * 25 + r * 5 + c := ⟨_, rfl⟩
  rw [← hq] at hcl f4 f5 f7 f8 f11
  have hcb := clB_iff.mpr hcl
  rw [cp_4 hcb] at f4
  rw [cp_5 hcb] at f5
  rw [cp_7 hcb] at f7
  rw [cp_8 hcb] at f8
  rw [cp_11 hcb] at f11
  have eqt : q / 25 = t := by omega
  have eqc : q % 5 = c := by omega
  have w5 := hw.2.2.2.2.1 q hcl
  have hbr : c + brS s q ≤ coS s t := by
    have := w5.2.2.2.2.2.1
    rw [eqt, eqc] at this
    exact this
  have hfit : waL s (2 * q) ≤ smN (szL s t 0) c (c + brS s q) := by
    have g := ce_fits hw (w := 0) (by omega) hcl
    have e1 : plS 0 q = c := by rw [← eqc]; rfl
    have e2 : spW s 0 q = brS s q := rfl
    rw [e1, e2, eqt, Nat.add_zero] at g
    exact g
  have hmax : smN (szL s t 0) c (c + brS s q) ≤ 300000000 := Nat.le_trans (smN_sub (Nat.zero_le c) (Nat.le_refl _)) (szL_max hw (by omega) ht (by omega))
  have hz : ∀ a, c ≤ a → a < c + brS s q → F_X5_size (iN t) (iN 0) (iN a) σ = some (.inl (iN (szL s t 0 a)), σ) := fun a _ h2 => g_size h ht (by omega)
  have l17 := fun k1 => lp_w17 (k1 := k1) f4 hz (by omega) (brS s q) FU c rfl (by unfold FU; omega) (Nat.le_refl _)
  simp only [smN_0] at l17
  have hr8 := rlL_le3 hw (q * 4 + 0)
  have hr11 := rlL_le3 hw (q * 4 + 3)
  by_cases h3 : kiS s q = 3
  · rw [if_pos h3] at f7
    have w7 := (hw.2.2.2.2.2.2.1 q hcl).2.2 h3
    obtain ⟨m, hm⟩ : ∃ m, m = nv (nuS s q) := ⟨_, rfl⟩
    rw [← hm] at f7 w7
    have wm := hw.2.2.1 m w7.2.2
    have l74 := lp_w74 (t := t) (r := r) (c := c) (m := m) (ro := roS s m) (co := coS s m) (e0 := fun j => eL s ((m * 25 + 0 * 5 + j) * 4 + 0)) (e3 := fun j => eL s ((m * 25 + j * 5 + 0) * 4 + 3)) (g8 := rlL s (q * 4 + 0)) (g11 := rlL s (q * 4 + 3)) (σ := σ) (by omega) (by omega) (by omega) (g_table h (t := m) (k := 0) w7.2.2 (by omega)) (g_table h (t := m) (k := 1) w7.2.2 (by omega)) f8 f11 ⟨hr8, hr11⟩ (fun j hj => g_edge h w7.2.2 (by omega) hj (by omega)) (fun j hj => g_edge h w7.2.2 hj (by omega) (by omega)) (fun j hj => wi_rule (.inl rfl) hcl h3 (by rw [← hm]; omega) (by rw [if_pos rfl]; omega)) (fun j hj => wi_rule (.inr rfl) hcl h3 (by rw [← hm]; omega) (by rw [if_neg (by omega)]; omega)) 25 FU 0 (by omega) (by unfold FU; omega)
    clear hz wm w7 w5 w3 hw h hcb hcl
    obtain ⟨Z, hZ⟩ : ∃ Z, Z = smN (szL s t 0) c (c + brS s q) := ⟨_, rfl⟩
    rw [← hZ] at l17 hfit hmax
    obtain ⟨A, hA⟩ : ∃ A, A = waL s (2 * q) := ⟨_, rfl⟩
    rw [← hA] at hfit f5
    unfold F_L_wide
    simp (disch := omega) only [↓ite_ap, if_true, if_false, if_pos, if_neg, retM_ap, retZ_ap0, retZ_ap1, gM_ap, sM_ap, jM_ap, bI_ap, bL_ap, bD_ap, rdM_ap, wrM_ap, thrM_ap, nl_0, nl_1, nl_2, nl_3, nl_4, nl_5, nl_6, nl_7, nl_8, nl_9, nl_10, nl_11, nl_12, nl_13, nl_25, nl_33, nl_35, nl_45, nl_48, nl_49, nl_50, nl_52, nl_53, nl_57, nl_59, nl_60, nl_61, nl_77, nl_94, nl_97, nl_100, nl_101, nl_119, nl_125, nl_126, nl_137, nl_262, nl_387, nl_500, nl_512, nl_637, nl_999, nl_1022, nl_1137, nl_5685, nm_1b, iN_mI, mI_iN, iN_add, iN_mul, iN_sub, iN_div, iN_rem, iN_lt, iN_le, iN_eq, iN_nat, inB_iN, ↓invM_l f7, l17, ↓invM_l f5, l74]
  · rw [if_neg h3] at f7
    obtain ⟨n, hn⟩ : ∃ n, FU = n + 1 := ⟨FU - 1, by unfold FU; omega⟩
    have l74 : L_L_wide_74 (iN t) (iN r) (iN c) mI FU (iN 1) (iN 0) σ = some (.inl (iN 1), σ) := by
      rw [hn]
      simp only [L_L_wide_74]
      have hm : (mI < 0) = True := mI_lt (a := 0) (by omega)
      simp (disch := omega) only [↓ite_ap, if_true, if_false, if_pos, if_neg, retM_ap, retZ_ap0, retZ_ap1, gM_ap, sM_ap, jM_ap, bI_ap, bL_ap, bD_ap, rdM_ap, wrM_ap, thrM_ap, hm, nl_25, nl_0, nl_1, iN_le, iN_eq]
      simp only [nl_0] at hm
      simp (disch := omega) only [↓ite_ap, if_true, if_false, if_pos, if_neg, retM_ap, retZ_ap0, retZ_ap1, gM_ap, sM_ap, jM_ap, bI_ap, bL_ap, bD_ap, rdM_ap, wrM_ap, thrM_ap, hm]
    clear hz w5 w3 hw h hcb hcl
    obtain ⟨Z, hZ⟩ : ∃ Z, Z = smN (szL s t 0) c (c + brS s q) := ⟨_, rfl⟩
    rw [← hZ] at l17 hfit hmax
    obtain ⟨A, hA⟩ : ∃ A, A = waL s (2 * q) := ⟨_, rfl⟩
    rw [← hA] at hfit f5
    unfold F_L_wide
    simp (disch := omega) only [↓ite_ap, if_true, if_false, if_pos, if_neg, retM_ap, retZ_ap0, retZ_ap1, gM_ap, sM_ap, jM_ap, bI_ap, bL_ap, bD_ap, rdM_ap, wrM_ap, thrM_ap, nl_0, nl_1, nl_2, nl_3, nl_4, nl_5, nl_6, nl_7, nl_8, nl_9, nl_10, nl_11, nl_12, nl_13, nl_25, nl_33, nl_35, nl_45, nl_48, nl_49, nl_50, nl_52, nl_53, nl_57, nl_59, nl_60, nl_61, nl_77, nl_94, nl_97, nl_100, nl_101, nl_119, nl_125, nl_126, nl_137, nl_262, nl_387, nl_500, nl_512, nl_637, nl_999, nl_1022, nl_1137, nl_5685, nm_1b, iN_mI, mI_iN, iN_add, iN_mul, iN_sub, iN_div, iN_rem, iN_lt, iN_le, iN_eq, iN_nat, inB_iN, ↓invM_l f7, l17, ↓invM_l f5, l74]
