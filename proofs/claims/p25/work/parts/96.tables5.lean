/-! ALL SQUARES OF ALL TABLES -/
theorem lp_tables {s : Sv} {σ : Mm} (h : CO s σ) {k1 : Int32 → Int32 → Int32 → Int32 → Int32 → Dm Int32} : ∀ d n q, q + d = 25 * tbS s → d < n → L_L_tables_15 n (smI (dV s) 0 q) (iN (smN (fun q => if ofB s q = true then 1 else 0) 0 q)) (iN (smN (fun q => if clB s q = true then 1 else 0) 0 q)) (iN (smN (fun q => if (clB s q && decide (kiS s q = 3)) = true then 1 else 0) 0 q)) (iN 1) (iN q) k1 σ = k1 (smI (dV s) 0 (25 * tbS s)) (iN (smN (fun q => if ofB s q = true then 1 else 0) 0 (25 * tbS s))) (iN (smN (fun q => if clB s q = true then 1 else 0) 0 (25 * tbS s))) (iN (smN (fun q => if (clB s q && decide (kiS s q = 3)) = true then 1 else 0) 0 (25 * tbS s))) (iN 1) σ
  | 0, n, q, h1, h2 => by
    obtain ⟨n, rfl⟩ : ∃ m, n = m + 1 := ⟨n - 1, by omega⟩
    have t5 := h.1.1.2.2
    have hcnt : F_X5_count (iN 0) σ = some (.inl (iN (tbS s)), σ) := f_count (k := 0) h (by omega)
    obtain rfl : q = 25 * tbS s := by omega
    clear h
    obtain ⟨T, hT⟩ : ∃ T, T = tbS s := ⟨_, rfl⟩
    rw [← hT] at hcnt t5 ⊢
    clear hT h1
    have e : (25 : Int32) * iN T ≤ iN (25 * T) := by
      rw [nl_25, iN_mul]
      exact Int32.le_refl _
    rw [tb_15]
    refine (invM_l hcnt).trans ?_
    exact congrFun (if_pos e) σ
  | d + 1, n, q, h1, h2 => by
    obtain ⟨n, rfl⟩ : ∃ m, n = m + 1 := ⟨n - 1, by omega⟩
    have ih := lp_tables h (k1 := k1) d n (q + 1) (by omega) (by omega)
    have hw := h.1
    have t5 := hw.1.2.2
    have hq : q < 25 * tbS s := by omega
    have ht : q / 25 < tbS s := by omega
    have w3 := hw.2.2.1 (q / 25) ht
    have hcnt : F_X5_count (iN 0) σ = some (.inl (iN (tbS s)), σ) := f_count (k := 0) h (by omega)
    have ht0 : F_X5_table (iN (q / 25)) (iN 0) σ = some (.inl (iN (roS s (q / 25))), σ) := g_table h (k := 0) ht (by omega)
    have ht1 : F_X5_table (iN (q / 25)) (iN 1) σ = some (.inl (iN (coS s (q / 25))), σ) := g_table h (k := 1) ht (by omega)
    have er : q / 5 % 5 = q % 25 / 5 := by omega
    rw [smI_s (Nat.zero_le _), smN_s (Nat.zero_le _), smN_s (Nat.zero_le _), smN_s (Nat.zero_le _)] at ih
    by_cases ho : isOf s q
    · have hr := ho.2.1
      have hc := ho.2.2
      have eq : q / 25 * 25 + q % 25 / 5 * 5 + q % 5 = q := by omega
      have fc : ∀ k, k < 12 → F_X5_cell (iN (q / 25)) (iN (q % 25 / 5)) (iN (q % 5)) (iN k) σ = some (.inl (cpS s q k), σ) := fun k hk => by
        have g := g_cell h ht hr hc hk
        rw [eq] at g
        exact g
      have fcb := g_counted h ht hr hc
      rw [eq] at fcb
      have he1 : q % 5 + 1 < coS s (q / 25) → F_X5_edge (iN (q / 25)) (iN (q % 25 / 5)) (iN (q % 5)) (iN 1) σ = some (.inl (iN (eL s (q * 4 + 1))), σ) ∧ F_X5_edge (iN (q / 25)) (iN (q % 25 / 5)) (iN (q % 5 + 1)) (iN 3) σ = some (.inl (iN (eL s (q * 4 + 1))), σ) := fun g => by
        have a1 := g_edge h (k := 1) ht hr hc (by omega)
        have a2 := g_edge h (k := 3) ht hr g (by omega)
        rw [eq] at a1
        rw [show q / 25 * 25 + q % 25 / 5 * 5 + (q % 5 + 1) = q + 1 by omega, ← edge_h hw ho g] at a2
        exact ⟨a1, a2⟩
      have he2 : q % 25 / 5 + 1 < roS s (q / 25) → F_X5_edge (iN (q / 25)) (iN (q % 25 / 5)) (iN (q % 5)) (iN 2) σ = some (.inl (iN (eL s (q * 4 + 2))), σ) ∧ F_X5_edge (iN (q / 25)) (iN (q % 25 / 5 + 1)) (iN (q % 5)) (iN 0) σ = some (.inl (iN (eL s (q * 4 + 2))), σ) := fun g => by
        have a1 := g_edge h (k := 2) ht hr hc (by omega)
        have a2 := g_edge h (k := 0) ht g hc (by omega)
        rw [eq] at a1
        rw [show q / 25 * 25 + (q % 25 / 5 + 1) * 5 + q % 5 = q + 5 by omega, ← edge_v hw ho g] at a2
        exact ⟨a1, a2⟩
      have dO : (if ofB s q = true then 1 else 0) = 1 := if_pos (ofB_iff.mpr ho)
      by_cases hcl : isCl s q
      · have hcb := clB_iff.mpr hcl
        have w6 := (hw.2.2.2.2.2.1 q ho).2.1
        have hwd := l_wide h ht hr hc (by rw [eq]; exact hcl)
        have c0 := fc 0 (by omega)
        have c1 := fc 1 (by omega)
        have c2 := fc 2 (by omega)
        rw [cp_0 hcb] at c0
        rw [cp_1 hcb] at c1
        rw [cp_2 hcb] at c2
        have ht2 : F_X5_table (iN (q / 25)) (iN 2) σ = some (.inl (vaL s (q / 25)), σ) := g_table h (k := 2) ht (by omega)
        have hb := b_cell (n := n) (x1 := smI (dV s) 0 q) (x2 := iN (smN (fun q => if ofB s q = true then 1 else 0) 0 q)) (x3 := iN (smN (fun q => if clB s q = true then 1 else 0) 0 q)) (x4 := iN (smN (fun q => if (clB s q && decide (kiS s q = 3)) = true then 1 else 0) 0 q)) (k1 := k1) hq t5 rfl er rfl hr hc w3.2.2.1 w3.2.2.2.2.2 w6 hcnt ht0 ht1 ht2 c0 (nu := vS s (vaL s) q) (fun _ => c1) c2 (fun g => by rw [fcb, counted_0 hcl g]) hwd (fun g1 g2 => sum_4 hcl g1 g2) (fun g1 g2 => sum_5 hcl g1 g2) (fun g1 => sum_6 hw hcl g1) he1 he2
        have dC : (if clB s q = true then 1 else 0) = 1 := if_pos hcb
        have dV' : (if kiS s q = 1 then vS s (vaL s) q else iN 0) = dV s q := by
          unfold dV vS
          rw [hcb, Bool.true_and, if_pos rfl]
          by_cases g : kiS s q = 1
          · rw [if_pos g, if_pos g, if_pos (decide_eq_true g)]
          · rw [if_neg g, if_neg (fun k => g (of_decide_eq_true k))]
        have dN : (if kiS s q = 3 then iN 1 else iN 0) = iN (if (clB s q && decide (kiS s q = 3)) = true then 1 else 0) := by
          rw [hcb, Bool.true_and]
          by_cases g : kiS s q = 3
          · rw [if_pos g, if_pos (decide_eq_true g)]
          · rw [if_neg g, if_neg (fun k => g (of_decide_eq_true k))]
        rw [dV', dN, iN_add, iN_add, iN_add] at hb
        rw [dO, dC] at ih
        exact hb.trans ih
      · have hcb : ¬ clB s q = true := fun g => hcl (clB_iff.mp g)
        have c0 := fc 0 (by omega)
        have c5 := fc 5 (by omega)
        rw [cp_no hcb] at c0 c5
        rw [counted_m hcl] at fcb
        have hb := b_free (n := n) (x1 := smI (dV s) 0 q) (x2 := iN (smN (fun q => if ofB s q = true then 1 else 0) 0 q)) (x3 := iN (smN (fun q => if clB s q = true then 1 else 0) 0 q)) (x4 := iN (smN (fun q => if (clB s q && decide (kiS s q = 3)) = true then 1 else 0) 0 q)) (k1 := k1) hq t5 rfl er rfl hr hc w3.2.2.1 w3.2.2.2.2.2 hcnt ht0 ht1 c0 c5 fcb he1 he2
        have dC : (if clB s q = true then 1 else 0) = 0 := if_neg hcb
        have dV' : dV s q = iN 0 := by
          unfold dV
          rw [if_neg (fun g => hcb (Bool.and_eq_true _ _ ▸ g).1)]
        have dN : (if (clB s q && decide (kiS s q = 3)) = true then 1 else 0) = 0 := if_neg (fun g => hcb (Bool.and_eq_true _ _ ▸ g).1)
        rw [iN_add, iN_add, iN_add] at hb
        rw [dO, dC, dV', dN] at ih
        exact hb.trans ih
    · have hcb : ¬ clB s q = true := fun g => ho (clB_iff.mp g).1
      have hb := b_no (n := n) (x1 := smI (dV s) 0 q) (x2 := iN (smN (fun q => if ofB s q = true then 1 else 0) 0 q)) (x3 := iN (smN (fun q => if clB s q = true then 1 else 0) 0 q)) (x4 := iN (smN (fun q => if (clB s q && decide (kiS s q = 3)) = true then 1 else 0) 0 q)) (k1 := k1) hq t5 rfl er rfl w3.2.2.1 w3.2.2.2.2.2 hcnt ht0 ht1 (fun g => ho ⟨ht, g.1, g.2⟩)
      have dO : (if ofB s q = true then 1 else 0) = 0 := if_neg (fun g => ho (ofB_iff.mp g))
      have dC : (if clB s q = true then 1 else 0) = 0 := if_neg hcb
      have dV' : dV s q = iN 0 := by
        unfold dV
        rw [if_neg (fun g => hcb (Bool.and_eq_true _ _ ▸ g).1)]
      have dN : (if (clB s q && decide (kiS s q = 3)) = true then 1 else 0) = 0 := if_neg (fun g => hcb (Bool.and_eq_true _ _ ▸ g).1)
      rw [dO, dC, dV', dN, i_add0, Nat.add_zero, Nat.add_zero, Nat.add_zero] at ih
      exact hb.trans ih
theorem cn_k {s : Sv} {v : Int32} {k : Nat} (hk : k < 7) : cnS s v (2 + k) = iN (kindsS s k) := by
  unfold cnS
  rw [if_neg (by omega), if_neg (by omega), if_pos (by omega), show 2 + k - 2 = k by omega]
theorem lp_kinds {s : Sv} {σ : Mm} (h : CO s σ) {k19 : Int32 → Dm Int32} : ∀ d n k, k + d = 7 → d < n → L_L_tables_426 n (iN (smN (kindsS s) 0 k)) (iN k) k19 σ = k19 (iN (smN (kindsS s) 0 7)) σ
  | 0, n, k, h1, h2 => by
    obtain ⟨n, rfl⟩ : ∃ m, n = m + 1 := ⟨n - 1, by omega⟩
    obtain rfl : k = 7 := by omega
    simp only [L_L_tables_426]
    clear h
    simp (disch := omega) only [↓ite_ap, if_true, if_false, if_pos, if_neg, retM_ap, retZ_ap0, retZ_ap1, gM_ap, sM_ap, jM_ap, bI_ap, bL_ap, bD_ap, rdM_ap, wrM_ap, thrM_ap, nl_7, iN_le]
  | d + 1, n, k, h1, h2 => by
    obtain ⟨n, rfl⟩ : ∃ m, n = m + 1 := ⟨n - 1, by omega⟩
    have ih := lp_kinds h (k19 := k19) d n (k + 1) (by omega) (by omega)
    have fc := f_count (k := 2 + k) h (by omega)
    rw [cn_k (by omega)] at fc
    rw [smN_s (Nat.zero_le _)] at ih
    clear h
    simp only [L_L_tables_426]
    simp (disch := omega) only [↓ite_ap, if_true, if_false, if_pos, if_neg, retM_ap, retZ_ap0, retZ_ap1, gM_ap, sM_ap, jM_ap, bI_ap, bL_ap, bD_ap, rdM_ap, wrM_ap, thrM_ap, nl_7, nl_2, nl_1, iN_le, iN_add, ↓invM_l fc, ih]
theorem cl_of {s : Sv} {q : Nat} (h : clB s q = true) : ofB s q = true := ofB_iff.mpr (clB_iff.mp h).1
theorem l_tables {s : Sv} {σ : Mm} (h : CO s σ) : F_L_tables σ = some (.inl 1, σ) := by
  have hw := h.1
  have t5 := hw.1.2.2
  have t1 := hw.1.2.1
  have lt := fun k1 => lp_tables h (k1 := k1) (25 * tbS s) FU 0 (Nat.zero_add _) (by unfold FU; omega)
  have e0 : ∀ q, 25 * tbS s ≤ q → ¬ ofB s q = true := fun q hq g => by
    have := (ofB_iff.mp g).1
    omega
  have eS : smN (fun q => if ofB s q = true then 1 else 0) 0 (25 * tbS s) = squaresS s := by
    rw [← square_sum hw]
    exact (smN_ext (Nat.zero_le _) (by omega) (fun j g _ => if_neg (e0 j g))).symm
  have eC : smN (fun q => if clB s q = true then 1 else 0) 0 (25 * tbS s) = cellsS s := (smN_ext (Nat.zero_le _) (by omega) (fun j g _ => if_neg (fun k => e0 j g (cl_of k)))).symm
  have eN : smN (fun q => if (clB s q && decide (kiS s q = 3)) = true then 1 else 0) 0 (25 * tbS s) = kindsS s 3 := (smN_ext (Nat.zero_le _) (by omega) (fun j g _ => if_neg (fun k => e0 j g (cl_of (Bool.and_eq_true _ _ ▸ k).1)))).symm
  have eV : smI (dV s) 0 (25 * tbS s) = vaL s 0 := by
    rw [value_0 hw]
    refine (smI_ext (Nat.zero_le _) (by omega) (fun j g _ => ?_)).symm
    unfold dV
    rw [if_neg (fun k => e0 j g (cl_of (Bool.and_eq_true _ _ ▸ k).1))]
  rw [eS, eC, eN, eV] at lt
  simp only [smI_0, smN_0] at lt
  have lk := fun k19 => lp_kinds h (k19 := k19) 7 FU 0 (Nat.zero_add _) (by unfold FU; omega)
  rw [kind_sum hw] at lk
  simp only [smN_0] at lk
  have f02 : F_X5_table (iN 0) (iN 2) σ = some (.inl (vaL s 0), σ) := g_table h (t := 0) (k := 2) (by omega) (by omega)
  have c0 : F_X5_count (iN 0) σ = some (.inl (iN (tbS s)), σ) := f_count (k := 0) h (by omega)
  have c1 : F_X5_count (iN 1) σ = some (.inl (iN (cellsS s)), σ) := f_count (k := 1) h (by omega)
  have c2 : F_X5_count (iN 2) σ = some (.inl (iN (kindsS s 0)), σ) := f_count (k := 2) h (by omega)
  have c5 : F_X5_count (iN 5) σ = some (.inl (iN (kindsS s 3)), σ) := f_count (k := 5) h (by omega)
  have c11 : F_X5_count (iN 11) σ = some (.inl (iN (squaresS s) - iN (cellsS s)), σ) := f_count (k := 11) h (by omega)
  have fs := f_filledShare hw h.2.1
  have hb := cells_b hw
  have hCS : cellsS s ≤ squaresS s := by
    rw [← square_sum hw]
    refine smN_mono (fun q => ?_) 125
    by_cases g : clB s q = true
    · rw [if_pos g, if_pos (cl_of g)]
      exact Nat.le_refl _
    · rw [if_neg g]
      exact Nat.zero_le _
  have hS : squaresS s ≤ 125 := by
    rw [← square_sum hw]
    exact Nat.le_trans (smN_le1 (p := ofB s) (lo := 0) 125) (Nat.sub_le _ _)
  have hN : kindsS s 3 ≤ 125 := Nat.le_trans (smN_le1 (p := fun q => clB s q && decide (kiS s q = 3)) (lo := 0) 125) (Nat.sub_le _ _)
  have hT : tbS s = kindsS s 3 + 1 := by
    have g := nests_1 hw
    rw [iN_add, iN_eq (by omega) (by omega)] at g
    exact g
  obtain ⟨V, hV⟩ : ∃ V, V = shr s := ⟨_, rfl⟩
  have efp : FP.ddiv (FP.i2d (iN (cellsS s - kindsS s 0))) (FP.i2d (iN (cellsS s))) = V := by rw [hV]; rfl
  have hnf := fp_nf hb.1 hb.2.1 (Nat.sub_le (cellsS s) (kindsS s 0))
  have eVf : fpV (cellsS s - kindsS s 0) (cellsS s) = V := by rw [hV]; rfl
  rw [eVf] at hnf
  rw [← hV] at fs
  have hcmp : Op.cmpValue (FP.dcmp V V) CmpOp.l = iN 0 := hnf.2
  have hnM : ∀ (X : Dm Int32) (τ : Mm), nfM V X τ = X τ := fun X τ => nfM_t hnf.1
  clear h hw e0 eS eC eN eV hV eVf hnf
  obtain ⟨T, eT⟩ : ∃ T, T = tbS s := ⟨_, rfl⟩
  obtain ⟨C, eC⟩ : ∃ C, C = cellsS s := ⟨_, rfl⟩
  obtain ⟨S, eS⟩ : ∃ S, S = squaresS s := ⟨_, rfl⟩
  obtain ⟨N, eN⟩ : ∃ N, N = kindsS s 3 := ⟨_, rfl⟩
  obtain ⟨K0, eK⟩ : ∃ K0, K0 = kindsS s 0 := ⟨_, rfl⟩
  obtain ⟨W, eW⟩ : ∃ W, W = vaL s 0 := ⟨_, rfl⟩
  rw [← eT] at t5 t1 c0 hT
  rw [← eC, ← eS, ← eN, ← eW] at lt
  rw [← eC] at lk c1 efp hb hCS
  rw [← eC, ← eS] at c11
  rw [← eS] at hCS hS
  rw [← eN] at c5 hN hT
  rw [← eK] at c2 efp hb
  rw [← eW] at f02
  clear eT eC eS eN eK eW
  have h1 := hb.1
  have h2 := hb.2.1
  have h3 := hb.2.2
  clear hb
  unfold F_L_tables
  refine (lt _).trans ?_
  refine (lk _).trans ?_
  simp (disch := omega) only [↓ite_ap, if_true, if_false, if_pos, if_neg, retM_ap, retZ_ap0, retZ_ap1, gM_ap, sM_ap, jM_ap, bI_ap, bL_ap, bD_ap, rdM_ap, wrM_ap, thrM_ap, nl_0, nl_1, nl_2, nl_3, nl_4, nl_5, nl_6, nl_7, nl_8, nl_9, nl_10, nl_11, nl_12, nl_13, nl_25, nl_33, nl_35, nl_45, nl_48, nl_49, nl_50, nl_52, nl_53, nl_57, nl_59, nl_60, nl_61, nl_77, nl_94, nl_97, nl_100, nl_101, nl_119, nl_125, nl_126, nl_137, nl_262, nl_387, nl_500, nl_512, nl_637, nl_999, nl_1022, nl_1137, nl_5685, nm_1b, iN_mI, mI_iN, iN_add, iN_mul, iN_sub, iN_div, iN_rem, iN_lt, iN_le, iN_eq, iN_nat, inB_iN, eq_self, ↓invM_l f02, ↓invM_l c1, ↓invM_l c11, ↓invM_l c5, ↓invM_l c0, ↓invM_l fs, ↓invM_l c2, efp, hnM, hcmp]
