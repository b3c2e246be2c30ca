/-! WHAT THE LAW LOOKS AT -/
section Looks
variable {s : Sv} {σ : Mm} {t r c : Nat}
theorem sqO_iN (hw : WF s) (ht : t < tbS s) (hr : r < roS s t) (hc : c < coS s t) : sqO s (iN t) (iN r) (iN c) = some (t * 25 + r * 5 + c) := by
  have t5 := hw.1.2.2
  have w3 := hw.2.2.1 t ht
  unfold sqO
  rw [dI_iN (by omega), if_pos ht]
  show (match dI (iN r) (roS s t) with | none => none | some r => match dI (iN c) (coS s t) with | none => none | some c => some (t * 25 + r * 5 + c)) = _
  rw [dI_iN (by omega), if_pos hr]
  show (match dI (iN c) (coS s t) with | none => none | some c => some (t * 25 + r * 5 + c)) = _
  rw [dI_iN (by omega), if_pos hc]
theorem g_sq (hw : WF s) (hr0 : Rel 2 s σ) (ht : t < tbS s) (hr : r < roS s t) (hc : c < coS s t) : F_X5_requireSquare (iN t) (iN r) (iN c) σ = some (.inl (iN (t * 25 + r * 5 + c)), σ) := by
  have fq := f_requireSquare (p0 := iN t) (p1 := iN r) (p2 := iN c) hw hr0
  rw [sqO_iN hw ht hr hc] at fq
  exact fq
theorem g_cell (h : CO s σ) {k : Nat} (ht : t < tbS s) (hr : r < roS s t) (hc : c < coS s t) (hk : k < 12) : F_X5_cell (iN t) (iN r) (iN c) (iN k) σ = some (.inl (cpS s (t * 25 + r * 5 + c) k), σ) := by
  have hw := h.1
  have t5 := hw.1.2.2
  have w3 := hw.2.2.1 t ht
  have fq := g_sq hw h.2.1 ht hr hc
  have fb := f_requireBetween (p := iN k) (lo := iN 0) (hi := iN 11) (σ := σ)
  rw [btw_iN (by omega) (by omega) (by omega), if_pos (decide_eq_true (by omega))] at fb
  have fc := f_cellProperty (q := t * 25 + r * 5 + c) (k := k) h (by omega) hk
  unfold F_X5_cell
  exact (invM_l fq).trans ((invM_l fb).trans (invM_l fc))
theorem g_edge (h : CO s σ) {k : Nat} (ht : t < tbS s) (hr : r < roS s t) (hc : c < coS s t) (hk : k < 4) : F_X5_edge (iN t) (iN r) (iN c) (iN k) σ = some (.inl (iN (eL s ((t * 25 + r * 5 + c) * 4 + k))), σ) := by
  obtain ⟨hw, hr0, hL⟩ := h
  have t5 := hw.1.2.2
  have w3 := hw.2.2.1 t ht
  have fq := g_sq hw hr0 ht hr hc
  have fb := f_requireBetween (p := iN k) (lo := iN 0) (hi := iN 3) (σ := σ)
  rw [btw_iN (by omega) (by omega) (by omega), if_pos (decide_eq_true (by omega))] at fb
  obtain ⟨q, hq⟩ : ∃ q, q = t * 25 + r * 5 + c := ⟨_, rfl⟩
  rw [← hq] at fq ⊢
  have fc : σ 28 (q * 4 + k) = iN (eL s (q * 4 + k)) := (hL _ (show q / 25 < tbS s by omega)).2.2.2.2.2.1 q k rfl hk
  unfold F_X5_edge
  refine (invM_l fq).trans ((invM_l fb).trans ?_)
  have hq5 : q < 125 := by omega
  clear hL hr0 hw w3 fq fb
  simp (disch := omega) only [↓ite_ap, if_true, if_false, if_pos, if_neg, retM_ap, retZ_ap0, retZ_ap1, gM_ap, sM_ap, jM_ap, bI_ap, bL_ap, bD_ap, rdM_ap, wrM_ap, thrM_ap, nl_0, nl_1, nl_2, nl_3, nl_4, nl_5, nl_6, nl_7, nl_8, nl_9, nl_10, nl_11, nl_12, nl_13, nl_25, nl_33, nl_35, nl_45, nl_48, nl_49, nl_50, nl_52, nl_53, nl_57, nl_59, nl_60, nl_61, nl_77, nl_94, nl_97, nl_100, nl_101, nl_119, nl_125, nl_126, nl_137, nl_262, nl_387, nl_500, nl_512, nl_637, nl_999, nl_1022, nl_1137, nl_5685, nm_1b, iN_mI, mI_iN, iN_add, iN_mul, iN_sub, iN_div, iN_rem, iN_lt, iN_le, iN_eq, iN_nat, inB_iN, ↓b_at, ↓b_store, ↓b_place1, ↓b_place0, ↓b_tableOf, ↓b_sqEnd, ↓b_isCell, Nat.reduceAdd, fc]
theorem g_tbl (hw : WF s) (hr0 : Rel 2 s σ) (ht : t < tbS s) : F_X5_requireTable (iN t) σ = some (.inl (), σ) := by
  have t5 := hw.1.2.2
  have ft := f_hasTable (b := 2) (p := iN t) hw hr0
  rw [dI_iN (by omega), if_pos ht] at ft
  have ft : F_X4_hasTable 2 (iN t) σ = some (.inl (iN 1), σ) := ft
  unfold F_X5_requireTable
  simp (disch := omega) only [↓ite_ap, if_true, if_false, if_pos, if_neg, retM_ap, retZ_ap0, retZ_ap1, gM_ap, sM_ap, jM_ap, bI_ap, bL_ap, bD_ap, rdM_ap, wrM_ap, thrM_ap, nl_0, nl_1, nl_2, nl_3, nl_4, nl_5, nl_6, nl_7, nl_8, nl_9, nl_10, nl_11, nl_12, nl_13, nl_25, nl_33, nl_35, nl_45, nl_48, nl_49, nl_50, nl_52, nl_53, nl_57, nl_59, nl_60, nl_61, nl_77, nl_94, nl_97, nl_100, nl_101, nl_119, nl_125, nl_126, nl_137, nl_262, nl_387, nl_500, nl_512, nl_637, nl_999, nl_1022, nl_1137, nl_5685, nm_1b, iN_mI, mI_iN, iN_add, iN_mul, iN_sub, iN_div, iN_rem, iN_lt, iN_le, iN_eq, iN_nat, inB_iN, ↓invM_l ft]
theorem g_table (h : CO s σ) {k : Nat} (ht : t < tbS s) (hk : k < 8) : F_X5_table (iN t) (iN k) σ = some (.inl (tpS s t k), σ) := by
  have frq := g_tbl h.1 h.2.1 ht
  have fb := f_requireBetween (p := iN k) (lo := iN 0) (hi := iN 7) (σ := σ)
  rw [btw_iN (by omega) (by omega) (by omega), if_pos (decide_eq_true (by omega))] at fb
  have fc := f_tableProperty (t := t) (k := k) h ht hk
  unfold F_X5_table
  exact (invM_l frq).trans ((invM_l fb).trans (invM_l fc))
theorem g_size (h : CO s σ) {l : Nat} (ht : t < tbS s) (hl : l < coS s t) : F_X5_size (iN t) (iN 0) (iN l) σ = some (.inl (iN (szL s t 0 l)), σ) := by
  obtain ⟨hw, hr, hL⟩ := h
  have t5 := hw.1.2.2
  have w3 := hw.2.2.1 t ht
  have frq := g_tbl hw hr ht
  have l1 := rel_lines hw hr ht (show 0 < 2 by omega)
  have l1' : σ 4 (2 * t + 0) = iN (coS s t) := l1.1
  have hs1 : σ 30 ((2 * t + 0) * 5 + l) = iN (szL s t 0 l) := (hL t ht).2.2.2.2.2.2.1.2.1 l (by omega)
  obtain ⟨rr, hrr⟩ : ∃ rr, rr = iN (szL s t 0 l) := ⟨_, rfl⟩
  rw [← hrr] at hs1 ⊢
  unfold F_X5_size
  rw [invM_l frq]
  clear hL hr hw frq
  simp (disch := omega) only [↓ite_ap, if_true, if_false, if_pos, if_neg, retM_ap, retZ_ap0, retZ_ap1, gM_ap, sM_ap, jM_ap, bI_ap, bL_ap, bD_ap, rdM_ap, wrM_ap, thrM_ap, nl_0, nl_1, nl_2, nl_3, nl_4, nl_5, nl_6, nl_7, nl_8, nl_9, nl_10, nl_11, nl_12, nl_13, nl_25, nl_33, nl_35, nl_45, nl_48, nl_49, nl_50, nl_52, nl_53, nl_57, nl_59, nl_60, nl_61, nl_77, nl_94, nl_97, nl_100, nl_101, nl_119, nl_125, nl_126, nl_137, nl_262, nl_387, nl_500, nl_512, nl_637, nl_999, nl_1022, nl_1137, nl_5685, nm_1b, iN_mI, mI_iN, iN_add, iN_mul, iN_sub, iN_div, iN_rem, iN_lt, iN_le, iN_eq, iN_nat, inB_iN, ↓b_at, ↓b_store, ↓b_place1, ↓b_place0, ↓b_tableOf, ↓b_sqEnd, ↓b_isCell, ↓b_linesOf, ↓b_spanOf, ↓b_isSum, ↓b_sizePlace, ↓b_isBetween, ↓b_sizeOf, ↓b_sizeTogether, Bool.false_eq_true, not_true_eq_false, not_false_eq_true, Nat.reduceAdd, Nat.add_zero] at l1' hs1 ⊢
  simp (disch := omega) only [↓ite_ap, if_true, if_false, if_pos, if_neg, retM_ap, retZ_ap0, retZ_ap1, gM_ap, sM_ap, jM_ap, bI_ap, bL_ap, bD_ap, rdM_ap, wrM_ap, thrM_ap, nl_0, nl_1, nl_2, nl_3, nl_4, nl_5, nl_6, nl_7, nl_8, nl_9, nl_10, nl_11, nl_12, nl_13, nl_25, nl_33, nl_35, nl_45, nl_48, nl_49, nl_50, nl_52, nl_53, nl_57, nl_59, nl_60, nl_61, nl_77, nl_94, nl_97, nl_100, nl_101, nl_119, nl_125, nl_126, nl_137, nl_262, nl_387, nl_500, nl_512, nl_637, nl_999, nl_1022, nl_1137, nl_5685, nm_1b, iN_mI, mI_iN, iN_add, iN_mul, iN_sub, iN_div, iN_rem, iN_lt, iN_le, iN_eq, iN_nat, inB_iN, ↓b_at, ↓b_store, ↓b_place1, ↓b_place0, ↓b_tableOf, ↓b_sqEnd, ↓b_isCell, ↓b_linesOf, ↓b_spanOf, ↓b_isSum, ↓b_sizePlace, ↓b_isBetween, ↓b_sizeOf, ↓b_sizeTogether, Bool.false_eq_true, not_true_eq_false, not_false_eq_true, Nat.reduceAdd, Nat.add_zero, l1', hs1]
theorem g_counted (h : CO s σ) (ht : t < tbS s) (hr : r < roS s t) (hc : c < coS s t) : F_X5_countedBy (iN t) (iN r) (iN c) σ = some (.inl (couS s (t * 25 + r * 5 + c)), σ) := by
  obtain ⟨hw, hr0, hL⟩ := h
  have t5 := hw.1.2.2
  have w3 := hw.2.2.1 t ht
  have fq := g_sq hw hr0 ht hr hc
  have fc := f_countingSums (c := t * 25 + r * 5 + c) hw hr0 (by omega) (fun q' h1 h2 => (hL _ h1.1.1).2.2.2.1 q' rfl h1 h2)
  unfold F_X5_countedBy
  rw [invM_l fq, invM_l fc]
  rfl
theorem g_height (h : CO s σ) {p : Nat} (h1 : 1 ≤ p) (h5 : p ≤ 5) : F_X5_heightFor (iN p) σ = some (.inl (hfL (fun x => decide (pgN s x ≤ p)) 60 1), σ) := by
  have fb := f_requireBetween (p := iN p) (lo := iN 1) (hi := iN 5) (σ := σ)
  rw [btw_iN (by omega) (by omega) (by omega), if_pos (decide_eq_true (by omega))] at fb
  have fc := f_heightFor_l (p := p) h (by omega) 60 FU 1 (by omega) (by unfold FU; omega)
  unfold F_X5_heightFor
  exact (invM_l fb).trans fc
end Looks
/-! PAGES -/
def pvS (s : Sv) (a : Nat) : Nat := (pgS s (szL s 0 1) (nv (s 1)) (a + 1)).1
theorem g_page {s : Sv} {σ : Mm} (h : CO s σ) {a : Nat} (ha : a < roS s 0) : F_X5_page (iN a) σ = some (.inl (iN (pvS s a)), σ) := f_page h ha
theorem lp_pages {s : Sv} {σ : Mm} (h : CO s σ) (h5 : roS s 0 ≤ 5) {k2 : Int32 → Dm Int32} : ∀ d n a, a + d = roS s 0 → d < n → 1 ≤ a → L_L_pages_41 (iN (roS s 0)) n (iN 1) (iN a) k2 σ = k2 (iN 1) σ
  | 0, n, a, h1, h2, h3 => by
    obtain ⟨n, rfl⟩ : ∃ m, n = m + 1 := ⟨n - 1, by omega⟩
    simp only [L_L_pages_41]
    rw [if_pos (by rw [iN_le (by omega) (by omega)]; omega)]
  | d + 1, n, a, h1, h2, h3 => by
    obtain ⟨n, rfl⟩ : ∃ m, n = m + 1 := ⟨n - 1, by omega⟩
    have ih := lp_pages h h5 (k2 := k2) d n (a + 1) (by omega) (by omega) (by omega)
    have fa := g_page h (a := a) (by omega)
    have fb := g_page h (a := a - 1) (by omega)
    have hp := page_s (s := s) (z := szL s 0 1) (h := nv (s 1)) (i := a)
    have hl := page_le (s := s) (z := szL s 0 1) (h := nv (s 1)) a
    have hp : pvS s a = pvS s (a - 1) ∨ pvS s a = pvS s (a - 1) + 1 := by
      unfold pvS
      rw [show a - 1 + 1 = a by omega]
      exact hp
    have hl : pvS s a ≤ a := hl
    clear h
    obtain ⟨R, hR⟩ : ∃ R, R = roS s 0 := ⟨_, rfl⟩
    rw [← hR] at ih h1 h5 ⊢
    simp only [L_L_pages_41]
    rcases hp with hp | hp
    · rw [← hp] at fb
      simp (disch := omega) only [↓ite_ap, if_true, if_false, if_pos, if_neg, retM_ap, retZ_ap0, retZ_ap1, gM_ap, sM_ap, jM_ap, bI_ap, bL_ap, bD_ap, rdM_ap, wrM_ap, thrM_ap, nl_0, nl_1, nl_2, nl_3, nl_4, nl_5, nl_6, nl_7, nl_8, nl_9, nl_10, nl_11, nl_12, nl_13, nl_25, nl_33, nl_35, nl_45, nl_48, nl_49, nl_50, nl_52, nl_53, nl_57, nl_59, nl_60, nl_61, nl_77, nl_94, nl_97, nl_100, nl_101, nl_119, nl_125, nl_126, nl_137, nl_262, nl_387, nl_500, nl_512, nl_637, nl_999, nl_1022, nl_1137, nl_5685, nm_1b, iN_mI, mI_iN, iN_add, iN_mul, iN_sub, iN_div, iN_rem, iN_lt, iN_le, iN_eq, iN_nat, inB_iN, ↓invM_l fa, ↓invM_l fb, ih]
    · simp (disch := omega) only [↓ite_ap, if_true, if_false, if_pos, if_neg, retM_ap, retZ_ap0, retZ_ap1, gM_ap, sM_ap, jM_ap, bI_ap, bL_ap, bD_ap, rdM_ap, wrM_ap, thrM_ap, nl_0, nl_1, nl_2, nl_3, nl_4, nl_5, nl_6, nl_7, nl_8, nl_9, nl_10, nl_11, nl_12, nl_13, nl_25, nl_33, nl_35, nl_45, nl_48, nl_49, nl_50, nl_52, nl_53, nl_57, nl_59, nl_60, nl_61, nl_77, nl_94, nl_97, nl_100, nl_101, nl_119, nl_125, nl_126, nl_137, nl_262, nl_387, nl_500, nl_512, nl_637, nl_999, nl_1022, nl_1137, nl_5685, nm_1b, iN_mI, mI_iN, iN_add, iN_mul, iN_sub, iN_div, iN_rem, iN_lt, iN_le, iN_eq, iN_nat, inB_iN, ↓invM_l fa, ↓invM_l fb, hp, ih]
theorem l_pages {s : Sv} {σ : Mm} (h : CO s σ) : F_L_pages σ = some (.inl 1, σ) := by
  have hw := h.1
  have t1 := hw.1.2.1
  have w3 := hw.2.2.1 0 (by omega)
  obtain ⟨hh, eh, hh1, hh2⟩ := hw.2.1
  have ft : F_X5_table (iN 0) (iN 0) σ = some (.inl (iN (roS s 0)), σ) := g_table h (t := 0) (k := 0) (by omega) (by omega)
  have fp : F_X5_page (iN 0) σ = some (.inl (iN 0), σ) := by
    have g := g_page h (a := 0) (by omega)
    have e : pvS s 0 = 0 := page_0
    rw [e] at g
    exact g
  have fl := g_page h (a := roS s 0 - 1) (by omega)
  have fn : F_X5_count (iN 9) σ = some (.inl (iN (pgN s (nv (s 1)))), σ) := f_count (k := 9) h (by omega)
  have en : pgN s (nv (s 1)) = pvS s (roS s 0 - 1) + 1 := by
    unfold pgN pvS
    rw [show roS s 0 - 1 + 1 = roS s 0 by omega]
  have hl : pvS s (roS s 0 - 1) ≤ roS s 0 - 1 := page_le _
  have fh := g_height h (p := pgN s (nv (s 1))) (by omega) (by omega)
  obtain ⟨y, y1, y2, y3⟩ := hfL_some (f := fun x => decide (pgN s x ≤ pgN s (nv (s 1)))) 60 1 (nv (s 1)) (by rw [eh, nv_iN (by omega)]; omega) (by rw [eh, nv_iN (by omega)]; omega) (decide_eq_true (Nat.le_refl _))
  rw [y3] at fh
  have y60 : y ≤ 60 := by rw [eh, nv_iN (by omega)] at y2; omega
  have lp := fun k2 => lp_pages h (by omega) (k2 := k2) (roS s 0 - 1) FU 1 (by omega) (by unfold FU; omega) (by omega)
  rw [en] at fn fh
  have w1 := w3.2.1
  have w2 := w3.2.2.1
  clear h hw w3 eh en t1 y2 y3
  obtain ⟨R, hR⟩ : ∃ R, R = roS s 0 := ⟨_, rfl⟩
  rw [← hR] at ft fl fn fh lp hl w1 w2
  obtain ⟨V, hV⟩ : ∃ V, V = pvS s (R - 1) := ⟨_, rfl⟩
  rw [← hV] at fl fn fh hl
  unfold F_L_pages
  simp (disch := omega) only [↓ite_ap, if_true, if_false, if_pos, if_neg, retM_ap, retZ_ap0, retZ_ap1, gM_ap, sM_ap, jM_ap, bI_ap, bL_ap, bD_ap, rdM_ap, wrM_ap, thrM_ap, nl_0, nl_1, nl_2, nl_3, nl_4, nl_5, nl_6, nl_7, nl_8, nl_9, nl_10, nl_11, nl_12, nl_13, nl_25, nl_33, nl_35, nl_45, nl_48, nl_49, nl_50, nl_52, nl_53, nl_57, nl_59, nl_60, nl_61, nl_77, nl_94, nl_97, nl_100, nl_101, nl_119, nl_125, nl_126, nl_137, nl_262, nl_387, nl_500, nl_512, nl_637, nl_999, nl_1022, nl_1137, nl_5685, nm_1b, iN_mI, mI_iN, iN_add, iN_mul, iN_sub, iN_div, iN_rem, iN_lt, iN_le, iN_eq, iN_nat, inB_iN, ↓invM_l ft, ↓invM_l fp, ↓invM_l fn, ↓invM_l fl, lp, ↓invM_l fh]
