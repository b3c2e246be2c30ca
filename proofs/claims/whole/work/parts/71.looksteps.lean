/-! THE STEPS THAT ONLY LOOK -/
theorem st_ok {cs : List (Nat × Int32)} {σ σ1 σ3 : Mm} {F B : Dm Int32} {r : Int32} (hF : F σ = some (.inl r, σ1)) (hB : B (upM (upM σ1 185 0 r) 168 6 (iN 0)) = some (.inl r, σ3)) (hI : II σ3) (h6 : σ3 168 6 = iN 0) (h185 : σ3 185 0 = r) : ∃ o σ1, F σ = some (o, σ1) ∧ ∃ v σ3, (sM 168 6 (0 : Int32) B) (wm o σ1) = some (.inl v, σ3) ∧ II σ3 ∧ StR cs o v σ3 :=
  ⟨.inl r, σ1, hF, r, σ3, hB, hI, h6, h185, rfl⟩
theorem st_er {cs : List (Nat × Int32)} {σ : Mm} {F B : Dm Int32} {e c : Nat} (h : II σ) (hF : F σ = some (.inr e, σ)) (hB : B (upM σ 168 6 (iN 0)) = some (.inl (iN 0), upM (upM σ 168 6 (iN 0)) 168 6 (iN c))) (hc : lkc cs e = some (iN c)) : ∃ o σ1, F σ = some (o, σ1) ∧ ∃ v σ3, (sM 168 6 (0 : Int32) B) (wm o σ1) = some (.inl v, σ3) ∧ II σ3 ∧ StR cs o v σ3 := by
  refine ⟨.inr e, σ, hF, iN 0, _, hB, (h.up (.inl ⟨rfl, rfl⟩)).up (.inl ⟨rfl, rfl⟩), ?_⟩
  show lkc cs e = some _
  rw [upM_at]
  exact hc
/-- the memory ahead of the reference's own text, an answer told -/
def mO (σ : Mm) (r : Int32) : Mm := upM (upM σ 185 0 r) 168 6 (iN 0)
theorem II.mO {σ : Mm} {r : Int32} (h : II σ) : II (mO σ r) := (h.up (.inr (.inr (.inl rfl)))).up (.inl ⟨rfl, rfl⟩)
theorem mO_q {σ : Mm} {r : Int32} {k j : Nat} (h : ¬ (k = 168 ∧ j = 6) ∧ ¬ (k = 185 ∧ j = 0)) : mO σ r k j = σ k j := by
  unfold Jvm.Pilot.CNestedSumsLaw_law_r5099_7dd725.mO
  rw [upM_q h.1, upM_q h.2]
theorem mO_6 {σ : Mm} {r : Int32} : mO σ r 168 6 = iN 0 := upM_at
theorem mO_r {σ : Mm} {r : Int32} : mO σ r 185 0 = r := by
  unfold mO
  rw [upM_o (by omega), upM_at]
theorem now_mO {σ : Mm} {r : Int32} : nowS (mO σ r) = nowS σ := now_fr (by
  unfold mO
  rw [upM_o (by omega), upM_o (by omega)])
theorem now_up {σ : Mm} {k j : Nat} {v : Int32} (h : k ≠ 169) : nowS (upM σ k j v) = nowS σ := now_fr (upM_o (fun g => h g.symm))
theorem vw_mO {σ : Mm} {r : Int32} : Vw 169 (nowS σ) (mO σ r) := by
  rw [← now_mO (r := r)]
  exact now_vw
theorem vw_up {σ : Mm} {k j : Nat} {v : Int32} (h : k ≠ 169) : Vw 169 (nowS σ) (upM σ k j v) := now_vw.fr (upM_o (fun g => h g.symm))
/-- laying, ahead of a look -/
theorem lay_mO {σ : Mm} {r : Int32} (h : II σ) : ∃ σ1, F_X6_laysNow (mO σ r) = some (.inl (), σ1) ∧ II σ1 ∧ RO (nowS σ) σ1 ∧ σ1 168 6 = iN 0 ∧ σ1 185 0 = r ∧ nowS σ1 = nowS σ ∧ ∀ k j, ¬ (174 ≤ k ∧ k ≤ 183) → ¬ (k = 168 ∧ j = 12) → σ1 k j = mO σ r k j := by
  obtain ⟨σ1, c1, c2, c3, c4, c5⟩ := r_laysNow (h.mO (r := r))
  rw [now_mO] at c3 c4
  exact ⟨σ1, c1, c2, c3, by rw [c5 _ _ (by omega) (by omega)]; exact mO_6, by rw [c5 _ _ (by omega) (by omega)]; exact mO_r, c4, c5⟩
theorem lay_m6 {σ : Mm} (h : II σ) : ∃ σ1, F_X6_laysNow (upM σ 168 6 (iN 0)) = some (.inl (), σ1) ∧ II σ1 := by
  obtain ⟨σ1, c1, c2, _⟩ := r_laysNow (h.up (v := iN 0) (.inl ⟨rfl, rfl⟩))
  exact ⟨σ1, c1, c2⟩
/-- an exception told behind laying -/
theorem st_er2 {cs : List (Nat × Int32)} {σ σ1 : Mm} {F B : Dm Int32} {e c : Nat} (h : II σ1) (hF : F σ = some (.inr e, σ)) (hB : B (upM σ 168 6 (iN 0)) = some (.inl (iN 0), upM σ1 168 6 (iN c))) (hc : lkc cs e = some (iN c)) : ∃ o σ1, F σ = some (o, σ1) ∧ ∃ v σ3, (sM 168 6 (0 : Int32) B) (wm o σ1) = some (.inl v, σ3) ∧ II σ3 ∧ StR cs o v σ3 := by
  refine ⟨.inr e, σ, hF, iN 0, _, hB, h.up (.inl ⟨rfl, rfl⟩), ?_⟩
  show lkc cs e = some _
  rw [upM_at]
  exact hc
theorem btw_k {p : Int32} {n : Nat} (hn : n < 100000) (h : btw p (iN 0) (iN n) = true) : ∃ k, p = iN k ∧ k < n + 1 := by
  obtain ⟨k, e, _, b⟩ := btw_nat (by omega) (by omega) h
  exact ⟨k, e, by omega⟩
theorem st_cell (p0 p1 p2 p3 : Int32) : StW II cs_cell (F_X5_cell p0 p1 p2 p3) (F_X6_cell p0 p1 p2 p3) := by
  intro σ h
  obtain ⟨hw, hr, hL⟩ := h.1
  have fq := f_requireSquare (p0 := p0) (p1 := p1) (p2 := p2) hw hr
  have fs6 := r_isSquare (p0 := p0) (p1 := p1) (p2 := p2) hw (vw_up (j := 6) (v := iN 0) (show 168 ≠ 169 by omega))
  unfold F_X6_cell
  cases e : sqO (nowS σ) p0 p1 p2 with
  | none =>
    rw [e] at fq fs6
    have fs6 : F_X6_isSquare p0 p1 p2 (upM σ 168 6 (iN 0)) = some (.inl (iN 0), upM σ 168 6 (iN 0)) := fs6
    refine st_er (c := 1) h (by unfold F_X5_cell; exact invM_r fq) ?_ rfl
    simp (disch := omega) only [↓ite_ap, if_true, if_false, if_pos, if_neg, retM_ap, retZ_ap0, retZ_ap1, gM_ap, sM_ap, jM_ap, bI_ap, bL_ap, bD_ap, rdM_ap, wrM_ap, thrM_ap, nl_0, nl_1, nl_2, nl_3, nl_4, nl_5, nl_6, nl_7, nl_8, nl_9, nl_10, nl_11, nl_12, nl_13, nl_25, nl_33, nl_35, nl_45, nl_48, nl_49, nl_50, nl_52, nl_53, nl_57, nl_59, nl_60, nl_61, nl_77, nl_94, nl_97, nl_100, nl_101, nl_119, nl_125, nl_126, nl_137, nl_262, nl_387, nl_500, nl_512, nl_637, nl_999, nl_1022, nl_1137, nl_5685, nm_1b, iN_mI, mI_iN, iN_add, iN_mul, iN_sub, iN_div, iN_rem, iN_lt, iN_le, iN_eq, iN_nat, inB_iN, ↓invM_l fs6, b_fails]
  | some q =>
    rw [e] at fq fs6
    have fq : F_X5_requireSquare p0 p1 p2 σ = some (.inl (iN q), σ) := fq
    have fs6 : F_X6_isSquare p0 p1 p2 (upM σ 168 6 (iN 0)) = some (.inl (iN 1), upM σ 168 6 (iN 0)) := fs6
    obtain ⟨t, r, c, _, _, _, ht, _, _, _, _, eq, hq, eqt, _⟩ := sqO_some hw e
    have hq5 := isOf_lt hw hq
    have fb := f_requireBetween (p := p3) (lo := iN 0) (hi := iN 11) (σ := σ)
    cases eb : btw p3 (iN 0) (iN 11)
    · rw [eb, if_neg (by decide)] at fb
      obtain ⟨m, c1, c2⟩ := lay_m6 h
      have fi := r_in (p := p3) (lo := iN 0) (hi := iN 11) (σ := m)
      rw [eb, if_neg (by decide)] at fi
      refine st_er2 (e := 2) (c := 2) c2 ?_ ?_ rfl
      · unfold F_X5_cell
        rw [invM_l fq]
        exact invM_r fb
      · simp (disch := omega) only [↓ite_ap, if_true, if_false, if_pos, if_neg, retM_ap, retZ_ap0, retZ_ap1, gM_ap, sM_ap, jM_ap, bI_ap, bL_ap, bD_ap, rdM_ap, wrM_ap, thrM_ap, nl_0, nl_1, nl_2, nl_11, iN_eq, ↓invM_l fs6, ↓invM_l c1, ↓invM_l fi, b_fails]
    · rw [eb, if_pos rfl] at fb
      obtain ⟨k, ek, hk⟩ := btw_k (by omega) eb
      have fc := f_cellProperty (q := q) (k := k) h.1 (by omega) hk
      obtain ⟨m, c1, c2, c3, c4, c5, c6, _⟩ := lay_mO (r := cpS (nowS σ) q k) h
      have fi := r_in (p := p3) (lo := iN 0) (hi := iN 11) (σ := m)
      rw [eb, if_pos rfl] at fi
      have fs7 := r_isSquare (p0 := p0) (p1 := p1) (p2 := p2) hw (vw_mO (r := cpS (nowS σ) q k))
      rw [e] at fs7
      have fs7 : F_X6_isSquare p0 p1 p2 (mO σ (cpS (nowS σ) q k)) = some (.inl (iN 1), mO σ (cpS (nowS σ) q k)) := fs7
      have fsq := r_squareO (σ := m) hw e
      have fo := r_ofCell (q := q) (k := k) c3 hq5 hk
      refine st_ok (r := cpS (nowS σ) q k) (σ1 := σ) (σ3 := m) ?_ ?_ c2 c4 c5
      · unfold F_X5_cell
        refine (invM_l fq).trans ((invM_l fb).trans ?_)
        rw [ek]
        exact invM_l fc
      · show (invM (F_X6_isSquare p0 p1 p2) _) (mO σ (cpS (nowS σ) q k)) = _
        simp (disch := omega) only [↓ite_ap, if_true, if_false, if_pos, if_neg, retM_ap, retZ_ap0, retZ_ap1, gM_ap, sM_ap, jM_ap, bI_ap, bL_ap, bD_ap, rdM_ap, wrM_ap, thrM_ap, nl_0, nl_1, nl_2, nl_11, iN_eq, ↓invM_l fs7, ↓invM_l c1, ↓invM_l fi, ↓invM_l fsq]
        rw [ek, invM_l fo]
        rfl
theorem st_edge (p0 p1 p2 p3 : Int32) : StW II cs_edge (F_X5_edge p0 p1 p2 p3) (F_X6_edge p0 p1 p2 p3) := by
  intro σ h
  obtain ⟨hw, hr, hL⟩ := h.1
  have fq := f_requireSquare (p0 := p0) (p1 := p1) (p2 := p2) hw hr
  have fs6 := r_isSquare (p0 := p0) (p1 := p1) (p2 := p2) hw (vw_up (j := 6) (v := iN 0) (show 168 ≠ 169 by omega))
  unfold F_X6_edge
  cases e : sqO (nowS σ) p0 p1 p2 with
  | none =>
    rw [e] at fq fs6
    have fs6 : F_X6_isSquare p0 p1 p2 (upM σ 168 6 (iN 0)) = some (.inl (iN 0), upM σ 168 6 (iN 0)) := fs6
    refine st_er (c := 1) h (by unfold F_X5_edge; exact invM_r fq) ?_ rfl
    simp (disch := omega) only [↓ite_ap, if_true, if_false, if_pos, if_neg, retM_ap, retZ_ap0, retZ_ap1, gM_ap, sM_ap, jM_ap, bI_ap, bL_ap, bD_ap, rdM_ap, wrM_ap, thrM_ap, nl_0, nl_1, nl_2, nl_3, nl_4, nl_5, nl_6, nl_7, nl_8, nl_9, nl_10, nl_11, nl_12, nl_13, nl_25, nl_33, nl_35, nl_45, nl_48, nl_49, nl_50, nl_52, nl_53, nl_57, nl_59, nl_60, nl_61, nl_77, nl_94, nl_97, nl_100, nl_101, nl_119, nl_125, nl_126, nl_137, nl_262, nl_387, nl_500, nl_512, nl_637, nl_999, nl_1022, nl_1137, nl_5685, nm_1b, iN_mI, mI_iN, iN_add, iN_mul, iN_sub, iN_div, iN_rem, iN_lt, iN_le, iN_eq, iN_nat, inB_iN, ↓invM_l fs6, b_fails]
  | some q =>
    rw [e] at fq fs6
    have fq : F_X5_requireSquare p0 p1 p2 σ = some (.inl (iN q), σ) := fq
    have fs6 : F_X6_isSquare p0 p1 p2 (upM σ 168 6 (iN 0)) = some (.inl (iN 1), upM σ 168 6 (iN 0)) := fs6
    obtain ⟨t, r, c, _, _, _, ht, _, _, _, _, eq, hq, eqt, _⟩ := sqO_some hw e
    have hq5 := isOf_lt hw hq
    have fb := f_requireBetween (p := p3) (lo := iN 0) (hi := iN 3) (σ := σ)
    cases eb : btw p3 (iN 0) (iN 3)
    · rw [eb, if_neg (by decide)] at fb
      obtain ⟨m, c1, c2⟩ := lay_m6 h
      have fi := r_in (p := p3) (lo := iN 0) (hi := iN 3) (σ := m)
      rw [eb, if_neg (by decide)] at fi
      refine st_er2 (e := 2) (c := 2) c2 ?_ ?_ rfl
      · unfold F_X5_edge
        rw [invM_l fq]
        exact invM_r fb
      · simp (disch := omega) only [↓ite_ap, if_true, if_false, if_pos, if_neg, retM_ap, retZ_ap0, retZ_ap1, gM_ap, sM_ap, jM_ap, bI_ap, bL_ap, bD_ap, rdM_ap, wrM_ap, thrM_ap, nl_0, nl_1, nl_2, nl_3, iN_eq, ↓invM_l fs6, ↓invM_l c1, ↓invM_l fi, b_fails]
    · rw [eb, if_pos rfl] at fb
      obtain ⟨k, ek, hk⟩ := btw_k (by omega) eb
      have fc : σ 28 (q * 4 + k) = iN (eL (nowS σ) (q * 4 + k)) := (hL _ (by omega)).2.2.2.2.2.1 q k rfl hk
      obtain ⟨m, c1, c2, c3, c4, c5, c6, _⟩ := lay_mO (r := iN (eL (nowS σ) (q * 4 + k))) h
      have fi := r_in (p := p3) (lo := iN 0) (hi := iN 3) (σ := m)
      rw [eb, if_pos rfl] at fi
      have fs7 := r_isSquare (p0 := p0) (p1 := p1) (p2 := p2) hw (vw_mO (r := iN (eL (nowS σ) (q * 4 + k))))
      rw [e] at fs7
      have fs7 : F_X6_isSquare p0 p1 p2 (mO σ (iN (eL (nowS σ) (q * 4 + k)))) = some (.inl (iN 1), mO σ (iN (eL (nowS σ) (q * 4 + k)))) := fs7
      have fsq := r_squareO (σ := m) hw e
      have fo := r_edgeOf (i := k) hw c3.2.1 hq hk (fun q' i' h1 h2 h3 => (c3.2.2 _ h2.1).2.2.2.2.2.2.1 q' i' rfl h2 h3)
      refine st_ok (r := iN (eL (nowS σ) (q * 4 + k))) (σ1 := σ) (σ3 := m) ?_ ?_ c2 c4 c5
      · unfold F_X5_edge
        refine (invM_l fq).trans ((invM_l fb).trans ?_)
        rw [ek]
        simp (disch := omega) only [↓ite_ap, if_true, if_false, if_pos, if_neg, retM_ap, retZ_ap0, retZ_ap1, gM_ap, sM_ap, jM_ap, bI_ap, bL_ap, bD_ap, rdM_ap, wrM_ap, thrM_ap, nl_0, nl_1, nl_2, nl_3, nl_4, nl_5, nl_6, nl_7, nl_8, nl_9, nl_10, nl_11, nl_12, nl_13, nl_25, nl_33, nl_35, nl_45, nl_48, nl_49, nl_50, nl_52, nl_53, nl_57, nl_59, nl_60, nl_61, nl_77, nl_94, nl_97, nl_100, nl_101, nl_119, nl_125, nl_126, nl_137, nl_262, nl_387, nl_500, nl_512, nl_637, nl_999, nl_1022, nl_1137, nl_5685, nm_1b, iN_mI, mI_iN, iN_add, iN_mul, iN_sub, iN_div, iN_rem, iN_lt, iN_le, iN_eq, iN_nat, inB_iN, ↓b_at, ↓b_store, ↓b_place1, ↓b_place0, ↓b_tableOf, ↓b_sqEnd, ↓b_isCell, Nat.reduceAdd, fc]
      · show (invM (F_X6_isSquare p0 p1 p2) _) (mO σ (iN (eL (nowS σ) (q * 4 + k)))) = _
        simp (disch := omega) only [↓ite_ap, if_true, if_false, if_pos, if_neg, retM_ap, retZ_ap0, retZ_ap1, gM_ap, sM_ap, jM_ap, bI_ap, bL_ap, bD_ap, rdM_ap, wrM_ap, thrM_ap, nl_0, nl_1, nl_2, nl_3, iN_eq, ↓invM_l fs7, ↓invM_l c1, ↓invM_l fi, ↓invM_l fsq]
        rw [ek, invM_l fo]
        rfl
theorem st_table (p0 p1 : Int32) : StW II cs_table (F_X5_table p0 p1) (F_X6_table p0 p1) := by
  intro σ h
  obtain ⟨hw, hr, hL⟩ := h.1
  have ft := f_hasTable (p := p0) hw hr
  have ft6 := r_isTable (p := p0) hw (vw_up (j := 6) (v := iN 0) (show 168 ≠ 169 by omega))
  unfold F_X6_table
  rcases dI_cases p0 (tbS (nowS σ)) with ⟨t, a1, a2, a3, a4⟩ | ⟨a3, a4⟩ | ⟨t, a1, a2, a3, a4⟩
  · rw [a4] at ft ft6
    have ft : F_X4_hasTable 2 p0 σ = some (.inl (iN 1), σ) := ft
    have ft6 : F_X6_isTable 169 1137 p0 (upM σ 168 6 (iN 0)) = some (.inl (iN 1), upM σ 168 6 (iN 0)) := ft6
    have frq : F_X5_requireTable p0 σ = some (.inl (), σ) := by
      unfold F_X5_requireTable
      simp (disch := omega) only [↓ite_ap, if_true, if_false, if_pos, if_neg, retM_ap, retZ_ap0, retZ_ap1, gM_ap, sM_ap, jM_ap, bI_ap, bL_ap, bD_ap, rdM_ap, wrM_ap, thrM_ap, nl_0, nl_1, nl_2, nl_3, nl_4, nl_5, nl_6, nl_7, nl_8, nl_9, nl_10, nl_11, nl_12, nl_13, nl_25, nl_33, nl_35, nl_45, nl_48, nl_49, nl_50, nl_52, nl_53, nl_57, nl_59, nl_60, nl_61, nl_77, nl_94, nl_97, nl_100, nl_101, nl_119, nl_125, nl_126, nl_137, nl_262, nl_387, nl_500, nl_512, nl_637, nl_999, nl_1022, nl_1137, nl_5685, nm_1b, iN_mI, mI_iN, iN_add, iN_mul, iN_sub, iN_div, iN_rem, iN_lt, iN_le, iN_eq, iN_nat, inB_iN, ↓invM_l ft]
    have fb := f_requireBetween (p := p1) (lo := iN 0) (hi := iN 7) (σ := σ)
    cases eb : btw p1 (iN 0) (iN 7)
    · rw [eb, if_neg (by decide)] at fb
      obtain ⟨m, c1, c2⟩ := lay_m6 h
      have fi := r_in (p := p1) (lo := iN 0) (hi := iN 7) (σ := m)
      rw [eb, if_neg (by decide)] at fi
      refine st_er2 (e := 2) (c := 2) c2 ?_ ?_ rfl
      · unfold F_X5_table
        rw [invM_l frq]
        exact invM_r fb
      · simp (disch := omega) only [↓ite_ap, if_true, if_false, if_pos, if_neg, retM_ap, retZ_ap0, retZ_ap1, gM_ap, sM_ap, jM_ap, bI_ap, bL_ap, bD_ap, rdM_ap, wrM_ap, thrM_ap, nl_0, nl_1, nl_2, nl_7, iN_eq, ↓invM_l ft6, ↓invM_l c1, ↓invM_l fi, b_fails]
    · rw [eb, if_pos rfl] at fb
      obtain ⟨k, ek, hk⟩ := btw_k (by omega) eb
      have fc := f_tableProperty (t := t) (k := k) h.1 a3 hk
      obtain ⟨m, c1, c2, c3, c4, c5, c6, _⟩ := lay_mO (r := tpS (nowS σ) t k) h
      have fi := r_in (p := p1) (lo := iN 0) (hi := iN 7) (σ := m)
      rw [eb, if_pos rfl] at fi
      have ft7 := r_isTable (p := p0) hw (vw_mO (r := tpS (nowS σ) t k))
      rw [a4] at ft7
      have ft7 : F_X6_isTable 169 1137 p0 (mO σ (tpS (nowS σ) t k)) = some (.inl (iN 1), mO σ (tpS (nowS σ) t k)) := ft7
      have fo := r_ofTable (t := t) (k := k) c3 a3 hk
      refine st_ok (r := tpS (nowS σ) t k) (σ1 := σ) (σ3 := m) ?_ ?_ c2 c4 c5
      · unfold F_X5_table
        refine (invM_l frq).trans ((invM_l fb).trans ?_)
        rw [ek, a2]
        exact invM_l fc
      · show (invM (F_X6_isTable 169 1137 p0) _) (mO σ (tpS (nowS σ) t k)) = _
        simp (disch := omega) only [↓ite_ap, if_true, if_false, if_pos, if_neg, retM_ap, retZ_ap0, retZ_ap1, gM_ap, sM_ap, jM_ap, bI_ap, bL_ap, bD_ap, rdM_ap, wrM_ap, thrM_ap, nl_0, nl_1, nl_2, nl_7, iN_eq, ↓invM_l ft7, ↓invM_l c1, ↓invM_l fi]
        rw [ek, a2, invM_l fo]
        rfl
  · rw [a4] at ft ft6
    have ft : F_X4_hasTable 2 p0 σ = some (.inl (iN 0), σ) := ft
    have ft6 : F_X6_isTable 169 1137 p0 (upM σ 168 6 (iN 0)) = some (.inl (iN 0), upM σ 168 6 (iN 0)) := ft6
    have frq : F_X5_requireTable p0 σ = some (.inr 1, σ) := by
      unfold F_X5_requireTable
      simp (disch := omega) only [↓ite_ap, if_true, if_false, if_pos, if_neg, retM_ap, retZ_ap0, retZ_ap1, gM_ap, sM_ap, jM_ap, bI_ap, bL_ap, bD_ap, rdM_ap, wrM_ap, thrM_ap, nl_0, nl_1, nl_2, nl_3, nl_4, nl_5, nl_6, nl_7, nl_8, nl_9, nl_10, nl_11, nl_12, nl_13, nl_25, nl_33, nl_35, nl_45, nl_48, nl_49, nl_50, nl_52, nl_53, nl_57, nl_59, nl_60, nl_61, nl_77, nl_94, nl_97, nl_100, nl_101, nl_119, nl_125, nl_126, nl_137, nl_262, nl_387, nl_500, nl_512, nl_637, nl_999, nl_1022, nl_1137, nl_5685, nm_1b, iN_mI, mI_iN, iN_add, iN_mul, iN_sub, iN_div, iN_rem, iN_lt, iN_le, iN_eq, iN_nat, inB_iN, ↓invM_l ft]
    refine st_er (c := 1) h (by unfold F_X5_table; exact invM_r frq) ?_ rfl
    simp (disch := omega) only [↓ite_ap, if_true, if_false, if_pos, if_neg, retM_ap, retZ_ap0, retZ_ap1, gM_ap, sM_ap, jM_ap, bI_ap, bL_ap, bD_ap, rdM_ap, wrM_ap, thrM_ap, nl_0, nl_1, nl_2, nl_3, nl_4, nl_5, nl_6, nl_7, nl_8, nl_9, nl_10, nl_11, nl_12, nl_13, nl_25, nl_33, nl_35, nl_45, nl_48, nl_49, nl_50, nl_52, nl_53, nl_57, nl_59, nl_60, nl_61, nl_77, nl_94, nl_97, nl_100, nl_101, nl_119, nl_125, nl_126, nl_137, nl_262, nl_387, nl_500, nl_512, nl_637, nl_999, nl_1022, nl_1137, nl_5685, nm_1b, iN_mI, mI_iN, iN_add, iN_mul, iN_sub, iN_div, iN_rem, iN_lt, iN_le, iN_eq, iN_nat, inB_iN, ↓invM_l ft6, b_fails]
  · rw [a4] at ft ft6
    have ft : F_X4_hasTable 2 p0 σ = some (.inl (iN 0), σ) := ft
    have ft6 : F_X6_isTable 169 1137 p0 (upM σ 168 6 (iN 0)) = some (.inl (iN 0), upM σ 168 6 (iN 0)) := ft6
    have frq : F_X5_requireTable p0 σ = some (.inr 1, σ) := by
      unfold F_X5_requireTable
      simp (disch := omega) only [↓ite_ap, if_true, if_false, if_pos, if_neg, retM_ap, retZ_ap0, retZ_ap1, gM_ap, sM_ap, jM_ap, bI_ap, bL_ap, bD_ap, rdM_ap, wrM_ap, thrM_ap, nl_0, nl_1, nl_2, nl_3, nl_4, nl_5, nl_6, nl_7, nl_8, nl_9, nl_10, nl_11, nl_12, nl_13, nl_25, nl_33, nl_35, nl_45, nl_48, nl_49, nl_50, nl_52, nl_53, nl_57, nl_59, nl_60, nl_61, nl_77, nl_94, nl_97, nl_100, nl_101, nl_119, nl_125, nl_126, nl_137, nl_262, nl_387, nl_500, nl_512, nl_637, nl_999, nl_1022, nl_1137, nl_5685, nm_1b, iN_mI, mI_iN, iN_add, iN_mul, iN_sub, iN_div, iN_rem, iN_lt, iN_le, iN_eq, iN_nat, inB_iN, ↓invM_l ft]
    refine st_er (c := 1) h (by unfold F_X5_table; exact invM_r frq) ?_ rfl
    simp (disch := omega) only [↓ite_ap, if_true, if_false, if_pos, if_neg, retM_ap, retZ_ap0, retZ_ap1, gM_ap, sM_ap, jM_ap, bI_ap, bL_ap, bD_ap, rdM_ap, wrM_ap, thrM_ap, nl_0, nl_1, nl_2, nl_3, nl_4, nl_5, nl_6, nl_7, nl_8, nl_9, nl_10, nl_11, nl_12, nl_13, nl_25, nl_33, nl_35, nl_45, nl_48, nl_49, nl_50, nl_52, nl_53, nl_57, nl_59, nl_60, nl_61, nl_77, nl_94, nl_97, nl_100, nl_101, nl_119, nl_125, nl_126, nl_137, nl_262, nl_387, nl_500, nl_512, nl_637, nl_999, nl_1022, nl_1137, nl_5685, nm_1b, iN_mI, mI_iN, iN_add, iN_mul, iN_sub, iN_div, iN_rem, iN_lt, iN_le, iN_eq, iN_nat, inB_iN, ↓invM_l ft6, b_fails]
theorem st_count (p0 : Int32) : StW II cs_count (F_X5_count p0) (F_X6_count p0) := by
  intro σ h
  obtain ⟨hw, hr, hL⟩ := h.1
  unfold F_X6_count
  have fb := f_requireBetween (p := p0) (lo := iN 0) (hi := iN 12) (σ := σ)
  cases eb : btw p0 (iN 0) (iN 12)
  · rw [eb, if_neg (by decide)] at fb
    have fi := r_in (p := p0) (lo := iN 0) (hi := iN 12) (σ := upM σ 168 6 (iN 0))
    rw [eb, if_neg (by decide)] at fi
    refine st_er (e := 2) (c := 1) h ?_ ?_ rfl
    · unfold F_X5_count
      exact invM_r fb
    · simp (disch := omega) only [↓ite_ap, if_true, if_false, if_pos, if_neg, retM_ap, retZ_ap0, retZ_ap1, gM_ap, sM_ap, jM_ap, bI_ap, bL_ap, bD_ap, rdM_ap, wrM_ap, thrM_ap, nl_0, nl_1, nl_12, iN_eq, ↓invM_l fi, b_fails]
  · obtain ⟨k, ek, hk⟩ := btw_k (by omega) eb
    have fc := f_count (k := k) h.1 hk
    obtain ⟨n, o, _, _, e73, _, e3, _⟩ := h.2.1
    obtain ⟨m, c1, c2, c3, c4, c5, c6, c7⟩ := lay_mO (r := cnS (nowS σ) (σ 73 2) k) h
    have fi := r_in (p := p0) (lo := iN 0) (hi := iN 12) (σ := mO σ (cnS (nowS σ) (σ 73 2) k))
    rw [eb, if_pos rfl] at fi
    obtain ⟨m2, d1, d2⟩ := r_counted (k := k) c3 hk
    have e168 : m 168 3 = σ 73 2 := by rw [c7 _ _ (by omega) (by omega), mO_q (by omega), e3, e73]
    rw [e168] at d1
    refine st_ok (r := cnS (nowS σ) (σ 73 2) k) (σ1 := σ) (σ3 := m2) (by rw [ek]; exact fc) ?_ (c2.fr (fun k' j hp => d2 k' j (by unfold PI at hp; omega))) (by rw [d2 _ _ (by omega)]; exact c4) (by rw [d2 _ _ (by omega)]; exact c5)
    show (invM (F_X6_in p0 0 12) _) (mO σ (cnS (nowS σ) (σ 73 2) k)) = _
    simp (disch := omega) only [↓ite_ap, if_true, if_false, if_pos, if_neg, retM_ap, retZ_ap0, retZ_ap1, gM_ap, sM_ap, jM_ap, bI_ap, bL_ap, bD_ap, rdM_ap, wrM_ap, thrM_ap, nl_0, nl_1, nl_12, iN_eq, ↓invM_l fi, ↓invM_l c1]
    rw [ek, invM_l d1]
    rfl
theorem st_heightFor (p0 : Int32) : StW II cs_heightFor (F_X5_heightFor p0) (F_X6_heightFor p0) := by
  intro σ h
  obtain ⟨hw, hr, hL⟩ := h.1
  unfold F_X6_heightFor
  have fb := f_requireBetween (p := p0) (lo := iN 1) (hi := iN 5) (σ := σ)
  cases eb : btw p0 (iN 1) (iN 5)
  · rw [eb, if_neg (by decide)] at fb
    have fi := r_in (p := p0) (lo := iN 1) (hi := iN 5) (σ := upM σ 168 6 (iN 0))
    rw [eb, if_neg (by decide)] at fi
    refine st_er (e := 2) (c := 1) h ?_ ?_ rfl
    · unfold F_X5_heightFor
      exact invM_r fb
    · simp (disch := omega) only [↓ite_ap, if_true, if_false, if_pos, if_neg, retM_ap, retZ_ap0, retZ_ap1, gM_ap, sM_ap, jM_ap, bI_ap, bL_ap, bD_ap, rdM_ap, wrM_ap, thrM_ap, nl_0, nl_1, nl_5, iN_eq, ↓invM_l fi, b_fails]
  · rw [eb, if_pos rfl] at fb
    obtain ⟨k, ek, hk1, hk⟩ := btw_nat (by omega) (by omega) eb
    have fc := f_heightFor_l (p := k) h.1 (by omega) 60 FU 1 (by omega) (by unfold FU; omega)
    obtain ⟨rr, hrr⟩ : ∃ rr, rr = hfL (fun x => decide (pgN (nowS σ) x ≤ k)) 60 1 := ⟨_, rfl⟩
    rw [← hrr] at fc
    obtain ⟨m, c1, c2, c3, c4, c5, c6, c7⟩ := lay_mO (r := rr) h
    have fi := r_in (p := p0) (lo := iN 1) (hi := iN 5) (σ := mO σ rr)
    rw [eb, if_pos rfl] at fi
    obtain ⟨m2, d1, d2⟩ := r_leastFor (p := k) (by omega) c3
    rw [← hrr] at d1
    refine st_ok (r := rr) (σ1 := σ) (σ3 := m2) ?_ ?_ (c2.fr (fun k' j hp => d2 k' j (by unfold PI at hp; omega))) (by rw [d2 _ _ (by omega)]; exact c4) (by rw [d2 _ _ (by omega)]; exact c5)
    · unfold F_X5_heightFor
      refine (invM_l fb).trans ?_
      rw [ek]
      exact fc
    · show (invM (F_X6_in p0 1 5) _) (mO σ rr) = _
      simp (disch := omega) only [↓ite_ap, if_true, if_false, if_pos, if_neg, retM_ap, retZ_ap0, retZ_ap1, gM_ap, sM_ap, jM_ap, bI_ap, bL_ap, bD_ap, rdM_ap, wrM_ap, thrM_ap, nl_0, nl_1, nl_5, iN_eq, ↓invM_l fi, ↓invM_l c1]
      rw [ek, invM_l d1]
      rfl
theorem st_countedBy (p0 p1 p2 : Int32) : StW II cs_countedBy (F_X5_countedBy p0 p1 p2) (F_X6_countedBy p0 p1 p2) := by
  intro σ h
  obtain ⟨hw, hr, hL⟩ := h.1
  have fq := f_requireSquare (p0 := p0) (p1 := p1) (p2 := p2) hw hr
  have fs6 := r_isSquare (p0 := p0) (p1 := p1) (p2 := p2) hw (vw_up (j := 6) (v := iN 0) (show 168 ≠ 169 by omega))
  unfold F_X6_countedBy
  cases e : sqO (nowS σ) p0 p1 p2 with
  | none =>
    rw [e] at fq fs6
    have fs6 : F_X6_isSquare p0 p1 p2 (upM σ 168 6 (iN 0)) = some (.inl (iN 0), upM σ 168 6 (iN 0)) := fs6
    refine st_er (c := 1) h (by unfold F_X5_countedBy; exact invM_r fq) ?_ rfl
    simp (disch := omega) only [↓ite_ap, if_true, if_false, if_pos, if_neg, retM_ap, retZ_ap0, retZ_ap1, gM_ap, sM_ap, jM_ap, bI_ap, bL_ap, bD_ap, rdM_ap, wrM_ap, thrM_ap, nl_0, nl_1, nl_2, nl_3, nl_4, nl_5, nl_6, nl_7, nl_8, nl_9, nl_10, nl_11, nl_12, nl_13, nl_25, nl_33, nl_35, nl_45, nl_48, nl_49, nl_50, nl_52, nl_53, nl_57, nl_59, nl_60, nl_61, nl_77, nl_94, nl_97, nl_100, nl_101, nl_119, nl_125, nl_126, nl_137, nl_262, nl_387, nl_500, nl_512, nl_637, nl_999, nl_1022, nl_1137, nl_5685, nm_1b, iN_mI, mI_iN, iN_add, iN_mul, iN_sub, iN_div, iN_rem, iN_lt, iN_le, iN_eq, iN_nat, inB_iN, ↓invM_l fs6, b_fails]
  | some q =>
    rw [e] at fq
    have fq : F_X5_requireSquare p0 p1 p2 σ = some (.inl (iN q), σ) := fq
    obtain ⟨t, r, c, _, _, _, ht, _, _, _, _, eq, hq, eqt, _⟩ := sqO_some hw e
    have hq5 := isOf_lt hw hq
    have fc := f_countingSums (c := q) hw hr (by omega) (fun q' h1 h2 => (hL _ h1.1.1).2.2.2.1 q' rfl h1 h2)
    have fs7 := r_isSquare (p0 := p0) (p1 := p1) (p2 := p2) hw (vw_mO (r := couS (nowS σ) q))
    rw [e] at fs7
    have fs7 : F_X6_isSquare p0 p1 p2 (mO σ (couS (nowS σ) q)) = some (.inl (iN 1), mO σ (couS (nowS σ) q)) := fs7
    have fsq := r_squareO (σ := mO σ (couS (nowS σ) q)) hw e
    have fo := r_counters (c := q) hw (vw_mO (r := couS (nowS σ) q)) hq5
    refine st_ok (r := couS (nowS σ) q) (σ1 := σ) (σ3 := mO σ (couS (nowS σ) q)) ?_ ?_ h.mO mO_6 mO_r
    · unfold F_X5_countedBy
      rw [invM_l fq, invM_l fc]
      rfl
    · show (invM (F_X6_isSquare p0 p1 p2) _) (mO σ (couS (nowS σ) q)) = _
      simp (disch := omega) only [↓ite_ap, if_true, if_false, if_pos, if_neg, retM_ap, retZ_ap0, retZ_ap1, gM_ap, sM_ap, jM_ap, bI_ap, bL_ap, bD_ap, rdM_ap, wrM_ap, thrM_ap, nl_0, nl_1, iN_eq, ↓invM_l fs7, ↓invM_l fsq, ↓invM_l fo]
