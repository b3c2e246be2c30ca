/-! NEST, AS A STEP -/
theorem f_addTable {b q hi br : Nat} {s : Sv} {σ : Mm} (hw : WF s) (hr : Rel b s σ) (hq : isCl s q) (h0 : kiS s q = 0) (ht : tbS s < 5) (a1 : 1 ≤ hi) (a5 : hi ≤ 5) (a2 : 1 ≤ br) (a6 : br ≤ 5) : ∃ σ1, F_X4_addTable b (iN q) (iN hi) (iN br) σ = some (.inl (iN (tbS s)), σ1) ∧ Rel b (nwS (neS s q) (tbS s) hi br) σ1 ∧ ∀ k, ¬ (b ≤ k ∧ k ≤ b + 14) → σ1 k = σ k := by
  have hq5 := isOf_lt hw hq.1
  have t1 := hw.1.2.1
  have e1 : σ b 1 = iN (tbS s) := hr.1.trans hw.1.1
  have hb := ne_b hw hq h0 ht
  obtain ⟨m0, e0⟩ : ∃ m, m = upM (upM σ (b + 8) q (iN 3)) (b + 10) q (iN (tbS s)) := ⟨_, rfl⟩
  have hR : RelT b (neS s q) (tbS s) m0 := by rw [e0]; exact ne_R hw hr hq h0
  obtain ⟨σ1, c1, c2, c3⟩ := f_layOut (x := iN q) hb hR a1 a5 a2 a6 (fun g => by omega) (fun _ => ⟨q, rfl, (ne_cl hw hq5).mpr hq, by rw [ne_ki hq5, if_pos rfl], by rw [ne_nu hq5, if_pos rfl, nv_iN (by omega)]⟩)
  refine ⟨σ1, ?_, c2, fun k hk => by rw [c3 k hk, e0, upM_o (by omega), upM_o (by omega)]⟩
  unfold F_X4_addTable
  simp (disch := omega) only [↓ite_ap, if_true, if_false, if_pos, if_neg, retM_ap, retZ_ap0, retZ_ap1, gM_np, sM_ap, jM_np, bI_ap, bL_ap, bD_ap, rdM_ap, wrM_ap, thrM_ap, nl_0, nl_1, nl_2, nl_3, nl_4, nl_5, nl_6, nl_7, nl_8, nl_9, nl_10, nl_11, nl_12, nl_13, nl_25, nl_33, nl_35, nl_45, nl_48, nl_49, nl_50, nl_52, nl_53, nl_57, nl_59, nl_60, nl_61, nl_77, nl_94, nl_97, nl_100, nl_101, nl_119, nl_125, nl_126, nl_137, nl_262, nl_387, nl_500, nl_512, nl_637, nl_999, nl_1022, nl_1137, nl_5685, nm_1b, iN_mI, mI_iN, iN_add, iN_mul, iN_sub, iN_div, iN_rem, iN_lt, iN_le, iN_eq, iN_nat, inB_iN, ↓b_at, ↓b_store, ↓b_place1, ↓b_place0, ↓b_tableOf, ↓b_sqEnd, ↓b_isCell, Nat.add_assoc, Nat.reduceAdd, e1, ← e0, ↓invM_l c1]
theorem st_nest (p0 p1 p2 p3 p4 : Int32) : StW II cs_nest (F_X5_nest p0 p1 p2 p3 p4) (F_X6_nest p0 p1 p2 p3 p4) := by
  intro σ h
  obtain ⟨hw, hr, hL⟩ := h.1
  obtain ⟨n, o, P, hn, ho, hc, hir⟩ := HI_cr h.2.1
  have t5 := hw.1.2.2
  have t1 := hw.1.2.1
  have fq := f_requireSquare (p0 := p0) (p1 := p1) (p2 := p2) hw hr
  have v6 : Vw 169 (nowS σ) (upM σ 168 6 (iN 0)) := vw_up (j := 6) (v := iN 0) (show 168 ≠ 169 by omega)
  have fs6 := r_isSquare (p0 := p0) (p1 := p1) (p2 := p2) hw v6
  unfold F_X6_nest
  cases e : sqO (nowS σ) p0 p1 p2 with
  | none =>
    rw [e] at fq fs6
    have fs6 : F_X6_isSquare p0 p1 p2 (upM σ 168 6 (iN 0)) = some (.inl (iN 0), upM σ 168 6 (iN 0)) := fs6
    refine st_er (c := 1) h (by unfold F_X5_nest; exact invM_r fq) ?_ rfl
    simp (disch := omega) only [↓ite_ap, if_true, if_false, if_pos, if_neg, retM_ap, retZ_ap0, retZ_ap1, gM_ap, sM_ap, jM_ap, bI_ap, bL_ap, bD_ap, rdM_ap, wrM_ap, thrM_ap, nl_0, nl_1, nl_2, nl_3, nl_4, nl_5, nl_6, nl_7, nl_8, nl_9, nl_10, nl_11, nl_12, nl_13, nl_25, nl_33, nl_35, nl_45, nl_48, nl_49, nl_50, nl_52, nl_53, nl_57, nl_59, nl_60, nl_61, nl_77, nl_94, nl_97, nl_100, nl_101, nl_119, nl_125, nl_126, nl_137, nl_262, nl_387, nl_500, nl_512, nl_637, nl_999, nl_1022, nl_1137, nl_5685, nm_1b, iN_mI, mI_iN, iN_add, iN_mul, iN_sub, iN_div, iN_rem, iN_lt, iN_le, iN_eq, iN_nat, inB_iN, ↓invM_l fs6, b_fails]
  | some q =>
    rw [e] at fq fs6
    have fq : F_X5_requireSquare p0 p1 p2 σ = some (.inl (iN q), σ) := fq
    have fs6 : F_X6_isSquare p0 p1 p2 (upM σ 168 6 (iN 0)) = some (.inl (iN 1), upM σ 168 6 (iN 0)) := fs6
    obtain ⟨t, r, c, _, _, _, ht, _, _, _, _, eq, hq, eqt, _⟩ := sqO_some hw e
    have hq5 := isOf_lt hw hq
    have fsq6 := r_squareO (σ := upM σ 168 6 (iN 0)) hw e
    have fb3 := f_requireBetween (p := p3) (lo := iN 1) (hi := iN 5) (σ := σ)
    have fi3 := r_in (p := p3) (lo := iN 1) (hi := iN 5) (σ := upM σ 168 6 (iN 0))
    have fb4 := f_requireBetween (p := p4) (lo := iN 1) (hi := iN 5) (σ := σ)
    have fi4 := r_in (p := p4) (lo := iN 1) (hi := iN 5) (σ := upM σ 168 6 (iN 0))
    cases eb3 : btw p3 (iN 1) (iN 5)
    · rw [eb3, if_neg (by decide)] at fb3 fi3
      refine st_er (e := 2) (c := 2) h ?_ ?_ rfl
      · unfold F_X5_nest F_X5_requireLines
        exact (invM_l fq).trans (invM_r (invM_r fb3))
      · simp (disch := omega) only [↓ite_ap, if_true, if_false, if_pos, if_neg, retM_ap, retZ_ap0, retZ_ap1, gM_ap, sM_ap, jM_ap, bI_ap, bL_ap, bD_ap, rdM_ap, wrM_ap, thrM_ap, nl_0, nl_1, nl_2, nl_5, iN_eq, ↓invM_l fs6, ↓invM_l fi3, b_fails]
    · rw [eb3, if_pos rfl] at fb3 fi3
      cases eb4 : btw p4 (iN 1) (iN 5)
      · rw [eb4, if_neg (by decide)] at fb4 fi4
        refine st_er (e := 2) (c := 2) h ?_ ?_ rfl
        · unfold F_X5_nest F_X5_requireLines
          exact (invM_l fq).trans (invM_r ((invM_l fb3).trans (invM_r fb4)))
        · simp (disch := omega) only [↓ite_ap, if_true, if_false, if_pos, if_neg, retM_ap, retZ_ap0, retZ_ap1, gM_ap, sM_ap, jM_ap, bI_ap, bL_ap, bD_ap, rdM_ap, wrM_ap, thrM_ap, nl_0, nl_1, nl_2, nl_5, iN_eq, ↓invM_l fs6, ↓invM_l fi3, ↓invM_l fi4, b_fails]
      · rw [eb4, if_pos rfl] at fb4 fi4
        obtain ⟨hi, eh, hi1, hi5⟩ := btw_nat (by omega) (by omega) eb3
        obtain ⟨br, er, br1, br5⟩ := btw_nat (by omega) (by omega) eb4
        have frl : F_X5_requireLines p3 p4 σ = some (.inl (), σ) := by
          unfold F_X5_requireLines
          exact (invM_l fb3).trans (invM_l fb4)
        have k1 := v6.ki hw hq
        have e06 := v6.tb hw
        have kb := (hw.2.2.2.2.2.1 q hq).2.1
        have r1 := hr.2.2.2.2.1 q hq
        have k1c : σ 10 q = iN (kiS (nowS σ) q) := r1.2.1.trans (hw.2.2.2.2.2.1 q hq).1
        have e0c : σ 2 1 = iN (tbS (nowS σ)) := hr.1.trans hw.1.1
        by_cases hcl : isCl (nowS σ) q
        · have fc6 := r_isCell1 hw v6 hcl
          by_cases h0 : kiS (nowS σ) q = 0
          · by_cases h5 : tbS (nowS σ) < 5
            · obtain ⟨rr, hrr⟩ : ∃ rr, rr = iN (tbS (nowS σ)) := ⟨_, rfl⟩
              obtain ⟨s', hs'⟩ : ∃ s', s' = nwS (neS (nowS σ) q) (tbS (nowS σ)) hi br := ⟨_, rfl⟩
              obtain ⟨σ1, o', a1, a2, a3, a4⟩ := f_save hw hr hn ho hc
              obtain ⟨σ2, σ3, c1, c2, c3, c4⟩ := cls_chg (s' := s') (σ1 := σ1) (OP := F_X4_addTable 2 (iN q) (iN hi) (iN br)) (x := rr) h rfl a4 (fun g => by rw [hrr, hs']; exact f_addTable (b := 2) hw g hcl h0 h5 hi1 hi5 br1 br5) (by rw [hs']; exact nw_WF (ne_b hw hcl h0 h5) hi1 hi5 br1 br5)
              have hrM : HIr (mO σ3 rr) n P := hir.fr (by rw [mO_q (by omega), c4 168 (by omega), a4 168 (by omega)]) (funext (fun j => by rw [mO_q (by omega), c4 171 (by omega), a4 171 (by omega)]))
              have en : nowS (mO σ3 rr) = nowS σ := by rw [now_mO, now_fr (by rw [c4 169 (by omega), a4 169 (by omega)])]
              obtain ⟨m1, b1, b2, b3, b4⟩ := r_saves hn hrM
              rw [en] at b2
              have v7 : Vw 169 (nowS σ) (mO σ3 rr) := by
                have := now_vw (σ := mO σ3 rr)
                rw [en] at this
                exact this
              have v1 : Vw 169 (nowS σ) m1 := v7.fr (funext (fun j => b4 169 j (by omega) (by omega)))
              obtain ⟨m2, e2⟩ : ∃ m2, m2 = upM (upM m1 169 (12 + q) (iN 3)) 169 (137 + q) (iN (tbS (nowS σ))) := ⟨_, rfl⟩
              have v2 : Vw 169 (neS (nowS σ) q) m2 := by
                rw [e2]
                exact vw_upS (vw_upS v1)
              have e20 : m2 169 0 = iN (tbS (nowS σ)) := (v2 0 (by omega)).trans (ne_b hw hcl h0 h5).1.1
              have d1 := r_comes (σ := m2) (t := tbS (nowS σ)) (hi := hi) (br := br) h5 e20
              have g := chg_end (r := rr) (m2 := setR m2 169 (nwS (m2 169) (tbS (nowS σ)) hi br)) h hn a2 a3 a4 c4 c3 b2 b3 b4 (fun k hk => by rw [setR_o hk, e2, upM_o hk, upM_o hk]) (by rw [hs']; exact setR_vw (nw_congr v2)) (fun j hj => by rw [hs']; exact nw_z h5 (fun j hj => by rw [ne_o (by omega) (by omega)]; exact now_z hj) hj)
              have fs7 := r_isSquare (p0 := p0) (p1 := p1) (p2 := p2) hw v7
              rw [e] at fs7
              have fs7 : F_X6_isSquare p0 p1 p2 (mO σ3 rr) = some (.inl (iN 1), mO σ3 rr) := fs7
              have fi7 := r_in (p := p3) (lo := iN 1) (hi := iN 5) (σ := mO σ3 rr)
              have fi8 := r_in (p := p4) (lo := iN 1) (hi := iN 5) (σ := mO σ3 rr)
              rw [eb3, if_pos rfl] at fi7
              rw [eb4, if_pos rfl] at fi8
              have fsq := r_squareO (σ := mO σ3 rr) hw e
              have fcl := r_isCell1 hw v7 hcl
              have k7 := v7.ki hw hq
              have e07 := v7.tb hw
              have e01 : upM m1 169 (12 + q) (iN 3) 169 0 = iN (tbS (nowS σ)) := by rw [upM_ni (by omega)]; exact v1.tb hw
              refine st_ok (r := rr) (σ1 := σ3) (σ3 := setR m2 169 (nwS (m2 169) (tbS (nowS σ)) hi br)) ?_ ?_ g.1 g.2.1 g.2.2
              · unfold F_X5_nest
                refine (invM_l fq).trans ((invM_l frl).trans ?_)
                rw [eh, er]
                simp (disch := omega) only [↓ite_ap, if_true, if_false, if_pos, if_neg, retM_ap, retZ_ap0, retZ_ap1, gM_np, sM_ap, jM_np, bI_ap, bL_ap, bD_ap, rdM_ap, wrM_ap, thrM_ap, nl_0, nl_1, nl_2, nl_3, nl_4, nl_5, nl_6, nl_7, nl_8, nl_9, nl_10, nl_11, nl_12, nl_13, nl_25, nl_33, nl_35, nl_45, nl_48, nl_49, nl_50, nl_52, nl_53, nl_57, nl_59, nl_60, nl_61, nl_77, nl_94, nl_97, nl_100, nl_101, nl_119, nl_125, nl_126, nl_137, nl_262, nl_387, nl_500, nl_512, nl_637, nl_999, nl_1022, nl_1137, nl_5685, nm_1b, iN_mI, mI_iN, iN_add, iN_mul, iN_sub, iN_div, iN_rem, iN_lt, iN_le, iN_eq, iN_nat, inB_iN, ↓b_at, ↓b_store, ↓b_place1, ↓b_place0, ↓b_tableOf, ↓b_sqEnd, ↓b_isCell, rel_isCell hw hr hcl.1.1, hcl, Nat.reduceAdd, k1c, h0, e0c, ↓invM_l a1, ↓invM_l c1, ↓invM_l c2]
              · show (invM (F_X6_isSquare p0 p1 p2) _) (mO σ3 rr) = _
                rw [eh] at fi7 ⊢
                rw [er] at fi8 ⊢
                simp (disch := omega) only [↓ite_ap, if_true, if_false, if_pos, if_neg, retM_ap, retZ_ap0, retZ_ap1, gM_np, sM_ap, jM_np, bI_ap, bL_ap, bD_ap, rdM_ap, wrM_ap, thrM_ap, nl_0, nl_1, nl_2, nl_3, nl_5, nl_12, nl_137, iN_add, iN_eq, ↓invM_l fs7, ↓invM_l fi7, ↓invM_l fi8, ↓invM_l fsq, ↓invM_l fcl, k7, h0, e07, ↓invM_l b1, e01, ← e2, ↓invM_l d1]
                rw [hrr]
            · have ht5 : tbS (nowS σ) = 5 := by omega
              refine st_er (e := 3) (c := 3) h ?_ ?_ rfl
              · unfold F_X5_nest
                refine (invM_l fq).trans ((invM_l frl).trans ?_)
                simp (disch := omega) only [↓ite_ap, if_true, if_false, if_pos, if_neg, retM_ap, retZ_ap0, retZ_ap1, gM_np, sM_ap, jM_np, bI_ap, bL_ap, bD_ap, rdM_ap, wrM_ap, thrM_ap, nl_0, nl_1, nl_2, nl_3, nl_4, nl_5, nl_6, nl_7, nl_8, nl_9, nl_10, nl_11, nl_12, nl_13, nl_25, nl_33, nl_35, nl_45, nl_48, nl_49, nl_50, nl_52, nl_53, nl_57, nl_59, nl_60, nl_61, nl_77, nl_94, nl_97, nl_100, nl_101, nl_119, nl_125, nl_126, nl_137, nl_262, nl_387, nl_500, nl_512, nl_637, nl_999, nl_1022, nl_1137, nl_5685, nm_1b, iN_mI, mI_iN, iN_add, iN_mul, iN_sub, iN_div, iN_rem, iN_lt, iN_le, iN_eq, iN_nat, inB_iN, ↓b_at, ↓b_store, ↓b_place1, ↓b_place0, ↓b_tableOf, ↓b_sqEnd, ↓b_isCell, rel_isCell hw hr hcl.1.1, hcl, Nat.reduceAdd, k1c, h0, e0c]
              · simp (disch := omega) only [↓ite_ap, if_true, if_false, if_pos, if_neg, retM_ap, retZ_ap0, retZ_ap1, gM_np, sM_ap, jM_np, bI_ap, bL_ap, bD_ap, rdM_ap, wrM_ap, thrM_ap, nl_0, nl_1, nl_2, nl_3, nl_5, nl_12, nl_137, iN_add, iN_eq, ↓invM_l fs6, ↓invM_l fi3, ↓invM_l fi4, ↓invM_l fsq6, ↓invM_l fc6, k1, h0, e06, ht5, b_fails]
          · refine st_er (e := 3) (c := 3) h ?_ ?_ rfl
            · unfold F_X5_nest
              refine (invM_l fq).trans ((invM_l frl).trans ?_)
              simp (disch := omega) only [↓ite_ap, if_true, if_false, if_pos, if_neg, retM_ap, retZ_ap0, retZ_ap1, gM_np, sM_ap, jM_np, bI_ap, bL_ap, bD_ap, rdM_ap, wrM_ap, thrM_ap, nl_0, nl_1, nl_2, nl_3, nl_4, nl_5, nl_6, nl_7, nl_8, nl_9, nl_10, nl_11, nl_12, nl_13, nl_25, nl_33, nl_35, nl_45, nl_48, nl_49, nl_50, nl_52, nl_53, nl_57, nl_59, nl_60, nl_61, nl_77, nl_94, nl_97, nl_100, nl_101, nl_119, nl_125, nl_126, nl_137, nl_262, nl_387, nl_500, nl_512, nl_637, nl_999, nl_1022, nl_1137, nl_5685, nm_1b, iN_mI, mI_iN, iN_add, iN_mul, iN_sub, iN_div, iN_rem, iN_lt, iN_le, iN_eq, iN_nat, inB_iN, ↓b_at, ↓b_store, ↓b_place1, ↓b_place0, ↓b_tableOf, ↓b_sqEnd, ↓b_isCell, rel_isCell hw hr hcl.1.1, hcl, Nat.reduceAdd, k1c]
            · simp (disch := omega) only [↓ite_ap, if_true, if_false, if_pos, if_neg, retM_ap, retZ_ap0, retZ_ap1, gM_np, sM_ap, jM_np, bI_ap, bL_ap, bD_ap, rdM_ap, wrM_ap, thrM_ap, nl_0, nl_1, nl_2, nl_3, nl_5, nl_12, nl_137, iN_add, iN_eq, ↓invM_l fs6, ↓invM_l fi3, ↓invM_l fi4, ↓invM_l fsq6, ↓invM_l fc6, k1, b_fails]
        · have fc6 := r_isCell0 hw v6 hq5 hcl
          refine st_er (e := 3) (c := 3) h ?_ ?_ rfl
          · unfold F_X5_nest
            refine (invM_l fq).trans ((invM_l frl).trans ?_)
            simp (disch := omega) only [↓ite_ap, if_true, if_false, if_pos, if_neg, retM_ap, retZ_ap0, retZ_ap1, gM_np, sM_ap, jM_np, bI_ap, bL_ap, bD_ap, rdM_ap, wrM_ap, thrM_ap, nl_0, nl_1, nl_2, nl_3, nl_4, nl_5, nl_6, nl_7, nl_8, nl_9, nl_10, nl_11, nl_12, nl_13, nl_25, nl_33, nl_35, nl_45, nl_48, nl_49, nl_50, nl_52, nl_53, nl_57, nl_59, nl_60, nl_61, nl_77, nl_94, nl_97, nl_100, nl_101, nl_119, nl_125, nl_126, nl_137, nl_262, nl_387, nl_500, nl_512, nl_637, nl_999, nl_1022, nl_1137, nl_5685, nm_1b, iN_mI, mI_iN, iN_add, iN_mul, iN_sub, iN_div, iN_rem, iN_lt, iN_le, iN_eq, iN_nat, inB_iN, ↓b_at, ↓b_store, ↓b_place1, ↓b_place0, ↓b_tableOf, ↓b_sqEnd, ↓b_isCell, rel_isCell hw hr hq.1, hcl]
          · simp (disch := omega) only [↓ite_ap, if_true, if_false, if_pos, if_neg, retM_ap, retZ_ap0, retZ_ap1, gM_np, sM_ap, jM_np, bI_ap, bL_ap, bD_ap, rdM_ap, wrM_ap, thrM_ap, nl_0, nl_1, nl_2, nl_3, nl_5, iN_eq, ↓invM_l fs6, ↓invM_l fi3, ↓invM_l fi4, ↓invM_l fsq6, ↓invM_l fc6, b_fails]
/-! undo -/
theorem st_undo : StW II cs_undo F_X5_undo F_X6_undo := by
  intro σ h
  obtain ⟨hw, hr, hL⟩ := h.1
  obtain ⟨n, o, P, hn, ho, hc, hir⟩ := HI_cr h.2.1
  unfold F_X6_undo
  by_cases h0 : n = 0
  · have e73 : σ 73 2 = iN 0 := by rw [hc.1, h0]
    have e3 : upM σ 168 6 (iN 0) 168 3 = iN 0 := by rw [upM_ni (by omega), hir.1, h0]
    refine st_er (e := 3) (c := 1) h ?_ ?_ rfl
    · unfold F_X5_undo
      simp (disch := omega) only [↓ite_ap, if_true, if_false, if_pos, if_neg, retM_ap, retZ_ap0, retZ_ap1, gM_ap, sM_ap, jM_ap, bI_ap, bL_ap, bD_ap, rdM_ap, wrM_ap, thrM_ap, nl_0, nl_1, nl_2, nl_3, nl_4, nl_5, nl_6, nl_7, nl_8, nl_9, nl_10, nl_11, nl_12, nl_13, nl_25, nl_33, nl_35, nl_45, nl_48, nl_49, nl_50, nl_52, nl_53, nl_57, nl_59, nl_60, nl_61, nl_77, nl_94, nl_97, nl_100, nl_101, nl_119, nl_125, nl_126, nl_137, nl_262, nl_387, nl_500, nl_512, nl_637, nl_999, nl_1022, nl_1137, nl_5685, nm_1b, iN_mI, mI_iN, iN_add, iN_mul, iN_sub, iN_div, iN_rem, iN_lt, iN_le, iN_eq, iN_nat, inB_iN, e73]
    · simp (disch := omega) only [↓ite_ap, if_true, if_false, if_pos, if_neg, retM_ap, retZ_ap0, retZ_ap1, gM_ap, sM_ap, jM_ap, bI_ap, bL_ap, bD_ap, rdM_ap, wrM_ap, thrM_ap, nl_0, nl_1, nl_2, nl_3, nl_4, nl_5, nl_6, nl_7, nl_8, nl_9, nl_10, nl_11, nl_12, nl_13, nl_25, nl_33, nl_35, nl_45, nl_48, nl_49, nl_50, nl_52, nl_53, nl_57, nl_59, nl_60, nl_61, nl_77, nl_94, nl_97, nl_100, nl_101, nl_119, nl_125, nl_126, nl_137, nl_262, nl_387, nl_500, nl_512, nl_637, nl_999, nl_1022, nl_1137, nl_5685, nm_1b, iN_mI, mI_iN, iN_add, iN_mul, iN_sub, iN_div, iN_rem, iN_lt, iN_le, iN_eq, iN_nat, inB_iN, e3, b_fails]
  · obtain ⟨n, rfl⟩ : ∃ k, n = k + 1 := ⟨n - 1, by omega⟩
    have e73 : σ 73 2 = iN (n + 1) := hc.1
    obtain ⟨σ1, a1, a2, a3, a4⟩ := f_takeBack (by omega) ho hc
    have hwP := (hc.2.2 n (by omega)).1
    obtain ⟨σ3, b1, b2, b3, b4⟩ := f_measure (b := 1) hwP a3
    have f3 : ∀ k, 37 ≤ k → σ3 k = σ1 k := fun k hk => funext (fun j => b4 k j (by omega))
    have hc3 : HIc σ3 n o P := a2.fr (fun k h1 h2 => f3 k (by omega))
    obtain ⟨m0, e0⟩ : ∃ m, m = upM (upM (mO σ3 (iN n)) 168 12 (iN 0)) 168 3 (iN n) := ⟨_, rfl⟩
    have fm0 : ∀ k, k ≠ 168 → m0 k = mO σ3 (iN n) k := fun k hk => by rw [e0, upM_o hk, upM_o hk]
    have fs : ∀ k j, 74 ≤ k → ¬ (k = 168 ∧ j = 6) → ¬ (k = 185 ∧ j = 0) → mO σ3 (iN n) k j = σ k j := fun k j g1 g2 g3 => by
      rw [mO_q ⟨g2, g3⟩, f3 k (by omega), a4 k (by omega) (by omega)]
    have cp := r_copies (a0 := 171) (na0 := 6822) (p := 1137 * n) (a2 := 169) (na2 := 1137) (q := 0) (σ := m0) (by omega) (by omega) (by omega) (by omega) (by omega)
    obtain ⟨m1, e1⟩ : ∃ m, m = setS m0 169 0 (0 + 1137) (fun j => m0 171 (1137 * n + (j - 0))) := ⟨_, rfl⟩
    rw [← e1] at cp
    have e3 : mO σ3 (iN n) 168 3 = iN (n + 1) := by rw [fs _ _ (by omega) (by omega) (by omega)]; exact hir.1
    have e03 : m0 168 3 = iN n := by rw [e0, upM_at]
    have e13 : m1 168 3 = iN n := by rw [e1, setS_o (by omega)]; exact e03
    have ev : nowS m1 = P n := by
      rw [← hir.2 n (by omega)]
      funext j
      unfold nowS vw
      by_cases hj : j < 1137
      · rw [if_pos hj, if_pos hj, e1, setS_in (by omega) (by omega), fm0 171 (by omega), fs _ _ (by omega) (by omega) (by omega), show 1137 * n + (0 + j - 0) = 1137 * n + j by omega]
      · rw [if_neg hj, if_neg hj]
    have fa : ∀ k j, (k ≤ 36 ∨ (73 ≤ k ∧ k ≤ 167) ∨ (k = 168 ∧ j = 5) ∨ k = 171 ∨ k = 172) → m1 k j = σ3 k j := fun k j g => by
      rw [e1, setS_o (by omega)]
      by_cases hk : k = 168
      · rw [hk, e0, upM_q (by omega), upM_q (by omega), mO_q (by omega)]
      · rw [fm0 k hk, mO_q (by omega)]
    refine st_ok (r := iN n) (σ1 := σ3) (σ3 := m1) ?_ ?_ ⟨?_, ?_, ?_, ?_⟩ ?_ ?_
    · unfold F_X5_undo
      have e73' : σ3 73 2 = iN n := hc3.1
      simp (disch := omega) only [↓ite_ap, if_true, if_false, if_pos, if_neg, retM_ap, retZ_ap0, retZ_ap1, gM_ap, sM_ap, jM_ap, bI_ap, bL_ap, bD_ap, rdM_ap, wrM_ap, thrM_ap, nl_0, nl_1, nl_2, nl_3, nl_4, nl_5, nl_6, nl_7, nl_8, nl_9, nl_10, nl_11, nl_12, nl_13, nl_25, nl_33, nl_35, nl_45, nl_48, nl_49, nl_50, nl_52, nl_53, nl_57, nl_59, nl_60, nl_61, nl_77, nl_94, nl_97, nl_100, nl_101, nl_119, nl_125, nl_126, nl_137, nl_262, nl_387, nl_500, nl_512, nl_637, nl_999, nl_1022, nl_1137, nl_5685, nm_1b, iN_mI, mI_iN, iN_add, iN_mul, iN_sub, iN_div, iN_rem, iN_lt, iN_le, iN_eq, iN_nat, inB_iN, e73, ↓invM_l a1, ↓invM_l b1, e73']
    · have e3' : upM (mO σ3 (iN n)) 168 12 (iN 0) 168 3 = iN (n + 1) := by rw [upM_ni (by omega)]; exact e3
      show (gM _ _) (mO σ3 (iN n)) = _
      simp (disch := omega) only [↓ite_ap, if_true, if_false, if_pos, if_neg, retM_ap, retZ_ap0, retZ_ap1, gM_ap, sM_ap, jM_ap, bI_ap, bL_ap, bD_ap, rdM_ap, wrM_ap, thrM_ap, nl_0, nl_1, nl_2, nl_3, nl_4, nl_5, nl_6, nl_7, nl_8, nl_9, nl_10, nl_11, nl_12, nl_13, nl_25, nl_33, nl_35, nl_45, nl_48, nl_49, nl_50, nl_52, nl_53, nl_57, nl_59, nl_60, nl_61, nl_77, nl_94, nl_97, nl_100, nl_101, nl_119, nl_125, nl_126, nl_137, nl_262, nl_387, nl_500, nl_512, nl_637, nl_999, nl_1022, nl_1137, nl_5685, nm_1b, iN_mI, mI_iN, iN_add, iN_mul, iN_sub, iN_div, iN_rem, iN_lt, iN_le, iN_eq, iN_nat, inB_iN, e3, zM_0, e3', Nat.add_sub_cancel, ← e0, e03, ↓invM_l cp, e13]
    · rw [ev]
      exact CO.fr ⟨hwP, b2, b3⟩ (fun k hk => funext (fun j => fa k j (by omega)))
    · refine HI_of (by omega) ho (hc3.fr (fun k h1 h2 => funext (fun j => fa k j (by omega)))) ⟨e13, fun i hi => ?_⟩
      rw [← hir.2 i (by omega)]
      funext j
      unfold vw
      by_cases hj : j < 1137
      · rw [if_pos hj, if_pos hj, fa _ _ (by omega), f3 171 (by omega), a4 171 (by omega) (by omega)]
      · rw [if_neg hj, if_neg hj]
    · obtain ⟨L, g1, g2, g3, g4⟩ := h.2.2.1
      have fb : ∀ k j, (k = 165 ∨ k = 167 ∨ (k = 168 ∧ j = 5) ∨ k = 172) → m1 k j = σ k j := fun k j g => by
        rw [fa k j (by omega), f3 k (by omega), a4 k (by omega) (by omega)]
      refine ⟨L, g1, by rw [fb _ _ (by omega)]; exact g2, by rw [fb _ _ (by omega)]; exact g3, fun j hj => ?_⟩
      rw [fb 167 j (by omega), fb 172 j (by omega)]
      exact g4 j hj
    · exact .inl (by rw [e1, setS_o (by omega), e0, upM_ni (by omega), upM_at])
    · rw [e1, setS_o (by omega), e0, upM_ni (by omega), upM_ni (by omega)]
      exact mO_6
    · rw [e1, setS_o (by omega), fm0 _ (by omega)]
      exact mO_r
