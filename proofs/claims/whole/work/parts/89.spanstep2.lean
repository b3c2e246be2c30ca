/-! SPAN, THE STEP ITSELF -/
theorem sqI_iN {s : Sv} {t a b : Nat} (ht : t < tbS s) (t5 : tbS s ≤ 5) (ha : a < 1000) (hb : b < 1000) : sqI s (iN t) (iN a) (iN b) = if a < roS s t ∧ b < coS s t then iN (t * 25 + a * 5 + b) else mI := by
  unfold sqI sqO
  rw [dI_iN (by omega), if_pos ht]
  show (match (match dI (iN a) (roS s t) with | none => none | some r => match dI (iN b) (coS s t) with | none => none | some c => some (t * 25 + r * 5 + c)) with | some q => iN q | none => mI) = _
  rw [dI_iN (by omega)]
  by_cases h1 : a < roS s t
  · rw [if_pos h1]
    show (match (match dI (iN b) (coS s t) with | none => none | some c => some (t * 25 + a * 5 + c)) with | some q => iN q | none => mI) = _
    rw [dI_iN (by omega)]
    by_cases h2 : b < coS s t
    · rw [if_pos h2, if_pos ⟨h1, h2⟩]
    · rw [if_neg h2, if_neg (fun g => h2 g.2)]
  · rw [if_neg h1, if_neg (fun g => h1 g.1)]
theorem st_span (p0 p1 p2 p3 p4 : Int32) : StW II cs_span (F_X5_span p0 p1 p2 p3 p4) (F_X6_span p0 p1 p2 p3 p4) := by
  intro σ h
  obtain ⟨hw, hr, hL⟩ := h.1
  obtain ⟨n, o, P, hn, ho, hc, hir⟩ := HI_cr h.2.1
  have t5 := hw.1.2.2
  have t1 := hw.1.2.1
  have fq := f_requireSquare (p0 := p0) (p1 := p1) (p2 := p2) hw hr
  have v6 : Vw 169 (nowS σ) (upM σ 168 6 (iN 0)) := vw_up (j := 6) (v := iN 0) (show 168 ≠ 169 by omega)
  have fs6 := r_isSquare (p0 := p0) (p1 := p1) (p2 := p2) hw v6
  have fb3 := f_btw (p := p3) (lo := iN 1) (hi := iN 5) (σ := σ)
  have fi3 := r_in (p := p3) (lo := iN 1) (hi := iN 5) (σ := upM σ 168 6 (iN 0))
  have fb4 := f_btw (p := p4) (lo := iN 1) (hi := iN 5) (σ := σ)
  have fi4 := r_in (p := p4) (lo := iN 1) (hi := iN 5) (σ := upM σ 168 6 (iN 0))
  have fr3 := f_requireBetween (p := p3) (lo := iN 1) (hi := iN 5) (σ := σ)
  have fr4 := f_requireBetween (p := p4) (lo := iN 1) (hi := iN 5) (σ := σ)
  unfold F_X6_span
  cases e : sqO (nowS σ) p0 p1 p2 with
  | none =>
    rw [e] at fq fs6
    have fs6 : F_X6_isSquare p0 p1 p2 (upM σ 168 6 (iN 0)) = some (.inl (iN 0), upM σ 168 6 (iN 0)) := fs6
    refine st_er (c := 1) h (by unfold F_X5_span; exact invM_r fq) ?_ rfl
    cases eb3 : btw p3 (iN 1) (iN 5)
    · rw [eb3, if_neg (by decide)] at fi3
      simp (disch := omega) only [↓ite_ap, if_true, if_false, if_pos, if_neg, retM_ap, retZ_ap0, retZ_ap1, gM_np, sM_ap, jM_np, bI_ap, bL_ap, bD_ap, rdM_ap, wrM_ap, thrM_ap, nl_0, nl_1, nl_5, iN_eq, ↓invM_l fi3, ↓invM_l fs6, b_fails]
    · rw [eb3, if_pos rfl] at fi3
      cases eb4 : btw p4 (iN 1) (iN 5)
      · rw [eb4, if_neg (by decide)] at fi4
        simp (disch := omega) only [↓ite_ap, if_true, if_false, if_pos, if_neg, retM_ap, retZ_ap0, retZ_ap1, gM_np, sM_ap, jM_np, bI_ap, bL_ap, bD_ap, rdM_ap, wrM_ap, thrM_ap, nl_0, nl_1, nl_5, iN_eq, ↓invM_l fi3, ↓invM_l fi4, ↓invM_l fs6, b_fails]
      · rw [eb4, if_pos rfl] at fi4
        simp (disch := omega) only [↓ite_ap, if_true, if_false, if_pos, if_neg, retM_ap, retZ_ap0, retZ_ap1, gM_np, sM_ap, jM_np, bI_ap, bL_ap, bD_ap, rdM_ap, wrM_ap, thrM_ap, nl_0, nl_1, nl_5, iN_eq, ↓invM_l fi3, ↓invM_l fi4, ↓invM_l fs6, b_fails]
  | some q =>
    rw [e] at fq fs6
    have fq : F_X5_requireSquare p0 p1 p2 σ = some (.inl (iN q), σ) := fq
    have fs6 : F_X6_isSquare p0 p1 p2 (upM σ 168 6 (iN 0)) = some (.inl (iN 1), upM σ 168 6 (iN 0)) := fs6
    obtain ⟨t, r, c, ep0, ep1, ep2, ht, hr', hc', r5, c5, eq, hq, eqt, eqr, eqc⟩ := sqO_some hw e
    have hq5 := isOf_lt hw hq
    have fsq6 := r_squareO (σ := upM σ 168 6 (iN 0)) hw e
    cases eb3 : btw p3 (iN 1) (iN 5)
    · rw [eb3, if_neg (by decide)] at fb3 fi3 fr3
      refine st_er (e := 2) (c := 2) h ?_ ?_ rfl
      · have frl : F_X5_requireLines p3 p4 σ = some (.inr 2, σ) := by
          unfold F_X5_requireLines
          exact invM_r fr3
        unfold F_X5_span
        simp (disch := omega) only [↓ite_ap, if_true, if_false, if_pos, if_neg, retM_ap, retZ_ap0, retZ_ap1, gM_np, sM_ap, jM_np, bI_ap, bL_ap, bD_ap, rdM_ap, wrM_ap, thrM_ap, nl_0, nl_1, nl_5, iN_eq, ↓invM_l fq, ↓invM_l fb3]
        exact invM_r frl
      · simp (disch := omega) only [↓ite_ap, if_true, if_false, if_pos, if_neg, retM_ap, retZ_ap0, retZ_ap1, gM_np, sM_ap, jM_np, bI_ap, bL_ap, bD_ap, rdM_ap, wrM_ap, thrM_ap, nl_0, nl_1, nl_2, nl_5, iN_eq, ↓invM_l fi3, ↓invM_l fs6, b_fails]
    · rw [eb3, if_pos rfl] at fb3 fi3 fr3
      cases eb4 : btw p4 (iN 1) (iN 5)
      · rw [eb4, if_neg (by decide)] at fb4 fi4 fr4
        refine st_er (e := 2) (c := 2) h ?_ ?_ rfl
        · have frl : F_X5_requireLines p3 p4 σ = some (.inr 2, σ) := by
            unfold F_X5_requireLines
            exact (invM_l fr3).trans (invM_r fr4)
          unfold F_X5_span
          simp (disch := omega) only [↓ite_ap, if_true, if_false, if_pos, if_neg, retM_ap, retZ_ap0, retZ_ap1, gM_np, sM_ap, jM_np, bI_ap, bL_ap, bD_ap, rdM_ap, wrM_ap, thrM_ap, nl_0, nl_1, nl_5, iN_eq, ↓invM_l fq, ↓invM_l fb3, ↓invM_l fb4]
          exact invM_r frl
        · simp (disch := omega) only [↓ite_ap, if_true, if_false, if_pos, if_neg, retM_ap, retZ_ap0, retZ_ap1, gM_np, sM_ap, jM_np, bI_ap, bL_ap, bD_ap, rdM_ap, wrM_ap, thrM_ap, nl_0, nl_1, nl_2, nl_5, iN_eq, ↓invM_l fi3, ↓invM_l fi4, ↓invM_l fs6, b_fails]
      · rw [eb4, if_pos rfl] at fb4 fi4 fr4
        obtain ⟨hi, eh, hi1, hi5⟩ := btw_nat (by omega) (by omega) eb3
        obtain ⟨br, er, br1, br5⟩ := btw_nat (by omega) (by omega) eb4
        have frl : F_X5_requireLines p3 p4 σ = some (.inl (), σ) := by
          unfold F_X5_requireLines
          exact (invM_l fr3).trans (invM_l fr4)
        have w3 := hw.2.2.1 t ht
        have q14 : upM σ 168 6 (iN 0) 169 (2 + t) = iN (roS (nowS σ) t) := v6.ro hw ht
        have q16 : upM σ 168 6 (iN 0) 169 (7 + t) = iN (coS (nowS σ) t) := v6.co hw ht
        have fsa := f_squareAt (b := 2) (p0 := iN t) (p1 := iN (r + hi - 1)) (p2 := iN (c + br - 1)) hw hr
        rw [sqI_iN ht t5 (by omega) (by omega)] at fsa
        rw [eh] at fb3 fi3 fr3 frl
        rw [er] at fb4 fi4 fr4 frl
        rw [ep0, ep1, ep2, eh, er] at *
        by_cases fit : r + hi ≤ roS (nowS σ) t ∧ c + br ≤ coS (nowS σ) t
        · rw [if_pos (show r + hi - 1 < roS (nowS σ) t ∧ c + br - 1 < coS (nowS σ) t by omega)] at fsa
          have f1 : q % 25 / 5 + hi ≤ roS (nowS σ) (q / 25) := by rw [eqt, eqr]; exact fit.1
          have f2 : q % 5 + br ≤ coS (nowS σ) (q / 25) := by rw [eqt, eqc]; exact fit.2
          have hfit1 := fit.1
          have hfit2 := fit.2
          have pre : ∀ R : Dm Int32, (invM (F_X4_squareAt 2 (iN t) ((iN r + iN hi) - (1 : Int32)) ((iN c + iN br) - (1 : Int32))) fun x6 => (if x6 = (-1 : Int32) then thrM 1 else R)) σ = R σ := fun R => by
            simp (disch := omega) only [↓ite_ap, if_true, if_false, if_pos, if_neg, retM_ap, retZ_ap0, retZ_ap1, gM_np, sM_ap, jM_np, bI_ap, bL_ap, bD_ap, rdM_ap, wrM_ap, thrM_ap, nl_0, nl_1, nl_2, nl_3, nl_4, nl_5, nl_6, nl_7, nl_8, nl_9, nl_10, nl_11, nl_12, nl_13, nl_25, nl_33, nl_35, nl_45, nl_48, nl_49, nl_50, nl_52, nl_53, nl_57, nl_59, nl_60, nl_61, nl_77, nl_94, nl_97, nl_100, nl_101, nl_119, nl_125, nl_126, nl_137, nl_262, nl_387, nl_500, nl_512, nl_637, nl_999, nl_1022, nl_1137, nl_5685, nm_1b, iN_mI, mI_iN, iN_add, iN_mul, iN_sub, iN_div, iN_rem, iN_lt, iN_le, iN_eq, iN_nat, inB_iN, nm_1, ↓invM_l fsa]
          by_cases hcl : isCl (nowS σ) q
          · have fcc := f_canCover (b := 2) hw hr hcl f1 f2
            have frs := fun (m : Mm) (hv : Vw 169 (nowS σ) m) => r_canSpan hw hv hcl br1 f1 f2
            have ecr : cvR (nowS σ) q hi br = cvC (nowS σ) q hi br := by
              cases ec : cvC (nowS σ) q hi br
              · exact (cvR_iff br1 (by omega) (by omega)).mpr ((cvC_iff (by omega) (by omega)).mp ec)
              · cases ed : cvR (nowS σ) q hi br
                · rw [(cvC_iff (by omega) (by omega)).mpr ((cvR_iff br1 (by omega) (by omega)).mp ed)] at ec
                  cases ec
                · rfl
            cases ec : cvC (nowS σ) q hi br
            · rw [ec, if_neg (by decide)] at fcc
              have hfN : fitN (nowS σ) q hi br := ⟨hcl, hi1, hi5, br1, br5, f1, f2, (cvC_iff (by omega) (by omega)).mp ec⟩
              obtain ⟨rr, hrr⟩ : ∃ rr, rr = iN hi * iN br := ⟨_, rfl⟩
              obtain ⟨σ1, o', a1, a2, a3, a4⟩ := f_save hw hr hn ho hc
              obtain ⟨m', d1', d2', d3'⟩ := f_cover (b := 2) hw (hr.fr (fun k h1 h2 => a4 k (by omega)) : Rel 2 (nowS σ) σ1) hfN
              obtain ⟨σ2, σ3, c1, c2, c3, c4⟩ := cls_chg (s' := spS (nowS σ) q hi br) (σ1 := σ1) (OP := fun _ => some (.inl rr, m')) (x := rr) h rfl a4 (fun _ => ⟨m', rfl, d2', fun k hk => d3' k (by omega)⟩) (sp_WF hw hfN)
              have e2 : σ2 = m' := by
                injection c1 with c1
                injection c1 with _ c1
                exact c1.symm
              rw [e2] at c2
              have hrM : HIr (mO σ3 rr) n P := hir.fr (by rw [mO_q (by omega), c4 168 (by omega), a4 168 (by omega)]) (funext (fun j => by rw [mO_q (by omega), c4 171 (by omega), a4 171 (by omega)]))
              have en : nowS (mO σ3 rr) = nowS σ := by rw [now_mO, now_fr (by rw [c4 169 (by omega), a4 169 (by omega)])]
              obtain ⟨m1, b1, b2, b3, b4⟩ := r_saves hn hrM
              rw [en] at b2
              have v7 : Vw 169 (nowS σ) (mO σ3 rr) := by
                have := now_vw (σ := mO σ3 rr)
                rw [en] at this
                exact this
              have v1 : Vw 169 (nowS σ) m1 := v7.fr (funext (fun j => b4 169 j (by omega) (by omega)))
              obtain ⟨g1, hg1⟩ : ∃ g1, g1 = mdS (m1 169) (oB (m1 169) q) iN := ⟨_, rfl⟩
              obtain ⟨g2, hg2⟩ : ∃ g2, g2 = mdS g1 (xB q hi br) (fun _ => iN q) := ⟨_, rfl⟩
              obtain ⟨g3, hg3⟩ : ∃ g3, g3 = upS (upS g2 (262 + q) (iN hi)) (387 + q) (iN br) := ⟨_, rfl⟩
              have l1 := fun R => r_span129 (σ := m1) (g := m1 169) eqt (by omega) R
              rw [setR_self, ← hg1] at l1
              have l2 := fun R => r_span186 (σ := m1) (g := g1) hq5 hi1 br1 (by omega) (by omega) R
              rw [← hg2] at l2
              have g := chg_end (r := rr) (m2 := setR m1 169 g3) h hn a2 a3 a4 c4 c3 b2 b3 b4 (fun k hk => setR_o hk) (setR_vw (fun j hj => by rw [hg3, hg2, hg1]; exact md_sp hq5 v1 j hj)) (fun j hj => by rw [sp_hi hj]; exact now_z hj)
              have fs7 := r_isSquare (p0 := iN t) (p1 := iN r) (p2 := iN c) hw v7
              rw [e] at fs7
              have fs7 : F_X6_isSquare (iN t) (iN r) (iN c) (mO σ3 rr) = some (.inl (iN 1), mO σ3 rr) := fs7
              have fi7 := r_in (p := iN hi) (lo := iN 1) (hi := iN 5) (σ := mO σ3 rr)
              have fi8 := r_in (p := iN br) (lo := iN 1) (hi := iN 5) (σ := mO σ3 rr)
              rw [eb3, if_pos rfl] at fi7
              rw [eb4, if_pos rfl] at fi8
              have fsq := r_squareO (σ := mO σ3 rr) hw e
              have fcs := frs (mO σ3 rr) v7
              rw [ecr, ec, if_neg (by decide)] at fcs
              have q14' : mO σ3 rr 169 (2 + t) = iN (roS (nowS σ) t) := v7.ro hw ht
              have q16' : mO σ3 rr 169 (7 + t) = iN (coS (nowS σ) t) := v7.co hw ht
              refine st_ok (r := rr) (σ1 := σ3) (σ3 := setR m1 169 g3) ?_ ?_ g.1 g.2.1 g.2.2
              · unfold F_X5_span
                simp (disch := omega) only [↓ite_ap, if_true, if_false, if_pos, if_neg, retM_ap, retZ_ap0, retZ_ap1, gM_np, sM_ap, jM_np, bI_ap, bL_ap, bD_ap, rdM_ap, wrM_ap, thrM_ap, nl_0, nl_1, nl_5, iN_eq, ↓invM_l fq, ↓invM_l fb3, ↓invM_l fb4] at pre ⊢
                rw [pre]
                simp (disch := omega) only [↓ite_ap, if_true, if_false, if_pos, if_neg, retM_ap, retZ_ap0, retZ_ap1, gM_np, sM_ap, jM_np, bI_ap, bL_ap, bD_ap, rdM_ap, wrM_ap, thrM_ap, nl_0, nl_1, nl_2, nl_3, nl_4, nl_5, nl_6, nl_7, nl_8, nl_9, nl_10, nl_11, nl_12, nl_13, nl_25, nl_33, nl_35, nl_45, nl_48, nl_49, nl_50, nl_52, nl_53, nl_57, nl_59, nl_60, nl_61, nl_77, nl_94, nl_97, nl_100, nl_101, nl_119, nl_125, nl_126, nl_137, nl_262, nl_387, nl_500, nl_512, nl_637, nl_999, nl_1022, nl_1137, nl_5685, nm_1b, iN_mI, mI_iN, iN_add, iN_mul, iN_sub, iN_div, iN_rem, iN_lt, iN_le, iN_eq, iN_nat, inB_iN, ↓b_at, ↓b_store, ↓b_place1, ↓b_place0, ↓b_tableOf, ↓b_sqEnd, ↓b_isCell, ↓invM_l frl, rel_isCell hw hr hcl.1.1, hcl, ↓invM_l fcc, ↓invM_l a1, ↓invM_l d1', ↓invM_l c2, hrr]
              · show (invM (F_X6_in (iN hi) 1 5) _) (mO σ3 rr) = _
                simp (disch := omega) only [↓ite_ap, if_true, if_false, if_pos, if_neg, retM_ap, retZ_ap0, retZ_ap1, gM_np, sM_ap, jM_np, bI_ap, bL_ap, bD_ap, rdM_ap, wrM_ap, thrM_ap, nl_0, nl_1, nl_2, nl_5, nl_7, nl_262, nl_387, iN_eq, iN_add, iN_lt, iN_le, ↓invM_l fi7, ↓invM_l fi8, ↓invM_l fs7, q14', q16', ↓invM_l fsq, ↓invM_l fcs, ↓invM_l b1, l1, l2, upM_setR, ← hg3, hrr]
            · rw [ec, if_pos rfl] at fcc
              have fcs := frs (upM σ 168 6 (iN 0)) v6
              rw [ecr, ec, if_pos rfl] at fcs
              refine st_er (e := 3) (c := 3) h ?_ ?_ rfl
              · unfold F_X5_span
                simp (disch := omega) only [↓ite_ap, if_true, if_false, if_pos, if_neg, retM_ap, retZ_ap0, retZ_ap1, gM_np, sM_ap, jM_np, bI_ap, bL_ap, bD_ap, rdM_ap, wrM_ap, thrM_ap, nl_0, nl_1, nl_5, iN_eq, ↓invM_l fq, ↓invM_l fb3, ↓invM_l fb4] at pre ⊢
                rw [pre]
                simp (disch := omega) only [↓ite_ap, if_true, if_false, if_pos, if_neg, retM_ap, retZ_ap0, retZ_ap1, gM_np, sM_ap, jM_np, bI_ap, bL_ap, bD_ap, rdM_ap, wrM_ap, thrM_ap, nl_0, nl_1, nl_2, nl_3, nl_4, nl_5, nl_6, nl_7, nl_8, nl_9, nl_10, nl_11, nl_12, nl_13, nl_25, nl_33, nl_35, nl_45, nl_48, nl_49, nl_50, nl_52, nl_53, nl_57, nl_59, nl_60, nl_61, nl_77, nl_94, nl_97, nl_100, nl_101, nl_119, nl_125, nl_126, nl_137, nl_262, nl_387, nl_500, nl_512, nl_637, nl_999, nl_1022, nl_1137, nl_5685, nm_1b, iN_mI, mI_iN, iN_add, iN_mul, iN_sub, iN_div, iN_rem, iN_lt, iN_le, iN_eq, iN_nat, inB_iN, ↓b_at, ↓b_store, ↓b_place1, ↓b_place0, ↓b_tableOf, ↓b_sqEnd, ↓b_isCell, ↓invM_l frl, rel_isCell hw hr hcl.1.1, hcl, ↓invM_l fcc]
              · simp (disch := omega) only [↓ite_ap, if_true, if_false, if_pos, if_neg, retM_ap, retZ_ap0, retZ_ap1, gM_np, sM_ap, jM_np, bI_ap, bL_ap, bD_ap, rdM_ap, wrM_ap, thrM_ap, nl_0, nl_1, nl_2, nl_3, nl_5, nl_7, iN_eq, iN_add, iN_lt, iN_le, ↓invM_l fi3, ↓invM_l fi4, ↓invM_l fs6, q14, q16, ↓invM_l fsq6, ↓invM_l fcs, b_fails]
          · have fc0 := r_isCell0 hw v6 hq5 hcl
            have ncs : F_X6_canSpan (iN q) (iN hi) (iN br) (upM σ 168 6 (iN 0)) = some (.inl (iN 0), upM σ 168 6 (iN 0)) := by
              obtain ⟨n', hn'⟩ : ∃ n', FU = n' + 1 := ⟨FU - 1, by unfold FU; omega⟩
              unfold F_X6_canSpan
              rw [invM_l fc0, hn']
              simp only [L_X6_canSpan_13]
              rw [nl_0]
              by_cases g : iN hi * iN br ≤ iN 0
              · rw [if_pos g]
                rfl
              · rw [if_neg g, if_pos rfl]
                rfl
            refine st_er (e := 3) (c := 3) h ?_ ?_ rfl
            · unfold F_X5_span
              simp (disch := omega) only [↓ite_ap, if_true, if_false, if_pos, if_neg, retM_ap, retZ_ap0, retZ_ap1, gM_np, sM_ap, jM_np, bI_ap, bL_ap, bD_ap, rdM_ap, wrM_ap, thrM_ap, nl_0, nl_1, nl_5, iN_eq, ↓invM_l fq, ↓invM_l fb3, ↓invM_l fb4] at pre ⊢
              rw [pre]
              simp (disch := omega) only [↓ite_ap, if_true, if_false, if_pos, if_neg, retM_ap, retZ_ap0, retZ_ap1, gM_np, sM_ap, jM_np, bI_ap, bL_ap, bD_ap, rdM_ap, wrM_ap, thrM_ap, nl_0, nl_1, nl_2, nl_3, nl_4, nl_5, nl_6, nl_7, nl_8, nl_9, nl_10, nl_11, nl_12, nl_13, nl_25, nl_33, nl_35, nl_45, nl_48, nl_49, nl_50, nl_52, nl_53, nl_57, nl_59, nl_60, nl_61, nl_77, nl_94, nl_97, nl_100, nl_101, nl_119, nl_125, nl_126, nl_137, nl_262, nl_387, nl_500, nl_512, nl_637, nl_999, nl_1022, nl_1137, nl_5685, nm_1b, iN_mI, mI_iN, iN_add, iN_mul, iN_sub, iN_div, iN_rem, iN_lt, iN_le, iN_eq, iN_nat, inB_iN, ↓b_at, ↓b_store, ↓b_place1, ↓b_place0, ↓b_tableOf, ↓b_sqEnd, ↓b_isCell, ↓invM_l frl, rel_isCell hw hr hq.1, hcl]
            · simp (disch := omega) only [↓ite_ap, if_true, if_false, if_pos, if_neg, retM_ap, retZ_ap0, retZ_ap1, gM_np, sM_ap, jM_np, bI_ap, bL_ap, bD_ap, rdM_ap, wrM_ap, thrM_ap, nl_0, nl_1, nl_2, nl_3, nl_5, nl_7, iN_eq, iN_add, iN_lt, iN_le, ↓invM_l fi3, ↓invM_l fi4, ↓invM_l fs6, q14, q16, ↓invM_l fsq6, ↓invM_l ncs, b_fails]
        · rw [if_neg (show ¬ (r + hi - 1 < roS (nowS σ) t ∧ c + br - 1 < coS (nowS σ) t) by omega)] at fsa
          refine st_er (e := 1) (c := 1) h ?_ ?_ rfl
          · have pre : ∀ R : Dm Int32, (invM (F_X4_squareAt 2 (iN t) ((iN r + iN hi) - (1 : Int32)) ((iN c + iN br) - (1 : Int32))) fun x6 => (if x6 = (-1 : Int32) then thrM 1 else R)) σ = some (.inr 1, σ) := fun R => by
              simp (disch := omega) only [↓ite_ap, if_true, if_false, if_pos, if_neg, retM_ap, retZ_ap0, retZ_ap1, gM_np, sM_ap, jM_np, bI_ap, bL_ap, bD_ap, rdM_ap, wrM_ap, thrM_ap, nl_0, nl_1, nl_2, nl_3, nl_4, nl_5, nl_6, nl_7, nl_8, nl_9, nl_10, nl_11, nl_12, nl_13, nl_25, nl_33, nl_35, nl_45, nl_48, nl_49, nl_50, nl_52, nl_53, nl_57, nl_59, nl_60, nl_61, nl_77, nl_94, nl_97, nl_100, nl_101, nl_119, nl_125, nl_126, nl_137, nl_262, nl_387, nl_500, nl_512, nl_637, nl_999, nl_1022, nl_1137, nl_5685, nm_1b, iN_mI, mI_iN, iN_add, iN_mul, iN_sub, iN_div, iN_rem, iN_lt, iN_le, iN_eq, iN_nat, inB_iN, nm_1, ↓invM_l fsa]
            unfold F_X5_span
            simp (disch := omega) only [↓ite_ap, if_true, if_false, if_pos, if_neg, retM_ap, retZ_ap0, retZ_ap1, gM_np, sM_ap, jM_np, bI_ap, bL_ap, bD_ap, rdM_ap, wrM_ap, thrM_ap, nl_0, nl_1, nl_5, iN_eq, ↓invM_l fq, ↓invM_l fb3, ↓invM_l fb4] at pre ⊢
            rw [pre]
          · by_cases g1 : r + hi ≤ roS (nowS σ) t
            · have g2 : ¬ c + br ≤ coS (nowS σ) t := fun g => fit ⟨g1, g⟩
              simp (disch := omega) only [↓ite_ap, if_true, if_false, if_pos, if_neg, retM_ap, retZ_ap0, retZ_ap1, gM_np, sM_ap, jM_np, bI_ap, bL_ap, bD_ap, rdM_ap, wrM_ap, thrM_ap, nl_0, nl_1, nl_2, nl_5, nl_7, iN_eq, iN_add, iN_lt, iN_le, ↓invM_l fi3, ↓invM_l fi4, ↓invM_l fs6, q14, q16, b_fails]
            · simp (disch := omega) only [↓ite_ap, if_true, if_false, if_pos, if_neg, retM_ap, retZ_ap0, retZ_ap1, gM_np, sM_ap, jM_np, bI_ap, bL_ap, bD_ap, rdM_ap, wrM_ap, thrM_ap, nl_0, nl_1, nl_2, nl_5, nl_7, iN_eq, iN_add, iN_lt, iN_le, ↓invM_l fi3, ↓invM_l fi4, ↓invM_l fs6, q14, b_fails]
