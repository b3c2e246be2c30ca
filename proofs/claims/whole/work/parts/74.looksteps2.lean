/-! SIZE, PAGE, SHARE -/
theorem st_size (p0 p2 x : Int32) : StW II cs_size (F_X5_size p0 (if x = 0 then 0 else 1) p2) (F_X6_size p0 (if x = 0 then 0 else 1) p2) := by
  intro σ h
  obtain ⟨hw, hr, hL⟩ := h.1
  have t5 := hw.1.2.2
  obtain ⟨w, hw2, ew⟩ : ∃ w, w < 2 ∧ (if x = 0 then (0 : Int32) else 1) = iN w := by
    by_cases hx : x = 0
    · exact ⟨0, by omega, by rw [if_pos hx]; rfl⟩
    · exact ⟨1, by omega, by rw [if_neg hx]; rfl⟩
  rw [ew]
  have ft := f_hasTable (p := p0) hw hr
  have ft6 := r_isTable (p := p0) hw (vw_up (j := 6) (v := iN 0) (show 168 ≠ 169 by omega))
  unfold F_X6_size
  rcases dI_cases p0 (tbS (nowS σ)) with ⟨t, a1, a2, a3, a4⟩ | ⟨a3, a4⟩ | ⟨t, a1, a2, a3, a4⟩
  · rw [a4] at ft ft6
    have ft : F_X4_hasTable 2 p0 σ = some (.inl (iN 1), σ) := ft
    have ft6 : F_X6_isTable 169 1137 p0 (upM σ 168 6 (iN 0)) = some (.inl (iN 1), upM σ 168 6 (iN 0)) := ft6
    have frq : F_X5_requireTable p0 σ = some (.inl (), σ) := by
      unfold F_X5_requireTable
      simp (disch := omega) only [↓ite_ap, if_true, if_false, if_pos, if_neg, retM_ap, retZ_ap0, retZ_ap1, gM_ap, sM_ap, jM_ap, bI_ap, bL_ap, bD_ap, rdM_ap, wrM_ap, thrM_ap, nl_0, nl_1, nl_2, nl_3, nl_4, nl_5, nl_6, nl_7, nl_8, nl_9, nl_10, nl_11, nl_12, nl_13, nl_25, nl_33, nl_35, nl_45, nl_48, nl_49, nl_50, nl_52, nl_53, nl_57, nl_59, nl_60, nl_61, nl_77, nl_94, nl_97, nl_100, nl_101, nl_119, nl_125, nl_126, nl_137, nl_262, nl_387, nl_500, nl_512, nl_637, nl_999, nl_1022, nl_1137, nl_5685, nm_1b, iN_mI, mI_iN, iN_add, iN_mul, iN_sub, iN_div, iN_rem, iN_lt, iN_le, iN_eq, iN_nat, inB_iN, ↓invM_l ft]
    have l1 := rel_lines hw hr a3 hw2
    have l1' : σ 4 (2 * t + w) = iN (liS (nowS σ) w t) := l1.1
    have hvr : ∀ m : Mm, Vw 169 (nowS σ) m → (w = 0 → m 169 (7 + t) = iN (liS (nowS σ) w t)) ∧ (w = 1 → m 169 (2 + t) = iN (liS (nowS σ) w t)) := fun m hv => ⟨fun e => by subst e; exact hv.co hw a3, fun e => by subst e; exact hv.ro hw a3⟩
    have hww : w = 0 ∨ w = 1 := by omega
    rcases dI_cases p2 (liS (nowS σ) w t) with ⟨l, b1, b2, b3, b4⟩ | ⟨b3, b4⟩ | ⟨l, b1, b2, b3, b4⟩
    · have hs1 : σ 30 ((2 * t + w) * 5 + l) = iN (szL (nowS σ) t w l) := by
        have LT := hL t a3
        rcases hww with e | e
        · subst e
          exact LT.2.2.2.2.2.2.1.2.1 l (by omega)
        · subst e
          exact LT.2.2.2.2.2.2.2.2.1 l (by omega)
      obtain ⟨rr, hrr⟩ : ∃ rr, rr = iN (szL (nowS σ) t w l) := ⟨_, rfl⟩
      obtain ⟨m, c1, c2, c3, c4, c5, c6, _⟩ := lay_mO (r := rr) h
      have ft7 := r_isTable (p := p0) hw (vw_mO (r := rr))
      rw [a4] at ft7
      have ft7 : F_X6_isTable 169 1137 p0 (mO σ rr) = some (.inl (iN 1), mO σ rr) := ft7
      have hv7 := hvr _ (vw_mO (r := rr))
      have fi := r_in (p := p2) (lo := iN 0) (hi := iN (liS (nowS σ) w t) - iN 1) (σ := mO σ rr)
      rw [btw_dI (by omega), b4] at fi
      have fi : F_X6_in p2 (iN 0) (iN (liS (nowS σ) w t) - iN 1) (mO σ rr) = some (.inl (iN 1), mO σ rr) := fi
      rw [b2] at fi
      have h8 := (c3.2.2 t a3).2.2.2.2.2.2.2 l (by omega)
      refine st_ok (r := rr) (σ1 := σ) (σ3 := m) ?_ ?_ c2 c4 c5
      · unfold F_X5_size
        rw [invM_l frq, a2, b2, hrr]
        rcases hww with e | e
        · subst e
          simp (disch := omega) only [↓ite_ap, if_true, if_false, if_pos, if_neg, retM_ap, retZ_ap0, retZ_ap1, gM_ap, sM_ap, jM_ap, bI_ap, bL_ap, bD_ap, rdM_ap, wrM_ap, thrM_ap, nl_0, nl_1, nl_2, nl_3, nl_4, nl_5, nl_6, nl_7, nl_8, nl_9, nl_10, nl_11, nl_12, nl_13, nl_25, nl_33, nl_35, nl_45, nl_48, nl_49, nl_50, nl_52, nl_53, nl_57, nl_59, nl_60, nl_61, nl_77, nl_94, nl_97, nl_100, nl_101, nl_119, nl_125, nl_126, nl_137, nl_262, nl_387, nl_500, nl_512, nl_637, nl_999, nl_1022, nl_1137, nl_5685, nm_1b, iN_mI, mI_iN, iN_add, iN_mul, iN_sub, iN_div, iN_rem, iN_lt, iN_le, iN_eq, iN_nat, inB_iN, ↓b_at, ↓b_store, ↓b_place1, ↓b_place0, ↓b_tableOf, ↓b_sqEnd, ↓b_isCell, ↓b_linesOf, ↓b_spanOf, ↓b_isSum, ↓b_sizePlace, ↓b_isBetween, ↓b_sizeOf, ↓b_sizeTogether, Bool.false_eq_true, not_true_eq_false, not_false_eq_true, Nat.reduceAdd, Nat.add_zero] at l1' hs1 ⊢
          simp (disch := omega) only [↓ite_ap, if_true, if_false, if_pos, if_neg, retM_ap, retZ_ap0, retZ_ap1, gM_ap, sM_ap, jM_ap, bI_ap, bL_ap, bD_ap, rdM_ap, wrM_ap, thrM_ap, nl_0, nl_1, nl_2, nl_3, nl_4, nl_5, nl_6, nl_7, nl_8, nl_9, nl_10, nl_11, nl_12, nl_13, nl_25, nl_33, nl_35, nl_45, nl_48, nl_49, nl_50, nl_52, nl_53, nl_57, nl_59, nl_60, nl_61, nl_77, nl_94, nl_97, nl_100, nl_101, nl_119, nl_125, nl_126, nl_137, nl_262, nl_387, nl_500, nl_512, nl_637, nl_999, nl_1022, nl_1137, nl_5685, nm_1b, iN_mI, mI_iN, iN_add, iN_mul, iN_sub, iN_div, iN_rem, iN_lt, iN_le, iN_eq, iN_nat, inB_iN, ↓b_at, ↓b_store, ↓b_place1, ↓b_place0, ↓b_tableOf, ↓b_sqEnd, ↓b_isCell, ↓b_linesOf, ↓b_spanOf, ↓b_isSum, ↓b_sizePlace, ↓b_isBetween, ↓b_sizeOf, ↓b_sizeTogether, Bool.false_eq_true, not_true_eq_false, not_false_eq_true, Nat.reduceAdd, Nat.add_zero, l1', hs1]
        · subst e
          simp (disch := omega) only [↓ite_ap, if_true, if_false, if_pos, if_neg, retM_ap, retZ_ap0, retZ_ap1, gM_ap, sM_ap, jM_ap, bI_ap, bL_ap, bD_ap, rdM_ap, wrM_ap, thrM_ap, nl_0, nl_1, nl_2, nl_3, nl_4, nl_5, nl_6, nl_7, nl_8, nl_9, nl_10, nl_11, nl_12, nl_13, nl_25, nl_33, nl_35, nl_45, nl_48, nl_49, nl_50, nl_52, nl_53, nl_57, nl_59, nl_60, nl_61, nl_77, nl_94, nl_97, nl_100, nl_101, nl_119, nl_125, nl_126, nl_137, nl_262, nl_387, nl_500, nl_512, nl_637, nl_999, nl_1022, nl_1137, nl_5685, nm_1b, iN_mI, mI_iN, iN_add, iN_mul, iN_sub, iN_div, iN_rem, iN_lt, iN_le, iN_eq, iN_nat, inB_iN, ↓b_at, ↓b_store, ↓b_place1, ↓b_place0, ↓b_tableOf, ↓b_sqEnd, ↓b_isCell, ↓b_linesOf, ↓b_spanOf, ↓b_isSum, ↓b_sizePlace, ↓b_isBetween, ↓b_sizeOf, ↓b_sizeTogether, Bool.false_eq_true, not_true_eq_false, not_false_eq_true, Nat.reduceAdd, l1', hs1]
      · show (invM (F_X6_isTable 169 1137 p0) _) (mO σ rr) = _
        rw [a2] at ft7 ⊢
        rcases hww with e | e
        · subst e
          have h7 := hv7.1 rfl
          have h8 := h8.1
          rw [← hrr] at h8
          simp (disch := omega) only [↓ite_ap, if_true, if_false, if_pos, if_neg, retM_ap, retZ_ap0, retZ_ap1, gM_ap, sM_ap, jM_ap, bI_ap, bL_ap, bD_ap, rdM_ap, wrM_ap, thrM_ap, nl_0, nl_1, nl_2, nl_5, nl_7, iN_eq, iN_add, ↓invM_l ft7, h7, ↓invM_l fi, ↓invM_l c1, b2, iN_mul, h8]
        · subst e
          have h7 := hv7.2 rfl
          have h8 := h8.2
          rw [← hrr] at h8
          simp (disch := omega) only [↓ite_ap, if_true, if_false, if_pos, if_neg, retM_ap, retZ_ap0, retZ_ap1, gM_ap, sM_ap, jM_ap, bI_ap, bL_ap, bD_ap, rdM_ap, wrM_ap, thrM_ap, nl_0, nl_1, nl_2, nl_5, nl_7, iN_eq, iN_add, ↓invM_l ft7, h7, ↓invM_l fi, ↓invM_l c1, b2, iN_mul, h8]
    · have hv7 := hvr _ (vw_up (j := 6) (v := iN 0) (show 168 ≠ 169 by omega))
      have fi := r_in (p := p2) (lo := iN 0) (hi := iN (liS (nowS σ) w t) - iN 1) (σ := upM σ 168 6 (iN 0))
      rw [btw_dI (by omega), b4] at fi
      have fi : F_X6_in p2 (iN 0) (iN (liS (nowS σ) w t) - iN 1) (upM σ 168 6 (iN 0)) = some (.inl (iN 0), upM σ 168 6 (iN 0)) := fi
      refine st_er (e := 1) (c := 1) h ?_ ?_ rfl
      · unfold F_X5_size
        rw [invM_l frq]
        rcases hww with e | e
        · subst e
          simp (disch := omega) only [↓ite_ap, if_true, if_false, if_pos, if_neg, retM_ap, retZ_ap0, retZ_ap1, gM_ap, sM_ap, jM_ap, bI_ap, bL_ap, bD_ap, rdM_ap, wrM_ap, thrM_ap, nl_0, nl_1, iN_eq, b3]
        · subst e
          simp (disch := omega) only [↓ite_ap, if_true, if_false, if_pos, if_neg, retM_ap, retZ_ap0, retZ_ap1, gM_ap, sM_ap, jM_ap, bI_ap, bL_ap, bD_ap, rdM_ap, wrM_ap, thrM_ap, nl_0, nl_1, iN_eq, b3]
      · rw [a2] at ft6 ⊢
        rcases hww with e | e
        · subst e
          have h7 := hv7.1 rfl
          simp (disch := omega) only [↓ite_ap, if_true, if_false, if_pos, if_neg, retM_ap, retZ_ap0, retZ_ap1, gM_ap, sM_ap, jM_ap, bI_ap, bL_ap, bD_ap, rdM_ap, wrM_ap, thrM_ap, nl_0, nl_1, nl_2, nl_5, nl_7, iN_eq, iN_add, ↓invM_l ft6, h7, ↓invM_l fi, b_fails]
        · subst e
          have h7 := hv7.2 rfl
          simp (disch := omega) only [↓ite_ap, if_true, if_false, if_pos, if_neg, retM_ap, retZ_ap0, retZ_ap1, gM_ap, sM_ap, jM_ap, bI_ap, bL_ap, bD_ap, rdM_ap, wrM_ap, thrM_ap, nl_0, nl_1, nl_2, nl_5, nl_7, iN_eq, iN_add, ↓invM_l ft6, h7, ↓invM_l fi, b_fails]
    · have hv7 := hvr _ (vw_up (j := 6) (v := iN 0) (show 168 ≠ 169 by omega))
      have fi := r_in (p := p2) (lo := iN 0) (hi := iN (liS (nowS σ) w t) - iN 1) (σ := upM σ 168 6 (iN 0))
      rw [btw_dI (by omega), b4] at fi
      have fi : F_X6_in p2 (iN 0) (iN (liS (nowS σ) w t) - iN 1) (upM σ 168 6 (iN 0)) = some (.inl (iN 0), upM σ 168 6 (iN 0)) := fi
      refine st_er (e := 1) (c := 1) h ?_ ?_ rfl
      · unfold F_X5_size
        rw [invM_l frq, a2, b2]
        rcases hww with e | e
        · subst e
          simp (disch := omega) only [↓ite_ap, if_true, if_false, if_pos, if_neg, retM_ap, retZ_ap0, retZ_ap1, gM_ap, sM_ap, jM_ap, bI_ap, bL_ap, bD_ap, rdM_ap, wrM_ap, thrM_ap, nl_0, nl_1, nl_2, nl_3, nl_4, nl_5, nl_6, nl_7, nl_8, nl_9, nl_10, nl_11, nl_12, nl_13, nl_25, nl_33, nl_35, nl_45, nl_48, nl_49, nl_50, nl_52, nl_53, nl_57, nl_59, nl_60, nl_61, nl_77, nl_94, nl_97, nl_100, nl_101, nl_119, nl_125, nl_126, nl_137, nl_262, nl_387, nl_500, nl_512, nl_637, nl_999, nl_1022, nl_1137, nl_5685, nm_1b, iN_mI, mI_iN, iN_add, iN_mul, iN_sub, iN_div, iN_rem, iN_lt, iN_le, iN_eq, iN_nat, inB_iN, ↓b_at, ↓b_store, ↓b_place1, ↓b_place0, ↓b_tableOf, ↓b_sqEnd, ↓b_isCell, ↓b_linesOf, ↓b_spanOf, ↓b_isSum, ↓b_sizePlace, ↓b_isBetween, ↓b_sizeOf, ↓b_sizeTogether, Bool.false_eq_true, not_true_eq_false, not_false_eq_true, Nat.reduceAdd, Nat.add_zero] at l1' ⊢
          simp (disch := omega) only [↓ite_ap, if_true, if_false, if_pos, if_neg, retM_ap, retZ_ap0, retZ_ap1, gM_ap, sM_ap, jM_ap, bI_ap, bL_ap, bD_ap, rdM_ap, wrM_ap, thrM_ap, nl_0, nl_1, nl_2, nl_3, nl_4, nl_5, nl_6, nl_7, nl_8, nl_9, nl_10, nl_11, nl_12, nl_13, nl_25, nl_33, nl_35, nl_45, nl_48, nl_49, nl_50, nl_52, nl_53, nl_57, nl_59, nl_60, nl_61, nl_77, nl_94, nl_97, nl_100, nl_101, nl_119, nl_125, nl_126, nl_137, nl_262, nl_387, nl_500, nl_512, nl_637, nl_999, nl_1022, nl_1137, nl_5685, nm_1b, iN_mI, mI_iN, iN_add, iN_mul, iN_sub, iN_div, iN_rem, iN_lt, iN_le, iN_eq, iN_nat, inB_iN, ↓b_at, ↓b_store, ↓b_place1, ↓b_place0, ↓b_tableOf, ↓b_sqEnd, ↓b_isCell, ↓b_linesOf, ↓b_spanOf, ↓b_isSum, ↓b_sizePlace, ↓b_isBetween, ↓b_sizeOf, ↓b_sizeTogether, Bool.false_eq_true, not_true_eq_false, not_false_eq_true, Nat.reduceAdd, Nat.add_zero, l1']
        · subst e
          simp (disch := omega) only [↓ite_ap, if_true, if_false, if_pos, if_neg, retM_ap, retZ_ap0, retZ_ap1, gM_ap, sM_ap, jM_ap, bI_ap, bL_ap, bD_ap, rdM_ap, wrM_ap, thrM_ap, nl_0, nl_1, nl_2, nl_3, nl_4, nl_5, nl_6, nl_7, nl_8, nl_9, nl_10, nl_11, nl_12, nl_13, nl_25, nl_33, nl_35, nl_45, nl_48, nl_49, nl_50, nl_52, nl_53, nl_57, nl_59, nl_60, nl_61, nl_77, nl_94, nl_97, nl_100, nl_101, nl_119, nl_125, nl_126, nl_137, nl_262, nl_387, nl_500, nl_512, nl_637, nl_999, nl_1022, nl_1137, nl_5685, nm_1b, iN_mI, mI_iN, iN_add, iN_mul, iN_sub, iN_div, iN_rem, iN_lt, iN_le, iN_eq, iN_nat, inB_iN, ↓b_at, ↓b_store, ↓b_place1, ↓b_place0, ↓b_tableOf, ↓b_sqEnd, ↓b_isCell, ↓b_linesOf, ↓b_spanOf, ↓b_isSum, ↓b_sizePlace, ↓b_isBetween, ↓b_sizeOf, ↓b_sizeTogether, Bool.false_eq_true, not_true_eq_false, not_false_eq_true, Nat.reduceAdd, l1']
      · rw [a2] at ft6 ⊢
        rcases hww with e | e
        · subst e
          have h7 := hv7.1 rfl
          simp (disch := omega) only [↓ite_ap, if_true, if_false, if_pos, if_neg, retM_ap, retZ_ap0, retZ_ap1, gM_ap, sM_ap, jM_ap, bI_ap, bL_ap, bD_ap, rdM_ap, wrM_ap, thrM_ap, nl_0, nl_1, nl_2, nl_5, nl_7, iN_eq, iN_add, ↓invM_l ft6, h7, ↓invM_l fi, b_fails]
        · subst e
          have h7 := hv7.2 rfl
          simp (disch := omega) only [↓ite_ap, if_true, if_false, if_pos, if_neg, retM_ap, retZ_ap0, retZ_ap1, gM_ap, sM_ap, jM_ap, bI_ap, bL_ap, bD_ap, rdM_ap, wrM_ap, thrM_ap, nl_0, nl_1, nl_2, nl_5, nl_7, iN_eq, iN_add, ↓invM_l ft6, h7, ↓invM_l fi, b_fails]
  · rw [a4] at ft ft6
    have ft : F_X4_hasTable 2 p0 σ = some (.inl (iN 0), σ) := ft
    have ft6 : F_X6_isTable 169 1137 p0 (upM σ 168 6 (iN 0)) = some (.inl (iN 0), upM σ 168 6 (iN 0)) := ft6
    have frq : F_X5_requireTable p0 σ = some (.inr 1, σ) := by
      unfold F_X5_requireTable
      simp (disch := omega) only [↓ite_ap, if_true, if_false, if_pos, if_neg, retM_ap, retZ_ap0, retZ_ap1, gM_ap, sM_ap, jM_ap, bI_ap, bL_ap, bD_ap, rdM_ap, wrM_ap, thrM_ap, nl_0, nl_1, nl_2, nl_3, nl_4, nl_5, nl_6, nl_7, nl_8, nl_9, nl_10, nl_11, nl_12, nl_13, nl_25, nl_33, nl_35, nl_45, nl_48, nl_49, nl_50, nl_52, nl_53, nl_57, nl_59, nl_60, nl_61, nl_77, nl_94, nl_97, nl_100, nl_101, nl_119, nl_125, nl_126, nl_137, nl_262, nl_387, nl_500, nl_512, nl_637, nl_999, nl_1022, nl_1137, nl_5685, nm_1b, iN_mI, mI_iN, iN_add, iN_mul, iN_sub, iN_div, iN_rem, iN_lt, iN_le, iN_eq, iN_nat, inB_iN, ↓invM_l ft]
    refine st_er (c := 1) h (by unfold F_X5_size; exact invM_r frq) ?_ rfl
    simp (disch := omega) only [↓ite_ap, if_true, if_false, if_pos, if_neg, retM_ap, retZ_ap0, retZ_ap1, gM_ap, sM_ap, jM_ap, bI_ap, bL_ap, bD_ap, rdM_ap, wrM_ap, thrM_ap, nl_0, nl_1, nl_2, nl_3, nl_4, nl_5, nl_6, nl_7, nl_8, nl_9, nl_10, nl_11, nl_12, nl_13, nl_25, nl_33, nl_35, nl_45, nl_48, nl_49, nl_50, nl_52, nl_53, nl_57, nl_59, nl_60, nl_61, nl_77, nl_94, nl_97, nl_100, nl_101, nl_119, nl_125, nl_126, nl_137, nl_262, nl_387, nl_500, nl_512, nl_637, nl_999, nl_1022, nl_1137, nl_5685, nm_1b, iN_mI, mI_iN, iN_add, iN_mul, iN_sub, iN_div, iN_rem, iN_lt, iN_le, iN_eq, iN_nat, inB_iN, ↓invM_l ft6, b_fails]
  · rw [a4] at ft ft6
    have ft : F_X4_hasTable 2 p0 σ = some (.inl (iN 0), σ) := ft
    have ft6 : F_X6_isTable 169 1137 p0 (upM σ 168 6 (iN 0)) = some (.inl (iN 0), upM σ 168 6 (iN 0)) := ft6
    have frq : F_X5_requireTable p0 σ = some (.inr 1, σ) := by
      unfold F_X5_requireTable
      simp (disch := omega) only [↓ite_ap, if_true, if_false, if_pos, if_neg, retM_ap, retZ_ap0, retZ_ap1, gM_ap, sM_ap, jM_ap, bI_ap, bL_ap, bD_ap, rdM_ap, wrM_ap, thrM_ap, nl_0, nl_1, nl_2, nl_3, nl_4, nl_5, nl_6, nl_7, nl_8, nl_9, nl_10, nl_11, nl_12, nl_13, nl_25, nl_33, nl_35, nl_45, nl_48, nl_49, nl_50, nl_52, nl_53, nl_57, nl_59, nl_60, nl_61, nl_77, nl_94, nl_97, nl_100, nl_101, nl_119, nl_125, nl_126, nl_137, nl_262, nl_387, nl_500, nl_512, nl_637, nl_999, nl_1022, nl_1137, nl_5685, nm_1b, iN_mI, mI_iN, iN_add, iN_mul, iN_sub, iN_div, iN_rem, iN_lt, iN_le, iN_eq, iN_nat, inB_iN, ↓invM_l ft]
    refine st_er (c := 1) h (by unfold F_X5_size; exact invM_r frq) ?_ rfl
    simp (disch := omega) only [↓ite_ap, if_true, if_false, if_pos, if_neg, retM_ap, retZ_ap0, retZ_ap1, gM_ap, sM_ap, jM_ap, bI_ap, bL_ap, bD_ap, rdM_ap, wrM_ap, thrM_ap, nl_0, nl_1, nl_2, nl_3, nl_4, nl_5, nl_6, nl_7, nl_8, nl_9, nl_10, nl_11, nl_12, nl_13, nl_25, nl_33, nl_35, nl_45, nl_48, nl_49, nl_50, nl_52, nl_53, nl_57, nl_59, nl_60, nl_61, nl_77, nl_94, nl_97, nl_100, nl_101, nl_119, nl_125, nl_126, nl_137, nl_262, nl_387, nl_500, nl_512, nl_637, nl_999, nl_1022, nl_1137, nl_5685, nm_1b, iN_mI, mI_iN, iN_add, iN_mul, iN_sub, iN_div, iN_rem, iN_lt, iN_le, iN_eq, iN_nat, inB_iN, ↓invM_l ft6, b_fails]
theorem f_page {r : Nat} {s : Sv} {σ : Mm} (h : CO s σ) (hr5 : r < roS s 0) : F_X5_page (iN r) σ = some (.inl (iN (pgS s (szL s 0 1) (nv (s 1)) (r + 1)).1), σ) := by
  obtain ⟨hw, hr, hL⟩ := h
  have t1 := hw.1.2.1
  have a1 := hw.2.2.1 0 (by omega)
  obtain ⟨hh, eh, hh1, hh2⟩ := hw.2.1
  have e1 : σ 2 0 = iN hh := hr.2.1.trans eh
  have hz := CO.z ⟨hw, hr, hL⟩
  have f1 := f_pageOf (b := 1) (h := hh) hw hr hr5 (by omega) hz.1 hz.2
  have l1 := rel_lines hr (hw := hw) (t := 0) (w := 1) (by omega) (by omega)
  have l1' : σ 4 1 = iN (roS s 0) := l1.1
  rw [eh, nv_iN (by omega)]
  unfold F_X5_page
  simp (disch := omega) only [↓ite_ap, if_true, if_false, if_pos, if_neg, retM_ap, retZ_ap0, retZ_ap1, gM_ap, sM_ap, jM_ap, bI_ap, bL_ap, bD_ap, rdM_ap, wrM_ap, thrM_ap, nl_0, nl_1, nl_2, nl_3, nl_4, nl_5, nl_6, nl_7, nl_8, nl_9, nl_10, nl_11, nl_12, nl_13, nl_25, nl_33, nl_35, nl_45, nl_48, nl_49, nl_50, nl_52, nl_53, nl_57, nl_59, nl_60, nl_61, nl_77, nl_94, nl_97, nl_100, nl_101, nl_119, nl_125, nl_126, nl_137, nl_262, nl_387, nl_500, nl_512, nl_637, nl_999, nl_1022, nl_1137, nl_5685, nm_1b, iN_mI, mI_iN, iN_add, iN_mul, iN_sub, iN_div, iN_rem, iN_lt, iN_le, iN_eq, iN_nat, inB_iN, ↓b_at, ↓b_store, ↓b_place1, ↓b_place0, ↓b_tableOf, ↓b_sqEnd, ↓b_isCell, ↓b_linesOf, ↓b_spanOf, ↓b_isSum, ↓b_sizePlace, ↓b_isBetween, ↓b_sizeOf, ↓b_sizeTogether, Bool.false_eq_true, not_true_eq_false, not_false_eq_true, Nat.reduceAdd, Nat.reduceMul, l1', e1, ↓invM_l f1]
theorem st_page (p0 : Int32) : StW II cs_page (F_X5_page p0) (F_X6_page p0) := by
  intro σ h
  obtain ⟨hw, hr, hL⟩ := h.1
  have t1 := hw.1.2.1
  have a1 := hw.2.2.1 0 (by omega)
  obtain ⟨hh, eh, hh1, hh2⟩ := hw.2.1
  have l1 := rel_lines hr (hw := hw) (t := 0) (w := 1) (by omega) (by omega)
  have l1' : σ 4 1 = iN (roS (nowS σ) 0) := l1.1
  unfold F_X6_page
  rcases dI_cases p0 (roS (nowS σ) 0) with ⟨r, b1, b2, b3, b4⟩ | ⟨b3, b4⟩ | ⟨r, b1, b2, b3, b4⟩
  · have fc := f_page h.1 b3
    rw [eh, nv_iN (by omega)] at fc
    obtain ⟨rr, hrr⟩ : ∃ rr, rr = iN (pgS (nowS σ) (szL (nowS σ) 0 1) hh (r + 1)).1 := ⟨_, rfl⟩
    rw [← hrr] at fc
    obtain ⟨m, c1, c2, c3, c4, c5, c6, _⟩ := lay_mO (r := rr) h
    have h2 : mO σ rr 169 2 = iN (roS (nowS σ) 0) := (vw_mO (r := rr)).ro hw (t := 0) (by omega)
    have h3 : m 169 1 = iN hh := (c3.2.1 1 (by omega)).trans eh
    have fi := r_in (p := p0) (lo := iN 0) (hi := iN (roS (nowS σ) 0) - iN 1) (σ := mO σ rr)
    rw [btw_dI (by omega), b4] at fi
    have fi : F_X6_in p0 (iN 0) (iN (roS (nowS σ) 0) - iN 1) (mO σ rr) = some (.inl (iN 1), mO σ rr) := fi
    rw [b2] at fi
    obtain ⟨m2, d1, d2, d3⟩ := r_laysPages (h := hh) hw c3.2.1 (by omega) (by omega) c3.z
    have d2 := d2 r b3
    rw [← hrr] at d2
    refine st_ok (r := rr) (σ1 := σ) (σ3 := m2) (by rw [b2]; exact fc) ?_ (c2.fr (fun k' j hp => d3 k' j (by unfold PI at hp; omega))) (by rw [d3 _ _ (by omega)]; exact c4) (by rw [d3 _ _ (by omega)]; exact c5)
    show (rdM 169 1137 2 _) (mO σ rr) = _
    simp (disch := omega) only [↓ite_ap, if_true, if_false, if_pos, if_neg, retM_ap, retZ_ap0, retZ_ap1, gM_ap, sM_ap, jM_ap, bI_ap, bL_ap, bD_ap, rdM_ap, wrM_ap, thrM_ap, nl_0, nl_1, nl_2, iN_eq, h2, ↓invM_l fi, ↓invM_l c1, h3, ↓invM_l d1, b2, d2]
  · have h2 : upM σ 168 6 (iN 0) 169 2 = iN (roS (nowS σ) 0) := (vw_up (σ := σ) (j := 6) (v := iN 0) (show 168 ≠ 169 by omega)).ro hw (t := 0) (by omega)
    have fi := r_in (p := p0) (lo := iN 0) (hi := iN (roS (nowS σ) 0) - iN 1) (σ := upM σ 168 6 (iN 0))
    rw [btw_dI (by omega), b4] at fi
    have fi : F_X6_in p0 (iN 0) (iN (roS (nowS σ) 0) - iN 1) (upM σ 168 6 (iN 0)) = some (.inl (iN 0), upM σ 168 6 (iN 0)) := fi
    refine st_er (e := 1) (c := 1) h ?_ ?_ rfl
    · unfold F_X5_page
      simp (disch := omega) only [↓ite_ap, if_true, if_false, if_pos, if_neg, retM_ap, retZ_ap0, retZ_ap1, gM_ap, sM_ap, jM_ap, bI_ap, bL_ap, bD_ap, rdM_ap, wrM_ap, thrM_ap, nl_0, b3]
    · simp (disch := omega) only [↓ite_ap, if_true, if_false, if_pos, if_neg, retM_ap, retZ_ap0, retZ_ap1, gM_ap, sM_ap, jM_ap, bI_ap, bL_ap, bD_ap, rdM_ap, wrM_ap, thrM_ap, nl_0, nl_1, nl_2, iN_eq, h2, ↓invM_l fi, b_fails]
  · have h2 : upM σ 168 6 (iN 0) 169 2 = iN (roS (nowS σ) 0) := (vw_up (σ := σ) (j := 6) (v := iN 0) (show 168 ≠ 169 by omega)).ro hw (t := 0) (by omega)
    have fi := r_in (p := p0) (lo := iN 0) (hi := iN (roS (nowS σ) 0) - iN 1) (σ := upM σ 168 6 (iN 0))
    rw [btw_dI (by omega), b4] at fi
    have fi : F_X6_in p0 (iN 0) (iN (roS (nowS σ) 0) - iN 1) (upM σ 168 6 (iN 0)) = some (.inl (iN 0), upM σ 168 6 (iN 0)) := fi
    refine st_er (e := 1) (c := 1) h ?_ ?_ rfl
    · rw [b2]
      unfold F_X5_page
      simp (disch := omega) only [↓ite_ap, if_true, if_false, if_pos, if_neg, retM_ap, retZ_ap0, retZ_ap1, gM_ap, sM_ap, jM_ap, bI_ap, bL_ap, bD_ap, rdM_ap, wrM_ap, thrM_ap, nl_0, nl_1, nl_2, nl_3, nl_4, nl_5, nl_6, nl_7, nl_8, nl_9, nl_10, nl_11, nl_12, nl_13, nl_25, nl_33, nl_35, nl_45, nl_48, nl_49, nl_50, nl_52, nl_53, nl_57, nl_59, nl_60, nl_61, nl_77, nl_94, nl_97, nl_100, nl_101, nl_119, nl_125, nl_126, nl_137, nl_262, nl_387, nl_500, nl_512, nl_637, nl_999, nl_1022, nl_1137, nl_5685, nm_1b, iN_mI, mI_iN, iN_add, iN_mul, iN_sub, iN_div, iN_rem, iN_lt, iN_le, iN_eq, iN_nat, inB_iN, ↓b_at, ↓b_store, ↓b_place1, ↓b_place0, ↓b_tableOf, ↓b_sqEnd, ↓b_isCell, ↓b_linesOf, ↓b_spanOf, ↓b_isSum, ↓b_sizePlace, ↓b_isBetween, ↓b_sizeOf, ↓b_sizeTogether, Bool.false_eq_true, not_true_eq_false, not_false_eq_true, Nat.reduceAdd, Nat.reduceMul, l1']
    · simp (disch := omega) only [↓ite_ap, if_true, if_false, if_pos, if_neg, retM_ap, retZ_ap0, retZ_ap1, gM_ap, sM_ap, jM_ap, bI_ap, bL_ap, bD_ap, rdM_ap, wrM_ap, thrM_ap, nl_0, nl_1, nl_2, iN_eq, h2, ↓invM_l fi, b_fails]
/-! the share -/
theorem smN_pos {p : Nat → Bool} {x : Nat} (hp : p x = true) : ∀ {hi : Nat}, x < hi → 1 ≤ smN (fun q => if p q = true then 1 else 0) 0 hi
  | 0, h => by omega
  | n + 1, h => by
    rw [smN_s (Nat.zero_le _)]
    by_cases e : x = n
    · subst e
      rw [if_pos hp]
      omega
    · have := smN_pos hp (hi := n) (by omega)
      omega
theorem smN_mono {g g' : Nat → Nat} (h : ∀ q, g q ≤ g' q) : ∀ hi, smN g 0 hi ≤ smN g' 0 hi
  | 0 => Nat.le_refl _
  | n + 1 => by
    rw [smN_s (Nat.zero_le _), smN_s (Nat.zero_le _)]
    exact Nat.add_le_add (smN_mono h n) (h n)
theorem cells_1 {s : Sv} (hw : WF s) : 1 ≤ cellsS s := by
  have t1 := hw.1.2.1
  have w0 := hw.2.2.1 0 (by omega)
  have ho : isOf s 0 := ⟨(show 0 < tbS s by omega), (show 0 < roS s 0 by omega), (show 0 < coS s 0 by omega)⟩
  have hc := (hw.2.2.2.1 0 ho).2.1
  exact smN_pos (p := clB s) (clB_iff.mpr hc) (isOf_lt hw hc.1)
theorem cells_125 {s : Sv} : cellsS s ≤ 125 := Nat.le_trans (smN_le1 (p := clB s) (lo := 0) 125) (Nat.sub_le _ _)
theorem kinds_le {s : Sv} : kindsS s 0 ≤ cellsS s := smN_mono (fun q => by
  cases e1 : clB s q
  · rw [Bool.false_and]
    exact Nat.le_refl _
  · by_cases e2 : kiS s q = 0
    · rw [decide_eq_true e2]
      exact Nat.le_refl _
    · rw [decide_eq_false e2]
      exact Nat.zero_le _) 125
theorem cells_b {s : Sv} (hw : WF s) : 1 ≤ cellsS s ∧ cellsS s ≤ 125 ∧ kindsS s 0 ≤ cellsS s := ⟨cells_1 hw, cells_125, kinds_le⟩
def shr (s : Sv) : UInt64 := fpV (cellsS s - kindsS s 0) (cellsS s)
theorem f_filledShare {s : Sv} {σ : Mm} (hw : WF s) (hr : Rel 2 s σ) : F_X5_filledShare σ = some (.inl (shr s), σ) := by
  have hb := cells_b hw
  have f1 := f_countCells hw hr
  have f2 := f_countKind hw hr (show 0 < 1000 by omega)
  have hn := (fp_nf hb.1 hb.2.1 (Nat.sub_le (cellsS s) (kindsS s 0))).1
  unfold F_X5_filledShare
  simp (disch := omega) only [↓ite_ap, if_true, if_false, if_pos, if_neg, retM_ap, retZ_ap0, retZ_ap1, gM_ap, sM_ap, jM_ap, bI_ap, bL_ap, bD_ap, rdM_ap, wrM_ap, thrM_ap, nl_0, nl_1, nl_2, nl_3, nl_4, nl_5, nl_6, nl_7, nl_8, nl_9, nl_10, nl_11, nl_12, nl_13, nl_25, nl_33, nl_35, nl_45, nl_48, nl_49, nl_50, nl_52, nl_53, nl_57, nl_59, nl_60, nl_61, nl_77, nl_94, nl_97, nl_100, nl_101, nl_119, nl_125, nl_126, nl_137, nl_262, nl_387, nl_500, nl_512, nl_637, nl_999, nl_1022, nl_1137, nl_5685, nm_1b, iN_mI, mI_iN, iN_add, iN_mul, iN_sub, iN_div, iN_rem, iN_lt, iN_le, iN_eq, iN_nat, inB_iN, ↓invM_l f1, ↓invM_l f2]
  exact nfM_t hn
theorem r_share {s : Sv} {σ : Mm} (hw : WF s) (hv : Vw 169 s σ) : F_X6_share σ = some (.inl (shr s), σ) := by
  have hb := cells_b hw
  have f1 := r_cellsAll hw hv
  have f2 := r_cells hw hv (show 0 < 1000 by omega)
  have hn := (fp_nf hb.1 hb.2.1 (Nat.sub_le (cellsS s) (kindsS s 0))).1
  unfold F_X6_share
  simp (disch := omega) only [↓ite_ap, if_true, if_false, if_pos, if_neg, retM_ap, retZ_ap0, retZ_ap1, gM_ap, sM_ap, jM_ap, bI_ap, bL_ap, bD_ap, rdM_ap, wrM_ap, thrM_ap, nl_0, nl_1, nl_2, nl_3, nl_4, nl_5, nl_6, nl_7, nl_8, nl_9, nl_10, nl_11, nl_12, nl_13, nl_25, nl_33, nl_35, nl_45, nl_48, nl_49, nl_50, nl_52, nl_53, nl_57, nl_59, nl_60, nl_61, nl_77, nl_94, nl_97, nl_100, nl_101, nl_119, nl_125, nl_126, nl_137, nl_262, nl_387, nl_500, nl_512, nl_637, nl_999, nl_1022, nl_1137, nl_5685, nm_1b, iN_mI, mI_iN, iN_add, iN_mul, iN_sub, iN_div, iN_rem, iN_lt, iN_le, iN_eq, iN_nat, inB_iN, nm_1, ↓invM_l f1, ↓invM_l f2]
  exact nfM_t hn
theorem st_share : StP (fun v : UInt64 => Op.cmpValue (FP.dcmp v v) CmpOp.l = 0) II F_X5_filledShare F_X6_filledShare := by
  intro σ h
  obtain ⟨hw, hr, hL⟩ := h.1
  have hb := cells_b hw
  refine ⟨shr (nowS σ), σ, f_filledShare hw hr, upM σ 168 6 (iN 0), ?_, h.up (.inl ⟨rfl, rfl⟩), (fp_nf hb.1 hb.2.1 (Nat.sub_le _ _)).2⟩
  have f1 := r_share hw (vw_up (σ := σ) (j := 6) (v := iN 0) (show 168 ≠ 169 by omega))
  unfold F_X6_filledShare
  exact invM_l f1
