/-! STEPS THAT CHANGE THE SHEET: PUT, RULE, SET -/
theorem now_eq {σ : Mm} {s : Sv} (hv : Vw 169 s σ) (hz : ∀ j, 1137 ≤ j → s j = iN 0) : nowS σ = s := by
  funext j
  unfold nowS vw
  by_cases h : j < 1137
  · rw [if_pos h, Nat.zero_add]
    exact hv j h
  · rw [if_neg h, hz j (by omega)]
theorem now_z {σ : Mm} {j : Nat} (h : 1137 ≤ j) : nowS σ j = iN 0 := by
  unfold nowS vw
  rw [if_neg (by omega)]
theorem sv_le {n : Nat} (h : n ≤ 6) : svN n ≤ 6 := by
  unfold svN
  by_cases g : n < 6
  · rw [if_pos g]; omega
  · rw [if_neg g]; exact Nat.le_refl _
/-- the invariant, put together behind a change: σ ahead, σ1 behind the class's save, σ3 behind its change, m1 behind the reference's save, m2 behind its change -/
theorem chg_end {σ σ1 σ3 m1 m2 : Mm} {n o' : Nat} {P : Nat → Sv} {s' : Sv} {r : Int32} (h : II σ) (hn : n ≤ 6) (ho : o' < 6) (hc : HIc σ1 (svN n) o' P) (f1 : ∀ k, (k < 73 ∨ 165 ≤ k) → σ1 k = σ k) (f3 : ∀ k, 37 ≤ k → σ3 k = σ1 k) (hco : CO s' σ3) (hr : HIr m1 (svN n) P) (h12 : m1 168 12 = iN 0) (fm1 : ∀ k j, k ≠ 171 → ¬ (k = 168 ∧ (j = 3 ∨ j = 12)) → m1 k j = mO σ3 r k j) (fm2 : ∀ k, k ≠ 169 → m2 k = m1 k) (hv : Vw 169 s' m2) (hz : ∀ j, 1137 ≤ j → s' j = iN 0) : II m2 ∧ m2 168 6 = iN 0 ∧ m2 185 0 = r := by
  have ev : nowS m2 = s' := now_eq hv hz
  have fa : ∀ k j, (k ≤ 36 ∨ (73 ≤ k ∧ k ≤ 167) ∨ (k = 168 ∧ j = 5) ∨ k = 172) → m2 k j = σ3 k j := fun k j g => by
    rw [fm2 k (by omega), fm1 k j (by omega) (by omega), mO_q (by omega)]
  refine ⟨⟨?_, ?_, ?_, ?_⟩, ?_, ?_⟩
  · rw [ev]
    exact hco.fr (fun k hk => funext (fun j => fa k j (by omega)))
  · refine HI_of (sv_le hn) ho (hc.fr (fun k h1 h2 => funext (fun j => ?_))) (hr.fr (by rw [fm2 168 (by omega)]) (by rw [fm2 171 (by omega)]))
    rw [fa k j (by omega), f3 k (by omega)]
  · obtain ⟨L, a1, a2, a3, a4⟩ := h.2.2.1
    have fb : ∀ k j, (k = 165 ∨ k = 167 ∨ (k = 168 ∧ j = 5) ∨ k = 172) → m2 k j = σ k j := fun k j g => by
      rw [fa k j (by omega), f3 k (by omega), f1 k (by omega)]
    refine ⟨L, a1, by rw [fb _ _ (by omega)]; exact a2, by rw [fb _ _ (by omega)]; exact a3, fun j hj => ?_⟩
    rw [fb 167 j (by omega), fb 172 j (by omega)]
    exact a4 j hj
  · exact .inl (by rw [fm2 168 (by omega)]; exact h12)
  · rw [fm2 168 (by omega), fm1 _ _ (by omega) (by omega)]
    exact mO_6
  · rw [fm2 185 (by omega), fm1 _ _ (by omega) (by omega)]
    exact mO_r
/-- the class's change, behind its save: the sheet changed by OP, measured -/
theorem cls_chg {s s' : Sv} {σ σ1 : Mm} {OP : Dm Int32} {x : Int32} (h : II σ) (hs : s = nowS σ) (f1 : ∀ k, (k < 73 ∨ 165 ≤ k) → σ1 k = σ k) (hop : Rel 2 s σ1 → ∃ σ2, OP σ1 = some (.inl x, σ2) ∧ Rel 2 s' σ2 ∧ ∀ k, ¬ (2 ≤ k ∧ k ≤ 16) → σ2 k = σ1 k) (hw' : WF s') : ∃ σ2 σ3, OP σ1 = some (.inl x, σ2) ∧ F_X1_measure 1 σ2 = some (.inl (), σ3) ∧ CO s' σ3 ∧ ∀ k, 37 ≤ k → σ3 k = σ1 k := by
  subst hs
  obtain ⟨σ2, a1, a2, a3⟩ := hop (h.1.2.1.fr (fun k h1 h2 => f1 k (by omega)))
  obtain ⟨σ3, b1, b2, b3, b4⟩ := f_measure (b := 1) hw' a2
  exact ⟨σ2, σ3, a1, b1, ⟨hw', b2, b3⟩, fun k hk => by
    rw [show σ3 k = σ2 k from funext (fun j => b4 k j (by omega)), a3 k (by omega)]⟩
/-! a rule of a cell -/
section Rule
variable {s : Sv} {q i r : Nat}
theorem ru_o {j : Nat} (h : j < 637) : upS s (637 + (4 * q + i)) (iN r) j = s j := up_o (by omega)
theorem ru_tb : tbS (upS s (637 + (4 * q + i)) (iN r)) = tbS s := by unfold tbS; rw [ru_o (by omega)]
theorem ru_of (hw : WF s) {z : Nat} (hz : z < 125) : isOf (upS s (637 + (4 * q + i)) (iN r)) z ↔ isOf s z := by
  unfold isOf roS coS
  rw [ru_tb, ru_o (by omega), ru_o (by omega)]
theorem ru_of2 (hw : WF s) {z : Nat} : isOf (upS s (637 + (4 * q + i)) (iN r)) z ↔ isOf s z := by
  have t5 := hw.1.2.2
  constructor
  · intro h
    have h1 := h.1
    rw [ru_tb] at h1
    exact (ru_of hw (by omega)).mp h
  · intro h
    exact (ru_of hw (isOf_lt hw h)).mpr h
theorem ru_ow {z : Nat} (hz : z < 125) : owS (upS s (637 + (4 * q + i)) (iN r)) z = owS s z := by unfold owS; rw [ru_o (by omega)]
theorem ru_hi {z : Nat} (hz : z < 125) : hiS (upS s (637 + (4 * q + i)) (iN r)) z = hiS s z := by unfold hiS; rw [ru_o (by omega)]
theorem ru_br {z : Nat} (hz : z < 125) : brS (upS s (637 + (4 * q + i)) (iN r)) z = brS s z := by unfold brS; rw [ru_o (by omega)]
theorem ru_ki {z : Nat} (hz : z < 125) : kiS (upS s (637 + (4 * q + i)) (iN r)) z = kiS s z := by unfold kiS; rw [ru_o (by omega)]
theorem ru_nu {z : Nat} (hz : z < 125) : nuS (upS s (637 + (4 * q + i)) (iN r)) z = nuS s z := by unfold nuS; rw [ru_o (by omega)]
theorem ru_cl (hw : WF s) {z : Nat} : isCl (upS s (637 + (4 * q + i)) (iN r)) z ↔ isCl s z := by
  constructor
  · intro h
    have h1 := (ru_of2 hw).mp h.1
    have h2 := h.2
    rw [ru_ow (isOf_lt hw h1)] at h2
    exact ⟨h1, h2⟩
  · intro h
    exact ⟨(ru_of2 hw).mpr h.1, by rw [ru_ow (isOf_lt hw h.1)]; exact h.2⟩
theorem ru_rc (hw : WF s) {o z : Nat} (ho : o < 125) : inRc (upS s (637 + (4 * q + i)) (iN r)) o z ↔ inRc s o z := by
  unfold inRc
  rw [ru_hi ho, ru_br ho]
theorem ru_WF (hw : WF s) (hr : r ≤ 3) : WF (upS s (637 + (4 * q + i)) (iN r)) := by
  have t5 := hw.1.2.2
  refine ⟨?_, ?_, fun t ht => ?_, fun z hz => ?_, fun o ho => ?_, fun z hz => ?_, fun z hz => ?_, fun t h1 ht => ?_, fun z z' hz hz' h3 h3' he => ?_⟩
  · rw [ru_tb, ru_o (by omega)]; exact hw.1
  · rw [ru_o (by omega)]; exact hw.2.1
  · rw [ru_tb] at ht
    unfold roS coS
    rw [ru_o (by omega), ru_o (by omega)]
    exact hw.2.2.1 t ht
  · have hz' := (ru_of2 hw).mp hz
    have l1 := isOf_lt hw hz'
    have w := hw.2.2.2.1 z hz'
    rw [ru_ow l1, ru_o (by omega), ru_cl hw, ru_rc hw (isOf_lt hw w.2.1.1)]
    exact w
  · have ho' := (ru_cl hw).mp ho
    have l1 := isOf_lt hw ho'.1
    have w := hw.2.2.2.2.1 o ho'
    have t6 := ho'.1.1
    rw [ru_hi l1, ru_br l1, ru_o (by omega), ru_o (by omega)]
    refine ⟨w.1, w.2.1, w.2.2.1, w.2.2.2.1, ?_, ?_, fun z hz => ?_⟩
    · unfold roS
      rw [ru_o (by omega)]
      exact w.2.2.2.2.1
    · unfold coS
      rw [ru_o (by omega)]
      exact w.2.2.2.2.2.1
    · have g := (ru_rc hw l1).mp hz
      have : z < 125 := by have := g.1; omega
      rw [ru_ow this]
      exact w.2.2.2.2.2.2 z g
  · have hz' := (ru_of2 hw).mp hz
    have l1 := isOf_lt hw hz'
    have w := hw.2.2.2.2.2.1 z hz'
    rw [ru_ki l1, ru_ow l1, ru_o (by omega)]
    refine ⟨w.1, w.2.1, fun i' hi' => ?_, w.2.2.2⟩
    by_cases e : 4 * z + i' = 4 * q + i
    · unfold ruS
      rw [e, up_at, nv_iN (by omega)]
      exact ⟨rfl, hr⟩
    · unfold ruS
      rw [up_o (by omega)]
      exact w.2.2.1 i' hi'
  · have hz' := (ru_cl hw).mp hz
    have l1 := isOf_lt hw hz'.1
    rw [ru_ki l1, ru_nu l1, ru_tb]
    exact hw.2.2.2.2.2.2.1 z hz'
  · rw [ru_tb] at ht
    obtain ⟨z, a1, a2, a3⟩ := hw.2.2.2.2.2.2.2.1 t h1 ht
    have l1 := isOf_lt hw a1.1
    exact ⟨z, (ru_cl hw).mpr a1, by rw [ru_ki l1]; exact a2, by rw [ru_nu l1]; exact a3⟩
  · have g := (ru_cl hw).mp hz
    have g' := (ru_cl hw).mp hz'
    have l1 := isOf_lt hw g.1
    have l2 := isOf_lt hw g'.1
    rw [ru_ki l1] at h3
    rw [ru_ki l2] at h3'
    rw [ru_nu l1, ru_nu l2] at he
    exact hw.2.2.2.2.2.2.2.2 z z' g g' h3 h3' he
theorem ru_Rel {b : Nat} {σ : Mm} (hw : WF s) (hr : Rel b s σ) (hq : isOf s q) (hi : i < 4) : Rel b (upS s (637 + (4 * q + i)) (iN r)) (upM σ (b + 14) (4 * q + i) (iN r)) := by
  have t5 := hw.1.2.2
  refine ⟨?_, ?_, fun t ht => ?_, fun z hz hn => ?_, fun z hz => ?_, fun z hz hn => ?_, ?_, fun z hz h3 => ?_⟩
  · rw [upM_o (by omega), ru_o (by omega)]; exact hr.1
  · rw [upM_o (by omega), ru_o (by omega)]; exact hr.2.1
  · rw [ru_tb] at ht
    rw [upM_o (by omega), ru_o (by omega), ru_o (by omega)]
    exact hr.2.2.1 t ht
  · rw [ru_tb] at hz
    rw [upM_o (by omega)]
    exact hr.2.2.2.1 z hz (fun g => hn ((ru_of2 hw).mpr g))
  · have g := (ru_of2 hw).mp hz
    have l1 := isOf_lt hw g
    have rz := hr.2.2.2.2.1 z g
    refine ⟨by rw [upM_o (by omega), ru_o (by omega)]; exact rz.1, by rw [upM_o (by omega), ru_o (by omega)]; exact rz.2.1, by rw [upM_o (by omega), ru_o (by omega)]; exact rz.2.2.1, by rw [upM_o (by omega), ru_o (by omega)]; exact rz.2.2.2.1, by rw [upM_o (by omega), ru_o (by omega)]; exact rz.2.2.2.2.1, fun i' hi' => ?_⟩
    by_cases e : 4 * z + i' = 4 * q + i
    · rw [e, upM_at, up_at]
    · rw [upM_ni e, up_o (by omega)]
      exact rz.2.2.2.2.2 i' hi'
  · rw [ru_tb] at hz
    have hn' : ¬ isOf s z := fun g => hn ((ru_of2 hw).mpr g)
    have rz := hr.2.2.2.2.2.1 z hz hn'
    have ne : z ≠ q := fun e => hn' (by rw [e]; exact hq)
    refine ⟨by rw [upM_o (by omega)]; exact rz.1, fun i' hi' => ?_⟩
    rw [upM_ni (by omega)]
    exact rz.2 i' hi'
  · rw [upM_o (by omega)]
    exact hr.2.2.2.2.2.2.1
  · have g := (ru_cl hw).mp hz
    have l1 := isOf_lt hw g.1
    rw [ru_ki l1] at h3
    rw [ru_nu l1, upM_o (by omega)]
    exact hr.2.2.2.2.2.2.2 z g h3
end Rule
theorem vw_upS {a i : Nat} {v : Int32} {s : Sv} {σ : Mm} (hv : Vw a s σ) : Vw a (upS s i v) (upM σ a i v) := fun j hj => by
  by_cases e : j = i
  · rw [e, upM_at, up_at]
  · rw [upM_ni e, up_o e]
    exact hv j hj
theorem st_set (p0 : Int32) : StW II cs_set (F_X5_set p0) (F_X6_set p0) := by
  intro σ h
  obtain ⟨hw, hr, hL⟩ := h.1
  obtain ⟨n, o, P, hn, ho, hc, hir⟩ := HI_cr h.2.1
  obtain ⟨hh, eh, hh1, hh2⟩ := hw.2.1
  unfold F_X6_set
  have fb := f_requireBetween (p := p0) (lo := iN 1) (hi := iN 60) (σ := σ)
  cases eb : btw p0 (iN 1) (iN 60)
  · rw [eb, if_neg (by decide)] at fb
    have fi := r_in (p := p0) (lo := iN 1) (hi := iN 60) (σ := upM σ 168 6 (iN 0))
    rw [eb, if_neg (by decide)] at fi
    refine st_er (e := 2) (c := 1) h ?_ ?_ rfl
    · unfold F_X5_set
      exact invM_r fb
    · simp (disch := omega) only [↓ite_ap, if_true, if_false, if_pos, if_neg, retM_ap, retZ_ap0, retZ_ap1, gM_ap, sM_ap, jM_ap, bI_ap, bL_ap, bD_ap, rdM_ap, wrM_ap, thrM_ap, nl_0, nl_1, nl_60, iN_eq, ↓invM_l fi, b_fails]
  · rw [eb, if_pos rfl] at fb
    obtain ⟨k, ek, hk1, hk⟩ := btw_nat (by omega) (by omega) eb
    obtain ⟨σ1, o', a1, a2, a3, a4⟩ := f_save hw hr hn ho hc
    have hr1 : Rel 2 (nowS σ) σ1 := hr.fr (fun k h1 h2 => a4 k (by omega))
    have e1 : σ1 2 0 = nowS σ 1 := hr1.2.1
    obtain ⟨σ3, h3⟩ : ∃ σ3, σ3 = upM σ1 2 0 (iN k) := ⟨_, rfl⟩
    have f3 : ∀ k, 37 ≤ k → σ3 k = σ1 k := fun k hk => by rw [h3, upM_o (by omega)]
    have hco : CO (upS (nowS σ) 1 (iN k)) σ3 := by
      refine ⟨h_WF hw hk1 hk, by rw [h3]; exact h_Rel hr1, fun t ht => ?_⟩
      rw [h_tb] at ht
      refine h_LM ((hL t ht).fr (fun k' j hp => ?_))
      unfold PT at hp
      rw [h3, upM_o (by omega), a4 k' (by omega)]
    have hrM : HIr (mO σ3 (nowS σ 1)) n P := hir.fr (by rw [mO_q (by omega), f3 168 (by omega), a4 168 (by omega)]) (funext (fun j => by rw [mO_q (by omega), f3 171 (by omega), a4 171 (by omega)]))
    have en : nowS (mO σ3 (nowS σ 1)) = nowS σ := by rw [now_mO, now_fr (by rw [f3 169 (by omega), a4 169 (by omega)])]
    obtain ⟨m1, b1, b2, b3, b4⟩ := r_saves hn hrM
    rw [en] at b2
    have v7 : Vw 169 (nowS σ) (mO σ3 (nowS σ 1)) := by
      have := now_vw (σ := mO σ3 (nowS σ 1))
      rw [en] at this
      exact this
    have v1 : Vw 169 (nowS σ) m1 := v7.fr (funext (fun j => b4 169 j (by omega) (by omega)))
    have g := chg_end (r := nowS σ 1) (m2 := upM m1 169 1 (iN k)) h hn a2 a3 a4 f3 hco b2 b3 b4 (fun k' hk' => upM_o hk') (vw_upS v1) (fun j hj => by rw [up_o (by omega)]; exact now_z hj)
    have fi := r_in (p := p0) (lo := iN 1) (hi := iN 60) (σ := mO σ3 (nowS σ 1))
    rw [eb, if_pos rfl, ek] at fi
    refine st_ok (r := nowS σ 1) (σ1 := σ3) (σ3 := upM m1 169 1 (iN k)) ?_ ?_ g.1 g.2.1 g.2.2
    · unfold F_X5_set
      refine (invM_l fb).trans ((invM_l a1).trans ?_)
      rw [gM_ap, e1, sM_ap, ek, ← h3]
      rfl
    · show (invM (F_X6_in p0 1 60) _) (mO σ3 (nowS σ 1)) = _
      have r1 : m1 169 1 = nowS σ 1 := v1 1 (by omega)
      simp (disch := omega) only [↓ite_ap, if_true, if_false, if_pos, if_neg, retM_ap, retZ_ap0, retZ_ap1, gM_ap, sM_ap, jM_ap, bI_ap, bL_ap, bD_ap, rdM_ap, wrM_ap, thrM_ap, nl_0, nl_1, nl_60, iN_eq, ↓invM_l fi, ↓invM_l b1, r1, ek]
theorem st_rule (p0 p1 p2 p3 p4 : Int32) : StW II cs_rule (F_X5_rule p0 p1 p2 p3 p4) (F_X6_rule p0 p1 p2 p3 p4) := by
  intro σ h
  obtain ⟨hw, hr, hL⟩ := h.1
  obtain ⟨n, o, P, hn, ho, hc, hir⟩ := HI_cr h.2.1
  have fq := f_requireSquare (p0 := p0) (p1 := p1) (p2 := p2) hw hr
  have v6 : Vw 169 (nowS σ) (upM σ 168 6 (iN 0)) := vw_up (j := 6) (v := iN 0) (show 168 ≠ 169 by omega)
  have fs6 := r_isSquare (p0 := p0) (p1 := p1) (p2 := p2) hw v6
  unfold F_X6_rule
  cases e : sqO (nowS σ) p0 p1 p2 with
  | none =>
    rw [e] at fq fs6
    have fs6 : F_X6_isSquare p0 p1 p2 (upM σ 168 6 (iN 0)) = some (.inl (iN 0), upM σ 168 6 (iN 0)) := fs6
    refine st_er (c := 1) h (by unfold F_X5_rule; exact invM_r fq) ?_ rfl
    simp (disch := omega) only [↓ite_ap, if_true, if_false, if_pos, if_neg, retM_ap, retZ_ap0, retZ_ap1, gM_ap, sM_ap, jM_ap, bI_ap, bL_ap, bD_ap, rdM_ap, wrM_ap, thrM_ap, nl_0, nl_1, nl_2, nl_3, nl_4, nl_5, nl_6, nl_7, nl_8, nl_9, nl_10, nl_11, nl_12, nl_13, nl_25, nl_33, nl_35, nl_45, nl_48, nl_49, nl_50, nl_52, nl_53, nl_57, nl_59, nl_60, nl_61, nl_77, nl_94, nl_97, nl_100, nl_101, nl_119, nl_125, nl_126, nl_137, nl_262, nl_387, nl_500, nl_512, nl_637, nl_999, nl_1022, nl_1137, nl_5685, nm_1b, iN_mI, mI_iN, iN_add, iN_mul, iN_sub, iN_div, iN_rem, iN_lt, iN_le, iN_eq, iN_nat, inB_iN, ↓invM_l fs6, b_fails]
  | some q =>
    rw [e] at fq fs6
    have fq : F_X5_requireSquare p0 p1 p2 σ = some (.inl (iN q), σ) := fq
    have fs6 : F_X6_isSquare p0 p1 p2 (upM σ 168 6 (iN 0)) = some (.inl (iN 1), upM σ 168 6 (iN 0)) := fs6
    obtain ⟨t, r, c, _, _, _, ht, _, _, _, _, eq, hq, eqt, _⟩ := sqO_some hw e
    have hq5 := isOf_lt hw hq
    have fb3 := f_requireBetween (p := p3) (lo := iN 0) (hi := iN 3) (σ := σ)
    have fi3 := r_in (p := p3) (lo := iN 0) (hi := iN 3) (σ := upM σ 168 6 (iN 0))
    have fb4 := f_requireBetween (p := p4) (lo := iN 0) (hi := iN 3) (σ := σ)
    have fi4 := r_in (p := p4) (lo := iN 0) (hi := iN 3) (σ := upM σ 168 6 (iN 0))
    cases eb3 : btw p3 (iN 0) (iN 3)
    · rw [eb3, if_neg (by decide)] at fb3 fi3
      refine st_er (e := 2) (c := 2) h ?_ ?_ rfl
      · unfold F_X5_rule
        refine (invM_l fq).trans ?_
        exact invM_r fb3
      · simp (disch := omega) only [↓ite_ap, if_true, if_false, if_pos, if_neg, retM_ap, retZ_ap0, retZ_ap1, gM_ap, sM_ap, jM_ap, bI_ap, bL_ap, bD_ap, rdM_ap, wrM_ap, thrM_ap, nl_0, nl_1, nl_2, nl_3, iN_eq, ↓invM_l fs6, ↓invM_l fi3, b_fails]
    · rw [eb3, if_pos rfl] at fb3 fi3
      cases eb4 : btw p4 (iN 0) (iN 3)
      · rw [eb4, if_neg (by decide)] at fb4 fi4
        refine st_er (e := 2) (c := 2) h ?_ ?_ rfl
        · unfold F_X5_rule
          refine (invM_l fq).trans ((invM_l fb3).trans ?_)
          exact invM_r fb4
        · simp (disch := omega) only [↓ite_ap, if_true, if_false, if_pos, if_neg, retM_ap, retZ_ap0, retZ_ap1, gM_ap, sM_ap, jM_ap, bI_ap, bL_ap, bD_ap, rdM_ap, wrM_ap, thrM_ap, nl_0, nl_1, nl_2, nl_3, iN_eq, ↓invM_l fs6, ↓invM_l fi3, ↓invM_l fi4, b_fails]
      · rw [eb4, if_pos rfl] at fb4 fi4
        obtain ⟨i, ei, hi⟩ := btw_k (by omega) eb3
        obtain ⟨u, eu, hu⟩ := btw_k (by omega) eb4
        by_cases hcl : isCl (nowS σ) q
        · obtain ⟨σ1, o', a1, a2, a3, a4⟩ := f_save hw hr hn ho hc
          obtain ⟨rr, hrr⟩ : ∃ rr, rr = nowS σ (637 + (4 * q + i)) := ⟨_, rfl⟩
          have hr1 : Rel 2 (nowS σ) σ1 := hr.fr (fun k h1 h2 => a4 k (by omega))
          have ev : σ1 16 (4 * q + i) = rr := by rw [hrr]; exact (hr1.2.2.2.2.1 q hq).2.2.2.2.2 i hi
          obtain ⟨σ2, σ3, c1, c2, c3, c4⟩ := cls_chg (s' := upS (nowS σ) (637 + (4 * q + i)) (iN u)) (σ1 := σ1) (OP := fun τ => some (.inl rr, upM τ 16 (4 * q + i) (iN u))) (x := rr) h rfl a4 (fun g => ⟨_, rfl, ru_Rel (b := 2) hw g hq hi, fun k hk => upM_o (by omega)⟩) (ru_WF hw (by omega))
          have c1 : upM σ1 16 (4 * q + i) (iN u) = σ2 := by
            have : (some (Sum.inl rr, upM σ1 16 (4 * q + i) (iN u)) : Option ((Int32 ⊕ Nat) × Mm)) = some (.inl rr, σ2) := c1
            injection this with this
            injection this
          have hrM : HIr (mO σ3 rr) n P := hir.fr (by rw [mO_q (by omega), c4 168 (by omega), a4 168 (by omega)]) (funext (fun j => by rw [mO_q (by omega), c4 171 (by omega), a4 171 (by omega)]))
          have en : nowS (mO σ3 rr) = nowS σ := by rw [now_mO, now_fr (by rw [c4 169 (by omega), a4 169 (by omega)])]
          obtain ⟨m1, b1, b2, b3, b4⟩ := r_saves hn hrM
          rw [en] at b2
          have v7 : Vw 169 (nowS σ) (mO σ3 rr) := by rw [← en]; exact now_vw
          have v1 : Vw 169 (nowS σ) m1 := v7.fr (funext (fun j => b4 169 j (by omega) (by omega)))
          have g := chg_end (r := rr) (m2 := upM m1 169 (637 + (4 * q + i)) (iN u)) h hn a2 a3 a4 c4 c3 b2 b3 b4 (fun k' hk' => upM_o hk') (vw_upS v1) (fun j hj => by rw [up_o (by omega)]; exact now_z hj)
          have fs7 := r_isSquare (p0 := p0) (p1 := p1) (p2 := p2) hw v7
          rw [e] at fs7
          have fs7 : F_X6_isSquare p0 p1 p2 (mO σ3 rr) = some (.inl (iN 1), mO σ3 rr) := fs7
          have fi7 := r_in (p := p3) (lo := iN 0) (hi := iN 3) (σ := mO σ3 rr)
          have fi8 := r_in (p := p4) (lo := iN 0) (hi := iN 3) (σ := mO σ3 rr)
          rw [eb3, if_pos rfl] at fi7
          rw [eb4, if_pos rfl] at fi8
          have fsq := r_squareO (σ := mO σ3 rr) hw e
          have fcl := r_isCell1 hw v7 hcl
          refine st_ok (r := rr) (σ1 := σ3) (σ3 := upM m1 169 (637 + (4 * q + i)) (iN u)) ?_ ?_ g.1 g.2.1 g.2.2
          · unfold F_X5_rule
            refine (invM_l fq).trans ((invM_l fb3).trans ((invM_l fb4).trans ?_))
            rw [ei, eu]
            simp (disch := omega) only [↓ite_ap, if_true, if_false, if_pos, if_neg, retM_ap, retZ_ap0, retZ_ap1, gM_ap, sM_ap, jM_ap, bI_ap, bL_ap, bD_ap, rdM_ap, wrM_ap, thrM_ap, nl_0, nl_1, nl_2, nl_3, nl_4, nl_5, nl_6, nl_7, nl_8, nl_9, nl_10, nl_11, nl_12, nl_13, nl_25, nl_33, nl_35, nl_45, nl_48, nl_49, nl_50, nl_52, nl_53, nl_57, nl_59, nl_60, nl_61, nl_77, nl_94, nl_97, nl_100, nl_101, nl_119, nl_125, nl_126, nl_137, nl_262, nl_387, nl_500, nl_512, nl_637, nl_999, nl_1022, nl_1137, nl_5685, nm_1b, iN_mI, mI_iN, iN_add, iN_mul, iN_sub, iN_div, iN_rem, iN_lt, iN_le, iN_eq, iN_nat, inB_iN, ↓b_at, ↓b_store, ↓b_place1, ↓b_place0, ↓b_tableOf, ↓b_sqEnd, ↓b_isCell, rel_isCell hw hr hcl.1.1, hcl, ↓invM_l a1, Nat.reduceAdd, Nat.mul_comm q 4, ev, c1, ↓invM_l c2]
          · show (invM (F_X6_isSquare p0 p1 p2) _) (mO σ3 rr) = _
            have r1 : m1 169 (637 + (4 * q + i)) = rr := by rw [hrr]; exact v1 _ (by omega)
            rw [ei] at fi7 ⊢
            rw [eu] at fi8 ⊢
            simp (disch := omega) only [↓ite_ap, if_true, if_false, if_pos, if_neg, retM_ap, retZ_ap0, retZ_ap1, gM_ap, sM_ap, jM_ap, bI_ap, bL_ap, bD_ap, rdM_ap, wrM_ap, thrM_ap, nl_0, nl_1, nl_3, nl_4, nl_637, iN_eq, iN_mul, iN_add, ↓invM_l fs7, ↓invM_l fi7, ↓invM_l fi8, ↓invM_l fsq, ↓invM_l fcl, ↓invM_l b1, Nat.add_assoc, r1]
        · have fc0 := r_isCell0 hw v6 hq5 hcl
          have fsq := r_squareO (σ := upM σ 168 6 (iN 0)) hw e
          refine st_er (e := 3) (c := 3) h ?_ ?_ rfl
          · unfold F_X5_rule
            refine (invM_l fq).trans ((invM_l fb3).trans ((invM_l fb4).trans ?_))
            simp (disch := omega) only [↓ite_ap, if_true, if_false, if_pos, if_neg, retM_ap, retZ_ap0, retZ_ap1, gM_ap, sM_ap, jM_ap, bI_ap, bL_ap, bD_ap, rdM_ap, wrM_ap, thrM_ap, nl_0, nl_1, nl_2, nl_3, nl_4, nl_5, nl_6, nl_7, nl_8, nl_9, nl_10, nl_11, nl_12, nl_13, nl_25, nl_33, nl_35, nl_45, nl_48, nl_49, nl_50, nl_52, nl_53, nl_57, nl_59, nl_60, nl_61, nl_77, nl_94, nl_97, nl_100, nl_101, nl_119, nl_125, nl_126, nl_137, nl_262, nl_387, nl_500, nl_512, nl_637, nl_999, nl_1022, nl_1137, nl_5685, nm_1b, iN_mI, mI_iN, iN_add, iN_mul, iN_sub, iN_div, iN_rem, iN_lt, iN_le, iN_eq, iN_nat, inB_iN, ↓b_at, ↓b_store, ↓b_place1, ↓b_place0, ↓b_tableOf, ↓b_sqEnd, ↓b_isCell, rel_isCell hw hr hq.1, hcl]
          · simp (disch := omega) only [↓ite_ap, if_true, if_false, if_pos, if_neg, retM_ap, retZ_ap0, retZ_ap1, gM_ap, sM_ap, jM_ap, bI_ap, bL_ap, bD_ap, rdM_ap, wrM_ap, thrM_ap, nl_0, nl_1, nl_2, nl_3, iN_eq, ↓invM_l fs6, ↓invM_l fi3, ↓invM_l fi4, ↓invM_l fsq, ↓invM_l fc0, b_fails]
