/-! THE STEPS: WHAT HOLDS BEHIND EACH -/
def I5 (σ : Mm) : Prop := ∃ s, CO s σ ∧ ∃ n o P, n ≤ 6 ∧ o < 6 ∧ HIc σ n o P
/-- done, or nothing is changed -/
def Q5 (σ : Mm) (X : Dm Int32) : Prop := ∃ v σ1, X σ = some (.inl v, σ1) ∧ I5 σ1 ∧ (0 ≤ v ∨ σ1 = σ)
theorem iN_0le {r : Nat} (h : r < 2147483648) : (0 : Int32) ≤ iN r := by
  rw [nl_0, iN_le (by omega) h]
  exact Nat.zero_le _
theorem q_don {σ σ1 : Mm} {X : Dm Int32} {x : Int32} {r : Nat} (hF : X σ = some (.inl x, σ1)) (hx : x = iN r) (hr : r < 2147483648) (h1 : I5 σ1) : Q5 σ X := ⟨x, σ1, hF, h1, .inl (by rw [hx]; exact iN_0le hr)⟩
theorem q_ct {cs : List (Nat × Int32)} {σ σ1 : Mm} {X : Dm Int32} {x : Int32} {r : Nat} (hF : X σ = some (.inl x, σ1)) (hx : x = iN r) (hr : r < 2147483648) (h1 : I5 σ1) : Q5 σ (ctM cs X) := q_don (ctM_l hF) hx hr h1
theorem q_thr {cs : List (Nat × Int32)} {σ : Mm} {X : Dm Int32} {e : Nat} {c : Int32} (h : I5 σ) (hF : X σ = some (.inr e, σ)) (hc : lkc cs e = some c) : Q5 σ (ctM cs X) := ⟨c, σ, ctM_r hF hc, h, .inr rfl⟩
theorem q_if {σ : Mm} {c : Prop} [Decidable c] {X Y : Dm Int32} (h1 : c → Q5 σ X) (h2 : ¬ c → Q5 σ Y) : Q5 σ (if c then X else Y) := by
  by_cases h : c
  · rw [if_pos h]; exact h1 h
  · rw [if_neg h]; exact h2 h
theorem q_eq {σ : Mm} {X Y : Dm Int32} (h : X σ = Y σ) (hq : Q5 σ Y) : Q5 σ X := by
  obtain ⟨v, σ1, a, b⟩ := hq
  exact ⟨v, σ1, h.trans a, b⟩
/-- behind a save and a change -/
theorem i5_of {σ1 σ3 : Mm} {s' : Sv} {n o' : Nat} {P : Nat → Sv} (hn : n ≤ 6) (ho : o' < 6) (hc : HIc σ1 (svN n) o' P) (hco : CO s' σ3) (f3 : ∀ k, 37 ≤ k → σ3 k = σ1 k) : I5 σ3 := ⟨s', hco, svN n, o', P, sv_le hn, ho, hc.fr (fun k h1 _ => f3 k (by omega))⟩
theorem cls5 {s s' : Sv} {σ σ1 : Mm} {OP : Dm Int32} {x : Int32} (hr : Rel 2 s σ) (f1 : ∀ k, (k < 73 ∨ 165 ≤ k) → σ1 k = σ k) (hop : Rel 2 s σ1 → ∃ σ2, OP σ1 = some (.inl x, σ2) ∧ Rel 2 s' σ2 ∧ ∀ k, ¬ (2 ≤ k ∧ k ≤ 16) → σ2 k = σ1 k) (hw' : WF s') : ∃ σ2 σ3, OP σ1 = some (.inl x, σ2) ∧ F_X1_measure 1 σ2 = some (.inl (), σ3) ∧ CO s' σ3 ∧ ∀ k, 37 ≤ k → σ3 k = σ1 k := by
  obtain ⟨σ2, a1, a2, a3⟩ := hop (hr.fr (fun k h1 h2 => f1 k (by omega)))
  obtain ⟨σ3, b1, b2, b3, b4⟩ := f_measure (b := 1) hw' a2
  exact ⟨σ2, σ3, a1, b1, ⟨hw', b2, b3⟩, fun k hk => by
    rw [show σ3 k = σ2 k from funext (fun j => b4 k j (by omega)), a3 k (by omega)]⟩
theorem s5_set {σ : Mm} {p0 : Int32} (h : I5 σ) (eb : btw p0 (iN 1) (iN 60) = true) : Q5 σ (F_X5_set p0) := by
  obtain ⟨s, ⟨hw, hr, hL⟩, n, o, P, hn, ho, hc⟩ := h
  obtain ⟨hh, eh, hh1, hh2⟩ := hw.2.1
  have fb := f_requireBetween (p := p0) (lo := iN 1) (hi := iN 60) (σ := σ)
  rw [eb, if_pos rfl] at fb
  obtain ⟨k, ek, hk1, hk⟩ := btw_nat (by omega) (by omega) eb
  obtain ⟨σ1, o', a1, a2, a3, a4⟩ := f_save hw hr hn ho hc
  have hr1 : Rel 2 s σ1 := hr.fr (fun k h1 h2 => a4 k (by omega))
  have e1 : σ1 2 0 = s 1 := hr1.2.1
  obtain ⟨σ3, h3⟩ : ∃ σ3, σ3 = upM σ1 2 0 (iN k) := ⟨_, rfl⟩
  have f3 : ∀ k, 37 ≤ k → σ3 k = σ1 k := fun k hk => by rw [h3, upM_o (by omega)]
  have hco : CO (upS s 1 (iN k)) σ3 := by
    refine ⟨h_WF hw hk1 hk, by rw [h3]; exact h_Rel hr1, fun t ht => ?_⟩
    rw [h_tb] at ht
    refine h_LM ((hL t ht).fr (fun k' j hp => ?_))
    unfold PT at hp
    rw [h3, upM_o (by omega), a4 k' (by omega)]
  refine q_don (x := s 1) (r := hh) (σ1 := σ3) ?_ eh (by omega) (i5_of hn a2 a3 hco f3)
  unfold F_X5_set
  refine (invM_l fb).trans ((invM_l a1).trans ?_)
  rw [gM_ap, e1, sM_ap, ek, ← h3]
  rfl
theorem s5_rule {σ : Mm} {p0 p1 p2 p3 p4 : Int32} (h : I5 σ) (eb3 : btw p3 (iN 0) (iN 3) = true) (eb4 : btw p4 (iN 0) (iN 3) = true) : Q5 σ (F_L_rule p0 p1 p2 p3 p4) := by
  have h0 := h
  obtain ⟨s, ⟨hw, hr, hL⟩, n, o, P, hn, ho, hc⟩ := h
  have fq := f_requireSquare (p0 := p0) (p1 := p1) (p2 := p2) hw hr
  unfold F_L_rule
  cases e : sqO s p0 p1 p2 with
  | none =>
    rw [e] at fq
    exact q_thr h0 (by unfold F_X5_rule; exact invM_r fq) rfl
  | some q =>
    rw [e] at fq
    have fq : F_X5_requireSquare p0 p1 p2 σ = some (.inl (iN q), σ) := fq
    obtain ⟨t, r, c, _, _, _, ht, _, _, _, _, eq, hq, eqt, _⟩ := sqO_some hw e
    have hq5 := isOf_lt hw hq
    have fb3 := f_requireBetween (p := p3) (lo := iN 0) (hi := iN 3) (σ := σ)
    have fb4 := f_requireBetween (p := p4) (lo := iN 0) (hi := iN 3) (σ := σ)
    rw [eb3, if_pos rfl] at fb3
    rw [eb4, if_pos rfl] at fb4
    obtain ⟨i, ei, hi⟩ := btw_k (by omega) eb3
    obtain ⟨u, eu, hu⟩ := btw_k (by omega) eb4
    by_cases hcl : isCl s q
    · obtain ⟨σ1, o', a1, a2, a3, a4⟩ := f_save hw hr hn ho hc
      obtain ⟨rr, hrr⟩ : ∃ rr, rr = s (637 + (4 * q + i)) := ⟨_, rfl⟩
      have hr1 : Rel 2 s σ1 := hr.fr (fun k h1 h2 => a4 k (by omega))
      have ev : σ1 16 (4 * q + i) = rr := by rw [hrr]; exact (hr1.2.2.2.2.1 q hq).2.2.2.2.2 i hi
      obtain ⟨σ2, σ3, c1, c2, c3, c4⟩ := cls5 (s' := upS s (637 + (4 * q + i)) (iN u)) (σ1 := σ1) (OP := fun τ => some (.inl rr, upM τ 16 (4 * q + i) (iN u))) (x := rr) hr a4 (fun g => ⟨_, rfl, ru_Rel (b := 2) hw g hq hi, fun k hk => upM_o (by omega)⟩) (ru_WF hw (by omega))
      have c1 : upM σ1 16 (4 * q + i) (iN u) = σ2 := by
        have : (some (Sum.inl rr, upM σ1 16 (4 * q + i) (iN u)) : Option ((Int32 ⊕ Nat) × Mm)) = some (.inl rr, σ2) := c1
        injection this with this
        injection this
      have w6 := (hw.2.2.2.2.2.1 q hq).2.2.1 i hi
      refine q_ct (x := rr) (r := ruS s (4 * q + i)) (σ1 := σ3) ?_ (by rw [hrr]; exact w6.1) (by have := w6.2; omega) (i5_of hn a2 a3 c3 c4)
      unfold F_X5_rule
      refine (invM_l fq).trans ((invM_l fb3).trans ((invM_l fb4).trans ?_))
      rw [ei, eu]
      simp (disch := omega) only [↓ite_ap, if_true, if_false, if_pos, if_neg, retM_ap, retZ_ap0, retZ_ap1, gM_ap, sM_ap, jM_ap, bI_ap, bL_ap, bD_ap, rdM_ap, wrM_ap, thrM_ap, nl_0, nl_1, nl_2, nl_3, nl_4, nl_5, nl_6, nl_7, nl_8, nl_9, nl_10, nl_11, nl_12, nl_13, nl_25, nl_33, nl_35, nl_45, nl_48, nl_49, nl_50, nl_52, nl_53, nl_57, nl_59, nl_60, nl_61, nl_77, nl_94, nl_97, nl_100, nl_101, nl_119, nl_125, nl_126, nl_137, nl_262, nl_387, nl_500, nl_512, nl_637, nl_999, nl_1022, nl_1137, nl_5685, nm_1b, iN_mI, mI_iN, iN_add, iN_mul, iN_sub, iN_div, iN_rem, iN_lt, iN_le, iN_eq, iN_nat, inB_iN, ↓b_at, ↓b_store, ↓b_place1, ↓b_place0, ↓b_tableOf, ↓b_sqEnd, ↓b_isCell, rel_isCell hw hr hcl.1.1, hcl, ↓invM_l a1, Nat.reduceAdd, Nat.mul_comm q 4, ev, c1, ↓invM_l c2]
    · refine q_thr (e := 3) h0 ?_ rfl
      unfold F_X5_rule
      refine (invM_l fq).trans ((invM_l fb3).trans ((invM_l fb4).trans ?_))
      simp (disch := omega) only [↓ite_ap, if_true, if_false, if_pos, if_neg, retM_ap, retZ_ap0, retZ_ap1, gM_ap, sM_ap, jM_ap, bI_ap, bL_ap, bD_ap, rdM_ap, wrM_ap, thrM_ap, nl_0, nl_1, nl_2, nl_3, nl_4, nl_5, nl_6, nl_7, nl_8, nl_9, nl_10, nl_11, nl_12, nl_13, nl_25, nl_33, nl_35, nl_45, nl_48, nl_49, nl_50, nl_52, nl_53, nl_57, nl_59, nl_60, nl_61, nl_77, nl_94, nl_97, nl_100, nl_101, nl_119, nl_125, nl_126, nl_137, nl_262, nl_387, nl_500, nl_512, nl_637, nl_999, nl_1022, nl_1137, nl_5685, nm_1b, iN_mI, mI_iN, iN_add, iN_mul, iN_sub, iN_div, iN_rem, iN_lt, iN_le, iN_eq, iN_nat, inB_iN, ↓b_at, ↓b_store, ↓b_place1, ↓b_place0, ↓b_tableOf, ↓b_sqEnd, ↓b_isCell, rel_isCell hw hr hq.1, hcl]
theorem s5_put {σ : Mm} {p0 p1 p2 p3 p4 : Int32} (h : I5 σ) (ek : okB p3 p4 = true) : Q5 σ (F_L_put p0 p1 p2 p3 p4) := by
  have h0 := h
  obtain ⟨s, ⟨hw, hr, hL⟩, n, o, P, hn, ho, hc⟩ := h
  have fq := f_requireSquare (p0 := p0) (p1 := p1) (p2 := p2) hw hr
  unfold F_L_put
  cases e : sqO s p0 p1 p2 with
  | none =>
    rw [e] at fq
    exact q_thr h0 (by unfold F_X5_put; exact invM_r fq) rfl
  | some q =>
    rw [e] at fq
    have fq : F_X5_requireSquare p0 p1 p2 σ = some (.inl (iN q), σ) := fq
    obtain ⟨t, r, c, _, _, _, ht, _, _, _, _, eq, hq, eqt, _⟩ := sqO_some hw e
    have hq5 := isOf_lt hw hq
    have fk := f_isContent (p := p3) (num := p4) (σ := σ)
    rw [ek, if_pos rfl] at fk
    have ff := f_canFill hw hr hq
    cases em : mayB s q
    · rw [em, if_neg (by decide)] at ff
      refine q_thr (e := 3) h0 ?_ rfl
      unfold F_X5_put
      simp (disch := omega) only [↓ite_ap, if_true, if_false, if_pos, if_neg, retM_ap, retZ_ap0, retZ_ap1, gM_ap, sM_ap, jM_ap, bI_ap, bL_ap, bD_ap, rdM_ap, wrM_ap, thrM_ap, nl_0, iN_eq, ↓invM_l fq, ↓invM_l fk, ↓invM_l ff]
    · rw [em, if_pos rfl] at ff
      obtain ⟨kind, ekd, hok⟩ := ok_P ek
      have hm := may_P em
      obtain ⟨rr, hrr⟩ : ∃ rr, rr = iN (kiS s q) := ⟨_, rfl⟩
      obtain ⟨σ1, o', a1, a2, a3, a4⟩ := f_save hw hr hn ho hc
      obtain ⟨σ2, σ3, c1, c2, c3, c4⟩ := cls5 (s' := puS s q kind p4) (σ1 := σ1) (OP := F_X4_fill 2 (iN q) (iN kind) p4) (x := rr) hr a4 (fun g => by rw [hrr]; exact f_fill (b := 2) hw g hm hok) (pu_WF hw hm hok)
      have w6 := (hw.2.2.2.2.2.1 q hq).2.1
      refine q_ct (x := rr) (r := kiS s q) (σ1 := σ3) ?_ hrr (by omega) (i5_of hn a2 a3 c3 c4)
      unfold F_X5_put
      rw [ekd] at fk ⊢
      simp (disch := omega) only [↓ite_ap, if_true, if_false, if_pos, if_neg, retM_ap, retZ_ap0, retZ_ap1, gM_ap, sM_ap, jM_ap, bI_ap, bL_ap, bD_ap, rdM_ap, wrM_ap, thrM_ap, nl_0, iN_eq, ↓invM_l fq, ↓invM_l fk, ↓invM_l ff, ↓invM_l a1, ↓invM_l c1, ↓invM_l c2]
theorem s5_begin {σ : Mm} {p0 p1 : Int32} (h : I5 σ) (eb : btw p0 (iN 1) (iN 5) = true) (eb1 : btw p1 (iN 1) (iN 5) = true) : Q5 σ (F_X5_begin p0 p1) := by
  obtain ⟨s, ⟨hw, hr, hL⟩, n, o, P, hn, ho, hc⟩ := h
  have fb := f_requireBetween (p := p0) (lo := iN 1) (hi := iN 5) (σ := σ)
  have fb1 := f_requireBetween (p := p1) (lo := iN 1) (hi := iN 5) (σ := σ)
  rw [eb, if_pos rfl] at fb
  rw [eb1, if_pos rfl] at fb1
  obtain ⟨hi, eh, hi1, hi5⟩ := btw_nat (by omega) (by omega) eb
  obtain ⟨br, er, br1, br5⟩ := btw_nat (by omega) (by omega) eb1
  have frl : F_X5_requireLines p0 p1 σ = some (.inl (), σ) := by
    unfold F_X5_requireLines
    exact (invM_l fb).trans (invM_l fb1)
  obtain ⟨σ1, o', a1, a2, a3, a4⟩ := f_save hw hr hn ho hc
  have hr1 : Rel 2 s σ1 := hr.fr (fun k h1 h2 => a4 k (by omega))
  obtain ⟨m, d1, d2, d3⟩ := f_startAnew (b := 2) (s := s) hw.2.1 hr1.2.1 hi1 hi5 br1 br5
  have hw' := bg_WF (s := s) hw.2.1 hi1 hi5 br1 br5
  obtain ⟨σ3, b1, b2, b3, b4⟩ := f_measure (b := 1) hw' d2
  have f3 : ∀ k, 37 ≤ k → σ3 k = σ1 k := fun k hk => by
    rw [show σ3 k = m k from funext (fun j => b4 k j (by omega)), d3 k (by omega)]
  have hlt : hi * br ≤ 5 * 5 := Nat.mul_le_mul hi5 br5
  refine q_don (x := p0 * p1) (r := hi * br) (σ1 := σ3) ?_ (by rw [eh, er, iN_mul]) (by omega) (i5_of hn a2 a3 ⟨hw', b2, b3⟩ f3)
  unfold F_X5_begin
  refine (invM_l frl).trans ((invM_l a1).trans ?_)
  rw [eh, er, invM_l d1, invM_l b1]
  rfl
theorem s5_nest {σ : Mm} {p0 p1 p2 p3 p4 : Int32} (h : I5 σ) (eb3 : btw p3 (iN 1) (iN 5) = true) (eb4 : btw p4 (iN 1) (iN 5) = true) : Q5 σ (F_L_nest p0 p1 p2 p3 p4) := by
  have hI := h
  obtain ⟨s, ⟨hw, hr, hL⟩, n, o, P, hn, ho, hc⟩ := h
  have t5 := hw.1.2.2
  have t1 := hw.1.2.1
  have fq := f_requireSquare (p0 := p0) (p1 := p1) (p2 := p2) hw hr
  unfold F_L_nest
  cases e : sqO s p0 p1 p2 with
  | none =>
    rw [e] at fq
    exact q_thr hI (by unfold F_X5_nest; exact invM_r fq) rfl
  | some q =>
    rw [e] at fq
    have fq : F_X5_requireSquare p0 p1 p2 σ = some (.inl (iN q), σ) := fq
    obtain ⟨t, r, c, _, _, _, ht, _, _, _, _, eq, hq, eqt, _⟩ := sqO_some hw e
    have hq5 := isOf_lt hw hq
    have fb3 := f_requireBetween (p := p3) (lo := iN 1) (hi := iN 5) (σ := σ)
    have fb4 := f_requireBetween (p := p4) (lo := iN 1) (hi := iN 5) (σ := σ)
    rw [eb3, if_pos rfl] at fb3
    rw [eb4, if_pos rfl] at fb4
    obtain ⟨hi, eh, hi1, hi5⟩ := btw_nat (by omega) (by omega) eb3
    obtain ⟨br, er, br1, br5⟩ := btw_nat (by omega) (by omega) eb4
    have frl : F_X5_requireLines p3 p4 σ = some (.inl (), σ) := by
      unfold F_X5_requireLines
      exact (invM_l fb3).trans (invM_l fb4)
    have kb := (hw.2.2.2.2.2.1 q hq).2.1
    have r1 := hr.2.2.2.2.1 q hq
    have k1c : σ 10 q = iN (kiS s q) := r1.2.1.trans (hw.2.2.2.2.2.1 q hq).1
    have e0c : σ 2 1 = iN (tbS s) := hr.1.trans hw.1.1
    by_cases hcl : isCl s q
    · by_cases h0 : kiS s q = 0
      · by_cases h5 : tbS s < 5
        · obtain ⟨rr, hrr⟩ : ∃ rr, rr = iN (tbS s) := ⟨_, rfl⟩
          obtain ⟨σ1, o', a1, a2, a3, a4⟩ := f_save hw hr hn ho hc
          obtain ⟨σ2, σ3, c1, c2, c3, c4⟩ := cls5 (s' := nwS (neS s q) (tbS s) hi br) (σ1 := σ1) (OP := F_X4_addTable 2 (iN q) (iN hi) (iN br)) (x := rr) hr a4 (fun g => by rw [hrr]; exact f_addTable (b := 2) hw g hcl h0 h5 hi1 hi5 br1 br5) (nw_WF (ne_b hw hcl h0 h5) hi1 hi5 br1 br5)
          refine q_ct (x := rr) (r := tbS s) (σ1 := σ3) ?_ hrr (by omega) (i5_of hn a2 a3 c3 c4)
          unfold F_X5_nest
          refine (invM_l fq).trans ((invM_l frl).trans ?_)
          rw [eh, er]
          simp (disch := omega) only [↓ite_ap, if_true, if_false, if_pos, if_neg, retM_ap, retZ_ap0, retZ_ap1, gM_np, sM_ap, jM_np, bI_ap, bL_ap, bD_ap, rdM_ap, wrM_ap, thrM_ap, nl_0, nl_1, nl_2, nl_3, nl_4, nl_5, nl_6, nl_7, nl_8, nl_9, nl_10, nl_11, nl_12, nl_13, nl_25, nl_33, nl_35, nl_45, nl_48, nl_49, nl_50, nl_52, nl_53, nl_57, nl_59, nl_60, nl_61, nl_77, nl_94, nl_97, nl_100, nl_101, nl_119, nl_125, nl_126, nl_137, nl_262, nl_387, nl_500, nl_512, nl_637, nl_999, nl_1022, nl_1137, nl_5685, nm_1b, iN_mI, mI_iN, iN_add, iN_mul, iN_sub, iN_div, iN_rem, iN_lt, iN_le, iN_eq, iN_nat, inB_iN, ↓b_at, ↓b_store, ↓b_place1, ↓b_place0, ↓b_tableOf, ↓b_sqEnd, ↓b_isCell, rel_isCell hw hr hcl.1.1, hcl, Nat.reduceAdd, k1c, h0, e0c, ↓invM_l a1, ↓invM_l c1, ↓invM_l c2]
        · refine q_thr (e := 3) hI ?_ rfl
          unfold F_X5_nest
          refine (invM_l fq).trans ((invM_l frl).trans ?_)
          simp (disch := omega) only [↓ite_ap, if_true, if_false, if_pos, if_neg, retM_ap, retZ_ap0, retZ_ap1, gM_np, sM_ap, jM_np, bI_ap, bL_ap, bD_ap, rdM_ap, wrM_ap, thrM_ap, nl_0, nl_1, nl_2, nl_3, nl_4, nl_5, nl_6, nl_7, nl_8, nl_9, nl_10, nl_11, nl_12, nl_13, nl_25, nl_33, nl_35, nl_45, nl_48, nl_49, nl_50, nl_52, nl_53, nl_57, nl_59, nl_60, nl_61, nl_77, nl_94, nl_97, nl_100, nl_101, nl_119, nl_125, nl_126, nl_137, nl_262, nl_387, nl_500, nl_512, nl_637, nl_999, nl_1022, nl_1137, nl_5685, nm_1b, iN_mI, mI_iN, iN_add, iN_mul, iN_sub, iN_div, iN_rem, iN_lt, iN_le, iN_eq, iN_nat, inB_iN, ↓b_at, ↓b_store, ↓b_place1, ↓b_place0, ↓b_tableOf, ↓b_sqEnd, ↓b_isCell, rel_isCell hw hr hcl.1.1, hcl, Nat.reduceAdd, k1c, h0, e0c]
      · refine q_thr (e := 3) hI ?_ rfl
        unfold F_X5_nest
        refine (invM_l fq).trans ((invM_l frl).trans ?_)
        simp (disch := omega) only [↓ite_ap, if_true, if_false, if_pos, if_neg, retM_ap, retZ_ap0, retZ_ap1, gM_np, sM_ap, jM_np, bI_ap, bL_ap, bD_ap, rdM_ap, wrM_ap, thrM_ap, nl_0, nl_1, nl_2, nl_3, nl_4, nl_5, nl_6, nl_7, nl_8, nl_9, nl_10, nl_11, nl_12, nl_13, nl_25, nl_33, nl_35, nl_45, nl_48, nl_49, nl_50, nl_52, nl_53, nl_57, nl_59, nl_60, nl_61, nl_77, nl_94, nl_97, nl_100, nl_101, nl_119, nl_125, nl_126, nl_137, nl_262, nl_387, nl_500, nl_512, nl_637, nl_999, nl_1022, nl_1137, nl_5685, nm_1b, iN_mI, mI_iN, iN_add, iN_mul, iN_sub, iN_div, iN_rem, iN_lt, iN_le, iN_eq, iN_nat, inB_iN, ↓b_at, ↓b_store, ↓b_place1, ↓b_place0, ↓b_tableOf, ↓b_sqEnd, ↓b_isCell, rel_isCell hw hr hcl.1.1, hcl, Nat.reduceAdd, k1c]
    · refine q_thr (e := 3) hI ?_ rfl
      unfold F_X5_nest
      refine (invM_l fq).trans ((invM_l frl).trans ?_)
      simp (disch := omega) only [↓ite_ap, if_true, if_false, if_pos, if_neg, retM_ap, retZ_ap0, retZ_ap1, gM_np, sM_ap, jM_np, bI_ap, bL_ap, bD_ap, rdM_ap, wrM_ap, thrM_ap, nl_0, nl_1, nl_2, nl_3, nl_4, nl_5, nl_6, nl_7, nl_8, nl_9, nl_10, nl_11, nl_12, nl_13, nl_25, nl_33, nl_35, nl_45, nl_48, nl_49, nl_50, nl_52, nl_53, nl_57, nl_59, nl_60, nl_61, nl_77, nl_94, nl_97, nl_100, nl_101, nl_119, nl_125, nl_126, nl_137, nl_262, nl_387, nl_500, nl_512, nl_637, nl_999, nl_1022, nl_1137, nl_5685, nm_1b, iN_mI, mI_iN, iN_add, iN_mul, iN_sub, iN_div, iN_rem, iN_lt, iN_le, iN_eq, iN_nat, inB_iN, ↓b_at, ↓b_store, ↓b_place1, ↓b_place0, ↓b_tableOf, ↓b_sqEnd, ↓b_isCell, rel_isCell hw hr hq.1, hcl]
theorem s5_undo {σ : Mm} (h : I5 σ) : Q5 σ F_L_undo := by
  have hI := h
  obtain ⟨s, ⟨hw, hr, hL⟩, n, o, P, hn, ho, hc⟩ := h
  unfold F_L_undo
  by_cases h0 : n = 0
  · have e73 : σ 73 2 = iN 0 := by rw [hc.1, h0]
    refine q_thr (e := 3) hI ?_ rfl
    unfold F_X5_undo
    simp (disch := omega) only [↓ite_ap, if_true, if_false, if_pos, if_neg, retM_ap, retZ_ap0, retZ_ap1, gM_ap, sM_ap, jM_ap, bI_ap, bL_ap, bD_ap, rdM_ap, wrM_ap, thrM_ap, nl_0, nl_1, nl_2, nl_3, nl_4, nl_5, nl_6, nl_7, nl_8, nl_9, nl_10, nl_11, nl_12, nl_13, nl_25, nl_33, nl_35, nl_45, nl_48, nl_49, nl_50, nl_52, nl_53, nl_57, nl_59, nl_60, nl_61, nl_77, nl_94, nl_97, nl_100, nl_101, nl_119, nl_125, nl_126, nl_137, nl_262, nl_387, nl_500, nl_512, nl_637, nl_999, nl_1022, nl_1137, nl_5685, nm_1b, iN_mI, mI_iN, iN_add, iN_mul, iN_sub, iN_div, iN_rem, iN_lt, iN_le, iN_eq, iN_nat, inB_iN, e73]
  · obtain ⟨n, rfl⟩ : ∃ k, n = k + 1 := ⟨n - 1, by omega⟩
    have e73 : σ 73 2 = iN (n + 1) := hc.1
    obtain ⟨σ1, a1, a2, a3, a4⟩ := f_takeBack (by omega) ho hc
    have hwP := (hc.2.2 n (by omega)).1
    obtain ⟨σ3, b1, b2, b3, b4⟩ := f_measure (b := 1) hwP a3
    have f3 : ∀ k, 37 ≤ k → σ3 k = σ1 k := fun k hk => funext (fun j => b4 k j (by omega))
    have hc3 : HIc σ3 n o P := a2.fr (fun k h1 h2 => f3 k (by omega))
    refine q_ct (x := iN n) (r := n) (σ1 := σ3) ?_ rfl (by omega) ⟨P n, ⟨hwP, b2, b3⟩, n, o, P, by omega, ho, hc3⟩
    unfold F_X5_undo
    have e73' : σ3 73 2 = iN n := hc3.1
    simp (disch := omega) only [↓ite_ap, if_true, if_false, if_pos, if_neg, retM_ap, retZ_ap0, retZ_ap1, gM_ap, sM_ap, jM_ap, bI_ap, bL_ap, bD_ap, rdM_ap, wrM_ap, thrM_ap, nl_0, nl_1, nl_2, nl_3, nl_4, nl_5, nl_6, nl_7, nl_8, nl_9, nl_10, nl_11, nl_12, nl_13, nl_25, nl_33, nl_35, nl_45, nl_48, nl_49, nl_50, nl_52, nl_53, nl_57, nl_59, nl_60, nl_61, nl_77, nl_94, nl_97, nl_100, nl_101, nl_119, nl_125, nl_126, nl_137, nl_262, nl_387, nl_500, nl_512, nl_637, nl_999, nl_1022, nl_1137, nl_5685, nm_1b, iN_mI, mI_iN, iN_add, iN_mul, iN_sub, iN_div, iN_rem, iN_lt, iN_le, iN_eq, iN_nat, inB_iN, e73, ↓invM_l a1, ↓invM_l b1, e73']
theorem s5_span {σ : Mm} {p0 p1 p2 p3 p4 : Int32} (h : I5 σ) (eb3 : btw p3 (iN 1) (iN 5) = true) (eb4 : btw p4 (iN 1) (iN 5) = true) : Q5 σ (F_L_span p0 p1 p2 p3 p4) := by
  have hI := h
  obtain ⟨s, ⟨hw, hr, hL⟩, n, o, P, hn, ho, hc⟩ := h
  have fq := f_requireSquare (p0 := p0) (p1 := p1) (p2 := p2) hw hr
  unfold F_L_span
  rw [span_C]
  cases e : sqO s p0 p1 p2 with
  | none =>
    rw [e] at fq
    exact q_thr hI (invM_r fq) rfl
  | some q =>
    rw [e] at fq
    have fq : F_X5_requireSquare p0 p1 p2 σ = some (.inl (iN q), σ) := fq
    obtain ⟨t, r, c, ep0, ep1, ep2, ht, hr', hc', r5, c5, eq, hq, eqt, eqr, eqc⟩ := sqO_some hw e
    have hq5 := isOf_lt hw hq
    obtain ⟨hi, eh, hi1, hi5⟩ := btw_nat (by omega) (by omega) eb3
    obtain ⟨br, er, br1, br5⟩ := btw_nat (by omega) (by omega) eb4
    subst ep0 ep1 ep2 eh er
    have fA := f_spanFit hw hr fq ht r5 c5 hi1 hi5 br1 br5
    by_cases fit : r + hi ≤ roS s t ∧ c + br ≤ coS s t
    · rw [if_pos fit] at fA
      have f1 : q % 25 / 5 + hi ≤ roS s (q / 25) := by rw [eqt, eqr]; exact fit.1
      have f2 : q % 5 + br ≤ coS s (q / 25) := by rw [eqt, eqc]; exact fit.2
      have w3 := hw.2.2.1 t ht
      have u5 : q % 25 / 5 + hi ≤ 5 := by rw [eqt] at f1; omega
      have u6 : q % 5 + br ≤ 5 := by rw [eqt] at f2; omega
      have fr3 := f_requireBetween (p := iN hi) (lo := iN 1) (hi := iN 5) (σ := σ)
      have fr4 := f_requireBetween (p := iN br) (lo := iN 1) (hi := iN 5) (σ := σ)
      rw [eb3, if_pos rfl] at fr3
      rw [eb4, if_pos rfl] at fr4
      have frl : F_X5_requireLines (iN hi) (iN br) σ = some (.inl (), σ) := by
        unfold F_X5_requireLines
        exact (invM_l fr3).trans (invM_l fr4)
      have fic := f_isCell (b := 2) (q := q) (σ := σ) hq5
      by_cases hcl : isCl s q
      · rw [if_pos ((rel_isCell hw hr hcl.1.1).mpr hcl)] at fic
        have fcc := f_canCover (b := 2) hw hr hcl f1 f2
        cases ec : cvC s q hi br
        · rw [ec, if_neg (by decide)] at fcc
          have hfN : fitN s q hi br := ⟨hcl, hi1, hi5, br1, br5, f1, f2, (cvC_iff u5 u6).mp ec⟩
          obtain ⟨rr, hrr⟩ : ∃ rr, rr = iN hi * iN br := ⟨_, rfl⟩
          obtain ⟨σ1, o', a1, a2, a3, a4⟩ := f_save hw hr hn ho hc
          obtain ⟨m', d1', d2', d3'⟩ := f_cover (b := 2) hw (hr.fr (fun k h1 h2 => a4 k (by omega)) : Rel 2 s σ1) hfN
          have hw' := sp_WF hw hfN
          obtain ⟨σ3, b1, b2, b3, b4⟩ := f_measure (b := 1) hw' d2'
          have f3 : ∀ k, 37 ≤ k → σ3 k = σ1 k := fun k hk => by
            rw [show σ3 k = m' k from funext (fun j => b4 k j (by omega)), d3' k (by omega)]
          have hlt : hi * br ≤ 5 * 5 := Nat.mul_le_mul hi5 br5
          refine q_ct (x := rr) (r := hi * br) (σ1 := σ3) ?_ (by rw [hrr, iN_mul]) (by omega) (i5_of hn a2 a3 ⟨hw', b2, b3⟩ f3)
          rw [fA]
          unfold spC
          refine (invM_l frl).trans ((invM_l fic).trans ?_)
          rw [if_neg (show ¬ iN 1 = 0 by rw [nl_0, iN_eq (by omega) (by omega)]; omega)]
          refine (invM_l fcc).trans ?_
          rw [if_neg (show ¬ iN 1 = 0 by rw [nl_0, iN_eq (by omega) (by omega)]; omega)]
          refine (invM_l a1).trans ((invM_l d1').trans ((invM_l b1).trans ?_))
          rw [hrr]
          rfl
        · rw [ec, if_pos rfl] at fcc
          refine q_thr (e := 3) hI ?_ rfl
          rw [fA]
          unfold spC
          refine (invM_l frl).trans ((invM_l fic).trans ?_)
          rw [if_neg (show ¬ iN 1 = 0 by rw [nl_0, iN_eq (by omega) (by omega)]; omega)]
          exact (invM_l fcc).trans rfl
      · rw [if_neg (fun g => hcl ((rel_isCell hw hr hq.1).mp g))] at fic
        refine q_thr (e := 3) hI ?_ rfl
        rw [fA]
        unfold spC
        exact (invM_l frl).trans ((invM_l fic).trans rfl)
    · rw [if_neg fit] at fA
      exact q_thr (e := 1) hI fA rfl
/-! the law's own numbers -/
theorem and_ge (x : Int32) : ¬ (x &&& (2147483647 : Int32)) < iN 0 := by
  intro h
  rw [Int32.lt_iff_toInt_lt] at h
  have e0 : (iN 0).toInt = 0 := rfl
  rw [e0, ← Int32.toInt_toBitVec, Int32.toBitVec_and] at h
  have hm : (x.toBitVec &&& (2147483647 : Int32).toBitVec).msb = false := by
    rw [BitVec.msb_and]
    have : ((2147483647 : Int32).toBitVec).msb = false := by decide
    rw [this, Bool.and_false]
  have := BitVec.toInt_nonneg_of_msb_false hm
  omega
theorem low_iN (x : Int32) {m : Nat} (h1 : 1 ≤ m) (h2 : m < 2147483648) : ∃ k, k < m ∧ lowI x (iN m) = iN k := by
  unfold lowI
  rcases i32_cases (x &&& (2147483647 : Int32)) with g | ⟨k, g1, g2⟩
  · exact absurd (of_eq_true g.1) (and_ge x)
  · rw [g2, iN_rem g1 h2]
    exact ⟨k % m, Nat.mod_lt _ h1, rfl⟩
theorem q_low {σ : Mm} {x y : Int32} {m : Nat} {K : Int32 → Dm Int32} (hy : y = iN m) (h1 : 1 ≤ m) (h2 : m < 2147483648) (h : ∀ k, k < m → Q5 σ (K (iN k))) : Q5 σ (invM (F_L_low x y) K) := by
  obtain ⟨k, hk, e⟩ := low_iN x h1 h2
  have f : F_L_low x y σ = some (.inl (iN k), σ) := by
    rw [f_low (fun g => by rw [hy, nl_0, iN_eq h2 (by omega)] at g; omega), hy, e]
  exact q_eq (invM_l f) (h k hk)
theorem low_btw (x : Int32) {y z : Int32} {m : Nat} (hy : y = iN m) (hz : z = iN (0 + m)) (h1 : 1 ≤ m) (h2 : m < 1000) : btw (1 + lowI x y) (iN 1) z = true := by
  obtain ⟨k, hk, e⟩ := low_iN x h1 (show m < 2147483648 by omega)
  rw [hy, e, hz, nl_1, iN_add, btw_iN (by omega) (by omega) (by omega)]
  exact decide_eq_true (by omega)
theorem ok_num {k : Nat} (hk : k < 1999) : okB (1 : Int32) (iN k - (999 : Int32)) = true := by
  unfold okB
  rw [if_pos nl_1]
  unfold btw
  have e1 : (iN k - (999 : Int32)).toInt = (k : Int) - 999 := by
    rw [Int32.toInt_sub, iN_int (by omega), show (999 : Int32).toInt = 999 from rfl]
    exact Int.bmod_eq_of_le (by omega) (by omega)
  rw [Bool.and_eq_true, decide_eq_true_eq, decide_eq_true_eq, Int32.lt_iff_toInt_lt, Int32.lt_iff_toInt_lt, e1, show (-999 : Int32).toInt = -999 from rfl, show (999 : Int32).toInt = 999 from rfl]
  omega
theorem ok_word {k : Nat} (hk : k < 12) : okB (2 : Int32) ((1 : Int32) + iN k) = true := by
  unfold okB
  rw [if_neg (show ¬ (2 : Int32) = iN 1 by decide), if_pos nl_2, nl_1, iN_add, btw_iN (by omega) (by omega) (by omega)]
  exact decide_eq_true (by omega)
theorem ok_sum {k : Nat} (hk : k < 3) : okB ((4 : Int32) + iN k) (0 : Int32) = true := by
  have h : k = 0 ∨ k = 1 ∨ k = 2 := by omega
  rcases h with rfl | rfl | rfl <;> decide
theorem ok_empty : okB (0 : Int32) (0 : Int32) = true := by decide
theorem bt1 {k m : Nat} {z : Int32} (hk : k < m) (hm : m ≤ 5) (hz : z = iN 5) : btw ((1 : Int32) + iN k) (iN 1) z = true := by
  rw [hz, nl_1, iN_add, btw_iN (by omega) (by omega) (by omega)]
  exact decide_eq_true (by omega)
theorem bt0 {k : Nat} (hk : k < 4) : btw (iN k) (iN 0) (iN 3) = true := by
  rw [btw_iN (by omega) (by omega) (by omega)]
  exact decide_eq_true (by omega)
theorem q_count {σ : Mm} {K : Int32 → Dm Int32} (h : I5 σ) (hK : ∀ t, 1 ≤ t → t ≤ 5 → Q5 σ (K (iN t))) : Q5 σ (invM (F_X5_count (0 : Int32)) K) := by
  obtain ⟨s, hco, _⟩ := h
  have f := f_count (k := 0) hco (by omega)
  have hw := hco.1.1
  exact q_eq (invM_l f) (hK (tbS s) hw.2.1 hw.2.2)
theorem s5_act {σ : Mm} (h : I5 σ) (a b c d : Int32) : Q5 σ (F_L_act a b c d) := by
  unfold F_L_act
  refine q_count h (fun t ht1 ht5 => ?_)
  refine q_low (m := t) rfl ht1 (by omega) (fun k0 _ => ?_)
  refine q_low (m := 5) nl_5 (by omega) (by omega) (fun k1 _ => ?_)
  refine q_low (m := 5) nl_5 (by omega) (by omega) (fun k2 _ => ?_)
  refine q_low (m := 14) rfl (by omega) (by omega) (fun k3 _ => ?_)
  refine q_if (fun _ => q_low (m := 1999) rfl (by omega) (by omega) (fun k hk => s5_put h (ok_num hk))) (fun _ => ?_)
  refine q_if (fun _ => q_low (m := 1999) rfl (by omega) (by omega) (fun k hk => s5_put h (ok_num hk))) (fun _ => ?_)
  refine q_if (fun _ => q_low (m := 1999) rfl (by omega) (by omega) (fun k hk => s5_put h (ok_num hk))) (fun _ => ?_)
  refine q_if (fun _ => q_low (m := 1999) rfl (by omega) (by omega) (fun k hk => s5_put h (ok_num hk))) (fun _ => ?_)
  refine q_if (fun _ => q_low (m := 12) nl_12 (by omega) (by omega) (fun k hk => s5_put h (ok_word hk))) (fun _ => ?_)
  refine q_if (fun _ => q_low (m := 3) nl_3 (by omega) (by omega) (fun k hk => s5_put h (ok_sum hk))) (fun _ => ?_)
  refine q_if (fun _ => q_low (m := 3) nl_3 (by omega) (by omega) (fun k hk => s5_put h (ok_sum hk))) (fun _ => ?_)
  refine q_if (fun _ => q_low (m := 3) nl_3 (by omega) (by omega) (fun k hk => s5_put h (ok_sum hk))) (fun _ => ?_)
  refine q_if (fun _ => s5_put h ok_empty) (fun _ => ?_)
  refine q_if (fun _ => q_low (m := 3) nl_3 (by omega) (by omega) (fun k hk => q_low (m := 3) nl_3 (by omega) (by omega) (fun k' hk' => s5_span h (bt1 hk (by omega) rfl) (bt1 hk' (by omega) rfl)))) (fun _ => ?_)
  refine q_if (fun _ => q_low (m := 3) nl_3 (by omega) (by omega) (fun k hk => q_low (m := 3) nl_3 (by omega) (by omega) (fun k' hk' => s5_span h (bt1 hk (by omega) rfl) (bt1 hk' (by omega) rfl)))) (fun _ => ?_)
  refine q_if (fun _ => q_low (m := 4) nl_4 (by omega) (by omega) (fun k hk => q_low (m := 4) nl_4 (by omega) (by omega) (fun k' hk' => s5_nest h (bt1 hk (by omega) rfl) (bt1 hk' (by omega) rfl)))) (fun _ => ?_)
  exact q_low (m := 4) nl_4 (by omega) (by omega) (fun k hk => q_low (m := 4) nl_4 (by omega) (by omega) (fun k' hk' => s5_rule h (bt0 hk) (bt0 hk')))
/-! the start -/
theorem law_init5 : LawInit I5 := by
  obtain ⟨m0, e0⟩ : ∃ m0 : Mm, m0 = upM (upM (upM (upM (upM (upM (upM (upM (fun _ _ => 0) 2 0 (10 : Int32)) 38 0 (10 : Int32)) 75 0 (10 : Int32)) 90 0 (10 : Int32)) 105 0 (10 : Int32)) 120 0 (10 : Int32)) 135 0 (10 : Int32)) 150 0 (10 : Int32) := ⟨_, rfl⟩
  obtain ⟨s, hs⟩ : ∃ s : Sv, s = upS (fun _ => iN 0) 1 (iN 10) := ⟨_, rfl⟩
  have s1 : s 1 = iN 10 := by rw [hs, up_at]
  have e20 : m0 2 0 = s 1 := by
    rw [s1, e0, upM_o (by omega), upM_o (by omega), upM_o (by omega), upM_o (by omega), upM_o (by omega), upM_o (by omega), upM_o (by omega), upM_at]
    rfl
  have z73 : m0 73 = fun _ => iN 0 := by
    rw [e0, upM_o (by omega), upM_o (by omega), upM_o (by omega), upM_o (by omega), upM_o (by omega), upM_o (by omega), upM_o (by omega), upM_o (by omega)]
    rfl
  have hh : ∃ h, s 1 = iN h ∧ 1 ≤ h ∧ h ≤ 60 := ⟨10, s1, by omega, by omega⟩
  obtain ⟨σa, a1, a2, a3⟩ := f_startAnew (b := 2) (hi := 3) (br := 3) hh e20 (by omega) (by omega) (by omega) (by omega)
  have hw := bg_WF (hi := 3) (br := 3) hh (by omega) (by omega) (by omega) (by omega)
  obtain ⟨σb, b1, b2, b3, b4⟩ := f_measure (b := 1) hw a2
  have fb : ∀ k, 37 ≤ k → σb k = m0 k := fun k hk => by
    rw [show σb k = σa k from funext (fun j => b4 k j (by omega)), a3 k (by omega)]
  refine ⟨σa, σb, ?_, b1, bgS s 3 3, ⟨hw, b2, b3⟩, 0, 0, fun _ => s, by omega, by omega, ?_, ?_, fun i hi => by omega⟩
  · rw [← e0]
    exact a1
  · rw [fb 73 (by omega), z73]
  · rw [fb 73 (by omega), z73]
