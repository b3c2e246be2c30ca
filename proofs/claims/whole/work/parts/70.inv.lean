/-! WHAT HOLDS BEHIND EVERY STEP OF THE LAW -/
def vw (σ : Mm) (k off : Nat) : Sv := fun j => if j < 1137 then σ k (off + j) else iN 0
theorem vw_at {σ : Mm} {k off j : Nat} (h : j < 1137) : vw σ k off j = σ k (off + j) := if_pos h
def nowS (σ : Mm) : Sv := vw σ 169 0
theorem now_vw {σ : Mm} : Vw 169 (nowS σ) σ := fun j hj => by
  unfold nowS
  rw [vw_at hj, Nat.zero_add]
/-- the saved states -/
def HI (σ : Mm) : Prop := ∃ n o, n ≤ 6 ∧ o < 6 ∧ σ 73 2 = iN n ∧ σ 73 1 = iN o ∧ σ 168 3 = iN n ∧ ∀ i, i < n → WF (vw σ 171 (1137 * i)) ∧ Rel (75 + 15 * ((o + i) % 6)) (vw σ 171 (1137 * i)) σ
/-- the buffers -/
def TX (σ : Mm) : Prop := ∃ L, L ≤ 60 ∧ σ 165 1 = iN L ∧ σ 168 5 = iN L ∧ ∀ j, j < L → σ 167 j = σ 172 j ∧ ∃ c, σ 172 j = iN c ∧ 33 ≤ c ∧ c ≤ 126
def LD (σ : Mm) : Prop := σ 168 12 = iN 0 ∨ (σ 168 12 = iN 1 ∧ ∀ t, t < tbS (nowS σ) → MR (nowS σ) σ t)
def II (σ : Mm) : Prop := CO (nowS σ) σ ∧ HI σ ∧ TX σ ∧ LD σ
/-- the places that II looks at, but the reference's layout -/
def PI (k j : Nat) : Prop := k ≤ 36 ∨ (73 ≤ k ∧ k ≤ 167) ∨ (k = 168 ∧ (j = 3 ∨ j = 5 ∨ j = 12)) ∨ k = 169 ∨ k = 171 ∨ k = 172
theorem now_fr {σ σ1 : Mm} (h : σ1 169 = σ 169) : nowS σ1 = nowS σ := by
  funext j
  unfold nowS vw
  rw [h]
theorem CO.fr {s : Sv} {σ σ1 : Mm} (h : CO s σ) (hf : ∀ k, k ≤ 36 → σ1 k = σ k) : CO s σ1 :=
  ⟨h.1, h.2.1.fr (fun k _ h2 => hf k (by omega)), fun t ht => (h.2.2 t ht).fr (fun k j hk => by rw [hf k (by unfold PT at hk; omega)])⟩
theorem HI.fr {σ σ1 : Mm} (h : HI σ) (hf : ∀ k j, PI k j → σ1 k j = σ k j) : HI σ1 := by
  obtain ⟨n, o, a1, a2, a3, a4, a5, a6⟩ := h
  unfold PI at hf
  have ev : ∀ i, vw σ1 171 (1137 * i) = vw σ 171 (1137 * i) := fun i => by
    funext j
    unfold vw
    rw [hf _ _ (by omega)]
  refine ⟨n, o, a1, a2, by rw [hf _ _ (by omega)]; exact a3, by rw [hf _ _ (by omega)]; exact a4, by rw [hf _ _ (by omega)]; exact a5, fun i hi => ?_⟩
  rw [ev]
  exact ⟨(a6 i hi).1, (a6 i hi).2.fr (fun k h1 h2 => funext (fun j => hf k j (by omega)))⟩
theorem TX.fr {σ σ1 : Mm} (h : TX σ) (hf : ∀ k j, PI k j → σ1 k j = σ k j) : TX σ1 := by
  obtain ⟨L, a1, a2, a3, a4⟩ := h
  unfold PI at hf
  refine ⟨L, a1, by rw [hf _ _ (by omega)]; exact a2, by rw [hf _ _ (by omega)]; exact a3, fun j hj => ?_⟩
  rw [hf 167 j (by omega), hf 172 j (by omega)]
  exact a4 j hj
theorem LD.fr {σ σ1 : Mm} (h : LD σ) (hf : ∀ k j, PI k j ∨ (174 ≤ k ∧ k ≤ 183 ∧ k ≠ 180) → σ1 k j = σ k j) : LD σ1 := by
  have hn : nowS σ1 = nowS σ := now_fr (funext (fun j => hf 169 j (.inl (by unfold PI; omega))))
  have h12 : σ1 168 12 = σ 168 12 := hf 168 12 (.inl (by unfold PI; omega))
  unfold LD
  rw [hn, h12]
  rcases h with h | ⟨h1, h2⟩
  · exact .inl h
  · exact .inr ⟨h1, fun t ht => (h2 t ht).fr (fun k j hk => hf k j (.inr (by unfold PM at hk; omega)))⟩
theorem II.fr {σ σ1 : Mm} (h : II σ) (hf : ∀ k j, PI k j ∨ (174 ≤ k ∧ k ≤ 183 ∧ k ≠ 180) → σ1 k j = σ k j) : II σ1 := by
  have hn : nowS σ1 = nowS σ := now_fr (funext (fun j => hf 169 j (.inl (by unfold PI; omega))))
  refine ⟨?_, h.2.1.fr (fun k j g => hf k j (.inl g)), h.2.2.1.fr (fun k j g => hf k j (.inl g)), h.2.2.2.fr hf⟩
  rw [hn]
  exact h.1.fr (fun k hk => funext (fun j => hf k j (.inl (by unfold PI; omega))))
theorem II.up {σ : Mm} {k j : Nat} {v : Int32} (h : II σ) (hk : (k = 168 ∧ j = 6) ∨ k = 184 ∨ k = 185 ∨ k = 180 ∨ k = 170) : II (upM σ k j v) :=
  h.fr (fun k' j' hp => upM_q (fun g => by unfold PI at hp; omega))
theorem zM_0 {α : Type} {b j : Nat} {X : Dm α} {σ : Mm} : zM b j (iN 0) X σ = X (upM σ b j (iN 0)) := by
  unfold zM
  rw [if_pos (.inl rfl)]
theorem zM_1 {α : Type} {b j : Nat} {X : Dm α} {σ : Mm} : zM b j (iN 1) X σ = X (upM σ b j (iN 1)) := by
  unfold zM
  rw [if_pos (.inr rfl)]
theorem r_laysNow {σ : Mm} (h : II σ) : ∃ σ1, F_X6_laysNow σ = some (.inl (), σ1) ∧ II σ1 ∧ RO (nowS σ) σ1 ∧ nowS σ1 = nowS σ ∧ ∀ k j, ¬ (174 ≤ k ∧ k ≤ 183) → ¬ (k = 168 ∧ j = 12) → σ1 k j = σ k j := by
  unfold F_X6_laysNow
  rcases h.2.2.2 with h0 | ⟨h0, h1⟩
  · obtain ⟨m, c1, c2, c3⟩ := r_lays (a := 169) h.1.1 now_vw (by omega)
    obtain ⟨σ1, e1⟩ : ∃ σ1, σ1 = upM m 168 12 (iN 1) := ⟨_, rfl⟩
    have hf : ∀ k j, ¬ (174 ≤ k ∧ k ≤ 183) → ¬ (k = 168 ∧ j = 12) → σ1 k j = σ k j := fun k j g1 g2 => by
      rw [e1, upM_q g2, c3 k j g1]
    have hn : nowS σ1 = nowS σ := now_fr (funext (fun j => hf 169 j (by omega) (by omega)))
    have hM : ∀ t, t < tbS (nowS σ) → MR (nowS σ) σ1 t := fun t ht => (c2 t ht).fr (fun k j hk => by rw [e1, upM_q (by unfold PM at hk; omega)])
    refine ⟨σ1, ?_, ⟨?_, ?_, ?_, ?_⟩, ⟨h.1.1, ?_, hM⟩, hn, hf⟩
    · simp (disch := omega) only [↓ite_ap, if_true, if_false, if_pos, if_neg, retM_ap, retZ_ap0, retZ_ap1, gM_ap, sM_ap, jM_ap, bI_ap, bL_ap, bD_ap, rdM_ap, wrM_ap, thrM_ap, nl_0, nl_1, nl_2, nl_3, nl_4, nl_5, nl_6, nl_7, nl_8, nl_9, nl_10, nl_11, nl_12, nl_13, nl_25, nl_33, nl_35, nl_45, nl_48, nl_49, nl_50, nl_52, nl_53, nl_57, nl_59, nl_60, nl_61, nl_77, nl_94, nl_97, nl_100, nl_101, nl_119, nl_125, nl_126, nl_137, nl_262, nl_387, nl_500, nl_512, nl_637, nl_999, nl_1022, nl_1137, nl_5685, nm_1b, iN_mI, mI_iN, iN_add, iN_mul, iN_sub, iN_div, iN_rem, iN_lt, iN_le, iN_eq, iN_nat, inB_iN, h0, ↓invM_l c1, zM_1, ← e1]
    · rw [hn]
      exact h.1.fr (fun k hk => funext (fun j => hf k j (by omega) (by omega)))
    · obtain ⟨n, o, a1, a2, a3, a4, a5, a6⟩ := h.2.1
      have ev : ∀ i, vw σ1 171 (1137 * i) = vw σ 171 (1137 * i) := fun i => by
        funext j
        unfold vw
        rw [hf _ _ (by omega) (by omega)]
      refine ⟨n, o, a1, a2, by rw [hf _ _ (by omega) (by omega)]; exact a3, by rw [hf _ _ (by omega) (by omega)]; exact a4, by rw [hf _ _ (by omega) (by omega)]; exact a5, fun i hi => ?_⟩
      rw [ev]
      exact ⟨(a6 i hi).1, (a6 i hi).2.fr (fun k h1 h2 => funext (fun j => hf k j (by omega) (by omega)))⟩
    · obtain ⟨L, a1, a2, a3, a4⟩ := h.2.2.1
      refine ⟨L, a1, by rw [hf _ _ (by omega) (by omega)]; exact a2, by rw [hf _ _ (by omega) (by omega)]; exact a3, fun j hj => ?_⟩
      rw [hf 167 j (by omega) (by omega), hf 172 j (by omega) (by omega)]
      exact a4 j hj
    · refine .inr ⟨by rw [e1, upM_at], ?_⟩
      rw [hn]
      exact hM
    · exact now_vw.fr (funext (fun j => hf 169 j (by omega) (by omega)))
  · refine ⟨σ, ?_, h, ⟨h.1.1, now_vw, h1⟩, rfl, fun _ _ _ _ => rfl⟩
    simp (disch := omega) only [↓ite_ap, if_true, if_false, if_pos, if_neg, retM_ap, retZ_ap0, retZ_ap1, gM_ap, sM_ap, jM_ap, bI_ap, bL_ap, bD_ap, rdM_ap, wrM_ap, thrM_ap, nl_0, nl_1, nl_2, nl_3, nl_4, nl_5, nl_6, nl_7, nl_8, nl_9, nl_10, nl_11, nl_12, nl_13, nl_25, nl_33, nl_35, nl_45, nl_48, nl_49, nl_50, nl_52, nl_53, nl_57, nl_59, nl_60, nl_61, nl_77, nl_94, nl_97, nl_100, nl_101, nl_119, nl_125, nl_126, nl_137, nl_262, nl_387, nl_500, nl_512, nl_637, nl_999, nl_1022, nl_1137, nl_5685, nm_1b, iN_mI, mI_iN, iN_add, iN_mul, iN_sub, iN_div, iN_rem, iN_lt, iN_le, iN_eq, iN_nat, inB_iN, h0]
/-! arguments of the reference -/
theorem btw_dI {p : Int32} {n : Nat} (hn : n < 100000) : btw p (iN 0) (iN n - iN 1) = (dI p n).isSome := by
  rcases dI_cases p n with ⟨k, a1, a2, a3, a4⟩ | ⟨a3, a4⟩ | ⟨k, a1, a2, a3, a4⟩
  · subst a2
    rw [a4, iN_sub (by omega), btw_iN (by omega) (by omega) (by omega), decide_eq_true (by omega)]
    rfl
  · rw [a4]
    unfold btw
    rw [decide_eq_false (not_not_intro (of_eq_true a3)), Bool.false_and]
    rfl
  · subst a2
    rw [a4]
    by_cases h0 : n = 0
    · subst h0
      unfold btw
      rw [sub01, decide_eq_false (not_not_intro (of_eq_true (mI_lt a1))), Bool.and_false]
      rfl
    · rw [iN_sub (by omega), btw_iN (by omega) (by omega) (by omega), decide_eq_false (by omega)]
      rfl
theorem r_isTable {p : Int32} {s : Sv} {σ : Mm} (hw : WF s) (hv : Vw 169 s σ) : F_X6_isTable 169 1137 p σ = some (.inl (if (dI p (tbS s)).isSome = true then iN 1 else iN 0), σ) := by
  have t5 := hw.1.2.2
  have e0 := hv.tb hw
  have f1 := r_in (p := p) (lo := iN 0) (hi := iN (tbS s) - iN 1) (σ := σ)
  rw [btw_dI (by omega)] at f1
  unfold F_X6_isTable
  cases e : (dI p (tbS s)).isSome
  · rw [e] at f1
    have f1 : F_X6_in p (iN 0) (iN (tbS s) - iN 1) σ = some (.inl (iN 0), σ) := f1
    simp (disch := omega) only [↓ite_ap, if_true, if_false, if_pos, if_neg, retM_ap, retZ_ap0, retZ_ap1, gM_ap, sM_ap, jM_ap, bI_ap, bL_ap, bD_ap, rdM_ap, wrM_ap, thrM_ap, nl_0, nl_1, e0, ↓invM_l f1, Bool.false_eq_true]
  · rw [e] at f1
    have f1 : F_X6_in p (iN 0) (iN (tbS s) - iN 1) σ = some (.inl (iN 1), σ) := f1
    simp (disch := omega) only [↓ite_ap, if_true, if_false, if_pos, if_neg, retM_ap, retZ_ap0, retZ_ap1, gM_ap, sM_ap, jM_ap, bI_ap, bL_ap, bD_ap, rdM_ap, wrM_ap, thrM_ap, nl_0, nl_1, e0, ↓invM_l f1]
theorem r_isSquare {p0 p1 p2 : Int32} {s : Sv} {σ : Mm} (hw : WF s) (hv : Vw 169 s σ) : F_X6_isSquare p0 p1 p2 σ = some (.inl (if (sqO s p0 p1 p2).isSome = true then iN 1 else iN 0), σ) := by
  have t5 := hw.1.2.2
  have ft := r_isTable (p := p0) hw hv
  unfold F_X6_isSquare sqO
  cases e0 : dI p0 (tbS s) with
  | none =>
    rw [e0] at ft
    have ft : F_X6_isTable 169 1137 p0 σ = some (.inl (iN 0), σ) := ft
    simp (disch := omega) only [↓ite_ap, if_true, if_false, if_pos, if_neg, retM_ap, retZ_ap0, retZ_ap1, gM_ap, sM_ap, jM_ap, bI_ap, bL_ap, bD_ap, rdM_ap, wrM_ap, thrM_ap, nl_0, nl_1, ↓invM_l ft, Option.isSome_none, Bool.false_eq_true]
  | some t =>
    rw [e0] at ft
    have ft : F_X6_isTable 169 1137 p0 σ = some (.inl (iN 1), σ) := ft
    rcases dI_cases p0 (tbS s) with ⟨t', a1, a2, a3, a4⟩ | ⟨_, a4⟩ | ⟨_, _, _, _, a4⟩
    · rw [e0] at a4
      injection a4 with a4
      subst a4 a2
      have w := hw.2.2.1 t a3
      have e1 := hv.ro hw a3
      have e2 := hv.co hw a3
      have f1 := r_in (p := p1) (lo := iN 0) (hi := iN (roS s t) - iN 1) (σ := σ)
      have f2 := r_in (p := p2) (lo := iN 0) (hi := iN (coS s t) - iN 1) (σ := σ)
      rw [btw_dI (by omega)] at f1 f2
      cases d1 : dI p1 (roS s t) with
      | none =>
        rw [d1] at f1
        have f1 : F_X6_in p1 (iN 0) (iN (roS s t) - iN 1) σ = some (.inl (iN 0), σ) := f1
        simp (disch := omega) only [↓ite_ap, if_true, if_false, if_pos, if_neg, retM_ap, retZ_ap0, retZ_ap1, gM_ap, sM_ap, jM_ap, bI_ap, bL_ap, bD_ap, rdM_ap, wrM_ap, thrM_ap, nl_0, nl_1, nl_2, nl_7, iN_add, iN_eq, ↓invM_l ft, e1, ↓invM_l f1, d1, Option.isSome_none, Bool.false_eq_true]
      | some r =>
        rw [d1] at f1
        have f1 : F_X6_in p1 (iN 0) (iN (roS s t) - iN 1) σ = some (.inl (iN 1), σ) := f1
        cases d2 : dI p2 (coS s t) with
        | none =>
          rw [d2] at f2
          have f2 : F_X6_in p2 (iN 0) (iN (coS s t) - iN 1) σ = some (.inl (iN 0), σ) := f2
          simp (disch := omega) only [↓ite_ap, if_true, if_false, if_pos, if_neg, retM_ap, retZ_ap0, retZ_ap1, gM_ap, sM_ap, jM_ap, bI_ap, bL_ap, bD_ap, rdM_ap, wrM_ap, thrM_ap, nl_0, nl_1, nl_2, nl_7, iN_add, iN_eq, ↓invM_l ft, e1, e2, ↓invM_l f1, ↓invM_l f2, d1, d2, Option.isSome_none, Bool.false_eq_true]
        | some c =>
          rw [d2] at f2
          have f2 : F_X6_in p2 (iN 0) (iN (coS s t) - iN 1) σ = some (.inl (iN 1), σ) := f2
          simp (disch := omega) only [↓ite_ap, if_true, if_false, if_pos, if_neg, retM_ap, retZ_ap0, retZ_ap1, gM_ap, sM_ap, jM_ap, bI_ap, bL_ap, bD_ap, rdM_ap, wrM_ap, thrM_ap, nl_0, nl_1, nl_2, nl_7, iN_add, iN_eq, ↓invM_l ft, e1, e2, ↓invM_l f1, ↓invM_l f2, d1, d2, Option.isSome_some]
    · rw [e0] at a4
      cases a4
    · rw [e0] at a4
      cases a4
theorem r_squareO {p0 p1 p2 : Int32} {q : Nat} {s : Sv} {σ : Mm} (hw : WF s) (h : sqO s p0 p1 p2 = some q) : F_X6_square p0 p1 p2 σ = some (.inl (iN q), σ) := by
  obtain ⟨t, r, c, a1, a2, a3, _, _, _, _, _, e, _⟩ := sqO_some hw h
  subst a1 a2 a3
  rw [r_square, e, show 25 * t + 5 * r + c = t * 25 + r * 5 + c by omega]
theorem r_fails {c : Nat} {σ : Mm} : F_X6_fails (iN c) σ = some (.inl (iN 0), upM σ 168 6 (iN c)) := by
  unfold F_X6_fails
  simp only [↓ite_ap, if_true, if_false, if_pos, if_neg, retM_ap, retZ_ap0, retZ_ap1, gM_ap, sM_ap, jM_ap, bI_ap, bL_ap, bD_ap, rdM_ap, wrM_ap, thrM_ap, nl_0]
theorem b_fails {c : Nat} {K : Int32 → Dm Int32} {σ : Mm} : invM (F_X6_fails (iN c)) K σ = K (iN 0) (upM σ 168 6 (iN c)) := invM_l r_fails
