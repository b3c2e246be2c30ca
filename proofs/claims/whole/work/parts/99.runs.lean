/-! RUN: ORDER BY ORDER -/
/-- what an order does to the sheet -/
def doS (s : Sv) (x1 x2 x3 x4 x5 : Int32) (s' : Sv) : Prop := mpC s x1 x2 x3 x4 x5 = 0 ∧ ∃ q kind, sqO s x1 x2 x3 = some q ∧ x4 = iN kind ∧ mayP s q ∧ okP kind x5 ∧ q < 125 ∧ s' = puS s q kind x5
theorem do_cases {s : Sv} {x1 x2 x3 x4 x5 : Int32} (hw : WF s) : (mpC s x1 x2 x3 x4 x5 ≠ 0) ∨ ∃ s', doS s x1 x2 x3 x4 x5 s' := by
  cases e : sqO s x1 x2 x3 with
  | none =>
    refine .inl ?_
    unfold mpC
    rw [e]
    show (1 : Nat) ≠ 0
    omega
  | some q =>
    have em : mpC s x1 x2 x3 x4 x5 = if okB x4 x5 = true then (if mayB s q = true then 0 else 3) else 2 := by unfold mpC; rw [e]
    cases ek : okB x4 x5
    · refine .inl ?_
      rw [em, ek, if_neg (by decide)]
      omega
    · cases eb : mayB s q
      · refine .inl ?_
        rw [em, ek, if_pos rfl, eb, if_neg (by decide)]
        omega
      · obtain ⟨kind, e4, hok⟩ := ok_P ek
        obtain ⟨t, r, c, _, _, _, _, _, _, _, _, _, hq, _⟩ := sqO_some hw e
        refine .inr ⟨_, ?_, q, kind, e, e4, may_P eb, hok, isOf_lt hw hq, rfl⟩
        rw [em, ek, if_pos rfl, eb, if_pos rfl]
theorem do_WF {s s' : Sv} {x1 x2 x3 x4 x5 : Int32} (hw : WF s) (h : doS s x1 x2 x3 x4 x5 s') (hz : ∀ j, 1137 ≤ j → s j = iN 0) : WF s' ∧ ∀ j, 1137 ≤ j → s' j = iN 0 := by
  obtain ⟨_, q, kind, h1, h2, h3, h4, h5, h6⟩ := h
  rw [h6]
  exact ⟨pu_WF hw h3 h4, fun j hj => pu_z h5 hz hj⟩
section Fill
variable {C : Nat → Nat} {L p p' : Nat} {σ : Mm} {s s' : Sv} {x1 x2 x3 x4 x5 : Int32}
/-- the order that the text tells -/
def toldO (C : Nat → Nat) (p p' : Nat) (x1 x2 x3 x4 x5 : Int32) : Prop := x1 = iN (C p - 48) ∧ x2 = iN (C (p + 2) - 49) ∧ x3 = iN (C (p + 1) - 97) ∧ x4 = iN (kdA (C (p + 3))) ∧ x5 = numA C p p'
theorem sqI_lt (hw : WF s) {q : Nat} (e : sqO s x1 x2 x3 = some q) : sqI s x1 x2 x3 = iN q ∧ isOf s q ∧ q < 125 := by
  obtain ⟨t, r, c, _, _, _, _, _, _, _, _, _, hq, _⟩ := sqO_some hw e
  refine ⟨?_, hq, isOf_lt hw hq⟩
  unfold sqI
  rw [e]
theorem f_fillBy0 (hw : WF s) (hr : Rel 2 s σ) (hT : CT5 C L σ) (hs : sgO C p p') (hp : p' ≤ L) (ht : toldO C p p' x1 x2 x3 x4 x5) (hm : mpC s x1 x2 x3 x4 x5 ≠ 0) : F_X5_fillByOrder (iN p) (iN p') σ = some (.inl (iN 0), σ) := by
  obtain ⟨t1, t2, t3, t4, t5⟩ := ht
  have a1 := f_tableAt hT hs hp
  have a2 := f_rowAt hT hs hp
  have a3 := f_columnAt hT hs hp
  have a4 := f_kindAt hT hs hp
  have a5 := f_numberAt hT hs hp
  rw [← t1] at a1
  rw [← t2] at a2
  rw [← t3] at a3
  rw [← t4] at a4
  rw [← t5] at a5
  have fq := f_squareAt (p0 := x1) (p1 := x2) (p2 := x3) hw hr
  unfold F_X5_fillByOrder
  rw [invM_l a1, invM_l a2, invM_l a3, invM_l fq, invM_l a4, invM_l a5]
  clear a1 a2 a3 a4 a5 t1 t2 t3 t4 t5 hs hT
  cases e : sqO s x1 x2 x3 with
  | none =>
    have : sqI s x1 x2 x3 = -1 := by
      unfold sqI
      rw [e]
      rfl
    rw [if_pos this]
    rfl
  | some q =>
    obtain ⟨e1, e2, e3⟩ := sqI_lt hw e
    have fk := f_isContent (p := x4) (num := x5) (σ := σ)
    have ff := f_canFill hw hr e2
    have em : mpC s x1 x2 x3 x4 x5 = if okB x4 x5 = true then (if mayB s q = true then 0 else 3) else 2 := by unfold mpC; rw [e]
    rw [e1, nm_1, if_neg (by rw [iN_mI (by omega)]; exact id)]
    cases ek : okB x4 x5
    · rw [ek, if_neg (by decide)] at fk
      rw [invM_l fk, nl_0, if_pos rfl]
      rfl
    · rw [ek, if_pos rfl] at fk
      rw [invM_l fk, nl_0, if_neg (by rw [iN_eq (by omega) (by omega)]; omega)]
      cases eb : mayB s q
      · rw [eb, if_neg (by decide)] at ff
        rw [invM_l ff, if_pos rfl]
        rfl
      · rw [em, ek, if_pos rfl, eb, if_pos rfl] at hm
        exact absurd rfl hm
theorem f_fillBy1 (hw : WF s) (hr : Rel 2 s σ) (hT : CT5 C L σ) (hs : sgO C p p') (hp : p' ≤ L) (ht : toldO C p p' x1 x2 x3 x4 x5) (hm : doS s x1 x2 x3 x4 x5 s') : ∃ σ1, F_X5_fillByOrder (iN p) (iN p') σ = some (.inl (iN 1), σ1) ∧ Rel 2 s' σ1 ∧ ∀ k, ¬ (2 ≤ k ∧ k ≤ 16) → σ1 k = σ k := by
  obtain ⟨t1, t2, t3, t4, t5⟩ := ht
  obtain ⟨m0, q, kind, e, m1, m2, m3, m4, m5⟩ := hm
  have a1 := f_tableAt hT hs hp
  have a2 := f_rowAt hT hs hp
  have a3 := f_columnAt hT hs hp
  have a4 := f_kindAt hT hs hp
  have a5 := f_numberAt hT hs hp
  rw [← t1] at a1
  rw [← t2] at a2
  rw [← t3] at a3
  rw [← t4] at a4
  rw [← t5] at a5
  have fq := f_squareAt (p0 := x1) (p1 := x2) (p2 := x3) hw hr
  obtain ⟨e1, e2, e3⟩ := sqI_lt hw e
  have fk := f_isContent (p := x4) (num := x5) (σ := σ)
  have ff := f_canFill hw hr e2
  have em : mpC s x1 x2 x3 x4 x5 = if okB x4 x5 = true then (if mayB s q = true then 0 else 3) else 2 := by unfold mpC; rw [e]
  rw [em] at m0
  have ek : okB x4 x5 = true := by
    cases ek : okB x4 x5
    · rw [ek, if_neg (by decide)] at m0
      omega
    · rfl
  rw [ek, if_pos rfl] at m0
  have eb : mayB s q = true := by
    cases eb : mayB s q
    · rw [eb, if_neg (by decide)] at m0
      omega
    · rfl
  rw [ek, if_pos rfl] at fk
  rw [eb, if_pos rfl] at ff
  obtain ⟨σ1, c1, c2, c3⟩ := f_fill (b := 2) hw hr m2 m3
  rw [← m1] at c1
  rw [m5]
  refine ⟨σ1, ?_, c2, c3⟩
  unfold F_X5_fillByOrder
  rw [invM_l a1, invM_l a2, invM_l a3, invM_l fq, invM_l a4, invM_l a5, e1, nm_1, if_neg (by rw [iN_mI (by omega)]; exact id), invM_l fk, nl_0, if_neg (by rw [iN_eq (by omega) (by omega)]; omega), invM_l ff, if_neg (by rw [iN_eq (by omega) (by omega)]; omega), invM_l c1]
  rfl
end Fill
section Does
variable {i : Nat} {m : Mm} {s s' : Sv} {x1 x2 x3 x4 x5 : Int32}
def toldR (m : Mm) (i : Nat) (x1 x2 x3 x4 x5 : Int32) : Prop := m 173 (5 * i) = x1 ∧ m 173 (5 * i + 1) = x2 ∧ m 173 (5 * i + 2) = x3 ∧ m 173 (5 * i + 3) = x4 ∧ m 173 (5 * i + 4) = x5
theorem r_does0 (hw : WF s) (hv : Vw 169 s m) (hi : i < 15) (ht : toldR m i x1 x2 x3 x4 x5) (hm : mpC s x1 x2 x3 x4 x5 ≠ 0) : F_X6_does (iN i) m = some (.inl (iN 0), m) := by
  obtain ⟨t1, t2, t3, t4, t5⟩ := ht
  have fm := r_mayPut (p0 := x1) (p1 := x2) (p2 := x3) (p3 := x4) (p4 := x5) hw hv
  have hb : mpC s x1 x2 x3 x4 x5 ≤ 3 := by
    unfold mpC
    cases e : sqO s x1 x2 x3 with
    | none =>
      show (1 : Nat) ≤ 3
      omega
    | some q =>
      show (if okB x4 x5 = true then (if mayB s q = true then 0 else 3) else 2) ≤ 3
      cases ek : okB x4 x5
      · rw [if_neg (by decide)]; omega
      · rw [if_pos rfl]
        cases eb : mayB s q
        · rw [if_neg (by decide)]; omega
        · rw [if_pos rfl]; omega
  unfold F_X6_does
  simp (disch := omega) only [↓ite_ap, if_true, if_false, if_pos, if_neg, retM_ap, retZ_ap0, retZ_ap1, gM_np, sM_ap, jM_np, bI_ap, bL_ap, bD_ap, rdM_ap, wrM_ap, thrM_ap, nl_0, nl_1, nl_2, nl_3, nl_4, nl_5, nl_6, nl_7, nl_8, nl_9, nl_10, nl_11, nl_12, nl_13, nl_25, nl_33, nl_35, nl_45, nl_48, nl_49, nl_50, nl_52, nl_53, nl_57, nl_59, nl_60, nl_61, nl_77, nl_94, nl_97, nl_100, nl_101, nl_119, nl_125, nl_126, nl_137, nl_262, nl_387, nl_500, nl_512, nl_637, nl_999, nl_1022, nl_1137, nl_5685, nm_1b, iN_mI, mI_iN, iN_add, iN_mul, iN_sub, iN_div, iN_rem, iN_lt, iN_le, iN_eq, iN_nat, inB_iN, t1, t2, t3, t4, t5, ↓invM_l fm]
theorem r_does1 (hw : WF s) (hv : Vw 169 s m) (hi : i < 15) (ht : toldR m i x1 x2 x3 x4 x5) (hm : doS s x1 x2 x3 x4 x5 s') : ∃ m1, F_X6_does (iN i) m = some (.inl (iN 1), m1) ∧ Vw 169 s' m1 ∧ ∀ k, k ≠ 169 → m1 k = m k := by
  obtain ⟨t1, t2, t3, t4, t5⟩ := ht
  obtain ⟨m0, q, kind, e, e4, m2, m3, m4, m5⟩ := hm
  have fm := r_mayPut (p0 := x1) (p1 := x2) (p2 := x3) (p3 := x4) (p4 := x5) hw hv
  rw [m0] at fm
  have fs := r_squareO (σ := m) hw e
  obtain ⟨m1, c1, c2, c3⟩ := r_puts hw hv m2 m3
  rw [← e4] at c1
  rw [m5]
  refine ⟨m1, ?_, c2, c3⟩
  unfold F_X6_does
  simp (disch := omega) only [↓ite_ap, if_true, if_false, if_pos, if_neg, retM_ap, retZ_ap0, retZ_ap1, gM_np, sM_ap, jM_np, bI_ap, bL_ap, bD_ap, rdM_ap, wrM_ap, thrM_ap, nl_0, nl_1, nl_2, nl_3, nl_4, nl_5, nl_6, nl_7, nl_8, nl_9, nl_10, nl_11, nl_12, nl_13, nl_25, nl_33, nl_35, nl_45, nl_48, nl_49, nl_50, nl_52, nl_53, nl_57, nl_59, nl_60, nl_61, nl_77, nl_94, nl_97, nl_100, nl_101, nl_119, nl_125, nl_126, nl_137, nl_262, nl_387, nl_500, nl_512, nl_637, nl_999, nl_1022, nl_1137, nl_5685, nm_1b, iN_mI, mI_iN, iN_add, iN_mul, iN_sub, iN_div, iN_rem, iN_lt, iN_le, iN_eq, iN_nat, inB_iN, t1, t2, t3, t4, t5, ↓invM_l fm, ↓invM_l fs, ↓invM_l c1]
end Does
theorem TO.told {C : Nat → Nat} {m : Mm} {i p p' : Nat} (h : TO C m i p p') : ∃ x1 x2 x3 x4 x5, toldO C p p' x1 x2 x3 x4 x5 ∧ toldR m i x1 x2 x3 x4 x5 :=
  ⟨_, _, _, _, _, ⟨rfl, rfl, rfl, rfl, rfl⟩, h⟩
theorem f_walk {C : Nat → Nat} {L i p : Nat} {k1 k2 : Int32 → Dm Int32} {σ : Mm} (hT : CT5 C L σ) : ∀ d x n, x + d ≤ L → (∀ j, x ≤ j → j < x + d → C j ≠ 59) → L_X5_run_35 (n + d) (iN i) (iN p) (iN x) k1 k2 σ = L_X5_run_35 n (iN i) (iN p) (iN (x + d)) k1 k2 σ
  | 0, x, n, h1, h2 => rfl
  | d + 1, x, n, h1, h2 => by
    have hL := hT.1
    have e1 := hT.2.1
    have fe := f_isOrderEnd hT (x := x) (by omega)
    rw [if_neg (fun y => y.elim (by omega) (h2 x (Nat.le_refl _) (by omega)))] at fe
    have ih := f_walk (i := i) (p := p) (k1 := k1) (k2 := k2) hT d (x + 1) n (by omega) (fun j u v => h2 j (by omega) (by omega))
    rw [← Nat.add_assoc n d 1]
    simp only [L_X5_run_35]
    rw [show x + (d + 1) = x + 1 + d by omega, ← ih]
    clear ih h2
    simp (disch := omega) only [↓ite_ap, if_true, if_false, if_pos, if_neg, retM_ap, retZ_ap0, retZ_ap1, gM_np, sM_ap, jM_np, bI_ap, bL_ap, bD_ap, rdM_ap, wrM_ap, thrM_ap, nl_0, nl_1, nl_2, nl_3, nl_4, nl_5, nl_6, nl_7, nl_8, nl_9, nl_10, nl_11, nl_12, nl_13, nl_25, nl_33, nl_35, nl_45, nl_48, nl_49, nl_50, nl_52, nl_53, nl_57, nl_59, nl_60, nl_61, nl_77, nl_94, nl_97, nl_100, nl_101, nl_119, nl_125, nl_126, nl_137, nl_262, nl_387, nl_500, nl_512, nl_637, nl_999, nl_1022, nl_1137, nl_5685, nm_1b, iN_mI, mI_iN, iN_add, iN_mul, iN_sub, iN_div, iN_rem, iN_lt, iN_le, iN_eq, iN_nat, inB_iN, e1, ↓invM_l fe]
