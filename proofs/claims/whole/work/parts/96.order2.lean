/-! TEXTS: ONE ORDER, ITS KIND -/
def kindK (x7 : Int32) : Dm Int32 := (if x7 = (-1 : Int32) then invM (F_X6_stops) fun x21 => retZ x21 else gM (fun σ => σ 168 7) fun x8 => sM 168 7 (x8 + (1 : Int32)) <| gM (fun σ => σ 168 11) fun x9 => wrM 173 75 (((5 : Int32) * x9) + (3 : Int32)) x7 <| gM (fun σ => σ 168 11) fun x10 => wrM 173 75 (((5 : Int32) * x10) + (4 : Int32)) (0 : Int32) <| jM (fun (_ : Unit) => numT x7) fun k3 => (if x7 = (1 : Int32) then k3 () else (if x7 = (2 : Int32) then k3 () else retZ (1 : Int32))))
def okK (C : Nat → Nat) (L k kind p p' : Nat) (m' : Mm) : Prop := p + 4 ≤ p' ∧ (∃ e, 7 ≤ e ∧ e ≤ 10 ∧ EqA C L p e p' ∧ (p' < L → C p' ≠ 59 → exA e (C p') = none)) ∧ m' 173 (5 * k + 3) = iN kind ∧ m' 173 (5 * k + 4) = numA C p p' ∧ ∀ j, p + 4 ≤ j → j < p' → C j = 45 ∨ (48 ≤ C j ∧ C j ≤ 57)
theorem r_kindK {C : Nat → Nat} {L k kind p q e0 : Nat} {m : Mm} (hkd : (kind = 1 ∧ e0 = 4) ∨ (kind = 2 ∧ e0 = 6) ∨ ((kind = 0 ∨ (4 ≤ kind ∧ kind ≤ 6)) ∧ e0 = 10)) (hk : k ≤ 12) (hq : q = p + 3) (hql : q < L) (h : PS C L m q k) (hE : EqA C L p 3 q) (hc : ctA (C q) = some e0) : ∃ m' p' b, kindK (iN kind) m = some (.inl (iN b), m') ∧ PS C L m' p' k ∧ FrP k m m' ∧ (∀ j, j ≠ 5 * k + 4 → j ≠ 5 * k + 3 → m' 173 j = m 173 j) ∧ ((b = 0 ∧ badO C L p p' m') ∨ (b = 1 ∧ okK C L k kind p p' m')) := by
  have h0 := h
  obtain ⟨e1, e2, e3, hL, hp, hC⟩ := h
  obtain ⟨m1, hm1⟩ : ∃ m1, m1 = upM (upM (upM m 168 7 (iN (q + 1))) 173 (5 * k + 3) (iN kind)) 173 (5 * k + 4) (iN 0) := ⟨_, rfl⟩
  have fr1 : FrP k m m1 := fun k' j a b => by rw [hm1, upM_q (by omega), upM_q (by omega), upM_q (by omega)]
  have ps1 : PS C L m1 (q + 1) k := h0.fr (by rw [hm1, upM_q (by omega), upM_q (by omega), upM_at]) (by omega) fr1
  have t3 : m1 173 (5 * k + 3) = iN kind := by rw [hm1, upM_q (by omega), upM_at]
  have t4 : m1 173 (5 * k + 4) = iN 0 := by rw [hm1, upM_at]
  have tj : ∀ j, j ≠ 5 * k + 4 → j ≠ 5 * k + 3 → m1 173 j = m 173 j := fun j a b => by rw [hm1, upM_q (by omega), upM_q (by omega), upM_q (by omega)]
  have ex : exA 3 (C q) = some e0 := by
    unfold exA
    rw [if_neg (by omega)]
    exact hc
  have hE1 : EqA C L p e0 (q + 1) := hE.s hql ex
  have e21 : upM m 168 7 (iN (q + 1)) 168 11 = iN k := by rw [upM_q (by omega)]; exact e2
  have e22 : upM (upM m 168 7 (iN (q + 1))) 173 (5 * k + 3) (iN kind) 168 11 = iN k := by rw [upM_q (by omega)]; exact e21
  have fin : ∀ e0, (kind = 1 ∧ e0 = 4) ∨ (kind = 2 ∧ e0 = 6) → EqA C L p e0 (q + 1) → kindK (iN kind) m = numT (iN kind) m1 → ∃ m' p' b, kindK (iN kind) m = some (.inl (iN b), m') ∧ PS C L m' p' k ∧ FrP k m m' ∧ (∀ j, j ≠ 5 * k + 4 → j ≠ 5 * k + 3 → m' 173 j = m 173 j) ∧ ((b = 0 ∧ badO C L p p' m') ∨ (b = 1 ∧ okK C L k kind p p' m')) := by
    intro e0 hkd hE1 hz
    obtain ⟨m', p', b, z, a1, a2, a3, a4⟩ := r_numT hkd hk (show q + 1 = p + 4 by omega) ps1 hE1
    refine ⟨m', p', b, hz.trans z, a1, fr1.trans a2, fun j x y => by rw [a3 j x, tj j x y], ?_⟩
    rcases a4 with a4 | ⟨b1, b2, b3, b4, b5⟩
    · exact .inl a4
    · exact .inr ⟨b1, by omega, b3, by rw [a3 _ (by omega)]; exact t3, b4, fun j x y => b5 j (by omega) y⟩
  rcases hkd with ⟨k1, k2⟩ | ⟨k1, k2⟩ | ⟨k1, k2⟩
  · subst k1
    refine fin e0 (.inl ⟨rfl, k2⟩) hE1 ?_
    clear fin
    unfold kindK
    simp (disch := omega) only [↓ite_ap, if_true, if_false, if_pos, if_neg, retM_ap, retZ_ap0, retZ_ap1, gM_np, sM_ap, jM_np, bI_ap, bL_ap, bD_ap, rdM_ap, wrM_ap, thrM_ap, nl_0, nl_1, nl_2, nl_3, nl_4, nl_5, nl_6, nl_7, nl_8, nl_9, nl_10, nl_11, nl_12, nl_13, nl_25, nl_33, nl_35, nl_45, nl_48, nl_49, nl_50, nl_52, nl_53, nl_57, nl_59, nl_60, nl_61, nl_77, nl_94, nl_97, nl_100, nl_101, nl_119, nl_125, nl_126, nl_137, nl_262, nl_387, nl_500, nl_512, nl_637, nl_999, nl_1022, nl_1137, nl_5685, nm_1b, iN_mI, mI_iN, iN_add, iN_mul, iN_sub, iN_div, iN_rem, iN_lt, iN_le, iN_eq, iN_nat, inB_iN, e1, e2, e21, e22, ← hm1]
  · subst k1
    refine fin e0 (.inr ⟨rfl, k2⟩) hE1 ?_
    clear fin
    unfold kindK
    simp (disch := omega) only [↓ite_ap, if_true, if_false, if_pos, if_neg, retM_ap, retZ_ap0, retZ_ap1, gM_np, sM_ap, jM_np, bI_ap, bL_ap, bD_ap, rdM_ap, wrM_ap, thrM_ap, nl_0, nl_1, nl_2, nl_3, nl_4, nl_5, nl_6, nl_7, nl_8, nl_9, nl_10, nl_11, nl_12, nl_13, nl_25, nl_33, nl_35, nl_45, nl_48, nl_49, nl_50, nl_52, nl_53, nl_57, nl_59, nl_60, nl_61, nl_77, nl_94, nl_97, nl_100, nl_101, nl_119, nl_125, nl_126, nl_137, nl_262, nl_387, nl_500, nl_512, nl_637, nl_999, nl_1022, nl_1137, nl_5685, nm_1b, iN_mI, mI_iN, iN_add, iN_mul, iN_sub, iN_div, iN_rem, iN_lt, iN_le, iN_eq, iN_nat, inB_iN, e1, e2, e21, e22, ← hm1]
  · subst k2
    refine ⟨m1, q + 1, 1, ?_, ps1, fr1, tj, .inr ⟨rfl, by omega, ⟨10, by omega, by omega, hE1, fun a b => ?_⟩, t3, ?_, fun j a b => by omega⟩⟩
    · clear fin
      have kk : ∀ n, kind = n → kindK (iN kind) m = some (.inl (iN 1), m1) := by
        intro n hn
        have hn6 : n = 0 ∨ n = 4 ∨ n = 5 ∨ n = 6 := by omega
        unfold kindK
        rcases hn6 with g | g | g | g
        all_goals
          rw [g] at hn
          rw [hn] at e22 hm1 ⊢
          simp (disch := omega) only [↓ite_ap, if_true, if_false, if_pos, if_neg, retM_ap, retZ_ap0, retZ_ap1, gM_np, sM_ap, jM_np, bI_ap, bL_ap, bD_ap, rdM_ap, wrM_ap, thrM_ap, nl_0, nl_1, nl_2, nl_3, nl_4, nl_5, nl_6, nl_7, nl_8, nl_9, nl_10, nl_11, nl_12, nl_13, nl_25, nl_33, nl_35, nl_45, nl_48, nl_49, nl_50, nl_52, nl_53, nl_57, nl_59, nl_60, nl_61, nl_77, nl_94, nl_97, nl_100, nl_101, nl_119, nl_125, nl_126, nl_137, nl_262, nl_387, nl_500, nl_512, nl_637, nl_999, nl_1022, nl_1137, nl_5685, nm_1b, iN_mI, mI_iN, iN_add, iN_mul, iN_sub, iN_div, iN_rem, iN_lt, iN_le, iN_eq, iN_nat, inB_iN, e1, e2, e21, e22, ← hm1]
      exact kk kind rfl
    · unfold exA
      rw [if_neg (by omega)]
      rfl
    · rw [t4]
      unfold numA
      rw [if_neg (by omega), show q + 1 - (p + 4) = 0 by omega]
      rfl
/-- the order's kind and what follows -/
def kinT : Dm Int32 := gM (fun σ => σ 168 7) fun x4 => gM (fun σ => σ 168 5) fun x5 => jM (fun (x6 : Int32) => jM (fun (x7 : Int32) => kindK x7) fun k2 => (if x6 = (61 : Int32) then k2 (1 : Int32) else (if x6 = (119 : Int32) then k2 (2 : Int32) else (if x6 = (94 : Int32) then k2 (4 : Int32) else (if x6 = (60 : Int32) then k2 (5 : Int32) else (if x6 = (35 : Int32) then k2 (6 : Int32) else (if x6 = (33 : Int32) then k2 (0 : Int32) else k2 (-1 : Int32)))))))) fun k1 => (if x5 ≤ x4 then k1 (0 : Int32) else gM (fun σ => σ 168 7) fun x22 => rdM 172 60 x22 fun x23 => k1 x23)
theorem r_kinT {C : Nat → Nat} {L k p q : Nat} {m : Mm} (hk : k ≤ 12) (hq : q = p + 3) (h : PS C L m q k) (hE : EqA C L p 3 q) : ∃ m' p' b, kinT m = some (.inl (iN b), m') ∧ PS C L m' p' k ∧ FrP k m m' ∧ (∀ j, j ≠ 5 * k + 4 → j ≠ 5 * k + 3 → m' 173 j = m 173 j) ∧ ((b = 0 ∧ badO C L p p' m') ∨ (b = 1 ∧ C q ≠ 59 ∧ okK C L k (kdA (C q)) p p' m')) := by
  have h0 := h
  obtain ⟨e1, e2, e3, hL, hp, hC⟩ := h
  have bad : ∀ x, kinT m = kindK mI x → x = m → (q < L → ctA (C q) = none) → ∃ m' p' b, kinT m = some (.inl (iN b), m') ∧ PS C L m' p' k ∧ FrP k m m' ∧ (∀ j, j ≠ 5 * k + 4 → j ≠ 5 * k + 3 → m' 173 j = m 173 j) ∧ ((b = 0 ∧ badO C L p p' m') ∨ (b = 1 ∧ C q ≠ 59 ∧ okK C L k (kdA (C q)) p p' m')) := by
    intro x hx hxm hn
    subst hxm
    have fs := r_stops h0
    refine ⟨_, q, 0, hx.trans (by
      unfold kindK
      rw [if_pos (show mI = -1 from rfl)]
      exact (invM_l fs).trans rfl), h0.fr (by rw [upM_q (by omega)]; exact e1) hp (fun k' j a b => upM_q (by omega)), fun k' j a b => upM_q (by omega), fun j a b => upM_q (by omega), .inl ⟨rfl, upM_at, 3, by omega, hE, fun a => ?_⟩⟩
    unfold exA
    rw [if_neg (by omega)]
    exact hn a
  by_cases g : q < L
  · have c := hC q g
    have good : ∀ x e0, kdA (C q) = x → ctA (C q) = some e0 → (x = 1 ∧ e0 = 4) ∨ (x = 2 ∧ e0 = 6) ∨ ((x = 0 ∨ (4 ≤ x ∧ x ≤ 6)) ∧ e0 = 10) → kinT m = kindK (iN x) m → ∃ m' p' b, kinT m = some (.inl (iN b), m') ∧ PS C L m' p' k ∧ FrP k m m' ∧ (∀ j, j ≠ 5 * k + 4 → j ≠ 5 * k + 3 → m' 173 j = m 173 j) ∧ ((b = 0 ∧ badO C L p p' m') ∨ (b = 1 ∧ C q ≠ 59 ∧ okK C L k (kdA (C q)) p p' m')) := by
      intro x e0 hx hc hkd hz
      rw [hx, hz]
      have n59 : C q ≠ 59 := by
        intro y
        rw [y] at hc
        cases hc
      obtain ⟨m', p', b, z, a1, a2, a3, a4⟩ := r_kindK hkd hk hq g h0 hE hc
      exact ⟨m', p', b, z, a1, a2, a3, a4.imp id (fun x => ⟨x.1, n59, x.2⟩)⟩
    have c2 := c.2
    have c1 := c.1
    by_cases g1 : C q = 61
    · refine good 1 4 (by rw [g1]; rfl) (by rw [g1]; rfl) (by omega) ?_
      clear good bad
      unfold kinT
      rw [g1] at c1
      simp (disch := omega) only [↓ite_ap, if_true, if_false, if_pos, if_neg, retM_ap, retZ_ap0, retZ_ap1, gM_np, sM_ap, jM_np, bI_ap, bL_ap, bD_ap, rdM_ap, wrM_ap, thrM_ap, nl_0, nl_1, nl_2, nl_3, nl_4, nl_5, nl_6, nl_7, nl_8, nl_9, nl_10, nl_11, nl_12, nl_13, nl_25, nl_33, nl_35, nl_45, nl_48, nl_49, nl_50, nl_52, nl_53, nl_57, nl_59, nl_60, nl_61, nl_77, nl_94, nl_97, nl_100, nl_101, nl_119, nl_125, nl_126, nl_137, nl_262, nl_387, nl_500, nl_512, nl_637, nl_999, nl_1022, nl_1137, nl_5685, nm_1b, iN_mI, mI_iN, iN_add, iN_mul, iN_sub, iN_div, iN_rem, iN_lt, iN_le, iN_eq, iN_nat, inB_iN, e1, e3, c1]
    by_cases g2 : C q = 119
    · refine good 2 6 (by rw [g2]; rfl) (by rw [g2]; rfl) (by omega) ?_
      clear good bad
      unfold kinT
      rw [g2] at c1
      simp (disch := omega) only [↓ite_ap, if_true, if_false, if_pos, if_neg, retM_ap, retZ_ap0, retZ_ap1, gM_np, sM_ap, jM_np, bI_ap, bL_ap, bD_ap, rdM_ap, wrM_ap, thrM_ap, nl_0, nl_1, nl_2, nl_3, nl_4, nl_5, nl_6, nl_7, nl_8, nl_9, nl_10, nl_11, nl_12, nl_13, nl_25, nl_33, nl_35, nl_45, nl_48, nl_49, nl_50, nl_52, nl_53, nl_57, nl_59, nl_60, nl_61, nl_77, nl_94, nl_97, nl_100, nl_101, nl_119, nl_125, nl_126, nl_137, nl_262, nl_387, nl_500, nl_512, nl_637, nl_999, nl_1022, nl_1137, nl_5685, nm_1b, iN_mI, mI_iN, iN_add, iN_mul, iN_sub, iN_div, iN_rem, iN_lt, iN_le, iN_eq, iN_nat, inB_iN, e1, e3, c1]
    by_cases g3 : C q = 94
    · refine good 4 10 (by rw [g3]; rfl) (by rw [g3]; rfl) (by omega) ?_
      clear good bad
      unfold kinT
      rw [g3] at c1
      simp (disch := omega) only [↓ite_ap, if_true, if_false, if_pos, if_neg, retM_ap, retZ_ap0, retZ_ap1, gM_np, sM_ap, jM_np, bI_ap, bL_ap, bD_ap, rdM_ap, wrM_ap, thrM_ap, nl_0, nl_1, nl_2, nl_3, nl_4, nl_5, nl_6, nl_7, nl_8, nl_9, nl_10, nl_11, nl_12, nl_13, nl_25, nl_33, nl_35, nl_45, nl_48, nl_49, nl_50, nl_52, nl_53, nl_57, nl_59, nl_60, nl_61, nl_77, nl_94, nl_97, nl_100, nl_101, nl_119, nl_125, nl_126, nl_137, nl_262, nl_387, nl_500, nl_512, nl_637, nl_999, nl_1022, nl_1137, nl_5685, nm_1b, iN_mI, mI_iN, iN_add, iN_mul, iN_sub, iN_div, iN_rem, iN_lt, iN_le, iN_eq, iN_nat, inB_iN, e1, e3, c1]
    by_cases g4 : C q = 60
    · refine good 5 10 (by rw [g4]; rfl) (by rw [g4]; rfl) (by omega) ?_
      clear good bad
      unfold kinT
      rw [g4] at c1
      simp (disch := omega) only [↓ite_ap, if_true, if_false, if_pos, if_neg, retM_ap, retZ_ap0, retZ_ap1, gM_np, sM_ap, jM_np, bI_ap, bL_ap, bD_ap, rdM_ap, wrM_ap, thrM_ap, nl_0, nl_1, nl_2, nl_3, nl_4, nl_5, nl_6, nl_7, nl_8, nl_9, nl_10, nl_11, nl_12, nl_13, nl_25, nl_33, nl_35, nl_45, nl_48, nl_49, nl_50, nl_52, nl_53, nl_57, nl_59, nl_60, nl_61, nl_77, nl_94, nl_97, nl_100, nl_101, nl_119, nl_125, nl_126, nl_137, nl_262, nl_387, nl_500, nl_512, nl_637, nl_999, nl_1022, nl_1137, nl_5685, nm_1b, iN_mI, mI_iN, iN_add, iN_mul, iN_sub, iN_div, iN_rem, iN_lt, iN_le, iN_eq, iN_nat, inB_iN, e1, e3, c1]
    by_cases g5 : C q = 35
    · refine good 6 10 (by rw [g5]; rfl) (by rw [g5]; rfl) (by omega) ?_
      clear good bad
      unfold kinT
      rw [g5] at c1
      simp (disch := omega) only [↓ite_ap, if_true, if_false, if_pos, if_neg, retM_ap, retZ_ap0, retZ_ap1, gM_np, sM_ap, jM_np, bI_ap, bL_ap, bD_ap, rdM_ap, wrM_ap, thrM_ap, nl_0, nl_1, nl_2, nl_3, nl_4, nl_5, nl_6, nl_7, nl_8, nl_9, nl_10, nl_11, nl_12, nl_13, nl_25, nl_33, nl_35, nl_45, nl_48, nl_49, nl_50, nl_52, nl_53, nl_57, nl_59, nl_60, nl_61, nl_77, nl_94, nl_97, nl_100, nl_101, nl_119, nl_125, nl_126, nl_137, nl_262, nl_387, nl_500, nl_512, nl_637, nl_999, nl_1022, nl_1137, nl_5685, nm_1b, iN_mI, mI_iN, iN_add, iN_mul, iN_sub, iN_div, iN_rem, iN_lt, iN_le, iN_eq, iN_nat, inB_iN, e1, e3, c1]
    by_cases g6 : C q = 33
    · refine good 0 10 (by rw [g6]; rfl) (by rw [g6]; rfl) (by omega) ?_
      clear good bad
      unfold kinT
      rw [g6] at c1
      simp (disch := omega) only [↓ite_ap, if_true, if_false, if_pos, if_neg, retM_ap, retZ_ap0, retZ_ap1, gM_np, sM_ap, jM_np, bI_ap, bL_ap, bD_ap, rdM_ap, wrM_ap, thrM_ap, nl_0, nl_1, nl_2, nl_3, nl_4, nl_5, nl_6, nl_7, nl_8, nl_9, nl_10, nl_11, nl_12, nl_13, nl_25, nl_33, nl_35, nl_45, nl_48, nl_49, nl_50, nl_52, nl_53, nl_57, nl_59, nl_60, nl_61, nl_77, nl_94, nl_97, nl_100, nl_101, nl_119, nl_125, nl_126, nl_137, nl_262, nl_387, nl_500, nl_512, nl_637, nl_999, nl_1022, nl_1137, nl_5685, nm_1b, iN_mI, mI_iN, iN_add, iN_mul, iN_sub, iN_div, iN_rem, iN_lt, iN_le, iN_eq, iN_nat, inB_iN, e1, e3, c1]
    refine bad m ?_ rfl (fun _ => by
      unfold ctA
      rw [if_neg g6, if_neg g5, if_neg g4, if_neg g1, if_neg g3, if_neg g2])
    clear good bad
    unfold kinT
    simp (disch := omega) only [↓ite_ap, if_true, if_false, if_pos, if_neg, retM_ap, retZ_ap0, retZ_ap1, gM_np, sM_ap, jM_np, bI_ap, bL_ap, bD_ap, rdM_ap, wrM_ap, thrM_ap, nl_0, nl_1, nl_2, nl_3, nl_4, nl_5, nl_6, nl_7, nl_8, nl_9, nl_10, nl_11, nl_12, nl_13, nl_25, nl_33, nl_35, nl_45, nl_48, nl_49, nl_50, nl_52, nl_53, nl_57, nl_59, nl_60, nl_61, nl_77, nl_94, nl_97, nl_100, nl_101, nl_119, nl_125, nl_126, nl_137, nl_262, nl_387, nl_500, nl_512, nl_637, nl_999, nl_1022, nl_1137, nl_5685, nm_1b, iN_mI, mI_iN, iN_add, iN_mul, iN_sub, iN_div, iN_rem, iN_lt, iN_le, iN_eq, iN_nat, inB_iN, e1, e3, c1]
  · refine bad m ?_ rfl (fun x => absurd x g)
    clear bad
    unfold kinT
    simp (disch := omega) only [↓ite_ap, if_true, if_false, if_pos, if_neg, retM_ap, retZ_ap0, retZ_ap1, gM_np, sM_ap, jM_np, bI_ap, bL_ap, bD_ap, rdM_ap, wrM_ap, thrM_ap, nl_0, nl_1, nl_2, nl_3, nl_4, nl_5, nl_6, nl_7, nl_8, nl_9, nl_10, nl_11, nl_12, nl_13, nl_25, nl_33, nl_35, nl_45, nl_48, nl_49, nl_50, nl_52, nl_53, nl_57, nl_59, nl_60, nl_61, nl_77, nl_94, nl_97, nl_100, nl_101, nl_119, nl_125, nl_126, nl_137, nl_262, nl_387, nl_500, nl_512, nl_637, nl_999, nl_1022, nl_1137, nl_5685, nm_1b, iN_mI, mI_iN, iN_add, iN_mul, iN_sub, iN_div, iN_rem, iN_lt, iN_le, iN_eq, iN_nat, inB_iN, e1, e3]
theorem r_isOrder {C : Nat → Nat} {L k p : Nat} {m : Mm} (hk : k ≤ 12) (h : PS C L m p k) : ∃ m' p' b, F_X6_isOrder m = some (.inl (iN b), m') ∧ PS C L m' p' k ∧ FrP k m m' ∧ ((b = 0 ∧ badO C L p p' m') ∨ (b = 1 ∧ goodO C L k p p' m')) := by
  have hE0 : EqA C L p 0 p := ⟨rfl, rfl, Nat.le_refl _, h.2.2.2.2.1⟩
  rcases r_figure (i := 0) (lo := 48) (hi := 52) (e := 0) (e' := 1) h hk (by omega) (by omega) (by omega) (by funext c; rfl) (by omega) hE0 with ⟨m1, a1, a2, a3, a4, a5, a6, a7, a8, a9⟩ | ⟨m1, a1, a2, a3, a4, a5⟩
  · rcases r_figure (i := 2) (lo := 97) (hi := 101) (e := 1) (e' := 2) a5 hk (by omega) (by omega) (by omega) (by funext c; rfl) (by omega) a9 with ⟨m2, b1, b2, b3, b4, b5, b6, b7, b8, b9⟩ | ⟨m2, b1, b2, b3, b4, b5⟩
    · rcases r_figure (i := 1) (lo := 49) (hi := 53) (e := 2) (e' := 3) b5 hk (by omega) (by omega) (by omega) (by funext c; rfl) (by omega) b9 with ⟨m3, d1, d2, d3, d4, d5, d6, d7, d8, d9⟩ | ⟨m3, d1, d2, d3, d4, d5⟩
      · obtain ⟨m', p', b, z, x1, x2, x3, x4⟩ := r_kinT (p := p) hk (by omega) d5 d9
        refine ⟨m', p', b, ?_, x1, ((a6.trans b6).trans d6).trans x2, ?_⟩
        · unfold F_X6_isOrder
          refine (invM_l a1).trans ?_
          rw [nl_0, nl_1, if_neg (by rw [iN_eq (by omega) (by omega)]; omega)]
          refine (invM_l b1).trans ?_
          rw [if_neg (by rw [iN_eq (by omega) (by omega)]; omega)]
          refine (invM_l d1).trans ?_
          rw [if_neg (by rw [iN_eq (by omega) (by omega)]; omega)]
          exact z
        · rcases x4 with x4 | ⟨y1, n59, y2, y3, y4, y5, y6⟩
          · exact .inl x4
          · refine .inr ⟨y1, y3, ⟨?_, ?_, ?_, y4, y5⟩, y2, fun j u v => ?_, a3, a4, b3, b4, d3, d4, y6⟩
            · rw [x3 _ (by omega) (by omega), d8 _ (by omega), b8 _ (by omega)]; exact a7
            · rw [x3 _ (by omega) (by omega)]; exact d7
            · rw [x3 _ (by omega) (by omega), d8 _ (by omega)]; exact b7
            · by_cases w0 : j = p
              · rw [w0]; omega
              by_cases w1 : j = p + 1
              · rw [w1]; omega
              by_cases w2 : j = p + 2
              · rw [w2, show p + 2 = p + 1 + 1 by omega]; omega
              by_cases w3 : j = p + 3
              · rw [w3]; exact n59
              have := y6 j (by omega) v
              omega
      · refine ⟨m3, p + 1 + 1, 0, ?_, d2, (a6.trans b6).trans d3, .inl ⟨rfl, d4, 2, by omega, b9, d5⟩⟩
        unfold F_X6_isOrder
        refine (invM_l a1).trans ?_
        rw [nl_0, nl_1, if_neg (by rw [iN_eq (by omega) (by omega)]; omega)]
        refine (invM_l b1).trans ?_
        rw [if_neg (by rw [iN_eq (by omega) (by omega)]; omega)]
        exact (invM_l d1).trans rfl
    · refine ⟨m2, p + 1, 0, ?_, b2, a6.trans b3, .inl ⟨rfl, b4, 1, by omega, a9, b5⟩⟩
      unfold F_X6_isOrder
      refine (invM_l a1).trans ?_
      rw [nl_0, nl_1, if_neg (by rw [iN_eq (by omega) (by omega)]; omega)]
      exact (invM_l b1).trans rfl
  · refine ⟨m1, p, 0, ?_, a2, a3, .inl ⟨rfl, a4, 0, by omega, hE0, a5⟩⟩
    unfold F_X6_isOrder
    exact (invM_l a1).trans rfl
