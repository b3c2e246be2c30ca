/-! TEXTS: ONE ORDER -/
theorem r_isNumber {C : Nat → Nat} {L k kind p0 q0 p e0 first : Nat} {m : Mm} (hkd : kind = 1 ∨ kind = 2) (hf : first < 1000) (h : PS C L m p k) (hE : EqA C L p0 e0 p) (hq : q0 ≤ p) (hn : nmN C (p - q0) q0 0 = 0) (h48 : 48 ≤ first) (hd : ∀ c, first ≤ c → c ≤ 57 → ∃ e', exA e0 c = some e' ∧ NI kind e' (c - 48)) (hs : p < L → ¬ (first ≤ C p ∧ C p ≤ 57) → exA e0 (C p) = none) : (∃ m' p' e' v', F_X6_isNumber (iN first) (iN (mostN kind)) m = some (.inl (iN 1), m') ∧ PS C L m' p' k ∧ m' 168 9 = iN v' ∧ v' ≤ 999 ∧ p + 1 ≤ p' ∧ 7 ≤ e' ∧ e' ≤ 10 ∧ EqA C L p0 e' p' ∧ nmN C (p' - q0) q0 0 = v' ∧ (∀ j, p ≤ j → j < p' → 48 ≤ C j ∧ C j ≤ 57) ∧ (p' < L → C p' ≠ 59 → exA e' (C p') = none) ∧ (∀ k j, ¬ (k = 168 ∧ (j = 7 ∨ j = 9)) → m' k j = m k j) ∧ first ≤ C p ∧ C p ≤ 57) ∨ (F_X6_isNumber (iN first) (iN (mostN kind)) m = some (.inl (iN 0), upM m 168 8 (iN (if p < L then 1 else 0))) ∧ (p < L → exA e0 (C p) = none)) := by
  have fa := r_isAt (lo := first) (hi := 57) h hf (by omega)
  have fs := r_stops h
  by_cases g : p < L ∧ first ≤ C p ∧ C p ≤ 57
  · rw [if_pos g] at fa
    obtain ⟨e', x1, x2⟩ := hd (C p) g.2.1 g.2.2
    obtain ⟨e1, e2, e3, hL, hp, hC⟩ := h
    have c := hC p g.1
    obtain ⟨m1, hm1⟩ : ∃ m1, m1 = upM (upM m 168 9 (iN (C p - 48))) 168 7 (iN (p + 1)) := ⟨_, rfl⟩
    have f1 : ∀ k j, ¬ (k = 168 ∧ (j = 7 ∨ j = 9)) → m1 k j = m k j := fun k j g => by rw [hm1, upM_q (by omega), upM_q (by omega)]
    have ps1 : PS C L m1 (p + 1) k := ⟨by rw [hm1, upM_at], by rw [f1 _ _ (by omega)]; exact e2, by rw [f1 _ _ (by omega)]; exact e3, hL, by omega, fun j hj => by rw [f1 _ _ (by omega)]; exact hC j hj⟩
    have c45 : C p ≠ 45 := by omega
    have nm1 : nmN C (p + 1 - q0) q0 0 = C p - 48 := by
      rw [show p + 1 - q0 = p - q0 + 1 by omega, nm_s, show q0 + (p - q0) = p by omega, if_neg c45, hn]
      omega
    have he7 : 7 ≤ e' := by unfold NI at x2; omega
    obtain ⟨m', p', e'', v', y1, y2, y3, y4, y5, y6, y7, y8, y9, y10, y11, y12⟩ := r_numLoop (q0 := q0) hkd 4 e' (C p - 48) (p + 1) FU m1 (by omega) (by unfold FU; omega) ps1 (by rw [hm1, upM_q (by omega), upM_at]) x2 (hE.s g.1 x1) (by omega) nm1
    refine .inl ⟨m', p', e'', v', ?_, y2, y3, y4, y5, y6, y7, y8, y9, fun j a b => ?_, y11, fun k j g => by rw [y12 k j g, f1 k j g], g.2⟩
    · have e17 : upM m 168 9 (iN (C p - 48)) 168 7 = iN p := by rw [upM_q (by omega)]; exact e1
      unfold F_X6_isNumber
      simp (disch := omega) only [↓ite_ap, if_true, if_false, if_pos, if_neg, retM_ap, retZ_ap0, retZ_ap1, gM_np, sM_ap, jM_np, bI_ap, bL_ap, bD_ap, rdM_ap, wrM_ap, thrM_ap, nl_0, nl_1, nl_2, nl_3, nl_4, nl_5, nl_6, nl_7, nl_8, nl_9, nl_10, nl_11, nl_12, nl_13, nl_25, nl_33, nl_35, nl_45, nl_48, nl_49, nl_50, nl_52, nl_53, nl_57, nl_59, nl_60, nl_61, nl_77, nl_94, nl_97, nl_100, nl_101, nl_119, nl_125, nl_126, nl_137, nl_262, nl_387, nl_500, nl_512, nl_637, nl_999, nl_1022, nl_1137, nl_5685, nm_1b, iN_mI, mI_iN, iN_add, iN_mul, iN_sub, iN_div, iN_rem, iN_lt, iN_le, iN_eq, iN_nat, inB_iN, ↓invM_l fa, e1, c.1, e17, ← hm1, y1]
    · by_cases g2 : j = p
      · rw [g2]; omega
      · exact y10 j (by omega) b
  · rw [if_neg g] at fa
    refine .inr ⟨?_, fun a => hs a (fun x => g ⟨a, x⟩)⟩
    unfold F_X6_isNumber
    simp (disch := omega) only [↓ite_ap, if_true, if_false, if_pos, if_neg, retM_ap, retZ_ap0, retZ_ap1, gM_np, sM_ap, jM_np, bI_ap, bL_ap, bD_ap, rdM_ap, wrM_ap, thrM_ap, nl_0, nl_1, nl_2, nl_3, nl_4, nl_5, nl_6, nl_7, nl_8, nl_9, nl_10, nl_11, nl_12, nl_13, nl_25, nl_33, nl_35, nl_45, nl_48, nl_49, nl_50, nl_52, nl_53, nl_57, nl_59, nl_60, nl_61, nl_77, nl_94, nl_97, nl_100, nl_101, nl_119, nl_125, nl_126, nl_137, nl_262, nl_387, nl_500, nl_512, nl_637, nl_999, nl_1022, nl_1137, nl_5685, nm_1b, iN_mI, mI_iN, iN_add, iN_mul, iN_sub, iN_div, iN_rem, iN_lt, iN_le, iN_eq, iN_nat, inB_iN, ↓invM_l fa, ↓invM_l fs]
def kdA (c : Nat) : Nat := if c = 61 then 1 else if c = 119 then 2 else if c = 94 then 4 else if c = 60 then 5 else if c = 35 then 6 else 0
def numA (C : Nat → Nat) (p p' : Nat) : Int32 := if p + 4 < p' ∧ C (p + 4) = 45 then -(iN (nmN C (p' - (p + 4)) (p + 4) 0)) else iN (nmN C (p' - (p + 4)) (p + 4) 0)
/-- an order from p to p', as it is told -/
def TO (C : Nat → Nat) (m : Mm) (k p p' : Nat) : Prop := m 173 (5 * k) = iN (C p - 48) ∧ m 173 (5 * k + 1) = iN (C (p + 2) - 49) ∧ m 173 (5 * k + 2) = iN (C (p + 1) - 97) ∧ m 173 (5 * k + 3) = iN (kdA (C (p + 3))) ∧ m 173 (5 * k + 4) = numA C p p'
def sgO (C : Nat → Nat) (p p' : Nat) : Prop := p + 4 ≤ p' ∧ (∀ j, p ≤ j → j < p' → C j ≠ 59) ∧ 48 ≤ C p ∧ C p ≤ 52 ∧ 97 ≤ C (p + 1) ∧ C (p + 1) ≤ 101 ∧ 49 ≤ C (p + 2) ∧ C (p + 2) ≤ 53 ∧ ∀ j, p + 4 ≤ j → j < p' → C j = 45 ∨ (48 ≤ C j ∧ C j ≤ 57)
def badO (C : Nat → Nat) (L p : Nat) (p' : Nat) (m' : Mm) : Prop := m' 168 8 = iN (if p' < L then 1 else 0) ∧ ∃ e, e < 7 ∧ EqA C L p e p' ∧ (p' < L → exA e (C p') = none)
def goodO (C : Nat → Nat) (L k p : Nat) (p' : Nat) (m' : Mm) : Prop := (∃ e, 7 ≤ e ∧ e ≤ 10 ∧ EqA C L p e p' ∧ (p' < L → C p' ≠ 59 → exA e (C p') = none)) ∧ TO C m' k p p' ∧ sgO C p p'
/-- the number, behind the kind 1 or 2 -/
def numT (x7 : Int32) : Dm Int32 := jM (fun (x11 : Int32) => gM (fun σ => σ 168 7) fun x12 => jM (fun (x13 : Int32) => sM 168 7 (x12 + x13) <| jM (fun (x14 : Int32) => jM (fun (x15 : Int32) => invM (F_X6_isNumber x14 x15) fun x16 => (if x16 = 0 then retZ (0 : Int32) else gM (fun σ => σ 168 11) fun x17 => (if x11 = 0 then gM (fun σ => σ 168 9) fun x18 => wrM 173 75 (((5 : Int32) * x17) + (4 : Int32)) x18 <| retZ (1 : Int32) else gM (fun σ => σ 168 9) fun x19 => wrM 173 75 (((5 : Int32) * x17) + (4 : Int32)) (-x19) <| retZ (1 : Int32)))) fun k7 => (if x7 = (2 : Int32) then k7 (12 : Int32) else k7 (999 : Int32))) fun k6 => (if x7 = (2 : Int32) then k6 (49 : Int32) else k6 (48 : Int32))) fun k5 => (if x11 = 0 then k5 (0 : Int32) else k5 (1 : Int32))) fun k4 => jM (fun (_ : Unit) => k4 (0 : Int32)) fun k8 => (if x7 = (1 : Int32) then invM (F_X6_isAt (45 : Int32) (45 : Int32)) fun x20 => (if x20 = 0 then k8 () else k4 (1 : Int32)) else k8 ())
theorem mo1 : mostN 1 = 999 := rfl
theorem mo2 : mostN 2 = 12 := rfl
theorem r_numT {C : Nat → Nat} {L k kind p q e0 : Nat} {m : Mm} (hkd : (kind = 1 ∧ e0 = 4) ∨ (kind = 2 ∧ e0 = 6)) (hk : k ≤ 12) (hq : q = p + 4) (h : PS C L m q k) (hE : EqA C L p e0 q) : ∃ m' p' b, numT (iN kind) m = some (.inl (iN b), m') ∧ PS C L m' p' k ∧ FrP k m m' ∧ (∀ j, j ≠ 5 * k + 4 → m' 173 j = m 173 j) ∧ ((b = 0 ∧ badO C L p p' m') ∨ (b = 1 ∧ q ≤ p' ∧ (∃ e, 7 ≤ e ∧ e ≤ 10 ∧ EqA C L p e p' ∧ (p' < L → C p' ≠ 59 → exA e (C p') = none)) ∧ m' 173 (5 * k + 4) = numA C p p' ∧ ∀ j, q ≤ j → j < p' → C j = 45 ∨ (48 ≤ C j ∧ C j ≤ 57))) := by
  have fm := r_isAt (lo := 45) (hi := 45) h (by omega) (by omega)
  have fin : ∀ (x11 s : Nat) (q1 e1 first : Nat) (m1 : Mm), x11 = s → s < 2 → q1 = q + s → first = (if kind = 2 then 49 else 48) → m1 = upM m 168 7 (iN q1) → PS C L m1 q1 k → EqA C L p e1 q1 → nmN C (q1 - q) q 0 = 0 → (s = 1 ↔ (q < L ∧ kind = 1 ∧ C q = 45)) → (∀ j, q ≤ j → j < q1 → C j = 45 ∨ (48 ≤ C j ∧ C j ≤ 57)) → e1 < 7 → (∀ c, first ≤ c → c ≤ 57 → ∃ e', exA e1 c = some e' ∧ NI kind e' (c - 48)) → (q1 < L → ¬ (first ≤ C q1 ∧ C q1 ≤ 57) → exA e1 (C q1) = none) → ∃ m' p' b, (invM (F_X6_isNumber (iN first) (iN (mostN kind))) fun x16 => (if x16 = (0 : Int32) then retZ (0 : Int32) else gM (fun σ => σ 168 11) fun x17 => (if (iN x11) = (0 : Int32) then gM (fun σ => σ 168 9) fun x18 => wrM 173 75 (((5 : Int32) * x17) + (4 : Int32)) x18 <| retZ (1 : Int32) else gM (fun σ => σ 168 9) fun x19 => wrM 173 75 (((5 : Int32) * x17) + (4 : Int32)) (-x19) <| retZ (1 : Int32)))) m1 = some (.inl (iN b), m') ∧ PS C L m' p' k ∧ FrP k m m' ∧ (∀ j, j ≠ 5 * k + 4 → m' 173 j = m 173 j) ∧ ((b = 0 ∧ badO C L p p' m') ∨ (b = 1 ∧ q ≤ p' ∧ (∃ e, 7 ≤ e ∧ e ≤ 10 ∧ EqA C L p e p' ∧ (p' < L → C p' ≠ 59 → exA e (C p') = none)) ∧ m' 173 (5 * k + 4) = numA C p p' ∧ ∀ j, q ≤ j → j < p' → C j = 45 ∨ (48 ≤ C j ∧ C j ≤ 57))) := by
    intro x11 s q1 e1 first m1 hx hs2 hq1 hfirst hm1 ps1 hE1 hn1 hsg h59 he7 hd hst
    have hf48 : 48 ≤ first ∧ first < 1000 := by
      rw [hfirst]
      by_cases g : kind = 2
      · rw [if_pos g]; omega
      · rw [if_neg g]; omega
    rcases r_isNumber (q0 := q) (by omega) hf48.2 ps1 hE1 (by omega) hn1 hf48.1 hd hst with ⟨m2, p', e', v', y1, y2, y3, y4, y5, y6, y7, y8, y9, y10, y11, y12, y13⟩ | ⟨y1, y2⟩
    · have y211 := y2.2.1
      have num : (if s = 1 then -(iN v') else iN v') = numA C p p' := by
        unfold numA
        rw [← hq, y9]
        by_cases g : s = 1
        · have g2 := hsg.mp g
          rw [if_pos g, if_pos ⟨by omega, g2.2.2⟩]
        · rw [if_neg g]
          by_cases g3 : q < p' ∧ C q = 45
          · exfalso
            have ql : q < L := by have := y2.2.2.2.2.1; omega
            by_cases gk : kind = 1
            · exact g (hsg.mpr ⟨ql, gk, g3.2⟩)
            · have hs0 : q1 = q := by
                have : s ≠ 1 := g
                omega
              rw [hs0, hfirst, if_pos (show kind = 2 by omega)] at y13
              omega
          · rw [if_neg g3]
      refine ⟨upM m2 173 (5 * k + 4) (if s = 1 then -(iN v') else iN v'), p', 1, ?_, ?_, ?_, ?_, .inr ⟨rfl, by omega, ⟨e', y6, y7, y8, y11⟩, by rw [upM_at]; exact num, ?_⟩⟩
      · rw [invM_l y1]
        by_cases g : s = 1
        · rw [if_pos g]
          simp (disch := omega) only [↓ite_ap, if_true, if_false, if_pos, if_neg, retM_ap, retZ_ap0, retZ_ap1, gM_np, sM_ap, jM_np, bI_ap, bL_ap, bD_ap, rdM_ap, wrM_ap, thrM_ap, nl_0, nl_1, nl_2, nl_3, nl_4, nl_5, nl_6, nl_7, nl_8, nl_9, nl_10, nl_11, nl_12, nl_13, nl_25, nl_33, nl_35, nl_45, nl_48, nl_49, nl_50, nl_52, nl_53, nl_57, nl_59, nl_60, nl_61, nl_77, nl_94, nl_97, nl_100, nl_101, nl_119, nl_125, nl_126, nl_137, nl_262, nl_387, nl_500, nl_512, nl_637, nl_999, nl_1022, nl_1137, nl_5685, nm_1b, iN_mI, mI_iN, iN_add, iN_mul, iN_sub, iN_div, iN_rem, iN_lt, iN_le, iN_eq, iN_nat, inB_iN, y211, y3]
        · rw [if_neg g]
          have : x11 = 0 := by omega
          subst this
          simp (disch := omega) only [↓ite_ap, if_true, if_false, if_pos, if_neg, retM_ap, retZ_ap0, retZ_ap1, gM_np, sM_ap, jM_np, bI_ap, bL_ap, bD_ap, rdM_ap, wrM_ap, thrM_ap, nl_0, nl_1, nl_2, nl_3, nl_4, nl_5, nl_6, nl_7, nl_8, nl_9, nl_10, nl_11, nl_12, nl_13, nl_25, nl_33, nl_35, nl_45, nl_48, nl_49, nl_50, nl_52, nl_53, nl_57, nl_59, nl_60, nl_61, nl_77, nl_94, nl_97, nl_100, nl_101, nl_119, nl_125, nl_126, nl_137, nl_262, nl_387, nl_500, nl_512, nl_637, nl_999, nl_1022, nl_1137, nl_5685, nm_1b, iN_mI, mI_iN, iN_add, iN_mul, iN_sub, iN_div, iN_rem, iN_lt, iN_le, iN_eq, iN_nat, inB_iN, y211, y3]
      · exact y2.fr (by rw [upM_q (by omega)]; exact y2.1) y2.2.2.2.2.1 (fun k' j a b => upM_q (by omega))
      · intro k' j a b
        rw [upM_q (by omega), y12 k' j (by omega), hm1, upM_q (by omega)]
      · intro j hj
        rw [upM_q (by omega), y12 _ _ (by omega), hm1, upM_q (by omega)]
      · intro j a b
        by_cases g : j < q1
        · exact h59 j a g
        · exact .inr (y10 j (by omega) b)
    · refine ⟨_, q1, 0, (invM_l y1).trans rfl, ?_, ?_, ?_, .inl ⟨rfl, upM_at, e1, he7, hE1, y2⟩⟩
      · exact ps1.fr (by rw [upM_q (by omega)]; exact ps1.1) ps1.2.2.2.2.1 (fun k' j a b => upM_q (by omega))
      · intro k' j a b
        rw [upM_q (by omega), hm1, upM_q (by omega)]
      · intro j hj
        rw [upM_q (by omega), hm1, upM_q (by omega)]
  have h0 := h
  obtain ⟨e1, e2, e3, hL, hp, hC⟩ := h
  have ps1 : ∀ s, q + s ≤ L → PS C L (upM m 168 7 (iN (q + s))) (q + s) k := fun s hs => h0.fr (by rw [upM_at]) hs (fun k' j a b => upM_q (by omega))
  have fdd : ∀ e, e = 4 ∨ e = 5 → ∀ c, 48 ≤ c → c ≤ 57 → ∃ e', exA e c = some e' ∧ NI 1 e' (c - 48) := by
    intro e he c h1 h2
    have hx : exA e c = fdA c := by
      unfold exA
      rw [if_neg (by omega)]
      rcases he with he | he
      · rw [he]
        show (if c = 45 then some 5 else fdA c) = _
        rw [if_neg (by omega)]
      · rw [he]
        rfl
    rw [hx]
    unfold fdA
    by_cases g : c = 48
    · exact ⟨10, if_pos g, .inl ⟨rfl, .inr (.inr ⟨rfl, .inl (by omega)⟩)⟩⟩
    · refine ⟨7, ?_, .inl ⟨rfl, .inl ⟨rfl, by omega, by omega⟩⟩⟩
      rw [if_neg g]
      unfold rgA
      rw [if_pos (by omega)]
  have fdn : ∀ c, ¬ (48 ≤ c ∧ c ≤ 57) → fdA c = none := by
    intro c hc
    unfold fdA
    rw [if_neg (by omega)]
    unfold rgA
    rw [if_neg (by omega)]
  rcases hkd with ⟨k1, k2⟩ | ⟨k1, k2⟩
  · subst k1
    subst k2
    by_cases g : q < L ∧ 45 ≤ C q ∧ C q ≤ 45
    · rw [if_pos g] at fm
      have g45 : C q = 45 := by omega
      have ex : exA 4 (C q) = some 5 := by rw [g45]; rfl
      obtain ⟨m', p', b, z, rest⟩ := fin 1 1 (q + 1) 5 48 _ rfl (by omega) rfl rfl rfl (ps1 1 (by omega)) (hE.s g.1 ex) (by rw [show q + 1 - q = 0 + 1 by omega, nm_s]; simp only [Nat.add_zero]; rw [if_pos g45]; rfl) ⟨fun _ => ⟨g.1, rfl, g45⟩, fun _ => rfl⟩ (fun j a b => by rw [show j = q by omega]; omega) (by omega) (fdd 5 (.inr rfl)) (fun a b => by
        unfold exA
        rw [if_neg (by omega)]
        exact fdn _ b)
      refine ⟨m', p', b, ?_, rest⟩
      rw [← z]
      unfold numT
      clear fin fdd fdn ps1
      simp (disch := omega) only [↓ite_ap, if_true, if_false, if_pos, if_neg, retM_ap, retZ_ap0, retZ_ap1, gM_np, sM_ap, jM_np, bI_ap, bL_ap, bD_ap, rdM_ap, wrM_ap, thrM_ap, nl_0, nl_1, nl_2, nl_3, nl_4, nl_5, nl_6, nl_7, nl_8, nl_9, nl_10, nl_11, nl_12, nl_13, nl_25, nl_33, nl_35, nl_45, nl_48, nl_49, nl_50, nl_52, nl_53, nl_57, nl_59, nl_60, nl_61, nl_77, nl_94, nl_97, nl_100, nl_101, nl_119, nl_125, nl_126, nl_137, nl_262, nl_387, nl_500, nl_512, nl_637, nl_999, nl_1022, nl_1137, nl_5685, nm_1b, iN_mI, mI_iN, iN_add, iN_mul, iN_sub, iN_div, iN_rem, iN_lt, iN_le, iN_eq, iN_nat, inB_iN, ↓invM_l fm, e1, mo1, Nat.add_zero]
    · rw [if_neg g] at fm
      obtain ⟨m', p', b, z, rest⟩ := fin 0 0 q 4 48 _ rfl (by omega) rfl rfl rfl (ps1 0 (by omega)) hE (by rw [show q - q = 0 by omega]; rfl) ⟨fun x => by omega, fun x => absurd (by omega) g⟩ (fun j a b => by omega) (by omega) (fdd 4 (.inl rfl)) (fun a b => by
        unfold exA
        rw [if_neg (by omega)]
        show (if C q = 45 then some 5 else fdA (C q)) = _
        rw [if_neg (by omega)]
        exact fdn _ b)
      refine ⟨m', p', b, ?_, rest⟩
      rw [← z]
      unfold numT
      clear fin fdd fdn ps1
      simp (disch := omega) only [↓ite_ap, if_true, if_false, if_pos, if_neg, retM_ap, retZ_ap0, retZ_ap1, gM_np, sM_ap, jM_np, bI_ap, bL_ap, bD_ap, rdM_ap, wrM_ap, thrM_ap, nl_0, nl_1, nl_2, nl_3, nl_4, nl_5, nl_6, nl_7, nl_8, nl_9, nl_10, nl_11, nl_12, nl_13, nl_25, nl_33, nl_35, nl_45, nl_48, nl_49, nl_50, nl_52, nl_53, nl_57, nl_59, nl_60, nl_61, nl_77, nl_94, nl_97, nl_100, nl_101, nl_119, nl_125, nl_126, nl_137, nl_262, nl_387, nl_500, nl_512, nl_637, nl_999, nl_1022, nl_1137, nl_5685, nm_1b, iN_mI, mI_iN, iN_add, iN_mul, iN_sub, iN_div, iN_rem, iN_lt, iN_le, iN_eq, iN_nat, inB_iN, ↓invM_l fm, e1, mo1, Nat.add_zero]
  · subst k1
    subst k2
    obtain ⟨m', p', b, z, rest⟩ := fin 0 0 q 6 49 _ rfl (by omega) rfl rfl rfl (ps1 0 (by omega)) hE (by rw [show q - q = 0 by omega]; rfl) ⟨fun x => by omega, fun x => by omega⟩ (fun j a b => by omega) (by omega) (fun c h1 h2 => by
        unfold exA
        rw [if_neg (by omega)]
        show ∃ e', (if c = 49 then some 9 else rgA c 50 57 10) = some e' ∧ _
        by_cases g : c = 49
        · exact ⟨9, if_pos g, .inr ⟨rfl, .inl ⟨rfl, by omega⟩⟩⟩
        · refine ⟨10, ?_, .inr ⟨rfl, .inr ⟨rfl, by omega, by omega⟩⟩⟩
          rw [if_neg g]
          unfold rgA
          rw [if_pos (by omega)]) (fun a b => by
        unfold exA
        rw [if_neg (by omega)]
        show (if C q = 49 then some 9 else rgA (C q) 50 57 10) = none
        rw [if_neg (by omega)]
        unfold rgA
        rw [if_neg (by omega)])
    refine ⟨m', p', b, ?_, rest⟩
    rw [← z]
    unfold numT
    clear fin fdd fdn ps1
    simp (disch := omega) only [↓ite_ap, if_true, if_false, if_pos, if_neg, retM_ap, retZ_ap0, retZ_ap1, gM_np, sM_ap, jM_np, bI_ap, bL_ap, bD_ap, rdM_ap, wrM_ap, thrM_ap, nl_0, nl_1, nl_2, nl_3, nl_4, nl_5, nl_6, nl_7, nl_8, nl_9, nl_10, nl_11, nl_12, nl_13, nl_25, nl_33, nl_35, nl_45, nl_48, nl_49, nl_50, nl_52, nl_53, nl_57, nl_59, nl_60, nl_61, nl_77, nl_94, nl_97, nl_100, nl_101, nl_119, nl_125, nl_126, nl_137, nl_262, nl_387, nl_500, nl_512, nl_637, nl_999, nl_1022, nl_1137, nl_5685, nm_1b, iN_mI, mI_iN, iN_add, iN_mul, iN_sub, iN_div, iN_rem, iN_lt, iN_le, iN_eq, iN_nat, inB_iN, e1, mo2, Nat.add_zero]
