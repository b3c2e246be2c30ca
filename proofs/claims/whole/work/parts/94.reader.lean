/-! TEXTS: THE REFERENCE'S READER -/
def PS (C : Nat → Nat) (L : Nat) (m : Mm) (p k : Nat) : Prop := m 168 7 = iN p ∧ m 168 11 = iN k ∧ m 168 5 = iN L ∧ L ≤ 60 ∧ p ≤ L ∧ ∀ j, j < L → m 172 j = iN (C j) ∧ C j < 1000
/-- what reading an order may change -/
def FrP (k0 : Nat) (m m' : Mm) : Prop := ∀ k j, ¬ (k = 168 ∧ (j = 7 ∨ j = 8 ∨ j = 9)) → ¬ (k = 173 ∧ 5 * k0 ≤ j ∧ j < 5 * k0 + 5) → m' k j = m k j
theorem FrP.refl {k0 : Nat} {m : Mm} : FrP k0 m m := fun _ _ _ _ => rfl
theorem FrP.trans {k0 : Nat} {m m' m'' : Mm} (h : FrP k0 m m') (h' : FrP k0 m' m'') : FrP k0 m m'' := fun k j a b => by rw [h' k j a b, h k j a b]
theorem PS.fr {C : Nat → Nat} {L p p' k : Nat} {m m' : Mm} (h : PS C L m p k) (hp : m' 168 7 = iN p') (hl : p' ≤ L) (hf : FrP k m m') : PS C L m' p' k :=
  ⟨hp, by rw [hf _ _ (by omega) (by omega)]; exact h.2.1, by rw [hf _ _ (by omega) (by omega)]; exact h.2.2.1, h.2.2.2.1, hl, fun j hj => by rw [hf _ _ (by omega) (by omega)]; exact h.2.2.2.2.2 j hj⟩
theorem r_isAt {C : Nat → Nat} {L p k lo hi : Nat} {m : Mm} (h : PS C L m p k) (hl : lo < 1000) (hh : hi < 1000) : F_X6_isAt (iN lo) (iN hi) m = some (.inl (if p < L ∧ lo ≤ C p ∧ C p ≤ hi then iN 1 else iN 0), m) := by
  obtain ⟨e1, e2, e3, hL, hp, hC⟩ := h
  unfold F_X6_isAt
  by_cases g : p < L
  · have c := hC p g
    have fi := r_in (p := iN (C p)) (lo := iN lo) (hi := iN hi) (σ := m)
    have c2 := c.2
    rw [btw_iN (by omega) (by omega) (by omega)] at fi
    by_cases g2 : lo ≤ C p ∧ C p ≤ hi
    · rw [decide_eq_true g2, if_pos rfl] at fi
      rw [if_pos ⟨g, g2⟩]
      simp (disch := omega) only [↓ite_ap, if_true, if_false, if_pos, if_neg, retM_ap, retZ_ap0, retZ_ap1, gM_np, sM_ap, jM_np, bI_ap, bL_ap, bD_ap, rdM_ap, wrM_ap, thrM_ap, nl_0, nl_1, nl_2, nl_3, nl_4, nl_5, nl_6, nl_7, nl_8, nl_9, nl_10, nl_11, nl_12, nl_13, nl_25, nl_33, nl_35, nl_45, nl_48, nl_49, nl_50, nl_52, nl_53, nl_57, nl_59, nl_60, nl_61, nl_77, nl_94, nl_97, nl_100, nl_101, nl_119, nl_125, nl_126, nl_137, nl_262, nl_387, nl_500, nl_512, nl_637, nl_999, nl_1022, nl_1137, nl_5685, nm_1b, iN_mI, mI_iN, iN_add, iN_mul, iN_sub, iN_div, iN_rem, iN_lt, iN_le, iN_eq, iN_nat, inB_iN, e1, e3, c.1, ↓invM_l fi]
    · rw [decide_eq_false g2, if_neg (by decide)] at fi
      rw [if_neg (fun x => g2 x.2)]
      simp (disch := omega) only [↓ite_ap, if_true, if_false, if_pos, if_neg, retM_ap, retZ_ap0, retZ_ap1, gM_np, sM_ap, jM_np, bI_ap, bL_ap, bD_ap, rdM_ap, wrM_ap, thrM_ap, nl_0, nl_1, nl_2, nl_3, nl_4, nl_5, nl_6, nl_7, nl_8, nl_9, nl_10, nl_11, nl_12, nl_13, nl_25, nl_33, nl_35, nl_45, nl_48, nl_49, nl_50, nl_52, nl_53, nl_57, nl_59, nl_60, nl_61, nl_77, nl_94, nl_97, nl_100, nl_101, nl_119, nl_125, nl_126, nl_137, nl_262, nl_387, nl_500, nl_512, nl_637, nl_999, nl_1022, nl_1137, nl_5685, nm_1b, iN_mI, mI_iN, iN_add, iN_mul, iN_sub, iN_div, iN_rem, iN_lt, iN_le, iN_eq, iN_nat, inB_iN, e1, e3, c.1, ↓invM_l fi]
  · rw [if_neg (fun x => g x.1)]
    simp (disch := omega) only [↓ite_ap, if_true, if_false, if_pos, if_neg, retM_ap, retZ_ap0, retZ_ap1, gM_np, sM_ap, jM_np, bI_ap, bL_ap, bD_ap, rdM_ap, wrM_ap, thrM_ap, nl_0, nl_1, nl_2, nl_3, nl_4, nl_5, nl_6, nl_7, nl_8, nl_9, nl_10, nl_11, nl_12, nl_13, nl_25, nl_33, nl_35, nl_45, nl_48, nl_49, nl_50, nl_52, nl_53, nl_57, nl_59, nl_60, nl_61, nl_77, nl_94, nl_97, nl_100, nl_101, nl_119, nl_125, nl_126, nl_137, nl_262, nl_387, nl_500, nl_512, nl_637, nl_999, nl_1022, nl_1137, nl_5685, nm_1b, iN_mI, mI_iN, iN_add, iN_mul, iN_sub, iN_div, iN_rem, iN_lt, iN_le, iN_eq, iN_nat, inB_iN, e1, e3]
theorem r_stops {C : Nat → Nat} {L p k : Nat} {m : Mm} (h : PS C L m p k) : F_X6_stops m = some (.inl (iN 0), upM m 168 8 (iN (if p < L then 1 else 0))) := by
  obtain ⟨e1, e2, e3, hL, hp, hC⟩ := h
  unfold F_X6_stops
  by_cases g : p < L
  · rw [if_pos g]
    simp (disch := omega) only [↓ite_ap, if_true, if_false, if_pos, if_neg, retM_ap, retZ_ap0, retZ_ap1, gM_np, sM_ap, jM_np, bI_ap, bL_ap, bD_ap, rdM_ap, wrM_ap, thrM_ap, nl_0, nl_1, nl_2, nl_3, nl_4, nl_5, nl_6, nl_7, nl_8, nl_9, nl_10, nl_11, nl_12, nl_13, nl_25, nl_33, nl_35, nl_45, nl_48, nl_49, nl_50, nl_52, nl_53, nl_57, nl_59, nl_60, nl_61, nl_77, nl_94, nl_97, nl_100, nl_101, nl_119, nl_125, nl_126, nl_137, nl_262, nl_387, nl_500, nl_512, nl_637, nl_999, nl_1022, nl_1137, nl_5685, nm_1b, iN_mI, mI_iN, iN_add, iN_mul, iN_sub, iN_div, iN_rem, iN_lt, iN_le, iN_eq, iN_nat, inB_iN, e1, e3, zM_1]
  · rw [if_neg g]
    simp (disch := omega) only [↓ite_ap, if_true, if_false, if_pos, if_neg, retM_ap, retZ_ap0, retZ_ap1, gM_np, sM_ap, jM_np, bI_ap, bL_ap, bD_ap, rdM_ap, wrM_ap, thrM_ap, nl_0, nl_1, nl_2, nl_3, nl_4, nl_5, nl_6, nl_7, nl_8, nl_9, nl_10, nl_11, nl_12, nl_13, nl_25, nl_33, nl_35, nl_45, nl_48, nl_49, nl_50, nl_52, nl_53, nl_57, nl_59, nl_60, nl_61, nl_77, nl_94, nl_97, nl_100, nl_101, nl_119, nl_125, nl_126, nl_137, nl_262, nl_387, nl_500, nl_512, nl_637, nl_999, nl_1022, nl_1137, nl_5685, nm_1b, iN_mI, mI_iN, iN_add, iN_mul, iN_sub, iN_div, iN_rem, iN_lt, iN_le, iN_eq, iN_nat, inB_iN, e1, e3, zM_0]
/-- the automaton, from the order's start p0 in state 0, is at p' in the state e -/
def EqA (C : Nat → Nat) (L p0 e p' : Nat) : Prop := fltA C (L - p0) 0 p0 = fltA C (L - p') e p' ∧ stA C (L - p0) 0 p0 = stA C (L - p') e p' ∧ p0 ≤ p' ∧ p' ≤ L
theorem EqA.s {C : Nat → Nat} {L p0 e e' p' : Nat} (h : EqA C L p0 e p') (hl : p' < L) (hx : exA e (C p') = some e') : EqA C L p0 e' (p' + 1) := by
  obtain ⟨a, b, c, d⟩ := h
  have e1 : L - p' = L - (p' + 1) + 1 := by omega
  rw [e1] at a b
  have f := flt_some (C := C) (d := L - (p' + 1)) hx
  rw [f.1] at a
  rw [f.2] at b
  exact ⟨a, b, by omega, by omega⟩
theorem r_figure {C : Nat → Nat} {L p k i lo hi e e' p0 : Nat} {m : Mm} (h : PS C L m p k) (hk : k ≤ 12) (hi5 : i < 5) (hl : lo < 1000) (hh : hi < 1000) (he : exB e = fun c => rgA c lo hi e') (h7 : e < 7) (hE : EqA C L p0 e p) : (∃ m', F_X6_isFigure (iN i) (iN lo) (iN hi) m = some (.inl (iN 1), m') ∧ p < L ∧ lo ≤ C p ∧ C p ≤ hi ∧ PS C L m' (p + 1) k ∧ FrP k m m' ∧ m' 173 (5 * k + i) = iN (C p - lo) ∧ (∀ j, j ≠ 5 * k + i → m' 173 j = m 173 j) ∧ EqA C L p0 e' (p + 1)) ∨ (∃ m', F_X6_isFigure (iN i) (iN lo) (iN hi) m = some (.inl (iN 0), m') ∧ PS C L m' p k ∧ FrP k m m' ∧ m' 168 8 = iN (if p < L then 1 else 0) ∧ (p < L → exA e (C p) = none)) := by
  have fa := r_isAt (lo := lo) (hi := hi) h hl hh
  have fs := r_stops h
  have hx : exA e (C p) = rgA (C p) lo hi e' := by
    unfold exA
    rw [if_neg (by omega), he]
  by_cases g : p < L ∧ lo ≤ C p ∧ C p ≤ hi
  · rw [if_pos g] at fa
    have ex : exA e (C p) = some e' := by rw [hx]; unfold rgA; rw [if_pos g.2]
    obtain ⟨e1, e2, e3, hL, hp, hC⟩ := h
    have c := hC p g.1
    refine .inl ⟨upM (upM m 173 (5 * k + i) (iN (C p - lo))) 168 7 (iN (p + 1)), ?_, g.1, g.2.1, g.2.2, ⟨upM_at, ?_, ?_, hL, by omega, fun j hj => ?_⟩, fun k' j a b => ?_, ?_, fun j hj => ?_, hE.s g.1 ex⟩
    · have e17 : upM m 173 (5 * k + i) (iN (C p - lo)) 168 7 = iN p := by rw [upM_o (by omega)]; exact e1
      unfold F_X6_isFigure
      simp (disch := omega) only [↓ite_ap, if_true, if_false, if_pos, if_neg, retM_ap, retZ_ap0, retZ_ap1, gM_np, sM_ap, jM_np, bI_ap, bL_ap, bD_ap, rdM_ap, wrM_ap, thrM_ap, nl_0, nl_1, nl_2, nl_3, nl_4, nl_5, nl_6, nl_7, nl_8, nl_9, nl_10, nl_11, nl_12, nl_13, nl_25, nl_33, nl_35, nl_45, nl_48, nl_49, nl_50, nl_52, nl_53, nl_57, nl_59, nl_60, nl_61, nl_77, nl_94, nl_97, nl_100, nl_101, nl_119, nl_125, nl_126, nl_137, nl_262, nl_387, nl_500, nl_512, nl_637, nl_999, nl_1022, nl_1137, nl_5685, nm_1b, iN_mI, mI_iN, iN_add, iN_mul, iN_sub, iN_div, iN_rem, iN_lt, iN_le, iN_eq, iN_nat, inB_iN, ↓invM_l fa, e1, e2, c.1, e17]
    · rw [upM_q (by omega), upM_q (by omega)]; exact e2
    · rw [upM_q (by omega), upM_q (by omega)]; exact e3
    · rw [upM_q (by omega), upM_q (by omega)]; exact hC j hj
    · rw [upM_q (by omega), upM_q (by omega)]
    · rw [upM_q (by omega), upM_at]
    · rw [upM_q (by omega), upM_q (by omega)]
  · rw [if_neg g] at fa
    refine .inr ⟨upM m 168 8 (iN (if p < L then 1 else 0)), ?_, ?_, fun k' j a b => upM_q (by omega), upM_at, fun hpl => ?_⟩
    · unfold F_X6_isFigure
      simp (disch := omega) only [↓ite_ap, if_true, if_false, if_pos, if_neg, retM_ap, retZ_ap0, retZ_ap1, gM_np, sM_ap, jM_np, bI_ap, bL_ap, bD_ap, rdM_ap, wrM_ap, thrM_ap, nl_0, nl_1, nl_2, nl_3, nl_4, nl_5, nl_6, nl_7, nl_8, nl_9, nl_10, nl_11, nl_12, nl_13, nl_25, nl_33, nl_35, nl_45, nl_48, nl_49, nl_50, nl_52, nl_53, nl_57, nl_59, nl_60, nl_61, nl_77, nl_94, nl_97, nl_100, nl_101, nl_119, nl_125, nl_126, nl_137, nl_262, nl_387, nl_500, nl_512, nl_637, nl_999, nl_1022, nl_1137, nl_5685, nm_1b, iN_mI, mI_iN, iN_add, iN_mul, iN_sub, iN_div, iN_rem, iN_lt, iN_le, iN_eq, iN_nat, inB_iN, ↓invM_l fa, ↓invM_l fs]
    · exact h.fr (by rw [upM_q (by omega)]; exact h.1) h.2.2.2.2.1 (fun k' j a b => upM_q (by omega))
    · rw [hx]
      unfold rgA
      rw [if_neg (fun x => g ⟨hpl, x⟩)]
/-- the digits of a number, as the class reads them -/
def nmN (C : Nat → Nat) : Nat → Nat → Nat → Nat
  | 0, _, a => a
  | d + 1, p, a => nmN C d (p + 1) (if C p = 45 then a else a * 10 + C p - 48)
theorem nm_s {C : Nat → Nat} : ∀ {d p a : Nat}, nmN C (d + 1) p a = if C (p + d) = 45 then nmN C d p a else nmN C d p a * 10 + C (p + d) - 48
  | 0, p, a => rfl
  | d + 1, p, a => by
    rw [nmN, nm_s, nmN, show p + 1 + d = p + (d + 1) by omega]
/-- state and value behind a digit -/
def NI (kind e v : Nat) : Prop := (kind = 1 ∧ ((e = 7 ∧ 1 ≤ v ∧ v ≤ 9) ∨ (e = 8 ∧ 10 ≤ v ∧ v ≤ 99) ∨ (e = 10 ∧ (v = 0 ∨ (100 ≤ v ∧ v ≤ 999))))) ∨ (kind = 2 ∧ ((e = 9 ∧ v = 1) ∨ (e = 10 ∧ 2 ≤ v ∧ v ≤ 12)))
def mostN (kind : Nat) : Nat := if kind = 1 then 999 else 12
theorem NI_go {kind e v c : Nat} (h : NI kind e v) (h0 : 0 < v) (h1 : 48 ≤ c) (h2 : c ≤ 57) (h3 : 10 * v + c - 48 ≤ mostN kind) : ∃ e', exA e c = some e' ∧ NI kind e' (10 * v + c - 48) ∧ e < e' := by
  have n59 : ¬ (7 ≤ e ∧ c = 59) := by omega
  unfold exA
  rw [if_neg n59]
  rcases h with ⟨k1, (⟨a, b1, b2⟩ | ⟨a, b1, b2⟩ | ⟨a, b⟩)⟩ | ⟨k2, (⟨a, b⟩ | ⟨a, b1, b2⟩)⟩
  · refine ⟨8, ?_, .inl ⟨k1, .inr (.inl ⟨rfl, by omega, by omega⟩)⟩, by omega⟩
    rw [a]
    show rgA c 48 57 8 = some 8
    unfold rgA
    rw [if_pos ⟨h1, h2⟩]
  · refine ⟨10, ?_, .inl ⟨k1, .inr (.inr ⟨rfl, .inr ⟨by omega, by omega⟩⟩)⟩, by omega⟩
    rw [a]
    show rgA c 48 57 10 = some 10
    unfold rgA
    rw [if_pos ⟨h1, h2⟩]
  · unfold mostN at h3
    rw [if_pos k1] at h3
    omega
  · unfold mostN at h3
    rw [if_neg (by omega)] at h3
    refine ⟨10, ?_, .inr ⟨k2, .inr ⟨rfl, by omega, by omega⟩⟩, by omega⟩
    rw [a]
    show rgA c 48 50 10 = some 10
    unfold rgA
    rw [if_pos (by omega)]
  · unfold mostN at h3
    rw [if_neg (by omega)] at h3
    omega
theorem NI_stop {kind e v c : Nat} (h : NI kind e v) (h9 : c ≠ 59) (hn : ¬ (0 < v ∧ 48 ≤ c ∧ c ≤ 57 ∧ 10 * v + c - 48 ≤ mostN kind)) : exA e c = none := by
  unfold exA
  rw [if_neg (fun g => h9 g.2)]
  rcases h with ⟨k1, (⟨a, b1, b2⟩ | ⟨a, b1, b2⟩ | ⟨a, b⟩)⟩ | ⟨k2, (⟨a, b⟩ | ⟨a, b1, b2⟩)⟩
  · unfold mostN at hn
    rw [if_pos k1] at hn
    rw [a]
    show rgA c 48 57 8 = none
    unfold rgA
    rw [if_neg (by omega)]
  · unfold mostN at hn
    rw [if_pos k1] at hn
    rw [a]
    show rgA c 48 57 10 = none
    unfold rgA
    rw [if_neg (by omega)]
  · rw [a]
    rfl
  · unfold mostN at hn
    rw [if_neg (by omega)] at hn
    rw [a]
    show rgA c 48 50 10 = none
    unfold rgA
    rw [if_neg (by omega)]
  · rw [a]
    rfl
theorem r_numLoop {C : Nat → Nat} {L k kind p0 q0 : Nat} (hkd : kind = 1 ∨ kind = 2) : ∀ (r e v p n : Nat) (m : Mm), 11 ≤ e + r → r < n → PS C L m p k → m 168 9 = iN v → NI kind e v → EqA C L p0 e p → q0 ≤ p → nmN C (p - q0) q0 0 = v → ∃ m' p' e' v', L_X6_isNumber_41 (iN (mostN kind)) n m = some (.inl (iN 1), m') ∧ PS C L m' p' k ∧ m' 168 9 = iN v' ∧ v' ≤ 999 ∧ p ≤ p' ∧ 7 ≤ e' ∧ e' ≤ 10 ∧ EqA C L p0 e' p' ∧ nmN C (p' - q0) q0 0 = v' ∧ (∀ j, p ≤ j → j < p' → 48 ≤ C j ∧ C j ≤ 57) ∧ (p' < L → C p' ≠ 59 → exA e' (C p') = none) ∧ (∀ k j, ¬ (k = 168 ∧ (j = 7 ∨ j = 9)) → m' k j = m k j) := by
  intro r
  induction r with
  | zero =>
    intro e v p n m h1 h2 h3 h4 h5
    unfold NI at h5
    omega
  | succ r ih =>
    intro e v p n m h1 h2 h3 h4 h5 h6 h7 h8
    obtain ⟨n, rfl⟩ : ∃ x, n = x + 1 := ⟨n - 1, by omega⟩
    have hv : v ≤ 999 := by unfold NI at h5; omega
    have he : 7 ≤ e ∧ e ≤ 10 := by unfold NI at h5; omega
    have fa := r_isAt (lo := 48) (hi := 57) h3 (by omega) (by omega)
    obtain ⟨e1, e2, e3, hL, hp, hC⟩ := h3
    have hPS : PS C L m p k := ⟨e1, e2, e3, hL, hp, hC⟩
    have hm999 : mostN kind ≤ 999 := by
      unfold mostN
      by_cases g : kind = 1
      · rw [if_pos g]; omega
      · rw [if_neg g]; omega
    by_cases go : 0 < v ∧ p < L ∧ 48 ≤ C p ∧ C p ≤ 57 ∧ 10 * v + C p - 48 ≤ mostN kind
    · obtain ⟨g0, g1, g2, g3, g4⟩ := go
      have c := hC p g1
      obtain ⟨e', x1, x2, x3⟩ := NI_go h5 g0 g2 g3 g4
      have he' : e' ≤ 10 := exA_le x1
      obtain ⟨m1, hm1⟩ : ∃ m1, m1 = upM (upM m 168 9 (iN (10 * v + C p - 48))) 168 7 (iN (p + 1)) := ⟨_, rfl⟩
      have f1 : ∀ k j, ¬ (k = 168 ∧ (j = 7 ∨ j = 9)) → m1 k j = m k j := fun k j g => by rw [hm1, upM_q (by omega), upM_q (by omega)]
      have ps1 : PS C L m1 (p + 1) k := ⟨by rw [hm1, upM_at], by rw [f1 _ _ (by omega)]; exact e2, by rw [f1 _ _ (by omega)]; exact e3, hL, by omega, fun j hj => by rw [f1 _ _ (by omega)]; exact hC j hj⟩
      have nm1 : nmN C (p + 1 - q0) q0 0 = 10 * v + C p - 48 := by
        rw [show p + 1 - q0 = p - q0 + 1 by omega, nm_s, show q0 + (p - q0) = p by omega, if_neg (by omega), h8]
        omega
      obtain ⟨m', p', e'', v', y1, y2, y3, y4, y5, y6, y7, y8, y9, y10, y11, y12⟩ := ih e' (10 * v + C p - 48) (p + 1) n m1 (by omega) (by omega) ps1 (by rw [hm1, upM_q (by omega), upM_at]) x2 (h6.s g1 x1) (by omega) nm1
      refine ⟨m', p', e'', v', ?_, y2, y3, y4, by omega, y6, y7, y8, y9, fun j a b => ?_, y11, fun k j g => by rw [y12 k j g, f1 k j g]⟩
      · rw [if_pos ⟨g1, g2, g3⟩] at fa
        have c2 := c.2
        have e17 : upM m 168 9 (iN (10 * v + C p - 48)) 168 7 = iN p := by rw [upM_q (by omega)]; exact e1
        simp only [L_X6_isNumber_41]
        simp (disch := omega) only [↓ite_ap, if_true, if_false, if_pos, if_neg, retM_ap, retZ_ap0, retZ_ap1, gM_np, sM_ap, jM_np, bI_ap, bL_ap, bD_ap, rdM_ap, wrM_ap, thrM_ap, nl_0, nl_1, nl_2, nl_3, nl_4, nl_5, nl_6, nl_7, nl_8, nl_9, nl_10, nl_11, nl_12, nl_13, nl_25, nl_33, nl_35, nl_45, nl_48, nl_49, nl_50, nl_52, nl_53, nl_57, nl_59, nl_60, nl_61, nl_77, nl_94, nl_97, nl_100, nl_101, nl_119, nl_125, nl_126, nl_137, nl_262, nl_387, nl_500, nl_512, nl_637, nl_999, nl_1022, nl_1137, nl_5685, nm_1b, iN_mI, mI_iN, iN_add, iN_mul, iN_sub, iN_div, iN_rem, iN_lt, iN_le, iN_eq, iN_nat, inB_iN, h4, ↓invM_l fa, e1, c.1, e17, ← hm1, y1]
      · by_cases g : j = p
        · rw [g]; omega
        · exact y10 j (by omega) b
    · refine ⟨m, p, e, v, ?_, hPS, h4, hv, Nat.le_refl _, he.1, he.2, h6, h8, fun j a b => by omega, fun a b => ?_, fun _ _ _ => rfl⟩
      · simp only [L_X6_isNumber_41]
        by_cases g0 : v = 0
        · simp (disch := omega) only [↓ite_ap, if_true, if_false, if_pos, if_neg, retM_ap, retZ_ap0, retZ_ap1, gM_np, sM_ap, jM_np, bI_ap, bL_ap, bD_ap, rdM_ap, wrM_ap, thrM_ap, nl_0, nl_1, nl_2, nl_3, nl_4, nl_5, nl_6, nl_7, nl_8, nl_9, nl_10, nl_11, nl_12, nl_13, nl_25, nl_33, nl_35, nl_45, nl_48, nl_49, nl_50, nl_52, nl_53, nl_57, nl_59, nl_60, nl_61, nl_77, nl_94, nl_97, nl_100, nl_101, nl_119, nl_125, nl_126, nl_137, nl_262, nl_387, nl_500, nl_512, nl_637, nl_999, nl_1022, nl_1137, nl_5685, nm_1b, iN_mI, mI_iN, iN_add, iN_mul, iN_sub, iN_div, iN_rem, iN_lt, iN_le, iN_eq, iN_nat, inB_iN, h4]
        · by_cases g1 : p < L ∧ 48 ≤ C p ∧ C p ≤ 57
          · rw [if_pos g1] at fa
            have c := hC p g1.1
            have c2 := c.2
            simp (disch := omega) only [↓ite_ap, if_true, if_false, if_pos, if_neg, retM_ap, retZ_ap0, retZ_ap1, gM_np, sM_ap, jM_np, bI_ap, bL_ap, bD_ap, rdM_ap, wrM_ap, thrM_ap, nl_0, nl_1, nl_2, nl_3, nl_4, nl_5, nl_6, nl_7, nl_8, nl_9, nl_10, nl_11, nl_12, nl_13, nl_25, nl_33, nl_35, nl_45, nl_48, nl_49, nl_50, nl_52, nl_53, nl_57, nl_59, nl_60, nl_61, nl_77, nl_94, nl_97, nl_100, nl_101, nl_119, nl_125, nl_126, nl_137, nl_262, nl_387, nl_500, nl_512, nl_637, nl_999, nl_1022, nl_1137, nl_5685, nm_1b, iN_mI, mI_iN, iN_add, iN_mul, iN_sub, iN_div, iN_rem, iN_lt, iN_le, iN_eq, iN_nat, inB_iN, h4, ↓invM_l fa, e1, c.1]
          · rw [if_neg g1] at fa
            simp (disch := omega) only [↓ite_ap, if_true, if_false, if_pos, if_neg, retM_ap, retZ_ap0, retZ_ap1, gM_np, sM_ap, jM_np, bI_ap, bL_ap, bD_ap, rdM_ap, wrM_ap, thrM_ap, nl_0, nl_1, nl_2, nl_3, nl_4, nl_5, nl_6, nl_7, nl_8, nl_9, nl_10, nl_11, nl_12, nl_13, nl_25, nl_33, nl_35, nl_45, nl_48, nl_49, nl_50, nl_52, nl_53, nl_57, nl_59, nl_60, nl_61, nl_77, nl_94, nl_97, nl_100, nl_101, nl_119, nl_125, nl_126, nl_137, nl_262, nl_387, nl_500, nl_512, nl_637, nl_999, nl_1022, nl_1137, nl_5685, nm_1b, iN_mI, mI_iN, iN_add, iN_mul, iN_sub, iN_div, iN_rem, iN_lt, iN_le, iN_eq, iN_nat, inB_iN, h4, ↓invM_l fa]
      · exact NI_stop h5 b (fun g => go ⟨g.1, a, g.2⟩)
