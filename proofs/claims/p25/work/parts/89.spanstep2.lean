/-! SPAN, THE STEP ITSELF -/
theorem sqI_iN {s : Sv} {t a b : Nat} (ht : t < tbS s) (t5 : tbS s ≤ 5) (ha : a < 1000) (hb : b < 1000) : sqI s (iN t) (iN a) (iN b) = if a < roS s t ∧ b < coS s t then iN (t * 25 + a * 5 + b) else mI := by
  unfold sqI sqO
  rw [dI_iN (by omega), if_pos ht]
  show (match (match dI (iN a) (roS s t) with | none => none | some r => match dI (iN b) (coS s t) with | none => none | some c => some (t * 25 + r * 5 + c)) with | some q => iN q | none => mI) = _
  rw [dI_iN (by omega)]
  by_cases h1 : a < roS s t
  · rw [if_pos h1]
    show (match (match dI (iN b) (coS s t) with | none => none | some c => some (t * 25 + a * 5 + c)) with | some q => iN q | none => mI) = _
    rw [dI_iN (by omega)]
    by_cases h2 : b < coS s t
    · rw [if_pos h2, if_pos ⟨h1, h2⟩]
    · rw [if_neg h2, if_neg (fun g => h2 g.2)]
  · rw [if_neg h1, if_neg (fun g => h1 g.1)]
def spC (x1 p3 p4 : Int32) : Dm Int32 := invM (F_X5_requireLines p3 p4) fun _ => invM (F_X4_isCell 2 x1) fun x4 => (if x4 = 0 then thrM 3 else invM (F_X4_canCover 2 x1 p3 p4) fun x5 => (if x5 = 0 then thrM 3 else invM (F_X0_save 2) fun _ => invM (F_X4_cover 2 x1 p3 p4) fun _ => invM (F_X1_measure 1) fun _ => retM (p3 * p4)))
def spA (p0 p1 p2 p3 p4 : Int32) : Dm Int32 := invM (F_X5_requireSquare p0 p1 p2) fun x1 => invM (F_X5_isBetween p3 (1 : Int32) (5 : Int32)) fun x2 => jM (fun (x3 : Int32) => jM (fun (_ : Unit) => spC x1 p3 p4) fun k2 => (if x3 = 0 then k2 () else invM (F_X4_squareAt 2 p0 ((p1 + p3) - (1 : Int32)) ((p2 + p4) - (1 : Int32))) fun x6 => (if x6 = (-1 : Int32) then thrM 1 else k2 ()))) fun k1 => jM (fun (_ : Unit) => k1 (0 : Int32)) fun k3 => (if x2 = 0 then k3 () else invM (F_X5_isBetween p4 (1 : Int32) (5 : Int32)) fun x7 => (if x7 = 0 then k3 () else k1 (1 : Int32)))
theorem span_C {p0 p1 p2 p3 p4 : Int32} : F_X5_span p0 p1 p2 p3 p4 = spA p0 p1 p2 p3 p4 := rfl
/-- the class's checks -/
theorem f_spanBad {p0 p1 p2 p3 p4 : Int32} {q : Nat} {σ : Mm} (fq : F_X5_requireSquare p0 p1 p2 σ = some (.inl (iN q), σ)) (hb : (btw p3 (iN 1) (iN 5) && btw p4 (iN 1) (iN 5)) = false) : spA p0 p1 p2 p3 p4 σ = some (.inr 2, σ) := by
  have fb3 := f_btw (p := p3) (lo := iN 1) (hi := iN 5) (σ := σ)
  have fb4 := f_btw (p := p4) (lo := iN 1) (hi := iN 5) (σ := σ)
  have fr3 := f_requireBetween (p := p3) (lo := iN 1) (hi := iN 5) (σ := σ)
  have fr4 := f_requireBetween (p := p4) (lo := iN 1) (hi := iN 5) (σ := σ)
  have tail : F_X5_requireLines p3 p4 σ = some (.inr 2, σ) → spC (iN q) p3 p4 σ = some (.inr 2, σ) := fun h => invM_r h
  unfold spA
  cases eb3 : btw p3 (iN 1) (iN 5)
  · rw [eb3, if_neg (by decide)] at fb3 fr3
    have t := tail (by unfold F_X5_requireLines; exact invM_r fr3)
    simp (disch := omega) only [↓ite_ap, if_true, if_false, if_pos, if_neg, retM_ap, retZ_ap0, retZ_ap1, gM_np, sM_ap, jM_np, bI_ap, bL_ap, bD_ap, rdM_ap, wrM_ap, thrM_ap, nl_0, nl_1, nl_5, iN_eq, ↓invM_l fq, ↓invM_l fb3, t]
  · rw [eb3, Bool.true_and] at hb
    rw [eb3, if_pos rfl] at fb3 fr3
    rw [hb, if_neg (by decide)] at fb4 fr4
    have t := tail (by unfold F_X5_requireLines; exact (invM_l fr3).trans (invM_r fr4))
    simp (disch := omega) only [↓ite_ap, if_true, if_false, if_pos, if_neg, retM_ap, retZ_ap0, retZ_ap1, gM_np, sM_ap, jM_np, bI_ap, bL_ap, bD_ap, rdM_ap, wrM_ap, thrM_ap, nl_0, nl_1, nl_5, iN_eq, ↓invM_l fq, ↓invM_l fb3, ↓invM_l fb4, t]
theorem f_spanFit {t r c hi br q : Nat} {s : Sv} {σ : Mm} (hw : WF s) (hr : Rel 2 s σ) (fq : F_X5_requireSquare (iN t) (iN r) (iN c) σ = some (.inl (iN q), σ)) (ht : t < tbS s) (hr5 : r < 5) (hc : c < 5) (h1 : 1 ≤ hi) (h5 : hi ≤ 5) (b1 : 1 ≤ br) (b5 : br ≤ 5) : spA (iN t) (iN r) (iN c) (iN hi) (iN br) σ = if r + hi ≤ roS s t ∧ c + br ≤ coS s t then spC (iN q) (iN hi) (iN br) σ else some (.inr 1, σ) := by
  have t5 := hw.1.2.2
  have w := hw.2.2.1 t ht
  have fsa := f_squareAt (b := 2) (p0 := iN t) (p1 := iN (r + hi - 1)) (p2 := iN (c + br - 1)) hw hr
  rw [sqI_iN ht t5 (by omega) (by omega)] at fsa
  obtain ⟨R, hR⟩ : ∃ R, R = roS s t := ⟨_, rfl⟩
  obtain ⟨C, hC⟩ : ∃ C, C = coS s t := ⟨_, rfl⟩
  rw [← hR] at fsa w ⊢
  rw [← hC] at fsa w ⊢
  have wR := w.2.2.1
  have wC := w.2.2.2.2.2
  clear w hr
  have ht5 : t < 5 := by omega
  clear hw
  have fb3 := f_btw (p := iN hi) (lo := iN 1) (hi := iN 5) (σ := σ)
  have fb4 := f_btw (p := iN br) (lo := iN 1) (hi := iN 5) (σ := σ)
  rw [btw_iN (by omega) (by omega) (by omega), if_pos (decide_eq_true ⟨h1, h5⟩)] at fb3
  rw [btw_iN (by omega) (by omega) (by omega), if_pos (decide_eq_true ⟨b1, b5⟩)] at fb4
  unfold spA
  by_cases fit : r + hi ≤ R ∧ c + br ≤ C
  · rw [if_pos (show r + hi - 1 < R ∧ c + br - 1 < C by omega)] at fsa
    rw [if_pos fit]
    simp (disch := omega) only [↓ite_ap, if_true, if_false, if_pos, if_neg, retM_ap, retZ_ap0, retZ_ap1, gM_np, sM_ap, jM_np, bI_ap, bL_ap, bD_ap, rdM_ap, wrM_ap, thrM_ap, nl_0, nl_1, nl_2, nl_3, nl_4, nl_5, nl_6, nl_7, nl_8, nl_9, nl_10, nl_11, nl_12, nl_13, nl_25, nl_33, nl_35, nl_45, nl_48, nl_49, nl_50, nl_52, nl_53, nl_57, nl_59, nl_60, nl_61, nl_77, nl_94, nl_97, nl_100, nl_101, nl_119, nl_125, nl_126, nl_137, nl_262, nl_387, nl_500, nl_512, nl_637, nl_999, nl_1022, nl_1137, nl_5685, nm_1b, iN_mI, mI_iN, iN_add, iN_mul, iN_sub, iN_div, iN_rem, iN_lt, iN_le, iN_eq, iN_nat, inB_iN, nm_1, ↓invM_l fq, ↓invM_l fb3, ↓invM_l fb4, ↓invM_l fsa]
  · rw [if_neg (show ¬ (r + hi - 1 < R ∧ c + br - 1 < C) by omega)] at fsa
    rw [if_neg fit]
    simp (disch := omega) only [↓ite_ap, if_true, if_false, if_pos, if_neg, retM_ap, retZ_ap0, retZ_ap1, gM_np, sM_ap, jM_np, bI_ap, bL_ap, bD_ap, rdM_ap, wrM_ap, thrM_ap, nl_0, nl_1, nl_2, nl_3, nl_4, nl_5, nl_6, nl_7, nl_8, nl_9, nl_10, nl_11, nl_12, nl_13, nl_25, nl_33, nl_35, nl_45, nl_48, nl_49, nl_50, nl_52, nl_53, nl_57, nl_59, nl_60, nl_61, nl_77, nl_94, nl_97, nl_100, nl_101, nl_119, nl_125, nl_126, nl_137, nl_262, nl_387, nl_500, nl_512, nl_637, nl_999, nl_1022, nl_1137, nl_5685, nm_1b, iN_mI, mI_iN, iN_add, iN_mul, iN_sub, iN_div, iN_rem, iN_lt, iN_le, iN_eq, iN_nat, inB_iN, nm_1, ↓invM_l fq, ↓invM_l fb3, ↓invM_l fb4, ↓invM_l fsa]
