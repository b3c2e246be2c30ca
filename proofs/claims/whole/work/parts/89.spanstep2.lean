/-! SPAN, THE STEP ITSELF -/
theorem sqI_iN {s : Sv} {t a b : Nat} (ht : t < tbS s) (t5 : tbS s ≤ 5) (ha : a < 1000) (hb : b < 1000) : sqI s (iN t) (iN a) (iN b) = if a < roS s t ∧ b < coS s t then iN (t * 25 + a * 5 + b) else mI := by
  unfold sqI sqO
  rw [dI_iN (by omega), if_pos ht]
  show (match (match dI (iN a) (roS s t) with | none => none | some r => match dI (iN b) (coS s t) with | none => none | some c => some (t * 25 + r * 5 + c)) with | some q => iN q | none => mI) = _
  rw [dI_iN (by omega)]
  by_cases h1 : a < roS s t
  · rw [if_pos h1]
    show (match (match dI (iN b) (coS s t) with | none => none | some c => some (t * 25 + a * 5 + c)) with | some q => iN q | none => mI) = _
    rw [dI_iN (by omega)]
    by_cases h2 : b < coS s t
    · rw [if_pos h2, if_pos ⟨h1, h2⟩]
    · rw [if_neg h2, if_neg (fun g => h2 g.2)]
  · rw [if_neg h1, if_neg (fun g => h1 g.1)]
/-- the reference's text, behind its checks of the arguments -/
def spR (p0 p1 p2 p3 p4 : Int32) : Dm Int32 := invM (F_X6_square p0 p1 p2) fun x5 => invM (F_X6_canSpan x5 p3 p4) fun x6 => (if x6 = 0 then invM (F_X6_fails (3 : Int32)) fun x12 => retM x12 else invM (F_X6_saves) fun _ => L_X6_span_129 p0 x5 FU (0 : Int32) (fun _ => L_X6_span_186 p3 p4 x5 FU (1 : Int32) (fun _ => wrM 169 1137 ((262 : Int32) + x5) p3 <| wrM 169 1137 ((387 : Int32) + x5) p4 <| retM (p3 * p4))))
def spB (p0 p1 p2 p3 p4 : Int32) : Dm Int32 := invM (F_X6_in p3 (1 : Int32) (5 : Int32)) fun x1 => jM (fun (x2 : Int32) => invM (F_X6_isSquare p0 p1 p2) fun x3 => (if x3 = 0 then invM (F_X6_fails (1 : Int32)) fun x4 => retM x4 else jM (fun (_ : Unit) => (if x2 = 0 then invM (F_X6_fails (2 : Int32)) fun x13 => retM x13 else spR p0 p1 p2 p3 p4)) fun k2 => (if x2 = 0 then k2 () else rdM 169 1137 ((2 : Int32) + p0) fun x14 => (if x14 < (p1 + p3) then invM (F_X6_fails (1 : Int32)) fun x15 => retM x15 else rdM 169 1137 ((7 : Int32) + p0) fun x16 => (if (p2 + p4) ≤ x16 then k2 () else invM (F_X6_fails (1 : Int32)) fun x17 => retM x17))))) fun k1 => jM (fun (_ : Unit) => k1 (0 : Int32)) fun k6 => (if x1 = 0 then k6 () else invM (F_X6_in p4 (1 : Int32) (5 : Int32)) fun x18 => (if x18 = 0 then k6 () else k1 (1 : Int32)))
theorem span_R {p0 p1 p2 p3 p4 : Int32} : F_X6_span p0 p1 p2 p3 p4 = sM 168 6 (0 : Int32) (spB p0 p1 p2 p3 p4) := rfl
def spC (x1 p3 p4 : Int32) : Dm Int32 := invM (F_X5_requireLines p3 p4) fun _ => invM (F_X4_isCell 2 x1) fun x4 => (if x4 = 0 then thrM 3 else invM (F_X4_canCover 2 x1 p3 p4) fun x5 => (if x5 = 0 then thrM 3 else invM (F_X0_save 2) fun _ => invM (F_X4_cover 2 x1 p3 p4) fun _ => invM (F_X1_measure 1) fun _ => retM (p3 * p4)))
def spA (p0 p1 p2 p3 p4 : Int32) : Dm Int32 := invM (F_X5_requireSquare p0 p1 p2) fun x1 => invM (F_X5_isBetween p3 (1 : Int32) (5 : Int32)) fun x2 => jM (fun (x3 : Int32) => jM (fun (_ : Unit) => spC x1 p3 p4) fun k2 => (if x3 = 0 then k2 () else invM (F_X4_squareAt 2 p0 ((p1 + p3) - (1 : Int32)) ((p2 + p4) - (1 : Int32))) fun x6 => (if x6 = (-1 : Int32) then thrM 1 else k2 ()))) fun k1 => jM (fun (_ : Unit) => k1 (0 : Int32)) fun k3 => (if x2 = 0 then k3 () else invM (F_X5_isBetween p4 (1 : Int32) (5 : Int32)) fun x7 => (if x7 = 0 then k3 () else k1 (1 : Int32)))
theorem span_C {p0 p1 p2 p3 p4 : Int32} : F_X5_span p0 p1 p2 p3 p4 = spA p0 p1 p2 p3 p4 := rfl
/-- the reference's checks -/
theorem r_spanNo {p0 p1 p2 p3 p4 : Int32} {s : Sv} {m : Mm} (hw : WF s) (hv : Vw 169 s m) (e : sqO s p0 p1 p2 = none) : spB p0 p1 p2 p3 p4 m = some (.inl (iN 0), upM m 168 6 (iN 1)) := by
  have fs := r_isSquare (p0 := p0) (p1 := p1) (p2 := p2) hw hv
  rw [e] at fs
  have fs : F_X6_isSquare p0 p1 p2 m = some (.inl (iN 0), m) := fs
  clear hw hv
  have fi3 := r_in (p := p3) (lo := iN 1) (hi := iN 5) (σ := m)
  have fi4 := r_in (p := p4) (lo := iN 1) (hi := iN 5) (σ := m)
  unfold spB
  cases eb3 : btw p3 (iN 1) (iN 5)
  · rw [eb3, if_neg (by decide)] at fi3
    simp (disch := omega) only [↓ite_ap, if_true, if_false, if_pos, if_neg, retM_ap, retZ_ap0, retZ_ap1, gM_np, sM_ap, jM_np, bI_ap, bL_ap, bD_ap, rdM_ap, wrM_ap, thrM_ap, nl_0, nl_1, nl_5, iN_eq, ↓invM_l fi3, ↓invM_l fs, b_fails]
  · rw [eb3, if_pos rfl] at fi3
    cases eb4 : btw p4 (iN 1) (iN 5)
    · rw [eb4, if_neg (by decide)] at fi4
      simp (disch := omega) only [↓ite_ap, if_true, if_false, if_pos, if_neg, retM_ap, retZ_ap0, retZ_ap1, gM_np, sM_ap, jM_np, bI_ap, bL_ap, bD_ap, rdM_ap, wrM_ap, thrM_ap, nl_0, nl_1, nl_5, iN_eq, ↓invM_l fi3, ↓invM_l fi4, ↓invM_l fs, b_fails]
    · rw [eb4, if_pos rfl] at fi4
      simp (disch := omega) only [↓ite_ap, if_true, if_false, if_pos, if_neg, retM_ap, retZ_ap0, retZ_ap1, gM_np, sM_ap, jM_np, bI_ap, bL_ap, bD_ap, rdM_ap, wrM_ap, thrM_ap, nl_0, nl_1, nl_5, iN_eq, ↓invM_l fi3, ↓invM_l fi4, ↓invM_l fs, b_fails]
theorem r_spanBad {p0 p1 p2 p3 p4 : Int32} {q : Nat} {s : Sv} {m : Mm} (hw : WF s) (hv : Vw 169 s m) (e : sqO s p0 p1 p2 = some q) (hb : (btw p3 (iN 1) (iN 5) && btw p4 (iN 1) (iN 5)) = false) : spB p0 p1 p2 p3 p4 m = some (.inl (iN 0), upM m 168 6 (iN 2)) := by
  have fs := r_isSquare (p0 := p0) (p1 := p1) (p2 := p2) hw hv
  rw [e] at fs
  have fs : F_X6_isSquare p0 p1 p2 m = some (.inl (iN 1), m) := fs
  clear hw hv
  have fi3 := r_in (p := p3) (lo := iN 1) (hi := iN 5) (σ := m)
  have fi4 := r_in (p := p4) (lo := iN 1) (hi := iN 5) (σ := m)
  unfold spB
  cases eb3 : btw p3 (iN 1) (iN 5)
  · rw [eb3, if_neg (by decide)] at fi3
    simp (disch := omega) only [↓ite_ap, if_true, if_false, if_pos, if_neg, retM_ap, retZ_ap0, retZ_ap1, gM_np, sM_ap, jM_np, bI_ap, bL_ap, bD_ap, rdM_ap, wrM_ap, thrM_ap, nl_0, nl_1, nl_2, nl_5, iN_eq, ↓invM_l fi3, ↓invM_l fs, b_fails]
  · rw [eb3, Bool.true_and] at hb
    rw [eb3, if_pos rfl] at fi3
    rw [hb, if_neg (by decide)] at fi4
    simp (disch := omega) only [↓ite_ap, if_true, if_false, if_pos, if_neg, retM_ap, retZ_ap0, retZ_ap1, gM_np, sM_ap, jM_np, bI_ap, bL_ap, bD_ap, rdM_ap, wrM_ap, thrM_ap, nl_0, nl_1, nl_2, nl_5, iN_eq, ↓invM_l fi3, ↓invM_l fi4, ↓invM_l fs, b_fails]
theorem r_spanFit {t r c hi br q : Nat} {s : Sv} {m : Mm} (hw : WF s) (hv : Vw 169 s m) (e : sqO s (iN t) (iN r) (iN c) = some q) (ht : t < tbS s) (hr : r < 5) (hc : c < 5) (h1 : 1 ≤ hi) (h5 : hi ≤ 5) (b1 : 1 ≤ br) (b5 : br ≤ 5) : spB (iN t) (iN r) (iN c) (iN hi) (iN br) m = if r + hi ≤ roS s t ∧ c + br ≤ coS s t then spR (iN t) (iN r) (iN c) (iN hi) (iN br) m else some (.inl (iN 0), upM m 168 6 (iN 1)) := by
  have fs := r_isSquare (p0 := iN t) (p1 := iN r) (p2 := iN c) hw hv
  rw [e] at fs
  have fs : F_X6_isSquare (iN t) (iN r) (iN c) m = some (.inl (iN 1), m) := fs
  have t5 := hw.1.2.2
  have w := hw.2.2.1 t ht
  have q1 := hv.ro hw ht
  have q2 := hv.co hw ht
  obtain ⟨R, hR⟩ : ∃ R, R = roS s t := ⟨_, rfl⟩
  obtain ⟨C, hC⟩ : ∃ C, C = coS s t := ⟨_, rfl⟩
  rw [← hR] at q1 w ⊢
  rw [← hC] at q2 w ⊢
  have wR := w.2.2.1
  have wC := w.2.2.2.2.2
  clear w hw hv e
  have fi3 := r_in (p := iN hi) (lo := iN 1) (hi := iN 5) (σ := m)
  have fi4 := r_in (p := iN br) (lo := iN 1) (hi := iN 5) (σ := m)
  rw [btw_iN (by omega) (by omega) (by omega), if_pos (decide_eq_true ⟨h1, h5⟩)] at fi3
  rw [btw_iN (by omega) (by omega) (by omega), if_pos (decide_eq_true ⟨b1, b5⟩)] at fi4
  unfold spB
  by_cases g1 : r + hi ≤ R
  · by_cases g2 : c + br ≤ C
    · rw [if_pos ⟨g1, g2⟩]
      simp (disch := omega) only [↓ite_ap, if_true, if_false, if_pos, if_neg, retM_ap, retZ_ap0, retZ_ap1, gM_np, sM_ap, jM_np, bI_ap, bL_ap, bD_ap, rdM_ap, wrM_ap, thrM_ap, nl_0, nl_1, nl_2, nl_5, nl_7, iN_eq, iN_add, iN_lt, iN_le, ↓invM_l fi3, ↓invM_l fi4, ↓invM_l fs, q1, q2]
    · rw [if_neg (fun g => g2 g.2)]
      simp (disch := omega) only [↓ite_ap, if_true, if_false, if_pos, if_neg, retM_ap, retZ_ap0, retZ_ap1, gM_np, sM_ap, jM_np, bI_ap, bL_ap, bD_ap, rdM_ap, wrM_ap, thrM_ap, nl_0, nl_1, nl_2, nl_5, nl_7, iN_eq, iN_add, iN_lt, iN_le, ↓invM_l fi3, ↓invM_l fi4, ↓invM_l fs, q1, q2, b_fails]
  · rw [if_neg (fun g => g1 g.1)]
    simp (disch := omega) only [↓ite_ap, if_true, if_false, if_pos, if_neg, retM_ap, retZ_ap0, retZ_ap1, gM_np, sM_ap, jM_np, bI_ap, bL_ap, bD_ap, rdM_ap, wrM_ap, thrM_ap, nl_0, nl_1, nl_2, nl_5, nl_7, iN_eq, iN_add, iN_lt, iN_le, ↓invM_l fi3, ↓invM_l fi4, ↓invM_l fs, q1, b_fails]
/-- the class's checks -/
theorem f_spanBad {p0 p1 p2 p3 p4 : Int32} {q : Nat} {σ : Mm} (fq : F_X5_requireSquare p0 p1 p2 σ = some (.inl (iN q), σ)) (hb : (btw p3 (iN 1) (iN 5) && btw p4 (iN 1) (iN 5)) = false) : spA p0 p1 p2 p3 p4 σ = some (.inr 2, σ) := by
  have fb3 := f_btw (p := p3) (lo := iN 1) (hi := iN 5) (σ := σ)
  have fb4 := f_btw (p := p4) (lo := iN 1) (hi := iN 5) (σ := σ)
  have fr3 := f_requireBetween (p := p3) (lo := iN 1) (hi := iN 5) (σ := σ)
  have fr4 := f_requireBetween (p := p4) (lo := iN 1) (hi := iN 5) (σ := σ)
  have tail : F_X5_requireLines p3 p4 σ = some (.inr 2, σ) → spC (iN q) p3 p4 σ = some (.inr 2, σ) := fun h => invM_r h
  unfold spA
  cases eb3 : btw p3 (iN 1) (iN 5)
  · rw [eb3, if_neg (by decide)] at fb3 fr3
    have t := tail (by unfold F_X5_requireLines; exact invM_r fr3)
    simp (disch := omega) only [↓ite_ap, if_true, if_false, if_pos, if_neg, retM_ap, retZ_ap0, retZ_ap1, gM_np, sM_ap, jM_np, bI_ap, bL_ap, bD_ap, rdM_ap, wrM_ap, thrM_ap, nl_0, nl_1, nl_5, iN_eq, ↓invM_l fq, ↓invM_l fb3, t]
  · rw [eb3, Bool.true_and] at hb
    rw [eb3, if_pos rfl] at fb3 fr3
    rw [hb, if_neg (by decide)] at fb4 fr4
    have t := tail (by unfold F_X5_requireLines; exact (invM_l fr3).trans (invM_r fr4))
    simp (disch := omega) only [↓ite_ap, if_true, if_false, if_pos, if_neg, retM_ap, retZ_ap0, retZ_ap1, gM_np, sM_ap, jM_np, bI_ap, bL_ap, bD_ap, rdM_ap, wrM_ap, thrM_ap, nl_0, nl_1, nl_5, iN_eq, ↓invM_l fq, ↓invM_l fb3, ↓invM_l fb4, t]
theorem f_spanFit {t r c hi br q : Nat} {s : Sv} {σ : Mm} (hw : WF s) (hr : Rel 2 s σ) (fq : F_X5_requireSquare (iN t) (iN r) (iN c) σ = some (.inl (iN q), σ)) (ht : t < tbS s) (hr5 : r < 5) (hc : c < 5) (h1 : 1 ≤ hi) (h5 : hi ≤ 5) (b1 : 1 ≤ br) (b5 : br ≤ 5) : spA (iN t) (iN r) (iN c) (iN hi) (iN br) σ = if r + hi ≤ roS s t ∧ c + br ≤ coS s t then spC (iN q) (iN hi) (iN br) σ else some (.inr 1, σ) := by
  have t5 := hw.1.2.2
  have w := hw.2.2.1 t ht
  have fsa := f_squareAt (b := 2) (p0 := iN t) (p1 := iN (r + hi - 1)) (p2 := iN (c + br - 1)) hw hr
  rw [sqI_iN ht t5 (by omega) (by omega)] at fsa
  obtain ⟨R, hR⟩ : ∃ R, R = roS s t := ⟨_, rfl⟩
  obtain ⟨C, hC⟩ : ∃ C, C = coS s t := ⟨_, rfl⟩
  rw [← hR] at fsa w ⊢
  rw [← hC] at fsa w ⊢
  have wR := w.2.2.1
  have wC := w.2.2.2.2.2
  clear w hr
  have ht5 : t < 5 := by omega
  clear hw
  have fb3 := f_btw (p := iN hi) (lo := iN 1) (hi := iN 5) (σ := σ)
  have fb4 := f_btw (p := iN br) (lo := iN 1) (hi := iN 5) (σ := σ)
  rw [btw_iN (by omega) (by omega) (by omega), if_pos (decide_eq_true ⟨h1, h5⟩)] at fb3
  rw [btw_iN (by omega) (by omega) (by omega), if_pos (decide_eq_true ⟨b1, b5⟩)] at fb4
  unfold spA
  by_cases fit : r + hi ≤ R ∧ c + br ≤ C
  · rw [if_pos (show r + hi - 1 < R ∧ c + br - 1 < C by omega)] at fsa
    rw [if_pos fit]
    simp (disch := omega) only [↓ite_ap, if_true, if_false, if_pos, if_neg, retM_ap, retZ_ap0, retZ_ap1, gM_np, sM_ap, jM_np, bI_ap, bL_ap, bD_ap, rdM_ap, wrM_ap, thrM_ap, nl_0, nl_1, nl_2, nl_3, nl_4, nl_5, nl_6, nl_7, nl_8, nl_9, nl_10, nl_11, nl_12, nl_13, nl_25, nl_33, nl_35, nl_45, nl_48, nl_49, nl_50, nl_52, nl_53, nl_57, nl_59, nl_60, nl_61, nl_77, nl_94, nl_97, nl_100, nl_101, nl_119, nl_125, nl_126, nl_137, nl_262, nl_387, nl_500, nl_512, nl_637, nl_999, nl_1022, nl_1137, nl_5685, nm_1b, iN_mI, mI_iN, iN_add, iN_mul, iN_sub, iN_div, iN_rem, iN_lt, iN_le, iN_eq, iN_nat, inB_iN, nm_1, ↓invM_l fq, ↓invM_l fb3, ↓invM_l fb4, ↓invM_l fsa]
  · rw [if_neg (show ¬ (r + hi - 1 < R ∧ c + br - 1 < C) by omega)] at fsa
    rw [if_neg fit]
    simp (disch := omega) only [↓ite_ap, if_true, if_false, if_pos, if_neg, retM_ap, retZ_ap0, retZ_ap1, gM_np, sM_ap, jM_np, bI_ap, bL_ap, bD_ap, rdM_ap, wrM_ap, thrM_ap, nl_0, nl_1, nl_2, nl_3, nl_4, nl_5, nl_6, nl_7, nl_8, nl_9, nl_10, nl_11, nl_12, nl_13, nl_25, nl_33, nl_35, nl_45, nl_48, nl_49, nl_50, nl_52, nl_53, nl_57, nl_59, nl_60, nl_61, nl_77, nl_94, nl_97, nl_100, nl_101, nl_119, nl_125, nl_126, nl_137, nl_262, nl_387, nl_500, nl_512, nl_637, nl_999, nl_1022, nl_1137, nl_5685, nm_1b, iN_mI, mI_iN, iN_add, iN_mul, iN_sub, iN_div, iN_rem, iN_lt, iN_le, iN_eq, iN_nat, inB_iN, nm_1, ↓invM_l fq, ↓invM_l fb3, ↓invM_l fb4, ↓invM_l fsa]
theorem r_spanTail {t q hi br : Nat} {p1 p2 : Int32} {m m1 : Mm} {g3 : Nat → Int32} (hq : q < 125) (fsq : F_X6_square (iN t) p1 p2 m = some (.inl (iN q), m)) (fcs : F_X6_canSpan (iN q) (iN hi) (iN br) m = some (.inl (iN 1), m)) (b1 : F_X6_saves m = some (.inl (), m1)) (g2 : Nat → Int32) (l : ∀ R : Dm Int32, L_X6_span_129 (iN t) (iN q) FU (iN 0) (fun _ => L_X6_span_186 (iN hi) (iN br) (iN q) FU (iN 1) (fun _ => R)) m1 = R (setR m1 169 g2)) (hg3 : g3 = upS (upS g2 (262 + q) (iN hi)) (387 + q) (iN br)) : spR (iN t) p1 p2 (iN hi) (iN br) m = some (.inl (iN hi * iN br), setR m1 169 g3) := by
  unfold spR
  refine (invM_l fsq).trans ((invM_l fcs).trans ?_)
  rw [if_neg (show ¬ iN 1 = 0 by rw [nl_0, iN_eq (by omega) (by omega)]; omega)]
  refine (invM_l b1).trans ?_
  rw [nl_0, nl_1, l, nl_262, nl_387, hg3]
  simp (disch := omega) only [↓ite_ap, if_true, if_false, if_pos, if_neg, retM_ap, retZ_ap0, retZ_ap1, gM_np, sM_ap, jM_np, bI_ap, bL_ap, bD_ap, rdM_ap, wrM_ap, thrM_ap, iN_add, upM_setR]
theorem st_span (p0 p1 p2 p3 p4 : Int32) : StW II cs_span (F_X5_span p0 p1 p2 p3 p4) (F_X6_span p0 p1 p2 p3 p4) := by
  intro σ h
  obtain ⟨hw, hr, hL⟩ := h.1
  obtain ⟨n, o, P, hn, ho, hc, hir⟩ := HI_cr h.2.1
  have fq := f_requireSquare (p0 := p0) (p1 := p1) (p2 := p2) hw hr
  have v6 : Vw 169 (nowS σ) (upM σ 168 6 (iN 0)) := vw_up (j := 6) (v := iN 0) (show 168 ≠ 169 by omega)
  rw [span_R, span_C]
  cases e : sqO (nowS σ) p0 p1 p2 with
  | none =>
    rw [e] at fq
    exact st_er (c := 1) h (invM_r fq) (r_spanNo hw v6 e) rfl
  | some q =>
    rw [e] at fq
    have fq : F_X5_requireSquare p0 p1 p2 σ = some (.inl (iN q), σ) := fq
    obtain ⟨t, r, c, ep0, ep1, ep2, ht, hr', hc', r5, c5, eq, hq, eqt, eqr, eqc⟩ := sqO_some hw e
    have hq5 := isOf_lt hw hq
    cases eb : (btw p3 (iN 1) (iN 5) && btw p4 (iN 1) (iN 5))
    · exact st_er (e := 2) (c := 2) h (f_spanBad fq eb) (r_spanBad hw v6 e eb) rfl
    · rw [Bool.and_eq_true] at eb
      obtain ⟨hi, eh, hi1, hi5⟩ := btw_nat (by omega) (by omega) eb.1
      obtain ⟨br, er, br1, br5⟩ := btw_nat (by omega) (by omega) eb.2
      subst ep0 ep1 ep2 eh er
      have fA := f_spanFit hw hr fq ht r5 c5 hi1 hi5 br1 br5
      have fB := fun (m : Mm) (hv : Vw 169 (nowS σ) m) => r_spanFit hw hv e ht r5 c5 hi1 hi5 br1 br5
      by_cases fit : r + hi ≤ roS (nowS σ) t ∧ c + br ≤ coS (nowS σ) t
      · rw [if_pos fit] at fA
        simp only [if_pos fit] at fB
        have f1 : q % 25 / 5 + hi ≤ roS (nowS σ) (q / 25) := by rw [eqt, eqr]; exact fit.1
        have f2 : q % 5 + br ≤ coS (nowS σ) (q / 25) := by rw [eqt, eqc]; exact fit.2
        have w3 := hw.2.2.1 t ht
        have u5 : q % 25 / 5 + hi ≤ 5 := by rw [eqt] at f1; omega
        have u6 : q % 5 + br ≤ 5 := by rw [eqt] at f2; omega
        have fr3 := f_requireBetween (p := iN hi) (lo := iN 1) (hi := iN 5) (σ := σ)
        have fr4 := f_requireBetween (p := iN br) (lo := iN 1) (hi := iN 5) (σ := σ)
        rw [eb.1, if_pos rfl] at fr3
        rw [eb.2, if_pos rfl] at fr4
        have frl : F_X5_requireLines (iN hi) (iN br) σ = some (.inl (), σ) := by
          unfold F_X5_requireLines
          exact (invM_l fr3).trans (invM_l fr4)
        have fic := f_isCell (b := 2) (q := q) (σ := σ) hq5
        by_cases hcl : isCl (nowS σ) q
        · rw [if_pos ((rel_isCell hw hr hcl.1.1).mpr hcl)] at fic
          have fcc := f_canCover (b := 2) hw hr hcl f1 f2
          have frs := fun (m : Mm) (hv : Vw 169 (nowS σ) m) => r_canSpan hw hv hcl br1 f1 f2
          have ecr : cvR (nowS σ) q hi br = cvC (nowS σ) q hi br := by
            cases ec : cvC (nowS σ) q hi br
            · exact (cvR_iff br1 u5 u6).mpr ((cvC_iff u5 u6).mp ec)
            · cases ed : cvR (nowS σ) q hi br
              · rw [(cvC_iff u5 u6).mpr ((cvR_iff br1 u5 u6).mp ed)] at ec
                cases ec
              · rfl
          rw [ecr] at frs
          cases ec : cvC (nowS σ) q hi br
          · rw [ec, if_neg (by decide)] at fcc
            rw [ec] at frs
            have hfN : fitN (nowS σ) q hi br := ⟨hcl, hi1, hi5, br1, br5, f1, f2, (cvC_iff u5 u6).mp ec⟩
            obtain ⟨rr, hrr⟩ : ∃ rr, rr = iN hi * iN br := ⟨_, rfl⟩
            obtain ⟨σ1, o', a1, a2, a3, a4⟩ := f_save hw hr hn ho hc
            obtain ⟨m', d1', d2', d3'⟩ := f_cover (b := 2) hw (hr.fr (fun k h1 h2 => a4 k (by omega)) : Rel 2 (nowS σ) σ1) hfN
            obtain ⟨σ2, σ3, c1, c2, c3, c4⟩ := cls_chg (s' := spS (nowS σ) q hi br) (σ1 := σ1) (OP := fun _ => some (.inl rr, m')) (x := rr) h rfl a4 (fun _ => ⟨m', rfl, d2', fun k hk => d3' k (by omega)⟩) (sp_WF hw hfN)
            have e2 : σ2 = m' := by
              injection c1 with c1
              injection c1 with _ c1
              exact c1.symm
            rw [e2] at c2
            have hrM : HIr (mO σ3 rr) n P := hir.fr (by rw [mO_q (by omega), c4 168 (by omega), a4 168 (by omega)]) (funext (fun j => by rw [mO_q (by omega), c4 171 (by omega), a4 171 (by omega)]))
            have en : nowS (mO σ3 rr) = nowS σ := by rw [now_mO, now_fr (by rw [c4 169 (by omega), a4 169 (by omega)])]
            obtain ⟨m1, b1, b2, b3, b4⟩ := r_saves hn hrM
            rw [en] at b2
            have v7 : Vw 169 (nowS σ) (mO σ3 rr) := by
              have := now_vw (σ := mO σ3 rr)
              rw [en] at this
              exact this
            have v1 : Vw 169 (nowS σ) m1 := v7.fr (funext (fun j => b4 169 j (by omega) (by omega)))
            obtain ⟨g1, hg1⟩ : ∃ g1, g1 = mdS (m1 169) (oB (m1 169) q) iN := ⟨_, rfl⟩
            obtain ⟨g2, hg2⟩ : ∃ g2, g2 = mdS g1 (xB q hi br) (fun _ => iN q) := ⟨_, rfl⟩
            obtain ⟨g3, hg3⟩ : ∃ g3, g3 = upS (upS g2 (262 + q) (iN hi)) (387 + q) (iN br) := ⟨_, rfl⟩
            have l1 := fun R => r_span129 (σ := m1) (g := m1 169) eqt (by omega) R
            rw [setR_self, ← hg1] at l1
            have l2 := fun R => r_span186 (σ := m1) (g := g1) hq5 hi1 br1 u5 u6 R
            rw [← hg2] at l2
            have g := chg_end (r := rr) (m2 := setR m1 169 g3) h hn a2 a3 a4 c4 c3 b2 b3 b4 (fun k hk => setR_o hk) (setR_vw (fun j hj => by rw [hg3, hg2, hg1]; exact md_sp hq5 v1 j hj)) (fun j hj => by rw [sp_hi hj]; exact now_z hj)
            have fsq := r_squareO (σ := mO σ3 rr) hw e
            have fcs := frs (mO σ3 rr) v7
            rw [if_neg (by decide)] at fcs
            have ft := r_spanTail (g3 := g3) hq5 fsq fcs b1 g2 (fun R => by rw [l1, l2]) hg3
            refine st_ok (r := rr) (σ1 := σ3) (σ3 := setR m1 169 g3) ?_ ?_ g.1 g.2.1 g.2.2
            · rw [fA]
              unfold spC
              refine (invM_l frl).trans ((invM_l fic).trans ?_)
              rw [if_neg (show ¬ iN 1 = 0 by rw [nl_0, iN_eq (by omega) (by omega)]; omega)]
              refine (invM_l fcc).trans ?_
              rw [if_neg (show ¬ iN 1 = 0 by rw [nl_0, iN_eq (by omega) (by omega)]; omega)]
              refine (invM_l a1).trans ((invM_l d1').trans ((invM_l c2).trans ?_))
              rw [hrr]
              rfl
            · show spB (iN t) (iN r) (iN c) (iN hi) (iN br) (mO σ3 rr) = _
              rw [fB _ v7, ft, hrr]
          · rw [ec, if_pos rfl] at fcc
            rw [ec] at frs
            have fcs := frs (upM σ 168 6 (iN 0)) v6
            rw [if_pos rfl] at fcs
            refine st_er (e := 3) (c := 3) h ?_ ?_ rfl
            · rw [fA]
              unfold spC
              refine (invM_l frl).trans ((invM_l fic).trans ?_)
              rw [if_neg (show ¬ iN 1 = 0 by rw [nl_0, iN_eq (by omega) (by omega)]; omega)]
              exact (invM_l fcc).trans rfl
            · rw [fB _ v6]
              unfold spR
              refine (invM_l (r_squareO hw e)).trans ((invM_l fcs).trans ?_)
              rw [if_pos nl_0.symm, nl_3]
              exact b_fails
        · rw [if_neg (fun g => hcl ((rel_isCell hw hr hq.1).mp g))] at fic
          have fc0 := r_isCell0 hw v6 hq5 hcl
          have ncs : F_X6_canSpan (iN q) (iN hi) (iN br) (upM σ 168 6 (iN 0)) = some (.inl (iN 0), upM σ 168 6 (iN 0)) := by
            obtain ⟨n', hn'⟩ : ∃ n', FU = n' + 1 := ⟨FU - 1, by unfold FU; omega⟩
            unfold F_X6_canSpan
            rw [invM_l fc0, hn']
            simp only [L_X6_canSpan_13]
            rw [nl_0]
            by_cases g : iN hi * iN br ≤ iN 0
            · rw [if_pos g]
              rfl
            · rw [if_neg g, if_pos rfl]
              rfl
          refine st_er (e := 3) (c := 3) h ?_ ?_ rfl
          · rw [fA]
            unfold spC
            exact (invM_l frl).trans ((invM_l fic).trans rfl)
          · rw [fB _ v6]
            unfold spR
            refine (invM_l (r_squareO hw e)).trans ((invM_l ncs).trans ?_)
            rw [if_pos nl_0.symm, nl_3]
            exact b_fails
      · rw [if_neg fit] at fA
        have fB6 := fB _ v6
        rw [if_neg fit] at fB6
        exact st_er (e := 1) (c := 1) h fA fB6 rfl
