/-! TEXTS: THE WHOLE TEXT -/
theorem EqA.trans {C : Nat → Nat} {L p e p' : Nat} (h : EqA C L 0 0 p) (h' : EqA C L p e p') : EqA C L 0 e p' :=
  ⟨h.1.trans h'.1, h.2.1.trans h'.2.1, by omega, h'.2.2.2⟩
/-- the orders from the i-th on, n of them, the first from p on -/
def TLs (C : Nat → Nat) (L : Nat) (m : Mm) : Nat → Nat → Nat → Prop
  | 0, _, _ => False
  | n + 1, i, p => ∃ p', TO C m i p p' ∧ sgO C p p' ∧ p' ≤ L ∧ ((n = 0 ∧ p' = L) ∨ (p' < L ∧ C p' = 59 ∧ TLs C L m n (i + 1) (p' + 1)))
def FrT (k : Nat) (m m' : Mm) : Prop := ∀ k' j, ¬ (k' = 168 ∧ (j = 7 ∨ j = 8 ∨ j = 9 ∨ j = 11)) → ¬ (k' = 173 ∧ 5 * k ≤ j) → m' k' j = m k' j
theorem TO.fr {C : Nat → Nat} {m m' : Mm} {k p p' : Nat} (h : TO C m k p p') (hf : ∀ j, 5 * k ≤ j → j < 5 * k + 5 → m' 173 j = m 173 j) : TO C m' k p p' := by
  unfold TO
  rw [hf _ (by omega) (by omega), hf _ (by omega) (by omega), hf _ (by omega) (by omega), hf _ (by omega) (by omega), hf _ (by omega) (by omega)]
  exact h
theorem TLs.fr {C : Nat → Nat} {L : Nat} {m m' : Mm} (hf : ∀ j, m' 173 j = m 173 j) : ∀ {n i p : Nat}, TLs C L m n i p → TLs C L m' n i p
  | 0, _, _, h => h
  | n + 1, i, p, ⟨p', h1, h2, h3, h4⟩ => ⟨p', h1.fr (fun j _ _ => hf j), h2, h3, h4.imp id (fun x => ⟨x.1, x.2.1, TLs.fr hf x.2.2⟩)⟩
/-- the text is no orders -/
def badT (C : Nat → Nat) (L : Nat) (m : Mm) : Prop := (∀ e, 7 ≤ e → stA C L 0 0 ≠ some e) ∧ ((m 168 8 = iN 0 ∧ fltA C L 0 0 = L) ∨ (m 168 8 = iN 1 ∧ m 168 7 = iN (fltA C L 0 0)))
def endT (_ : Unit) : Dm Int32 := gM (fun σ => σ 168 7) fun x7 => gM (fun σ => σ 168 5) fun x8 => jM (fun (x9 : Int32) => zM 168 8 x9 <| gM (fun σ => σ 168 7) fun x10 => gM (fun σ => σ 168 5) fun x11 => (if x10 = x11 then retZ (1 : Int32) else retZ (0 : Int32))) fun k3 => (if x8 ≤ x7 then k3 (0 : Int32) else k3 (1 : Int32))
theorem r_endT {C : Nat → Nat} {L k p : Nat} {m : Mm} (h : PS C L m p k) : endT () m = some (.inl (iN (if p = L then 1 else 0)), upM m 168 8 (iN (if p < L then 1 else 0))) := by
  obtain ⟨e1, e2, e3, hL, hp, hC⟩ := h
  have u1 : ∀ v, upM m 168 8 v 168 7 = iN p := fun v => by rw [upM_q (by omega)]; exact e1
  have u2 : ∀ v, upM m 168 8 v 168 5 = iN L := fun v => by rw [upM_q (by omega)]; exact e3
  unfold endT
  by_cases g : p < L
  · rw [if_pos g, if_neg (by omega)]
    simp (disch := omega) only [↓ite_ap, if_true, if_false, if_pos, if_neg, retM_ap, retZ_ap0, retZ_ap1, gM_np, sM_ap, jM_np, bI_ap, bL_ap, bD_ap, rdM_ap, wrM_ap, thrM_ap, nl_0, nl_1, nl_2, nl_3, nl_4, nl_5, nl_6, nl_7, nl_8, nl_9, nl_10, nl_11, nl_12, nl_13, nl_25, nl_33, nl_35, nl_45, nl_48, nl_49, nl_50, nl_52, nl_53, nl_57, nl_59, nl_60, nl_61, nl_77, nl_94, nl_97, nl_100, nl_101, nl_119, nl_125, nl_126, nl_137, nl_262, nl_387, nl_500, nl_512, nl_637, nl_999, nl_1022, nl_1137, nl_5685, nm_1b, iN_mI, mI_iN, iN_add, iN_mul, iN_sub, iN_div, iN_rem, iN_lt, iN_le, iN_eq, iN_nat, inB_iN, e1, e3, zM_1, u1, u2]
  · rw [if_neg g, if_pos (by omega)]
    simp (disch := omega) only [↓ite_ap, if_true, if_false, if_pos, if_neg, retM_ap, retZ_ap0, retZ_ap1, gM_np, sM_ap, jM_np, bI_ap, bL_ap, bD_ap, rdM_ap, wrM_ap, thrM_ap, nl_0, nl_1, nl_2, nl_3, nl_4, nl_5, nl_6, nl_7, nl_8, nl_9, nl_10, nl_11, nl_12, nl_13, nl_25, nl_33, nl_35, nl_45, nl_48, nl_49, nl_50, nl_52, nl_53, nl_57, nl_59, nl_60, nl_61, nl_77, nl_94, nl_97, nl_100, nl_101, nl_119, nl_125, nl_126, nl_137, nl_262, nl_387, nl_500, nl_512, nl_637, nl_999, nl_1022, nl_1137, nl_5685, nm_1b, iN_mI, mI_iN, iN_add, iN_mul, iN_sub, iN_div, iN_rem, iN_lt, iN_le, iN_eq, iN_nat, inB_iN, e1, e3, zM_0, u1, u2]
theorem r_textLoop {C : Nat → Nat} {L : Nat} : ∀ r k p n (m : Mm), k + r = 13 → r < n → 5 * k ≤ p → PS C L m p k → EqA C L 0 0 p → ∃ m' b, L_X6_isText_17 n (iN 1) endT m = some (.inl (iN b), m') ∧ FrT k m m' ∧ ((b = 0 ∧ badT C L m') ∨ (b = 1 ∧ (∃ d, m' 168 11 = iN (k + d) ∧ k + d ≤ 13 ∧ TLs C L m' d k p) ∧ ∃ e, 7 ≤ e ∧ stA C L 0 0 = some e)) := by
  intro r
  induction r with
  | zero =>
    intro k p n m h1 h2 h3 h4 h5
    have := h4.2.2.2.1
    have := h4.2.2.2.2.1
    omega
  | succ r ih =>
    intro k p n m h1 h2 h3 h4 h5
    obtain ⟨n, rfl⟩ : ∃ x, n = x + 1 := ⟨n - 1, by omega⟩
    obtain ⟨m1, p1, b, a1, a2, a3, a4⟩ := r_isOrder (by omega) h4
    have hL60 := a2.2.2.2.1
    have pL := a2.2.2.2.2.1
    have fo : FrT k m m1 := fun k' j x y => a3 k' j (by omega) (by omega)
    have g0 : ¬ iN 1 = iN 0 := by rw [iN_eq (by omega) (by omega)]; omega
    rcases a4 with ⟨b0, c1, e, c2, c3, c4⟩ | ⟨b0, ⟨e, c1, c2, c3, c4⟩, c5, c6⟩
    · subst b0
      refine ⟨m1, 0, ?_, fo, .inl ⟨rfl, ?_⟩⟩
      · simp only [L_X6_isText_17]
        rw [nl_0, if_neg g0, invM_l a1, if_pos rfl]
        rfl
      · have q := h5.trans c3
        have pl := q.2.2.2
        by_cases g : p1 < L
        · have e9 : L - p1 = L - p1 - 1 + 1 := by omega
          have q1 := q.1
          have q2 := q.2.1
          rw [e9] at q1 q2
          rw [(flt_none (c4 g)).1] at q1
          rw [(flt_none (c4 g)).2] at q2
          rw [if_pos g] at c1
          refine ⟨fun e' _ x => ?_, .inr ⟨c1, ?_⟩⟩
          · rw [Nat.sub_zero] at q2
            rw [q2] at x
            cases x
          · rw [Nat.sub_zero] at q1
            rw [q1]
            exact a2.1
        · have e9 : L - p1 = 0 := by omega
          have q1 := q.1
          have q2 := q.2.1
          rw [e9, Nat.sub_zero] at q1 q2
          rw [if_neg g] at c1
          refine ⟨fun e' h7 x => ?_, .inl ⟨c1, q1.trans (show p1 = L by omega)⟩⟩
          rw [q2] at x
          injection x with x
          omega
    · subst b0
      obtain ⟨m2, hm2⟩ : ∃ m2, m2 = upM m1 168 11 (iN (k + 1)) := ⟨_, rfl⟩
      have f2 : ∀ k' j, ¬ (k' = 168 ∧ j = 11) → m2 k' j = m1 k' j := fun k' j x => by rw [hm2, upM_q x]
      have ps2 : PS C L m2 p1 (k + 1) := ⟨by rw [f2 _ _ (by omega)]; exact a2.1, by rw [hm2, upM_at], by rw [f2 _ _ (by omega)]; exact a2.2.2.1, hL60, a2.2.2.2.2.1, fun j hj => by rw [f2 _ _ (by omega)]; exact a2.2.2.2.2.2 j hj⟩
      have fa := r_isAt (lo := 59) (hi := 59) ps2 (by omega) (by omega)
      have e11 := a2.2.1
      have e27 := ps2.1
      have p45 := c6.1
      have q := h5.trans c3
      by_cases g : p1 < L ∧ 59 ≤ C p1 ∧ C p1 ≤ 59
      · rw [if_pos g] at fa
        obtain ⟨m3, hm3⟩ : ∃ m3, m3 = upM m2 168 7 (iN (p1 + 1)) := ⟨_, rfl⟩
        have f3 : ∀ k' j, ¬ (k' = 168 ∧ j = 7) → m3 k' j = m2 k' j := fun k' j x => by rw [hm3, upM_q x]
        have ps3 : PS C L m3 (p1 + 1) (k + 1) := ⟨by rw [hm3, upM_at], by rw [f3 _ _ (by omega)]; exact ps2.2.1, by rw [f3 _ _ (by omega)]; exact ps2.2.2.1, hL60, by omega, fun j hj => by rw [f3 _ _ (by omega)]; exact ps2.2.2.2.2.2 j hj⟩
        have ex : exA e (C p1) = some 0 := by
          unfold exA
          rw [if_pos (by omega)]
        obtain ⟨m', b, y1, y2, y3⟩ := ih (k + 1) (p1 + 1) n m3 (by omega) (by omega) (by omega) ps3 (q.s g.1 ex)
        refine ⟨m', b, ?_, fun k' j x y => ?_, ?_⟩
        · simp only [L_X6_isText_17]
          clear f2 f3 fo ih q c5 c4
          simp (disch := omega) only [↓ite_ap, if_true, if_false, if_pos, if_neg, retM_ap, retZ_ap0, retZ_ap1, gM_np, sM_ap, jM_np, bI_ap, bL_ap, bD_ap, rdM_ap, wrM_ap, thrM_ap, nl_0, nl_1, nl_2, nl_3, nl_4, nl_5, nl_6, nl_7, nl_8, nl_9, nl_10, nl_11, nl_12, nl_13, nl_25, nl_33, nl_35, nl_45, nl_48, nl_49, nl_50, nl_52, nl_53, nl_57, nl_59, nl_60, nl_61, nl_77, nl_94, nl_97, nl_100, nl_101, nl_119, nl_125, nl_126, nl_137, nl_262, nl_387, nl_500, nl_512, nl_637, nl_999, nl_1022, nl_1137, nl_5685, nm_1b, iN_mI, mI_iN, iN_add, iN_mul, iN_sub, iN_div, iN_rem, iN_lt, iN_le, iN_eq, iN_nat, inB_iN, ↓invM_l a1, e11, ← hm2, ↓invM_l fa, e27, ← hm3, y1]
        · rw [y2 k' j x (by omega), f3 _ _ (by omega), f2 _ _ (by omega), fo k' j x y]
        · refine y3.imp id (fun z => ⟨z.1, ?_, z.2.2⟩)
          obtain ⟨_, ⟨d, z1, z2, z3⟩, _⟩ := z
          refine ⟨d + 1, by rw [z1, show k + 1 + d = k + (d + 1) by omega], by omega, p1, c5.fr (fun j u v => ?_), c6, by omega, .inr ⟨g.1, by omega, z3⟩⟩
          rw [y2 _ _ (by omega) (by omega), f3 _ _ (by omega), f2 _ _ (by omega)]
      · rw [if_neg g] at fa
        obtain ⟨m3, hm3⟩ : ∃ m3, m3 = upM m2 168 7 (iN (p1 + 0)) := ⟨_, rfl⟩
        have f3 : ∀ k' j, m3 k' j = m2 k' j := fun k' j => by
          rw [hm3]
          by_cases x : k' = 168 ∧ j = 7
          · rw [x.1, x.2, upM_at]
            exact e27.symm
          · rw [upM_q x]
        have e32 : m3 = m2 := funext (fun k' => funext (fun j => f3 k' j))
        have fe := r_endT ps2
        refine ⟨upM m2 168 8 (iN (if p1 < L then 1 else 0)), (if p1 = L then 1 else 0), ?_, fun k' j x y => ?_, ?_⟩
        · have stop : L_X6_isText_17 n (iN 0) endT m2 = some (.inl (iN (if p1 = L then 1 else 0)), upM m2 168 8 (iN (if p1 < L then 1 else 0))) := by
            obtain ⟨n', rfl⟩ : ∃ x, n = x + 1 := ⟨n - 1, by omega⟩
            simp only [L_X6_isText_17]
            rw [nl_0, if_pos rfl]
            exact fe
          rw [← e32] at stop
          simp only [L_X6_isText_17]
          clear f2 f3 fo ih q c5 c4
          simp (disch := omega) only [↓ite_ap, if_true, if_false, if_pos, if_neg, retM_ap, retZ_ap0, retZ_ap1, gM_np, sM_ap, jM_np, bI_ap, bL_ap, bD_ap, rdM_ap, wrM_ap, thrM_ap, nl_0, nl_1, nl_2, nl_3, nl_4, nl_5, nl_6, nl_7, nl_8, nl_9, nl_10, nl_11, nl_12, nl_13, nl_25, nl_33, nl_35, nl_45, nl_48, nl_49, nl_50, nl_52, nl_53, nl_57, nl_59, nl_60, nl_61, nl_77, nl_94, nl_97, nl_100, nl_101, nl_119, nl_125, nl_126, nl_137, nl_262, nl_387, nl_500, nl_512, nl_637, nl_999, nl_1022, nl_1137, nl_5685, nm_1b, iN_mI, mI_iN, iN_add, iN_mul, iN_sub, iN_div, iN_rem, iN_lt, iN_le, iN_eq, iN_nat, inB_iN, ↓invM_l a1, e11, ← hm2, ↓invM_l fa, e27, ← hm3, stop]
          rw [e32]
        · rw [upM_q (by omega), f2 _ _ (by omega), fo k' j x y]
        · by_cases g2 : p1 = L
          · rw [if_pos g2]
            refine .inr ⟨rfl, ⟨1, by rw [upM_q (by omega)]; exact ps2.2.1, by omega, p1, c5.fr (fun j u v => by rw [upM_q (by omega), f2 _ _ (by omega)]), c6, by omega, .inl ⟨rfl, g2⟩⟩, e, c1, ?_⟩
            have q2 := q.2.1
            rw [show L - p1 = 0 by omega, Nat.sub_zero] at q2
            exact q2
          · rw [if_neg g2]
            have gl : p1 < L := by omega
            have n59 : C p1 ≠ 59 := fun x => g ⟨gl, by omega, by omega⟩
            have e9 : L - p1 = L - p1 - 1 + 1 := by omega
            have q1 := q.1
            have q2 := q.2.1
            rw [e9] at q1 q2
            rw [(flt_none (c4 gl n59)).1, Nat.sub_zero] at q1
            rw [(flt_none (c4 gl n59)).2, Nat.sub_zero] at q2
            refine .inl ⟨rfl, fun e' _ x => ?_, .inr ⟨by rw [if_pos gl, upM_at], ?_⟩⟩
            · rw [q2] at x
              cases x
            · rw [q1, upM_q (by omega)]
              exact ps2.1
theorem r_isText {C : Nat → Nat} {L : Nat} {m : Mm} (hL : L ≤ 60) (e5 : m 168 5 = iN L) (hC : ∀ j, j < L → m 172 j = iN (C j) ∧ C j < 1000) : ∃ m' b, F_X6_isText m = some (.inl (iN b), m') ∧ FrT 0 m m' ∧ ((b = 0 ∧ badT C L m') ∨ (b = 1 ∧ (∃ d, m' 168 11 = iN d ∧ d ≤ 13 ∧ TLs C L m' d 0 0) ∧ ∃ e, 7 ≤ e ∧ stA C L 0 0 = some e)) := by
  obtain ⟨m1, hm1⟩ : ∃ m1, m1 = upM (upM (upM m 168 7 (iN 0)) 168 11 (iN 0)) 168 8 (iN 0) := ⟨_, rfl⟩
  have f1 : ∀ k' j, ¬ (k' = 168 ∧ (j = 7 ∨ j = 8 ∨ j = 11)) → m1 k' j = m k' j := fun k' j x => by rw [hm1, upM_q (by omega), upM_q (by omega), upM_q (by omega)]
  have ps1 : PS C L m1 0 0 := ⟨by rw [hm1, upM_q (by omega), upM_q (by omega), upM_at], by rw [hm1, upM_q (by omega), upM_at], by rw [f1 _ _ (by omega)]; exact e5, hL, by omega, fun j hj => by rw [f1 _ _ (by omega)]; exact hC j hj⟩
  obtain ⟨m', b, y1, y2, y3⟩ := r_textLoop 13 0 0 FU m1 (by omega) (by unfold FU; omega) (by omega) ps1 ⟨rfl, rfl, by omega, by omega⟩
  refine ⟨m', b, ?_, fun k' j x y => by rw [y2 k' j x y, f1 _ _ (by omega)], y3.imp id (fun z => ⟨z.1, ?_, z.2.2⟩)⟩
  · unfold F_X6_isText
    rw [nl_0, nl_1, sM_ap, sM_ap, zM_0, ← hm1]
    exact y1
  · obtain ⟨_, ⟨d, z1, z2, z3⟩, _⟩ := z
    exact ⟨d, by rw [z1, Nat.zero_add], by omega, z3⟩
theorem TX.C {σ : Mm} (h : TX σ) : ∃ (L : Nat) (C : Nat → Nat), L ≤ 60 ∧ σ 165 1 = iN L ∧ σ 168 5 = iN L ∧ (∀ j, j < L → σ 167 j = iN (C j) ∧ C j < 1000) ∧ ∀ j, j < L → σ 172 j = iN (C j) ∧ C j < 1000 := by
  obtain ⟨L, hL, e1, e2, e3⟩ := h
  refine ⟨L, fun j => (σ 172 j).toInt.toNat, hL, e1, e2, fun j hj => ?_, fun j hj => ?_⟩
  all_goals
    obtain ⟨a, c, b1, b2, b3⟩ := e3 j hj
    have e : (σ 172 j).toInt.toNat = c := by
      rw [b1, iN_int (by omega)]
      omega
  · show σ 167 j = iN ((σ 172 j).toInt.toNat) ∧ (σ 172 j).toInt.toNat < 1000
    rw [a, e, b1]
    exact ⟨rfl, by omega⟩
  · show σ 172 j = iN ((σ 172 j).toInt.toNat) ∧ (σ 172 j).toInt.toNat < 1000
    rw [e, b1]
    exact ⟨rfl, by omega⟩
theorem st_firstError : StP (fun _ => True) II F_X5_firstError F_X6_firstError := by
  intro σ h
  obtain ⟨L, C, hL, e1, e2, e3, e4⟩ := h.2.2.1.C
  have ff := f_fault_l hL e1 e3 L 0 0 FU (by omega) (by unfold FU; omega) (by omega)
  have fc : F_X5_firstError σ = some (.inl (iN (fltA C L 0 0)), σ) := by
    unfold F_X5_firstError
    refine (invM_l (K := fun x1 => retM x1) (show F_X3_firstFault σ = some (.inl (iN (fltA C L 0 0)), σ) from ?_)).trans rfl
    unfold F_X3_firstFault
    rw [nl_0]
    exact ff
  obtain ⟨m1, hm1⟩ : ∃ m1, m1 = upM σ 168 6 (iN 0) := ⟨_, rfl⟩
  have f1 : ∀ k' j, ¬ (k' = 168 ∧ j = 6) → m1 k' j = σ k' j := fun k' j x => by rw [hm1, upM_q x]
  obtain ⟨m', b, y1, y2, y3⟩ := r_isText (C := C) (m := m1) hL (by rw [f1 _ _ (by omega)]; exact e2) (fun j hj => by rw [f1 _ _ (by omega)]; exact e4 j hj)
  have e5 : m' 168 5 = iN L := by rw [y2 _ _ (by omega) (by omega), f1 _ _ (by omega)]; exact e2
  have I' : II m' := h.fr (fun k j g => by unfold PI at g; rw [y2 _ _ (by omega) (by omega), f1 _ _ (by omega)])
  refine ⟨_, σ, fc, m', ?_, I', trivial⟩
  unfold F_X6_firstError
  rw [nl_0, sM_ap, ← hm1, invM_l y1]
  rcases y3 with ⟨b0, _, b2 | b2⟩ | ⟨b0, _, e, h7, b2⟩
  · subst b0
    have t1 := b2.1
    rw [b2.2]
    simp (disch := omega) only [↓ite_ap, if_true, if_false, if_pos, if_neg, retM_ap, retZ_ap0, retZ_ap1, gM_np, sM_ap, jM_np, bI_ap, bL_ap, bD_ap, rdM_ap, wrM_ap, thrM_ap, nl_0, nl_1, nl_2, nl_3, nl_4, nl_5, nl_6, nl_7, nl_8, nl_9, nl_10, nl_11, nl_12, nl_13, nl_25, nl_33, nl_35, nl_45, nl_48, nl_49, nl_50, nl_52, nl_53, nl_57, nl_59, nl_60, nl_61, nl_77, nl_94, nl_97, nl_100, nl_101, nl_119, nl_125, nl_126, nl_137, nl_262, nl_387, nl_500, nl_512, nl_637, nl_999, nl_1022, nl_1137, nl_5685, nm_1b, iN_mI, mI_iN, iN_add, iN_mul, iN_sub, iN_div, iN_rem, iN_lt, iN_le, iN_eq, iN_nat, inB_iN, t1, e5]
  · subst b0
    have t1 := b2.1
    have t2 := b2.2
    simp (disch := omega) only [↓ite_ap, if_true, if_false, if_pos, if_neg, retM_ap, retZ_ap0, retZ_ap1, gM_np, sM_ap, jM_np, bI_ap, bL_ap, bD_ap, rdM_ap, wrM_ap, thrM_ap, nl_0, nl_1, nl_2, nl_3, nl_4, nl_5, nl_6, nl_7, nl_8, nl_9, nl_10, nl_11, nl_12, nl_13, nl_25, nl_33, nl_35, nl_45, nl_48, nl_49, nl_50, nl_52, nl_53, nl_57, nl_59, nl_60, nl_61, nl_77, nl_94, nl_97, nl_100, nl_101, nl_119, nl_125, nl_126, nl_137, nl_262, nl_387, nl_500, nl_512, nl_637, nl_999, nl_1022, nl_1137, nl_5685, nm_1b, iN_mI, mI_iN, iN_add, iN_mul, iN_sub, iN_div, iN_rem, iN_lt, iN_le, iN_eq, iN_nat, inB_iN, t1, t2]
  · subst b0
    rw [st_flt b2, Nat.zero_add]
    simp (disch := omega) only [↓ite_ap, if_true, if_false, if_pos, if_neg, retM_ap, retZ_ap0, retZ_ap1, gM_np, sM_ap, jM_np, bI_ap, bL_ap, bD_ap, rdM_ap, wrM_ap, thrM_ap, nl_0, nl_1, nl_2, nl_3, nl_4, nl_5, nl_6, nl_7, nl_8, nl_9, nl_10, nl_11, nl_12, nl_13, nl_25, nl_33, nl_35, nl_45, nl_48, nl_49, nl_50, nl_52, nl_53, nl_57, nl_59, nl_60, nl_61, nl_77, nl_94, nl_97, nl_100, nl_101, nl_119, nl_125, nl_126, nl_137, nl_262, nl_387, nl_500, nl_512, nl_637, nl_999, nl_1022, nl_1137, nl_5685, nm_1b, iN_mI, mI_iN, iN_add, iN_mul, iN_sub, iN_div, iN_rem, iN_lt, iN_le, iN_eq, iN_nat, inB_iN, e5]
