/-! RUN -/
def LoF (C : Nat → Nat) (L i p : Nat) (s s' : Sv) (i' : Nat) : Prop := ∀ n σ (K : Int32 → Dm Int32), Rel 2 s σ → CT5 C L σ → L - p + 3 < n → ∃ σ1, L_X5_run_35 n (iN i) (iN p) (iN p) K K σ = K (iN i') σ1 ∧ Rel 2 s' σ1 ∧ ∀ k, ¬ (2 ≤ k ∧ k ≤ 16) → σ1 k = σ k
def LoR (C : Nat → Nat) (L i p : Nat) (s s' : Sv) (i' : Nat) : Prop := ∀ n m d, TLs C L m d i p → i + d ≤ 13 → Vw 169 s m → m 168 11 = iN (i + d) → d < n → ∃ m1, L_X6_run_29 n (iN i) m = some (.inl (iN i'), m1) ∧ Vw 169 s' m1 ∧ ∀ k, k ≠ 169 → m1 k = m k
theorem run_both {C : Nat → Nat} {L : Nat} {mA : Mm} : ∀ d i p s, TLs C L mA d i p → i + d ≤ 13 → WF s → (∀ j, 1137 ≤ j → s j = iN 0) → ∃ s' i', WF s' ∧ (∀ j, 1137 ≤ j → s' j = iN 0) ∧ LoF C L i p s s' i' ∧ LoR C L i p s s' i' := by
  intro d
  induction d with
  | zero => intro i p s h; exact h.elim
  | succ d ih =>
    intro i p s h hid hw hz
    obtain ⟨p', hTO, hsg, hpL, hnx⟩ := h
    obtain ⟨x1, x2, x3, x4, x5, told, _⟩ := hTO.told
    have s1 := hsg.1
    have s2 := hsg.2.1
    have hend : p' = L ∨ C p' = 59 := hnx.imp (fun x => x.2) (fun x => x.2.1)
    -- the class, up to the order's end
    have toEnd : ∀ n σ (K : Int32 → Dm Int32), CT5 C L σ → L - p + 3 < n → ∃ n0, L - p' + 2 < n0 ∧ L_X5_run_35 n (iN i) (iN p) (iN p) K K σ = L_X5_run_35 (n0 + 1) (iN i) (iN p) (iN p') K K σ := by
      intro n σ K hT hn
      refine ⟨n - (p' - p) - 1, by omega, ?_⟩
      have w := f_walk (i := i) (p := p) (k1 := K) (k2 := K) hT (p' - p) p (n - (p' - p) - 1 + 1) (by omega) (fun j u v => s2 j u (by omega))
      rw [show n - (p' - p) - 1 + 1 + (p' - p) = n by omega, show p + (p' - p) = p' by omega] at w
      exact w
    -- the told order of another reader is the same
    have same : ∀ m d', TLs C L m d' i p → ∃ e, d' = e + 1 ∧ toldR m i x1 x2 x3 x4 x5 ∧ ((e = 0 ∧ p' = L) ∨ (p' < L ∧ C p' = 59 ∧ TLs C L m e (i + 1) (p' + 1))) := by
      intro m d' hd
      cases d' with
      | zero => exact hd.elim
      | succ e =>
        obtain ⟨p2, hTO2, hsg2, hpL2, hnx2⟩ := hd
        have t1 := hsg2.1
        have t2 := hsg2.2.1
        have hp : p2 = p' := by
          by_cases g1 : p2 < p'
          · rcases hnx2 with g | g
            · omega
            · exact absurd g.2.1 (s2 p2 (by omega) g1)
          · by_cases g2 : p' < p2
            · rcases hnx with g | g
              · omega
              · exact absurd g.2.1 (t2 p' (by omega) g2)
            · omega
        subst hp
        refine ⟨e, rfl, ?_, hnx2⟩
        obtain ⟨a1, a2, a3, a4, a5⟩ := told
        obtain ⟨b1, b2, b3, b4, b5⟩ := hTO2
        exact ⟨b1.trans a1.symm, b2.trans a2.symm, b3.trans a3.symm, b4.trans a4.symm, b5.trans a5.symm⟩
    rcases do_cases (x1 := x1) (x2 := x2) (x3 := x3) (x4 := x4) (x5 := x5) hw with hno | ⟨s', hdo⟩
    · refine ⟨s, i, hw, hz, ?_, ?_⟩
      · intro n σ K hr hT hn
        obtain ⟨n0, h1, h2⟩ := toEnd n σ K hT hn
        have fe := f_isOrderEnd hT hpL
        rw [if_pos hend] at fe
        have ff := f_fillBy0 hw hr hT hsg hpL told hno
        have e1 := hT.2.1
        have hL := hT.1
        refine ⟨σ, ?_, hr, fun _ _ => rfl⟩
        rw [h2]
        clear h2 toEnd same ih
        simp only [L_X5_run_35]
        simp (disch := omega) only [↓ite_ap, if_true, if_false, if_pos, if_neg, retM_ap, retZ_ap0, retZ_ap1, gM_np, sM_ap, jM_np, bI_ap, bL_ap, bD_ap, rdM_ap, wrM_ap, thrM_ap, nl_0, nl_1, nl_2, nl_3, nl_4, nl_5, nl_6, nl_7, nl_8, nl_9, nl_10, nl_11, nl_12, nl_13, nl_25, nl_33, nl_35, nl_45, nl_48, nl_49, nl_50, nl_52, nl_53, nl_57, nl_59, nl_60, nl_61, nl_77, nl_94, nl_97, nl_100, nl_101, nl_119, nl_125, nl_126, nl_137, nl_262, nl_387, nl_500, nl_512, nl_637, nl_999, nl_1022, nl_1137, nl_5685, nm_1b, iN_mI, mI_iN, iN_add, iN_mul, iN_sub, iN_div, iN_rem, iN_lt, iN_le, iN_eq, iN_nat, inB_iN, e1, ↓invM_l fe, ↓invM_l ff]
      · intro n m d' hd hid' hv h11 hn
        obtain ⟨e, he, htold, hnx'⟩ := same m d' hd
        obtain ⟨n, rfl⟩ : ∃ x, n = x + 1 := ⟨n - 1, by omega⟩
        have fd := r_does0 hw hv (i := i) (by omega) htold hno
        refine ⟨m, ?_, hv, fun _ _ => rfl⟩
        clear toEnd same ih
        simp only [L_X6_run_29]
        simp (disch := omega) only [↓ite_ap, if_true, if_false, if_pos, if_neg, retM_ap, retZ_ap0, retZ_ap1, gM_np, sM_ap, jM_np, bI_ap, bL_ap, bD_ap, rdM_ap, wrM_ap, thrM_ap, nl_0, nl_1, nl_2, nl_3, nl_4, nl_5, nl_6, nl_7, nl_8, nl_9, nl_10, nl_11, nl_12, nl_13, nl_25, nl_33, nl_35, nl_45, nl_48, nl_49, nl_50, nl_52, nl_53, nl_57, nl_59, nl_60, nl_61, nl_77, nl_94, nl_97, nl_100, nl_101, nl_119, nl_125, nl_126, nl_137, nl_262, nl_387, nl_500, nl_512, nl_637, nl_999, nl_1022, nl_1137, nl_5685, nm_1b, iN_mI, mI_iN, iN_add, iN_mul, iN_sub, iN_div, iN_rem, iN_lt, iN_le, iN_eq, iN_nat, inB_iN, h11, ↓invM_l fd]
    · obtain ⟨hw', hz'⟩ := do_WF hw hdo hz
      have stepF : ∀ n σ (K : Int32 → Dm Int32), Rel 2 s σ → CT5 C L σ → L - p + 3 < n → ∃ n0 σ1, L - p' + 2 < n0 ∧ L_X5_run_35 n (iN i) (iN p) (iN p) K K σ = L_X5_run_35 n0 (iN (i + 1)) (iN (p' + 1)) (iN (p' + 1)) K K σ1 ∧ Rel 2 s' σ1 ∧ ∀ k, ¬ (2 ≤ k ∧ k ≤ 16) → σ1 k = σ k := by
        intro n σ K hr hT hn
        obtain ⟨n0, h1, h2⟩ := toEnd n σ K hT hn
        have fe := f_isOrderEnd hT hpL
        rw [if_pos hend] at fe
        obtain ⟨σ1, ff, f2, f3⟩ := f_fillBy1 hw hr hT hsg hpL told hdo
        have e1 := hT.2.1
        have hL := hT.1
        refine ⟨n0, σ1, h1, ?_, f2, f3⟩
        rw [h2]
        clear h2 toEnd same ih
        simp only [L_X5_run_35]
        simp (disch := omega) only [↓ite_ap, if_true, if_false, if_pos, if_neg, retM_ap, retZ_ap0, retZ_ap1, gM_np, sM_ap, jM_np, bI_ap, bL_ap, bD_ap, rdM_ap, wrM_ap, thrM_ap, nl_0, nl_1, nl_2, nl_3, nl_4, nl_5, nl_6, nl_7, nl_8, nl_9, nl_10, nl_11, nl_12, nl_13, nl_25, nl_33, nl_35, nl_45, nl_48, nl_49, nl_50, nl_52, nl_53, nl_57, nl_59, nl_60, nl_61, nl_77, nl_94, nl_97, nl_100, nl_101, nl_119, nl_125, nl_126, nl_137, nl_262, nl_387, nl_500, nl_512, nl_637, nl_999, nl_1022, nl_1137, nl_5685, nm_1b, iN_mI, mI_iN, iN_add, iN_mul, iN_sub, iN_div, iN_rem, iN_lt, iN_le, iN_eq, iN_nat, inB_iN, e1, ↓invM_l fe, ↓invM_l ff]
      have stepR : ∀ n m, toldR m i x1 x2 x3 x4 x5 → Vw 169 s m → ∀ e, m 168 11 = iN (i + (e + 1)) → i + (e + 1) ≤ 13 → ∃ m1, L_X6_run_29 (n + 1) (iN i) m = L_X6_run_29 n (iN (i + 1)) m1 ∧ Vw 169 s' m1 ∧ ∀ k, k ≠ 169 → m1 k = m k := by
        intro n m htold hv e h11 hie
        obtain ⟨m1, fd, f2, f3⟩ := r_does1 hw hv (i := i) (by omega) htold hdo
        refine ⟨m1, ?_, f2, f3⟩
        have : L_X6_run_29 (n + 1) (iN i) m = L_X6_run_29 n (iN (i + 1)) m1 := by
          clear toEnd same ih stepF
          simp only [L_X6_run_29]
          simp (disch := omega) only [↓ite_ap, if_true, if_false, if_pos, if_neg, retM_ap, retZ_ap0, retZ_ap1, gM_np, sM_ap, jM_np, bI_ap, bL_ap, bD_ap, rdM_ap, wrM_ap, thrM_ap, nl_0, nl_1, nl_2, nl_3, nl_4, nl_5, nl_6, nl_7, nl_8, nl_9, nl_10, nl_11, nl_12, nl_13, nl_25, nl_33, nl_35, nl_45, nl_48, nl_49, nl_50, nl_52, nl_53, nl_57, nl_59, nl_60, nl_61, nl_77, nl_94, nl_97, nl_100, nl_101, nl_119, nl_125, nl_126, nl_137, nl_262, nl_387, nl_500, nl_512, nl_637, nl_999, nl_1022, nl_1137, nl_5685, nm_1b, iN_mI, mI_iN, iN_add, iN_mul, iN_sub, iN_div, iN_rem, iN_lt, iN_le, iN_eq, iN_nat, inB_iN, h11, ↓invM_l fd]
        exact this
      rcases hnx with ⟨hd0, hpl⟩ | ⟨hpl, h59, hT'⟩
      · refine ⟨s', i + 1, hw', hz', ?_, ?_⟩
        · intro n σ K hr hT hn
          obtain ⟨n0, σ1, h1, h2, h3, h4⟩ := stepF n σ K hr hT hn
          obtain ⟨n0, rfl⟩ : ∃ x, n0 = x + 1 := ⟨n0 - 1, by omega⟩
          have e1 : σ1 165 1 = iN L := by rw [h4 165 (by omega)]; exact hT.2.1
          have hL := hT.1
          refine ⟨σ1, ?_, h3, h4⟩
          rw [h2, hpl]
          clear h2 toEnd same ih stepF stepR
          simp only [L_X5_run_35]
          simp (disch := omega) only [↓ite_ap, if_true, if_false, if_pos, if_neg, retM_ap, retZ_ap0, retZ_ap1, gM_np, sM_ap, jM_np, bI_ap, bL_ap, bD_ap, rdM_ap, wrM_ap, thrM_ap, nl_0, nl_1, nl_2, nl_3, nl_4, nl_5, nl_6, nl_7, nl_8, nl_9, nl_10, nl_11, nl_12, nl_13, nl_25, nl_33, nl_35, nl_45, nl_48, nl_49, nl_50, nl_52, nl_53, nl_57, nl_59, nl_60, nl_61, nl_77, nl_94, nl_97, nl_100, nl_101, nl_119, nl_125, nl_126, nl_137, nl_262, nl_387, nl_500, nl_512, nl_637, nl_999, nl_1022, nl_1137, nl_5685, nm_1b, iN_mI, mI_iN, iN_add, iN_mul, iN_sub, iN_div, iN_rem, iN_lt, iN_le, iN_eq, iN_nat, inB_iN, e1]
        · intro n m d' hd hid' hv h11 hn
          obtain ⟨e, he, htold, hnx'⟩ := same m d' hd
          have e0 : e = 0 := by
            rcases hnx' with g | g
            · exact g.1
            · omega
          subst e0
          subst he
          obtain ⟨n, rfl⟩ : ∃ x, n = x + 1 + 1 := ⟨n - 2, by omega⟩
          obtain ⟨m1, y1, y2, y3⟩ := stepR (n + 1) m htold hv 0 h11 hid'
          refine ⟨m1, ?_, y2, y3⟩
          rw [y1]
          have e11 : m1 168 11 = iN (i + 1) := by rw [y3 168 (by omega)]; exact h11
          clear y1 toEnd same ih stepF stepR
          simp only [L_X6_run_29]
          simp (disch := omega) only [↓ite_ap, if_true, if_false, if_pos, if_neg, retM_ap, retZ_ap0, retZ_ap1, gM_np, sM_ap, jM_np, bI_ap, bL_ap, bD_ap, rdM_ap, wrM_ap, thrM_ap, nl_0, nl_1, nl_2, nl_3, nl_4, nl_5, nl_6, nl_7, nl_8, nl_9, nl_10, nl_11, nl_12, nl_13, nl_25, nl_33, nl_35, nl_45, nl_48, nl_49, nl_50, nl_52, nl_53, nl_57, nl_59, nl_60, nl_61, nl_77, nl_94, nl_97, nl_100, nl_101, nl_119, nl_125, nl_126, nl_137, nl_262, nl_387, nl_500, nl_512, nl_637, nl_999, nl_1022, nl_1137, nl_5685, nm_1b, iN_mI, mI_iN, iN_add, iN_mul, iN_sub, iN_div, iN_rem, iN_lt, iN_le, iN_eq, iN_nat, inB_iN, e11]
      · obtain ⟨s2', i', q1, q2, q3, q4⟩ := ih (i + 1) (p' + 1) s' hT' (by omega) hw' hz'
        refine ⟨s2', i', q1, q2, ?_, ?_⟩
        · intro n σ K hr hT hn
          obtain ⟨n0, σ1, h1, h2, h3, h4⟩ := stepF n σ K hr hT hn
          obtain ⟨σ2, z1, z2, z3⟩ := q3 n0 σ1 K h3 (hT.fr (h4 165 (by omega)) (h4 167 (by omega))) (by omega)
          exact ⟨σ2, h2.trans z1, z2, fun k hk => by rw [z3 k hk, h4 k hk]⟩
        · intro n m d' hd hid' hv h11 hn
          obtain ⟨e, he, htold, hnx'⟩ := same m d' hd
          subst he
          obtain ⟨n, rfl⟩ : ∃ x, n = x + 1 := ⟨n - 1, by omega⟩
          obtain ⟨m1, y1, y2, y3⟩ := stepR n m htold hv e h11 hid'
          rcases hnx' with g | g
          · omega
          · obtain ⟨m2, z1, z2, z3⟩ := q4 n m1 e (TLs.fr (fun j => by rw [y3 173 (by omega)]) g.2.2) (by omega) y2 (by rw [y3 168 (by omega), h11, show i + 1 + e = i + (e + 1) by omega]) (by omega)
            exact ⟨m2, y1.trans z1, z2, fun k hk => by rw [z3 k hk, y3 k hk]⟩
def okT (C : Nat → Nat) (L : Nat) : Prop := ∃ e, 7 ≤ e ∧ stA C L 0 0 = some e
theorem f_isOrders {C : Nat → Nat} {L : Nat} {σ : Mm} (hT : CT5 C L σ) (h10 : ∀ e, stA C L 0 0 = some e → e ≤ 10) : (okT C L → F_X3_isOrders σ = some (.inl (iN 1), σ)) ∧ (¬ okT C L → F_X3_isOrders σ = some (.inl (iN 0), σ)) := by
  have fo := fun K => f_orders_l (K := K) hT.1 hT.2.1 hT.2.2 L 0 0 FU (by omega) (by have := hT.1; unfold FU; omega) (by omega)
  unfold F_X3_isOrders
  rw [nl_0, fo]
  cases e : stA C L 0 0 with
  | none =>
    refine ⟨fun ⟨e', _, h⟩ => ?_, fun _ => rfl⟩
    rw [e] at h
    cases h
  | some e' =>
    have h := h10 e' e
    show (_ → (if iN e' < (7 : Int32) then retZ (iN 0) else retZ 1) σ = _) ∧ (_ → (if iN e' < (7 : Int32) then retZ (iN 0) else retZ 1) σ = _)
    rw [nl_7]
    by_cases g : e' < 7
    · rw [if_pos (by rw [iN_lt (by omega) (by omega)]; exact g)]
      refine ⟨fun ⟨e2, h7, h⟩ => ?_, fun _ => rfl⟩
      rw [e] at h
      injection h with h
      omega
    · rw [if_neg (by rw [iN_lt (by omega) (by omega)]; exact g)]
      exact ⟨fun _ => rfl, fun h => absurd ⟨e', by omega, e⟩ h⟩
theorem st_le {C : Nat → Nat} : ∀ {d e p e' : Nat}, e ≤ 10 → stA C d e p = some e' → e' ≤ 10
  | 0, e, p, e', h, h2 => by
    injection h2 with h2
    omega
  | d + 1, e, p, e', h, h2 => by
    cases g : exA e (C p) with
    | none => rw [(flt_none g).2] at h2; cases h2
    | some e1 =>
      rw [(flt_some g).2] at h2
      exact st_le (exA_le g) h2
theorem st_run : StW II cs_run F_X5_run F_X6_run := by
  intro σ h
  obtain ⟨L, C, hL, e1, e2, e3, e4⟩ := h.2.2.1.C
  have hT : CT5 C L σ := ⟨hL, e1, e3⟩
  have fo := f_isOrders hT (fun e he => st_le (by omega) he)
  obtain ⟨hw, hr, hLM⟩ := h.1
  by_cases ok : okT C L
  · have fo := fo.1 ok
    -- the text's orders
    obtain ⟨mA, bA, _, _, yA⟩ := r_isText (C := C) (m := σ) hL e2 e4
    have hTL : ∃ d, d ≤ 13 ∧ TLs C L mA d 0 0 := by
      rcases yA with ⟨_, y, _⟩ | ⟨_, ⟨d, _, y1, y2⟩, _⟩
      · obtain ⟨e, h7, he⟩ := ok
        exact absurd he (y e h7)
      · exact ⟨d, y1, y2⟩
    obtain ⟨dA, hd13, hTLA⟩ := hTL
    obtain ⟨s', i', w1, w2, cl, rf⟩ := run_both dA 0 0 (nowS σ) hTLA (by omega) hw (fun j hj => now_z hj)
    obtain ⟨n, o, P, hn, ho, hc, hir⟩ := HI_cr h.2.1
    obtain ⟨σ1, o', a1, a2, a3, a4⟩ := f_save hw hr hn ho hc
    have hr1 : Rel 2 (nowS σ) σ1 := hr.fr (fun k h1 h2 => a4 k (by omega))
    obtain ⟨σ2, c1, c2, c3⟩ := cl FU σ1 (fun x11 => sM 165 1 (0 : Int32) <| invM (F_X1_measure 1) fun _ => retM x11) hr1 (hT.fr (a4 165 (by omega)) (a4 167 (by omega))) (by unfold FU; omega)
    obtain ⟨σ3, h3⟩ : ∃ σ3, σ3 = upM σ2 165 1 (iN 0) := ⟨_, rfl⟩
    have hr3 : Rel 2 s' σ3 := by rw [h3]; exact c2.up (by omega)
    obtain ⟨σ4, d1, d2, d3, d4⟩ := f_measure (b := 1) w1 hr3
    have f4 : ∀ k j, 37 ≤ k → ¬ (k = 165 ∧ j = 1) → σ4 k j = σ1 k j := fun k j hk hx => by rw [d4 k j (by omega), h3, upM_q hx, c3 k (by omega)]
    have f40 : ∀ k j, 165 ≤ k → ¬ (k = 165 ∧ j = 1) → σ4 k j = σ k j := fun k j hk hx => by rw [f4 k j (by omega) hx, a4 k (by omega)]
    -- the reference
    obtain ⟨m0, hm0⟩ : ∃ m0, m0 = mO σ4 (iN i') := ⟨_, rfl⟩
    have g0 : ∀ k j, 165 ≤ k → ¬ (k = 165 ∧ j = 1) → ¬ (k = 168 ∧ j = 6) → ¬ (k = 185 ∧ j = 0) → m0 k j = σ k j := fun k j hk hx h6 h185 => by rw [hm0, mO_q ⟨h6, h185⟩, f40 k j hk hx]
    obtain ⟨m', b, y1, y2, y3⟩ := r_isText (C := C) (m := m0) hL (by rw [g0 _ _ (by omega) (by omega) (by omega) (by omega)]; exact e2) (fun j hj => by rw [g0 _ _ (by omega) (by omega) (by omega) (by omega)]; exact e4 j hj)
    have y3 : b = 1 ∧ ∃ d, m' 168 11 = iN d ∧ d ≤ 13 ∧ TLs C L m' d 0 0 := by
      rcases y3 with ⟨_, y, _⟩ | ⟨b1, y, _⟩
      · obtain ⟨e, h7, he⟩ := ok
        exact absurd he (y e h7)
      · exact ⟨b1, y⟩
    obtain ⟨b1, d, t1, t2, t3⟩ := y3
    subst b1
    have g1 : ∀ k j, 165 ≤ k → ¬ (k = 165 ∧ j = 1) → ¬ (k = 168 ∧ 6 ≤ j ∧ j ≤ 11) → k ≠ 185 → k ≠ 173 → m' k j = σ k j := fun k j hk hx h6 h185 h173 => by rw [y2 k j (by omega) (by omega), g0 k j hk hx (by omega) (by omega)]
    have hir' : HIr m' n P := hir.fr (g1 _ _ (by omega) (by omega) (by omega) (by omega) (by omega)) (funext (fun j => g1 _ _ (by omega) (by omega) (by omega) (by omega) (by omega)))
    have en : nowS m' = nowS σ := now_fr (funext (fun j => g1 _ _ (by omega) (by omega) (by omega) (by omega) (by omega)))
    obtain ⟨m1, b1, b2, b3, b4⟩ := r_saves hn hir'
    rw [en] at b2
    obtain ⟨m2, hm2⟩ : ∃ m2, m2 = upM m1 168 5 (iN 0) := ⟨_, rfl⟩
    have g2 : ∀ k j, k ≠ 171 → ¬ (k = 168 ∧ (j = 3 ∨ j = 5 ∨ j = 12)) → m2 k j = m' k j := fun k j h1 h2 => by rw [hm2, upM_q (by omega), b4 k j h1 (by omega)]
    have v2 : Vw 169 (nowS σ) m2 := by
      rw [← en]
      exact now_vw.fr (funext (fun j => g2 _ _ (by omega) (by omega)))
    obtain ⟨m3, z1, z2, z3⟩ := rf FU m2 d (t3.fr (fun j => g2 _ _ (by omega) (by omega))) (by omega) v2 (by rw [g2 _ _ (by omega) (by omega), t1, Nat.zero_add]) (by unfold FU; omega)
    have en3 : nowS m3 = s' := now_eq z2 w2
    have gF : ∀ k j, k ≠ 169 → k ≠ 171 → k ≠ 173 → ¬ (k = 168 ∧ (j = 3 ∨ (5 ≤ j ∧ j ≤ 12))) → k ≠ 185 → m3 k j = σ4 k j := fun k j h1 h2 h3' h4 h5 => by
      rw [z3 k h1, g2 k j h2 (by omega), y2 k j (by omega) (by omega), hm0, mO_q (by omega)]
    refine ⟨.inl (iN i'), σ4, ?_, iN i', m3, ?_, ⟨?_, ?_, ?_, ?_⟩, ?_, ?_, rfl⟩
    · unfold F_X5_run
      rw [invM_l fo, if_neg (by rw [nl_0, iN_eq (by omega) (by omega)]; omega)]
      refine (invM_l a1).trans ?_
      rw [nl_0]
      refine c1.trans ?_
      show (sM 165 1 (0 : Int32) <| invM (F_X1_measure 1) fun _ => retM (iN i')) σ2 = _
      rw [nl_0, sM_ap, ← h3, invM_l d1]
      rfl
    · show F_X6_run (upM σ4 185 0 (iN i')) = _
      unfold F_X6_run
      rw [nl_0, sM_ap]
      show (invM F_X6_isText _) (mO σ4 (iN i')) = _
      rw [← hm0, invM_l y1, if_neg (by rw [iN_eq (by omega) (by omega)]; omega), invM_l b1, sM_ap, ← hm2]
      exact z1
    · rw [en3]
      exact CO.fr ⟨w1, d2, d3⟩ (fun k hk => funext (fun j => gF k j (by omega) (by omega) (by omega) (by omega) (by omega)))
    · refine HI_of (sv_le hn) a2 (a3.fr (fun k h1 h2 => funext (fun j => ?_))) (b2.fr ?_ ?_)
      · rw [gF k j (by omega) (by omega) (by omega) (by omega) (by omega), f4 k j (by omega) (by omega)]
      · rw [z3 168 (by omega), hm2, upM_q (by omega)]
      · rw [z3 171 (by omega), hm2, upM_o (by omega)]
    · refine ⟨0, by omega, ?_, ?_, fun j hj => by omega⟩
      · rw [gF _ _ (by omega) (by omega) (by omega) (by omega) (by omega), d4 _ _ (by omega), h3, upM_at]
      · rw [z3 168 (by omega), hm2, upM_at]
    · exact .inl (by rw [z3 168 (by omega), hm2, upM_q (by omega)]; exact b3)
    · rw [z3 168 (by omega), g2 _ _ (by omega) (by omega), y2 _ _ (by omega) (by omega), hm0]
      exact mO_6
    · rw [z3 185 (by omega), g2 _ _ (by omega) (by omega), y2 _ _ (by omega) (by omega), hm0]
      exact mO_r
  · have fo := fo.2 ok
    obtain ⟨m0, hm0⟩ : ∃ m0, m0 = upM σ 168 6 (iN 0) := ⟨_, rfl⟩
    have g0 : ∀ k j, ¬ (k = 168 ∧ j = 6) → m0 k j = σ k j := fun k j hx => by rw [hm0, upM_q hx]
    obtain ⟨m', b, y1, y2, y3⟩ := r_isText (C := C) (m := m0) hL (by rw [g0 _ _ (by omega)]; exact e2) (fun j hj => by rw [g0 _ _ (by omega)]; exact e4 j hj)
    have b0 : b = 0 := by
      rcases y3 with ⟨b0, _⟩ | ⟨_, _, y⟩
      · exact b0
      · exact absurd y ok
    subst b0
    have I' : II m' := h.fr (fun k j g => by unfold PI at g; rw [y2 _ _ (by omega) (by omega), g0 _ _ (by omega)])
    refine st_er2 (e := 2) (c := 1) I' ?_ ?_ rfl
    · unfold F_X5_run
      rw [invM_l fo, if_pos (show iN 0 = 0 from rfl)]
      rfl
    · show (invM F_X6_isText _) (upM σ 168 6 (iN 0)) = _
      rw [← hm0, invM_l y1, if_pos (show iN 0 = 0 from rfl)]
      exact (invM_l r_fails).trans rfl
