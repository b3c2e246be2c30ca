/-! LAYOUT OF A NEW TABLE; BEGIN AND NEST -/
def LOp (b t hi br i : Nat) (m0 m : Mm) : Prop :=
  (∀ z, 25 * t ≤ z → z < i → m (b + 6) z = (if z % 25 / 5 < hi ∧ z % 5 < br then iN z else mI) ∧ m (b + 8) z = iN 0 ∧ m (b + 10) z = iN 0 ∧ m (b + 12) (2 * z + 1) = iN 1 ∧ m (b + 12) (2 * z) = iN 1 ∧ ∀ i', i' < 4 → m (b + 14) (4 * z + i') = iN 0) ∧
  ∀ k j, ¬ (((k = b + 6 ∨ k = b + 8 ∨ k = b + 10) ∧ j / 25 = t) ∨ (k = b + 12 ∧ j / 50 = t) ∨ (k = b + 14 ∧ j / 100 = t)) → m k j = m0 k j
theorem f_lay61 {b t hi br : Nat} {m0 : Mm} (ht : t < 5) (h5 : hi ≤ 5) (h6 : br ≤ 5) (e1 : m0 b 1 = iN (t + 1)) : ∀ (d i n : Nat) (m : Mm), i + d = (t + 1) * 25 → d < n → 25 * t ≤ i → LOp b t hi br i m0 m → ∃ m1, L_X4_layOut_61 b (iN hi) (iN br) n (iN i) m = some (.inl (), m1) ∧ LOp b t hi br ((t + 1) * 25) m0 m1 := by
  intro d
  induction d with
  | zero =>
    intro i n m h1 h2 h3 hp
    obtain ⟨n, rfl⟩ : ∃ k, n = k + 1 := ⟨n - 1, by omega⟩
    have e2 : m b 1 = iN (t + 1) := by rw [hp.2 b 1 (by omega)]; exact e1
    have hi' : i = (t + 1) * 25 := by omega
    subst hi'
    refine ⟨m, ?_, hp⟩
    simp only [L_X4_layOut_61, F_X4_squaresEnd]
    have fq : (gM (fun σ => σ b 1) fun x1 => retM (x1 * (25 : Int32)) : Dm Int32) m = some (.inl (iN ((t + 1) * 25)), m) := by
      simp (disch := omega) only [↓ite_ap, if_true, if_false, if_pos, if_neg, retM_ap, retZ_ap0, retZ_ap1, gM_ap, sM_ap, jM_ap, bI_ap, bL_ap, bD_ap, rdM_ap, wrM_ap, thrM_ap, nl_0, nl_1, nl_2, nl_3, nl_4, nl_5, nl_6, nl_7, nl_8, nl_9, nl_10, nl_11, nl_12, nl_13, nl_25, nl_33, nl_35, nl_45, nl_48, nl_49, nl_50, nl_52, nl_53, nl_57, nl_59, nl_60, nl_61, nl_77, nl_94, nl_97, nl_100, nl_101, nl_119, nl_125, nl_126, nl_137, nl_262, nl_387, nl_500, nl_512, nl_637, nl_999, nl_1022, nl_1137, nl_5685, nm_1b, iN_mI, mI_iN, iN_add, iN_mul, iN_sub, iN_div, iN_rem, iN_lt, iN_le, iN_eq, iN_nat, inB_iN, e2]
    simp (disch := omega) only [↓ite_ap, if_true, if_false, if_pos, if_neg, retM_ap, retZ_ap0, retZ_ap1, gM_ap, sM_ap, jM_ap, bI_ap, bL_ap, bD_ap, rdM_ap, wrM_ap, thrM_ap, nl_0, nl_1, nl_2, nl_3, nl_4, nl_5, nl_6, nl_7, nl_8, nl_9, nl_10, nl_11, nl_12, nl_13, nl_25, nl_33, nl_35, nl_45, nl_48, nl_49, nl_50, nl_52, nl_53, nl_57, nl_59, nl_60, nl_61, nl_77, nl_94, nl_97, nl_100, nl_101, nl_119, nl_125, nl_126, nl_137, nl_262, nl_387, nl_500, nl_512, nl_637, nl_999, nl_1022, nl_1137, nl_5685, nm_1b, iN_mI, mI_iN, iN_add, iN_mul, iN_sub, iN_div, iN_rem, iN_lt, iN_le, iN_eq, iN_nat, inB_iN, ↓invM_l fq]
  | succ d ih =>
    intro i n m h1 h2 h3 hp
    obtain ⟨n, rfl⟩ : ∃ k, n = k + 1 := ⟨n - 1, by omega⟩
    have e2 : m b 1 = iN (t + 1) := by rw [hp.2 b 1 (by omega)]; exact e1
    have fq : F_X4_squaresEnd b m = some (.inl (iN ((t + 1) * 25)), m) := by
      unfold F_X4_squaresEnd
      simp (disch := omega) only [↓ite_ap, if_true, if_false, if_pos, if_neg, retM_ap, retZ_ap0, retZ_ap1, gM_ap, sM_ap, jM_ap, bI_ap, bL_ap, bD_ap, rdM_ap, wrM_ap, thrM_ap, nl_0, nl_1, nl_2, nl_3, nl_4, nl_5, nl_6, nl_7, nl_8, nl_9, nl_10, nl_11, nl_12, nl_13, nl_25, nl_33, nl_35, nl_45, nl_48, nl_49, nl_50, nl_52, nl_53, nl_57, nl_59, nl_60, nl_61, nl_77, nl_94, nl_97, nl_100, nl_101, nl_119, nl_125, nl_126, nl_137, nl_262, nl_387, nl_500, nl_512, nl_637, nl_999, nl_1022, nl_1137, nl_5685, nm_1b, iN_mI, mI_iN, iN_add, iN_mul, iN_sub, iN_div, iN_rem, iN_lt, iN_le, iN_eq, iN_nat, inB_iN, e2]
    obtain ⟨m1, a0, a1, a2, a3, a4, a5, a6, a7⟩ := f_makeEmpty (b := b) (q := i) (σ := m) (by omega)
    obtain ⟨m2, h2m⟩ : ∃ m2, m2 = if i % 25 / 5 < hi ∧ i % 5 < br then m1 else upM m1 (b + 6) i mI := ⟨_, rfl⟩
    have c6 : m2 (b + 6) i = if i % 25 / 5 < hi ∧ i % 5 < br then iN i else mI := by
      rw [h2m]
      by_cases c : i % 25 / 5 < hi ∧ i % 5 < br
      · rw [if_pos c, if_pos c]; exact a1
      · rw [if_neg c, if_neg c, upM_at]
    have co : ∀ k j, ¬ (k = b + 6 ∧ j = i) → m2 k j = m1 k j := fun k j g => by
      rw [h2m]
      by_cases c : i % 25 / 5 < hi ∧ i % 5 < br
      · rw [if_pos c]
      · rw [if_neg c, upM_q g]
    have hp2 : LOp b t hi br (i + 1) m0 m2 := by
      refine ⟨fun z g1 g2 => ?_, fun k j hk => ?_⟩
      · by_cases e : z = i
        · rw [e]
          exact ⟨c6, by rw [co _ _ (by omega)]; exact a2, by rw [co _ _ (by omega)]; exact a3, by rw [co _ _ (by omega)]; exact a4, by rw [co _ _ (by omega)]; exact a5, fun i' hi' => by rw [co _ _ (by omega)]; exact a6 i' hi'⟩
        · have hz := hp.1 z g1 (by omega)
          refine ⟨?_, ?_, ?_, ?_, ?_, fun i' hi' => ?_⟩
          · rw [co _ _ (by omega), a7 _ _ (by omega)]; exact hz.1
          · rw [co _ _ (by omega), a7 _ _ (by omega)]; exact hz.2.1
          · rw [co _ _ (by omega), a7 _ _ (by omega)]; exact hz.2.2.1
          · rw [co _ _ (by omega), a7 _ _ (by omega)]; exact hz.2.2.2.1
          · rw [co _ _ (by omega), a7 _ _ (by omega)]; exact hz.2.2.2.2.1
          · rw [co _ _ (by omega), a7 _ _ (by omega)]; exact hz.2.2.2.2.2 i' hi'
      · rw [co _ _ (by omega), a7 _ _ (by omega)]
        exact hp.2 k j hk
    obtain ⟨m3, b1, b2⟩ := ih (i + 1) n m2 (by omega) (by omega) (by omega) hp2
    refine ⟨m3, ?_, b2⟩
    simp only [L_X4_layOut_61]
    by_cases c1 : i % 25 / 5 < hi
    · by_cases c2 : i % 5 < br
      · rw [if_pos ⟨c1, c2⟩] at h2m
        rw [h2m] at b1
        simp (disch := omega) only [↓ite_ap, if_true, if_false, if_pos, if_neg, retM_ap, retZ_ap0, retZ_ap1, gM_ap, sM_ap, jM_ap, bI_ap, bL_ap, bD_ap, rdM_ap, wrM_ap, thrM_ap, nl_0, nl_1, nl_2, nl_3, nl_4, nl_5, nl_6, nl_7, nl_8, nl_9, nl_10, nl_11, nl_12, nl_13, nl_25, nl_33, nl_35, nl_45, nl_48, nl_49, nl_50, nl_52, nl_53, nl_57, nl_59, nl_60, nl_61, nl_77, nl_94, nl_97, nl_100, nl_101, nl_119, nl_125, nl_126, nl_137, nl_262, nl_387, nl_500, nl_512, nl_637, nl_999, nl_1022, nl_1137, nl_5685, nm_1b, iN_mI, mI_iN, iN_add, iN_mul, iN_sub, iN_div, iN_rem, iN_lt, iN_le, iN_eq, iN_nat, inB_iN, ↓b_at, ↓b_store, ↓b_place1, ↓b_place0, ↓b_tableOf, ↓b_sqEnd, ↓b_isCell, ↓invM_l fq, ↓invM_l a0, b1]
      · rw [if_neg (fun g => c2 g.2)] at h2m
        rw [h2m] at b1
        simp (disch := omega) only [↓ite_ap, if_true, if_false, if_pos, if_neg, retM_ap, retZ_ap0, retZ_ap1, gM_ap, sM_ap, jM_ap, bI_ap, bL_ap, bD_ap, rdM_ap, wrM_ap, thrM_ap, nl_0, nl_1, nl_2, nl_3, nl_4, nl_5, nl_6, nl_7, nl_8, nl_9, nl_10, nl_11, nl_12, nl_13, nl_25, nl_33, nl_35, nl_45, nl_48, nl_49, nl_50, nl_52, nl_53, nl_57, nl_59, nl_60, nl_61, nl_77, nl_94, nl_97, nl_100, nl_101, nl_119, nl_125, nl_126, nl_137, nl_262, nl_387, nl_500, nl_512, nl_637, nl_999, nl_1022, nl_1137, nl_5685, nm_1b, iN_mI, mI_iN, iN_add, iN_mul, iN_sub, iN_div, iN_rem, iN_lt, iN_le, iN_eq, iN_nat, inB_iN, ↓b_at, ↓b_store, ↓b_place1, ↓b_place0, ↓b_tableOf, ↓b_sqEnd, ↓b_isCell, ↓invM_l fq, ↓invM_l a0, Nat.add_assoc, Nat.reduceAdd, nm_1, b1]
    · rw [if_neg (fun g => c1 g.1)] at h2m
      rw [h2m] at b1
      simp (disch := omega) only [↓ite_ap, if_true, if_false, if_pos, if_neg, retM_ap, retZ_ap0, retZ_ap1, gM_ap, sM_ap, jM_ap, bI_ap, bL_ap, bD_ap, rdM_ap, wrM_ap, thrM_ap, nl_0, nl_1, nl_2, nl_3, nl_4, nl_5, nl_6, nl_7, nl_8, nl_9, nl_10, nl_11, nl_12, nl_13, nl_25, nl_33, nl_35, nl_45, nl_48, nl_49, nl_50, nl_52, nl_53, nl_57, nl_59, nl_60, nl_61, nl_77, nl_94, nl_97, nl_100, nl_101, nl_119, nl_125, nl_126, nl_137, nl_262, nl_387, nl_500, nl_512, nl_637, nl_999, nl_1022, nl_1137, nl_5685, nm_1b, iN_mI, mI_iN, iN_add, iN_mul, iN_sub, iN_div, iN_rem, iN_lt, iN_le, iN_eq, iN_nat, inB_iN, ↓b_at, ↓b_store, ↓b_place1, ↓b_place0, ↓b_tableOf, ↓b_sqEnd, ↓b_isCell, ↓invM_l fq, ↓invM_l a0, Nat.add_assoc, Nat.reduceAdd, nm_1, b1]
theorem f_layOut {b t hi br : Nat} {s : Sv} {σ : Mm} {x : Int32} (hb : WFb s t) (hr : RelT b s t σ) (h1 : 1 ≤ hi) (h5 : hi ≤ 5) (h2 : 1 ≤ br) (h6 : br ≤ 5) (hx0 : t = 0 → x = mI) (hx1 : 1 ≤ t → ∃ q, x = iN q ∧ isCl s q ∧ kiS s q = 3 ∧ nv (nuS s q) = t) : ∃ σ1, F_X4_layOut b x (iN hi) (iN br) σ = some (.inl (), σ1) ∧ Rel b (nwS s t hi br) σ1 ∧ ∀ k, ¬ (b ≤ k ∧ k ≤ b + 14) → σ1 k = σ k := by
  have ht := hb.1.2.2
  obtain ⟨m0, e0⟩ : ∃ m, m = upM (upM (upM (upM σ b 1 (iN (t + 1))) (b + 2) (2 * t + 1) (iN hi)) (b + 2) (2 * t) (iN br)) (b + 4) t x := ⟨_, rfl⟩
  have b1 : m0 b 1 = iN (t + 1) := by rw [e0, upM_o (by omega), upM_o (by omega), upM_o (by omega), upM_at]
  obtain ⟨m1, c1, c2, c3⟩ := f_lay61 (b := b) (t := t) (hi := hi) (br := br) ht h5 h6 b1 25 (25 * t) FU m0 (by omega) (by unfold FU; omega) (Nat.le_refl _) ⟨fun z g1 g2 => by omega, fun _ _ _ => rfl⟩
  have fo : ∀ k j, (k ≠ b ∨ j ≠ 1) → ¬ (k = b + 2 ∧ (j = 2 * t + 1 ∨ j = 2 * t)) → ¬ (k = b + 4 ∧ j = t) → m0 k j = σ k j := fun k j g1 g2 g3 => by
    rw [e0, upM_q (by omega), upM_q (by omega), upM_q (by omega), upM_q (by omega)]
  refine ⟨m1, ?_, ⟨?_, ?_, fun t' ht' => ?_, fun z hz hn => ?_, fun z hz => ?_, fun z hz hn => ?_, ?_, fun z hz h3 => ?_⟩, fun k hk => ?_⟩
  · unfold F_X4_layOut
    have a1 : σ b 1 = iN t := hr.1
    simp (disch := omega) only [↓ite_ap, if_true, if_false, if_pos, if_neg, retM_ap, retZ_ap0, retZ_ap1, gM_np, sM_ap, jM_np, bI_ap, bL_ap, bD_ap, rdM_ap, wrM_ap, thrM_ap, nl_0, nl_1, nl_2, nl_3, nl_4, nl_5, nl_6, nl_7, nl_8, nl_9, nl_10, nl_11, nl_12, nl_13, nl_25, nl_33, nl_35, nl_45, nl_48, nl_49, nl_50, nl_52, nl_53, nl_57, nl_59, nl_60, nl_61, nl_77, nl_94, nl_97, nl_100, nl_101, nl_119, nl_125, nl_126, nl_137, nl_262, nl_387, nl_500, nl_512, nl_637, nl_999, nl_1022, nl_1137, nl_5685, nm_1b, iN_mI, mI_iN, iN_add, iN_mul, iN_sub, iN_div, iN_rem, iN_lt, iN_le, iN_eq, iN_nat, inB_iN, ↓b_at, ↓b_store, ↓b_place1, ↓b_place0, ↓b_tableOf, ↓b_sqEnd, ↓b_isCell, Nat.add_assoc, Nat.reduceAdd, Nat.add_zero, Nat.mul_comm t 2, a1, ← e0, Nat.mul_comm t 25, c1]
  · rw [c3 _ _ (by omega), b1]
    unfold nwS
    rw [if_pos rfl]
  · rw [c3 _ _ (by omega), fo _ _ (by omega) (by omega) (by omega), nw_1]
    exact hr.2.1
  · rw [nw_tb ht] at ht'
    rw [c3 _ _ (by omega), c3 _ _ (by omega), nw_2 ht (by omega), nw_7 ht (by omega)]
    by_cases e : t' = t
    · rw [if_pos e, if_pos e, e, e0]
      exact ⟨by rw [upM_o (by omega), upM_ni (by omega), upM_at], by rw [upM_o (by omega), upM_at]⟩
    · rw [if_neg e, if_neg e, fo _ _ (by omega) (by omega) (by omega), fo _ _ (by omega) (by omega) (by omega)]
      exact hr.2.2.1 t' (by omega)
  · rw [nw_tb ht] at hz
    by_cases e : z / 25 = t
    · rw [(c2 z (by omega) (by omega)).1, if_neg (fun g => hn ((nw_of hb h5 h6).mpr (.inr ⟨e, g.1, g.2⟩)))]
    · rw [c3 _ _ (by omega), fo _ _ (by omega) (by omega) (by omega)]
      exact hr.2.2.2.1 z (by omega) (fun g => hn ((nw_of hb h5 h6).mpr (.inl ⟨g, by omega⟩)))
  · rcases (nw_of hb h5 h6).mp hz with ⟨a, d⟩ | ⟨a, d, c⟩
    · have l1 := nb_lt hb a
      have sq := nw_sq (s := s) (hi := hi) (br := br) ht l1.2
      have rz := hr.2.2.2.2.1 z a
      rw [sq.1, sq.2.1, sq.2.2.1, sq.2.2.2.1, sq.2.2.2.2.1, if_neg (by omega), if_neg (by omega), if_neg (by omega), if_neg (by omega), if_neg (by omega)]
      refine ⟨?_, ?_, ?_, ?_, ?_, fun i hi4 => ?_⟩
      · rw [c3 _ _ (by omega), fo _ _ (by omega) (by omega) (by omega)]; exact rz.1
      · rw [c3 _ _ (by omega), fo _ _ (by omega) (by omega) (by omega)]; exact rz.2.1
      · rw [c3 _ _ (by omega), fo _ _ (by omega) (by omega) (by omega)]; exact rz.2.2.1
      · rw [c3 _ _ (by omega), fo _ _ (by omega) (by omega) (by omega)]; exact rz.2.2.2.1
      · rw [c3 _ _ (by omega), fo _ _ (by omega) (by omega) (by omega)]; exact rz.2.2.2.2.1
      · rw [c3 _ _ (by omega), fo _ _ (by omega) (by omega) (by omega), sq.2.2.2.2.2 i hi4, if_neg (by omega)]; exact rz.2.2.2.2.2 i hi4
    · have sq := nw_sq (s := s) (hi := hi) (br := br) ht (show z < 125 by omega)
      have cz := c2 z (by omega) (by omega)
      rw [if_pos ⟨d, c⟩] at cz
      rw [sq.1, sq.2.1, sq.2.2.1, sq.2.2.2.1, sq.2.2.2.2.1, if_pos a, if_pos a, if_pos a, if_pos a, if_pos a]
      refine ⟨cz.1, cz.2.1, cz.2.2.1, cz.2.2.2.1, cz.2.2.2.2.1, fun i hi4 => ?_⟩
      rw [sq.2.2.2.2.2 i hi4, if_pos a]
      exact cz.2.2.2.2.2 i hi4
  · rw [nw_tb ht] at hz
    by_cases e : z / 25 = t
    · have cz := c2 z (by omega) (by omega)
      exact ⟨cz.2.1, cz.2.2.2.2.2⟩
    · have rz := hr.2.2.2.2.2.1 z (by omega) (fun g => hn ((nw_of hb h5 h6).mpr (.inl ⟨g, by omega⟩)))
      refine ⟨?_, fun i hi4 => ?_⟩
      · rw [c3 _ _ (by omega), fo _ _ (by omega) (by omega) (by omega)]; exact rz.1
      · rw [c3 _ _ (by omega), fo _ _ (by omega) (by omega) (by omega)]; exact rz.2 i hi4
  · rw [c3 _ _ (by omega)]
    by_cases e : t = 0
    · rw [e0, e, upM_at]
      exact hx0 e
    · rw [fo _ _ (by omega) (by omega) (by omega)]
      exact hr.2.2.2.2.2.2.1 (by omega)
  · rcases (nw_cl hb h5 h6).mp hz with ⟨a, d⟩ | ⟨a, d, c⟩
    · have l1 := nb_lt hb a.1
      have ac := nw_acc (s := s) (hi := hi) (br := br) ht l1.2
      rw [ac.1, if_neg (by omega)] at h3
      rw [ac.2.1, if_neg (by omega), c3 _ _ (by omega)]
      have w7 := (hb.2.2.2.2.2.2.1 z a).2.2 h3
      by_cases e : nv (nuS s z) = t
      · obtain ⟨q, g1, g2, g3, g4⟩ := hx1 (by omega)
        have : z = q := hb.2.2.2.2.2.2.2.2 z q a g2 h3 g3 (by rw [e, g4])
        rw [e, e0, upM_at, g1, this]
      · rw [fo _ _ (by omega) (by omega) (by omega)]
        exact hr.2.2.2.2.2.2.2 z a h3 (by omega)
    · have ac := nw_acc (s := s) (hi := hi) (br := br) ht (show z < 125 by omega)
      rw [ac.1, if_pos a] at h3
      omega
  · funext j
    rw [c3 _ _ (by omega), fo _ _ (by omega) (by omega) (by omega)]
/-! begin -/
def bgS (s : Sv) (hi br : Nat) : Sv := nwS (upS s 0 (iN 0)) 0 hi br
theorem bg_b {s : Sv} (h1 : ∃ h, s 1 = iN h ∧ 1 ≤ h ∧ h ≤ 60) : WFb (upS s 0 (iN 0)) 0 := by
  have e : tbS (upS s 0 (iN 0)) = 0 := by
    unfold tbS
    rw [up_at]
    exact nv_iN (by omega)
  have no : ∀ q, ¬ isOf (upS s 0 (iN 0)) q := fun q g => by
    have := g.1
    omega
  refine ⟨⟨up_at, e, by omega⟩, by rw [up_o (by omega)]; exact h1, fun t' g => by omega, fun q g => absurd g (no q), fun q g => absurd g.1 (no q), fun q g => absurd g (no q), fun q g => absurd g.1 (no q), fun t' g1 g2 => by omega, fun q q' g => absurd g.1 (no q)⟩
theorem bg_R {b : Nat} {s : Sv} {σ : Mm} (h0 : σ b 1 = iN 0) (h1 : σ b 0 = s 1) : RelT b (upS s 0 (iN 0)) 0 σ := by
  have e : tbS (upS s 0 (iN 0)) = 0 := by
    unfold tbS
    rw [up_at]
    exact nv_iN (by omega)
  have no : ∀ q, ¬ isOf (upS s 0 (iN 0)) q := fun q g => by
    have := g.1
    omega
  exact ⟨h0, by rw [up_o (by omega)]; exact h1, fun t' g => by omega, fun q g => by omega, fun q g => absurd g (no q), fun q g => by omega, fun g => by omega, fun q g => absurd g.1 (no q)⟩
theorem f_startAnew {b hi br : Nat} {s : Sv} {σ : Mm} (h1 : ∃ h, s 1 = iN h ∧ 1 ≤ h ∧ h ≤ 60) (hs : σ b 0 = s 1) (a1 : 1 ≤ hi) (a5 : hi ≤ 5) (a2 : 1 ≤ br) (a6 : br ≤ 5) : ∃ σ1, F_X4_startAnew b (iN hi) (iN br) σ = some (.inl (), σ1) ∧ Rel b (bgS s hi br) σ1 ∧ ∀ k, ¬ (b ≤ k ∧ k ≤ b + 14) → σ1 k = σ k := by
  have hr := bg_R (b := b) (s := s) (σ := upM σ b 1 (iN 0)) upM_at (by rw [upM_ni (by omega)]; exact hs)
  obtain ⟨σ1, c1, c2, c3⟩ := f_layOut (x := mI) (bg_b h1) hr a1 a5 a2 a6 (fun _ => rfl) (fun g => by omega)
  refine ⟨σ1, ?_, c2, fun k hk => by rw [c3 k hk, upM_o (by omega)]⟩
  unfold F_X4_startAnew
  simp (disch := omega) only [↓ite_ap, if_true, if_false, if_pos, if_neg, retM_ap, retZ_ap0, retZ_ap1, gM_ap, sM_ap, jM_ap, bI_ap, bL_ap, bD_ap, rdM_ap, wrM_ap, thrM_ap, nl_0, nl_1, nm_1b, ↓invM_l c1]
theorem bg_WF {s : Sv} {hi br : Nat} (h1 : ∃ h, s 1 = iN h ∧ 1 ≤ h ∧ h ≤ 60) (a1 : 1 ≤ hi) (a5 : hi ≤ 5) (a2 : 1 ≤ br) (a6 : br ≤ 5) : WF (bgS s hi br) := nw_WF (bg_b h1) a1 a5 a2 a6
