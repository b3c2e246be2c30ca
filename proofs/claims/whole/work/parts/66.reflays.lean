/-! THE REFERENCE: A TABLE, ALL TABLES -/
/-- what the reference's memory holds of a table's layout -/
def MR (s : Sv) (σ : Mm) (t : Nat) : Prop :=
  σ 174 t = vaL s t ∧ σ 175 t = iN (tsL s (2 * t)) ∧ σ 176 t = iN (tsL s (2 * t + 1)) ∧ σ 177 t = iN (drL s t 0) ∧ σ 178 t = iN (drL s t 1) ∧
  (∀ q, q / 25 = t → σ 179 q = shL s q) ∧
  (∀ q i, q / 25 = t → isOf s q → i < 4 → σ 181 (4 * q + i) = iN (rlL s (q * 4 + i))) ∧
  (∀ l, l < 5 → σ 182 (5 * t + l) = iN (szL s t 0 l) ∧ σ 183 (5 * t + l) = iN (szL s t 1 l))
def PM (t k j : Nat) : Prop := (174 ≤ k ∧ k ≤ 178 ∧ j = t) ∨ (k = 179 ∧ j / 25 = t) ∨ (k = 181 ∧ j / 100 = t) ∨ ((k = 182 ∨ k = 183) ∧ j / 5 = t)
theorem MR.fr {t : Nat} {s : Sv} {σ σ1 : Mm} (h : MR s σ t) (hf : ∀ k j, PM t k j → σ1 k j = σ k j) : MR s σ1 t := by
  obtain ⟨a1, a2, a3, a4, a5, a6, a7, a8⟩ := h
  unfold PM at hf
  refine ⟨?_, ?_, ?_, ?_, ?_, fun q hq => ?_, fun q i hq ho hi => ?_, fun l hl => ⟨?_, ?_⟩⟩
  · rw [hf _ _ (by omega)]; exact a1
  · rw [hf _ _ (by omega)]; exact a2
  · rw [hf _ _ (by omega)]; exact a3
  · rw [hf _ _ (by omega)]; exact a4
  · rw [hf _ _ (by omega)]; exact a5
  · rw [hf _ _ (by omega)]; exact a6 q hq
  · rw [hf _ _ (by omega)]; exact a7 q i hq ho hi
  · rw [hf _ _ (by omega)]; exact (a8 l hl).1
  · rw [hf _ _ (by omega)]; exact (a8 l hl).2
/-- a line that the table doesn't have is empty -/
theorem szL_0 {s : Sv} {t w l : Nat} (hw : WF s) (ht : t < tbS s) (h2 : w < 2) (hl : liS s w t ≤ l) : szL s t w l = 0 := by
  have hp : ∀ q, isCl s q → q / 25 = t → plS w q + spW s w q ≤ liS s w t ∧ 1 ≤ spW s w q := fun q hc hq => by
    have w5 := hw.2.2.2.2.1 q hc
    rw [hq] at w5
    unfold plS spW liS
    by_cases h : w = 1
    · rw [if_pos h, if_pos h, if_pos h]; omega
    · rw [if_neg h, if_neg h, if_neg h]; omega
  have h0 : ∀ i, i ≤ (t + 1) * 25 → sgS s (waT s t w) t w l i = 0 := fun i hi => by
    have := mxN_leR (g := fun q => if (clB s q && decide (spW s w q = 1) && decide (plS w q = l)) = true then waT s t w q else 0) (lo := t * 25) (B := 0) i (fun q h1 h3 => by
      by_cases hc : (clB s q && decide (spW s w q = 1) && decide (plS w q = l)) = true
      · rw [Bool.and_eq_true, Bool.and_eq_true, decide_eq_true_eq, decide_eq_true_eq] at hc
        have := hp q (clB_iff.mp hc.1.1) (by omega)
        omega
      · rw [if_neg hc]
        exact Nat.le_refl _)
    unfold sgS
    omega
  have h1 : ∀ d, d ≤ 25 → spZ s (waT s t w) w (fun l => sgS s (waT s t w) t w l ((t + 1) * 25)) (t * 25) (t * 25 + d) l = 0 := by
    intro d
    induction d with
    | zero =>
      intro _
      rw [show t * 25 + 0 = t * 25 from rfl, spZ_0]
      exact h0 _ (Nat.le_refl _)
    | succ d ih =>
      intro hd
      rw [← Nat.add_assoc, spZ_s (by omega)]
      by_cases hc : (clB s (t * 25 + d) && decide (1 < spW s w (t * 25 + d))) = true
      · rw [if_pos hc]
        rw [Bool.and_eq_true, decide_eq_true_eq] at hc
        have := hp _ (clB_iff.mp hc.1) (by omega)
        show (if _ then _ else _) = 0
        rw [if_neg (by omega)]
        exact ih (by omega)
      · rw [if_neg hc]
        exact ih (by omega)
  have := h1 25 (Nat.le_refl _)
  rw [show t * 25 + 25 = (t + 1) * 25 by omega] at this
  exact this
theorem szL_all {s : Sv} {t w : Nat} (hw : WF s) (ht : t < tbS s) (h2 : w < 2) : smN (szL s t w) 0 5 = smN (szL s t w) 0 (liS s w t) :=
  smN_ext (Nat.zero_le _) (li_le hw ht).2 (fun j h1 _ => szL_0 hw ht h2 h1)
theorem r_tab9 {a t : Nat} {s : Sv} {σ : Mm} (hw : WF s) (hv : Vw a s σ) (ha : a ≠ 174) (ht : t < tbS s) (hva : ∀ t', t < t' → t' < tbS s → σ 174 t' = vaL s t') (R : Dm Unit) : L_X6_laysTable_9 a 1137 (iN t) FU (iN 0) (fun _ => R) (upM σ 174 t (iN 0)) = R (upM σ 174 t (vaL s t)) := by
  have t5 := hw.1.2.2
  have h := lp (fun n k (m : Mm) => L_X6_laysTable_9 a 1137 (iN t) n (iN k) (fun _ => R) m) (fun k => upM σ 174 t (smI (vS s (vaL s)) (t * 25) (t * 25 + k))) (i0 := 0) (N := 25) (r := R (upM σ 174 t (vaL s t))) (by omega) (by unfold FU; omega) ?_ ?_
  · simp only [Nat.add_zero, smI_0] at h
    exact h
  · intro n k hk1 hk2
    obtain ⟨m, hm⟩ : ∃ m, m = upM σ 174 t (smI (vS s (vaL s)) (t * 25) (t * 25 + k)) := ⟨_, rfl⟩
    have hvm : Vw a s m := hv.fr (by rw [hm, upM_o ha])
    obtain ⟨q, hq⟩ : ∃ q, q = t * 25 + k := ⟨_, rfl⟩
    have e1 : 25 * t + k = q := by omega
    have hqt : q / 25 = t := by omega
    have hq5 : q < 125 := by omega
    have hrd : m 174 t = smI (vS s (vaL s)) (t * 25) q := by rw [hm, upM_at, hq]
    have up : ∀ v, upM m 174 t v = upM σ 174 t v := fun v => by rw [hm, upM_up]
    simp only [L_X6_laysTable_9]
    rw [← hm, ← Nat.add_assoc, smI_s (by omega), ← hq]
    by_cases hc : isCl s q
    · have fc := r_isCell1 hw hvm hc
      have fv := r_valueOf hw hvm hc (fun t' h1 h2 => by rw [hm, upM_ni (by omega)]; exact hva t' (by omega) h2)
      simp (disch := omega) only [↓ite_ap, if_true, if_false, if_pos, if_neg, retM_ap, retZ_ap0, retZ_ap1, gM_ap, sM_ap, jM_ap, bI_ap, bL_ap, bD_ap, rdM_ap, wrM_ap, thrM_ap, nl_0, nl_1, nl_2, nl_3, nl_4, nl_5, nl_6, nl_7, nl_8, nl_9, nl_10, nl_11, nl_12, nl_13, nl_25, nl_33, nl_35, nl_45, nl_48, nl_49, nl_50, nl_52, nl_53, nl_57, nl_59, nl_60, nl_61, nl_77, nl_94, nl_97, nl_100, nl_101, nl_119, nl_125, nl_126, nl_137, nl_262, nl_387, nl_500, nl_512, nl_637, nl_999, nl_1022, nl_1137, nl_5685, nm_1b, iN_mI, mI_iN, iN_add, iN_mul, iN_sub, iN_div, iN_rem, iN_lt, iN_le, iN_eq, iN_nat, inB_iN, e1, ↓invM_l fc, ↓invM_l fv, hrd, up]
    · have fc := r_isCell0 hw hvm hq5 hc
      have e0 : vS s (vaL s) q = iN 0 := by unfold vS; rw [if_neg (by rw [clB_not hc]; decide)]
      rw [e0]
      simp (disch := omega) only [↓ite_ap, if_true, if_false, if_pos, if_neg, retM_ap, retZ_ap0, retZ_ap1, gM_ap, sM_ap, jM_ap, bI_ap, bL_ap, bD_ap, rdM_ap, wrM_ap, thrM_ap, nl_0, nl_1, nl_2, nl_3, nl_4, nl_5, nl_6, nl_7, nl_8, nl_9, nl_10, nl_11, nl_12, nl_13, nl_25, nl_33, nl_35, nl_45, nl_48, nl_49, nl_50, nl_52, nl_53, nl_57, nl_59, nl_60, nl_61, nl_77, nl_94, nl_97, nl_100, nl_101, nl_119, nl_125, nl_126, nl_137, nl_262, nl_387, nl_500, nl_512, nl_637, nl_999, nl_1022, nl_1137, nl_5685, nm_1b, iN_mI, mI_iN, iN_add, iN_mul, iN_sub, iN_div, iN_rem, iN_lt, iN_le, iN_eq, iN_nat, inB_iN, e1, ↓invM_l fc, hrd, up]
  · intro n
    simp only [L_X6_laysTable_9]
    rw [show t * 25 + 25 = (t + 1) * 25 by omega, ← vaL_eq hw]
    simp (disch := omega) only [↓ite_ap, if_true, if_false, if_pos, if_neg, retM_ap, retZ_ap0, retZ_ap1, gM_ap, sM_ap, jM_ap, bI_ap, bL_ap, bD_ap, rdM_ap, wrM_ap, thrM_ap, nl_0, nl_1, nl_2, nl_3, nl_4, nl_5, nl_6, nl_7, nl_8, nl_9, nl_10, nl_11, nl_12, nl_13, nl_25, nl_33, nl_35, nl_45, nl_48, nl_49, nl_50, nl_52, nl_53, nl_57, nl_59, nl_60, nl_61, nl_77, nl_94, nl_97, nl_100, nl_101, nl_119, nl_125, nl_126, nl_137, nl_262, nl_387, nl_500, nl_512, nl_637, nl_999, nl_1022, nl_1137, nl_5685, nm_1b, iN_mI, mI_iN, iN_add, iN_mul, iN_sub, iN_div, iN_rem, iN_lt, iN_le, iN_eq, iN_nat, inB_iN]
theorem r_tab60 {a t : Nat} {s : Sv} {σ : Mm} (hw : WF s) (hv : Vw a s σ) (ha : a ≠ 179) (ht : t < tbS s) (hva : ∀ t', t < t' → t' < tbS s → σ 174 t' = vaL s t') (R : Dm Unit) : L_X6_laysTable_60 a 1137 (iN t) FU (iN 0) (fun _ => R) σ = R (setS σ 179 (t * 25) (t * 25 + 25) (shL s)) := by
  have t5 := hw.1.2.2
  have h := lp (fun n k (m : Mm) => L_X6_laysTable_60 a 1137 (iN t) n (iN k) (fun _ => R) m) (fun k => setS σ 179 (t * 25) (t * 25 + k) (shL s)) (i0 := 0) (N := 25) (r := R (setS σ 179 (t * 25) (t * 25 + 25) (shL s))) (by omega) (by unfold FU; omega) ?_ ?_
  · simp only [Nat.add_zero, setS_0] at h
    exact h
  · intro n k hk1 hk2
    obtain ⟨m, hm⟩ : ∃ m, m = setS σ 179 (t * 25) (t * 25 + k) (shL s) := ⟨_, rfl⟩
    have hvm : Vw a s m := hv.fr (by rw [hm, setS_o ha])
    obtain ⟨q, hq⟩ : ∃ q, q = t * 25 + k := ⟨_, rfl⟩
    have e1 : 25 * t + k = q := by omega
    have hqt : q / 25 = t := by omega
    have hq5 : q < 125 := by omega
    have hst : ∀ x, x = shL s q → upM m 179 q x = setS σ 179 (t * 25) (t * 25 + (k + 1)) (shL s) := fun x hx => by
      rw [hm, ← Nat.add_assoc, ← hq]
      exact setS_up (by omega) hx
    have hvam : ∀ t', q / 25 < t' → t' < tbS s → m 174 t' = vaL s t' := fun t' h1 h2 => by
      rw [hm, setS_o (by omega)]
      exact hva t' (by omega) h2
    simp only [L_X6_laysTable_60]
    rw [← hm]
    by_cases hc : isCl s q
    · have fc := r_isCell1 hw hvm hc
      have fs := r_isSum hw hvm hc.1
      by_cases h4 : 4 ≤ kiS s q
      · rw [if_pos h4] at fs
        have fm := r_summed hw hvm hc h4 hvam
        have e : suS s (vS s (vaL s)) q = shL s q := by
          unfold shL shS
          rw [clB_iff.mpr hc, decide_eq_true h4]
          rfl
        simp (disch := omega) only [↓ite_ap, if_true, if_false, if_pos, if_neg, retM_ap, retZ_ap0, retZ_ap1, gM_ap, sM_ap, jM_ap, bI_ap, bL_ap, bD_ap, rdM_ap, wrM_ap, thrM_ap, nl_0, nl_1, nl_2, nl_3, nl_4, nl_5, nl_6, nl_7, nl_8, nl_9, nl_10, nl_11, nl_12, nl_13, nl_25, nl_33, nl_35, nl_45, nl_48, nl_49, nl_50, nl_52, nl_53, nl_57, nl_59, nl_60, nl_61, nl_77, nl_94, nl_97, nl_100, nl_101, nl_119, nl_125, nl_126, nl_137, nl_262, nl_387, nl_500, nl_512, nl_637, nl_999, nl_1022, nl_1137, nl_5685, nm_1b, iN_mI, mI_iN, iN_add, iN_mul, iN_sub, iN_div, iN_rem, iN_lt, iN_le, iN_eq, iN_nat, inB_iN, e1, ↓invM_l fc, ↓invM_l fs, ↓invM_l fm, hst _ e]
      · rw [if_neg h4] at fs
        have fv := r_valueOf hw hvm hc hvam
        have e : vS s (vaL s) q = shL s q := by
          unfold shL shS
          rw [decide_eq_false h4, Bool.and_false]
          rfl
        simp (disch := omega) only [↓ite_ap, if_true, if_false, if_pos, if_neg, retM_ap, retZ_ap0, retZ_ap1, gM_ap, sM_ap, jM_ap, bI_ap, bL_ap, bD_ap, rdM_ap, wrM_ap, thrM_ap, nl_0, nl_1, nl_2, nl_3, nl_4, nl_5, nl_6, nl_7, nl_8, nl_9, nl_10, nl_11, nl_12, nl_13, nl_25, nl_33, nl_35, nl_45, nl_48, nl_49, nl_50, nl_52, nl_53, nl_57, nl_59, nl_60, nl_61, nl_77, nl_94, nl_97, nl_100, nl_101, nl_119, nl_125, nl_126, nl_137, nl_262, nl_387, nl_500, nl_512, nl_637, nl_999, nl_1022, nl_1137, nl_5685, nm_1b, iN_mI, mI_iN, iN_add, iN_mul, iN_sub, iN_div, iN_rem, iN_lt, iN_le, iN_eq, iN_nat, inB_iN, e1, ↓invM_l fc, ↓invM_l fs, ↓invM_l fv, hst _ e]
    · have fc := r_isCell0 hw hvm hq5 hc
      have e : iN 0 = shL s q := by
        unfold shL shS vS
        rw [clB_not hc]
        rfl
      simp (disch := omega) only [↓ite_ap, if_true, if_false, if_pos, if_neg, retM_ap, retZ_ap0, retZ_ap1, gM_ap, sM_ap, jM_ap, bI_ap, bL_ap, bD_ap, rdM_ap, wrM_ap, thrM_ap, nl_0, nl_1, nl_2, nl_3, nl_4, nl_5, nl_6, nl_7, nl_8, nl_9, nl_10, nl_11, nl_12, nl_13, nl_25, nl_33, nl_35, nl_45, nl_48, nl_49, nl_50, nl_52, nl_53, nl_57, nl_59, nl_60, nl_61, nl_77, nl_94, nl_97, nl_100, nl_101, nl_119, nl_125, nl_126, nl_137, nl_262, nl_387, nl_500, nl_512, nl_637, nl_999, nl_1022, nl_1137, nl_5685, nm_1b, iN_mI, mI_iN, iN_add, iN_mul, iN_sub, iN_div, iN_rem, iN_lt, iN_le, iN_eq, iN_nat, inB_iN, e1, ↓invM_l fc, hst _ e]
  · intro n
    simp only [L_X6_laysTable_60]
    simp (disch := omega) only [↓ite_ap, if_true, if_false, if_pos, if_neg, retM_ap, retZ_ap0, retZ_ap1, gM_ap, sM_ap, jM_ap, bI_ap, bL_ap, bD_ap, rdM_ap, wrM_ap, thrM_ap, nl_0, nl_1, nl_2, nl_3, nl_4, nl_5, nl_6, nl_7, nl_8, nl_9, nl_10, nl_11, nl_12, nl_13, nl_25, nl_33, nl_35, nl_45, nl_48, nl_49, nl_50, nl_52, nl_53, nl_57, nl_59, nl_60, nl_61, nl_77, nl_94, nl_97, nl_100, nl_101, nl_119, nl_125, nl_126, nl_137, nl_262, nl_387, nl_500, nl_512, nl_637, nl_999, nl_1022, nl_1137, nl_5685, nm_1b, iN_mI, mI_iN, iN_add, iN_mul, iN_sub, iN_div, iN_rem, iN_lt, iN_le, iN_eq, iN_nat, inB_iN]
theorem r_tab196 {t x y : Nat} {g1 g2 : Nat → Nat} {σ : Mm} (ht : t < 5) (hg : ∀ l, l < 5 → σ 182 (5 * t + l) = iN (g1 l) ∧ σ 183 (5 * t + l) = iN (g2 l)) : L_X6_laysTable_196 (iN t) FU (iN 0) (upM (upM σ 175 t (iN x)) 176 t (iN y)) = some (.inl (), upM (upM σ 175 t (iN (x + smN g1 0 5))) 176 t (iN (y + smN g2 0 5))) := by
  have h := lp (fun n k (m : Mm) => L_X6_laysTable_196 (iN t) n (iN k) m) (fun k => upM (upM σ 175 t (iN (x + smN g1 0 k))) 176 t (iN (y + smN g2 0 k))) (i0 := 0) (N := 5) (r := some (.inl (), upM (upM σ 175 t (iN (x + smN g1 0 5))) 176 t (iN (y + smN g2 0 5)))) (by omega) (by unfold FU; omega) ?_ ?_
  · simp only [smN_0, Nat.add_zero] at h
    exact h
  · intro n k hk1 hk2
    simp only [L_X6_laysTable_196]
    have h1 := (hg k hk2).1
    have h2 := (hg k hk2).2
    have e1 : ∀ v w : Int32, upM (upM σ 175 t v) 176 t w 175 t = v := fun v w => by rw [upM_o (by omega), upM_at]
    have e2 : ∀ v w : Int32, upM (upM σ 175 t v) 176 t w 182 (5 * t + k) = σ 182 (5 * t + k) := fun v w => by rw [upM_o (by omega), upM_o (by omega)]
    have e3 : ∀ u v w : Int32, upM (upM (upM σ 175 t u) 176 t v) 175 t w = upM (upM σ 175 t w) 176 t v := fun u v w => by
      funext k' j
      unfold upM upd
      by_cases a1 : k' = 175
      · subst a1
        by_cases a2 : j = t
        · simp [a2]
        · simp [a2]
      · simp [a1]
    have e4 : ∀ v w : Int32, upM (upM σ 175 t v) 176 t w 176 t = w := fun v w => upM_at
    have e5 : ∀ v w : Int32, upM (upM σ 175 t v) 176 t w 183 (5 * t + k) = σ 183 (5 * t + k) := fun v w => by rw [upM_o (by omega), upM_o (by omega)]
    have e6 : ∀ u v w : Int32, upM (upM (upM σ 175 t u) 176 t v) 176 t w = upM (upM σ 175 t u) 176 t w := fun u v w => upM_up
    rw [smN_s hk1, smN_s hk1]
    simp (disch := omega) only [↓ite_ap, if_true, if_false, if_pos, if_neg, retM_ap, retZ_ap0, retZ_ap1, gM_ap, sM_ap, jM_ap, bI_ap, bL_ap, bD_ap, rdM_ap, wrM_ap, thrM_ap, nl_0, nl_1, nl_2, nl_3, nl_4, nl_5, nl_6, nl_7, nl_8, nl_9, nl_10, nl_11, nl_12, nl_13, nl_25, nl_33, nl_35, nl_45, nl_48, nl_49, nl_50, nl_52, nl_53, nl_57, nl_59, nl_60, nl_61, nl_77, nl_94, nl_97, nl_100, nl_101, nl_119, nl_125, nl_126, nl_137, nl_262, nl_387, nl_500, nl_512, nl_637, nl_999, nl_1022, nl_1137, nl_5685, nm_1b, iN_mI, mI_iN, iN_add, iN_mul, iN_sub, iN_div, iN_rem, iN_lt, iN_le, iN_eq, iN_nat, inB_iN, e1, e2, h1, e3, e4, e5, h2, e6, Nat.add_assoc]
  · intro n
    simp only [L_X6_laysTable_196]
    simp (disch := omega) only [↓ite_ap, if_true, if_false, if_pos, if_neg, retM_ap, retZ_ap0, retZ_ap1, gM_ap, sM_ap, jM_ap, bI_ap, bL_ap, bD_ap, rdM_ap, wrM_ap, thrM_ap, nl_0, nl_1, nl_2, nl_3, nl_4, nl_5, nl_6, nl_7, nl_8, nl_9, nl_10, nl_11, nl_12, nl_13, nl_25, nl_33, nl_35, nl_45, nl_48, nl_49, nl_50, nl_52, nl_53, nl_57, nl_59, nl_60, nl_61, nl_77, nl_94, nl_97, nl_100, nl_101, nl_119, nl_125, nl_126, nl_137, nl_262, nl_387, nl_500, nl_512, nl_637, nl_999, nl_1022, nl_1137, nl_5685, nm_1b, iN_mI, mI_iN, iN_add, iN_mul, iN_sub, iN_div, iN_rem, iN_lt, iN_le, iN_eq, iN_nat, inB_iN]
theorem upM_q {σ : Mm} {k i k' j : Nat} {v : Int32} (h : ¬ (k' = k ∧ j = i)) : upM σ k i v k' j = σ k' j := by
  by_cases hkk : k' = k
  · subst hkk
    exact upM_ni (fun g => h ⟨rfl, g⟩)
  · exact upM_ne hkk
theorem setS_q {σ : Mm} {k lo hi k' j : Nat} {F : Nat → Int32} (h : ¬ (k' = k ∧ lo ≤ j ∧ j < hi)) : setS σ k lo hi F k' j = σ k' j := by
  unfold setS
  rw [if_neg h]
theorem r_laysTable {a t : Nat} {s : Sv} {σ : Mm} (hw : WF s) (hv : Vw a s σ) (ha : a < 174) (ht : t < tbS s) (hM : ∀ t', t < t' → t' < tbS s → MR s σ t') : ∃ σ1, F_X6_laysTable a 1137 (iN t) σ = some (.inl (), σ1) ∧ MR s σ1 t ∧ ∀ k j, ¬ PM t k j → σ1 k j = σ k j := by
  have t5 := hw.1.2.2
  have hva : ∀ t', t < t' → t' < tbS s → σ 174 t' = vaL s t' := fun t' h1 h2 => (hM t' h1 h2).1
  have f1 := fun R => r_tab9 hw hv (by omega) ht hva R
  obtain ⟨m1, e1⟩ : ∃ m, m = upM σ 174 t (vaL s t) := ⟨_, rfl⟩
  rw [← e1] at f1
  have v1 : Vw a s m1 := hv.fr (by rw [e1, upM_o (by omega)])
  have f2 := fun R => r_tab60 hw v1 (by omega) ht (fun t' h1 h2 => by rw [e1, upM_q (by omega)]; exact hva t' h1 h2) R
  obtain ⟨m2, e2⟩ : ∃ m, m = setS m1 179 (t * 25) (t * 25 + 25) (shL s) := ⟨_, rfl⟩
  rw [← e2] at f2
  have v2 : Vw a s m2 := v1.fr (by rw [e2, setS_o (by omega)])
  have f3 := r_laysRules hw v2 (by omega) ht (fun q' i' h1 h2 h3 => by rw [e2, setS_o (by omega), e1, upM_o (by omega)]; exact (hM _ h1 h2.1).2.2.2.2.2.2.1 q' i' rfl h2 h3)
  obtain ⟨m3, e3⟩ : ∃ m, m = setS m2 181 (t * 100) (t * 100 + 100) (rlR s) := ⟨_, rfl⟩
  rw [← e3] at f3
  have v3 : Vw a s m3 := v2.fr (by rw [e3, setS_o (by omega)])
  have ru3 : ∀ q' i', q' / 25 = t → isOf s q' → i' < 4 → m3 181 (4 * q' + i') = iN (rlL s (q' * 4 + i')) := fun q' i' h1 h2 h3 => by
    rw [e3, setS_in (by omega) (by omega)]
    unfold rlR
    rw [show (4 * q' + i') / 4 = q' by omega, if_pos (ofB_iff.mpr h2), show 4 * q' + i' = q' * 4 + i' by omega]
  have f4 : F_X6_lines a 1137 (iN t) (iN 1) m3 = _ := r_lines (w := 0) hw v3 ht (by omega) rfl ru3
  obtain ⟨m4, e4⟩ : ∃ m, m = upM m3 177 t (iN (drL s t 0)) := ⟨_, rfl⟩
  have v4 : Vw a s m4 := v3.fr (by rw [e4, upM_o (by omega)])
  have f5 : F_X6_lines a 1137 (iN t) (iN 0) m4 = _ := r_lines (w := 1) hw v4 ht (by omega) rfl (fun q' i' h1 h2 h3 => by rw [e4, upM_o (by omega)]; exact ru3 q' i' h1 h2 h3)
  obtain ⟨m5, e5⟩ : ∃ m, m = upM m4 178 t (iN (drL s t 1)) := ⟨_, rfl⟩
  have v5 : Vw a s m5 := v4.fr (by rw [e5, upM_o (by omega)])
  have f6 := r_laysColumns hw v5 (by omega) ht (fun q hq hc => by rw [e5, upM_o (by omega), e4, upM_o (by omega), e3, setS_o (by omega), e2, setS_in (by omega) (by omega)]) (fun t' h1 h2 => by rw [e5, upM_o (by omega), e4, upM_o (by omega), e3, setS_o (by omega), e2, setS_o (by omega), e1, upM_o (by omega)]; exact (hM t' h1 h2).2.1)
  obtain ⟨m6, e6⟩ : ∃ m, m = setS m5 182 (5 * t) (5 * t + 5) (fun j => iN (szL s t 0 (j - 5 * t))) := ⟨_, rfl⟩
  rw [← e6] at f6
  have v6 : Vw a s m6 := v5.fr (by rw [e6, setS_o (by omega)])
  have f7 := r_laysRows hw v6 (by omega) ht (fun t' h1 h2 => by rw [e6, setS_o (by omega), e5, upM_o (by omega), e4, upM_o (by omega), e3, setS_o (by omega), e2, setS_o (by omega), e1, upM_o (by omega)]; exact (hM t' h1 h2).2.2.1)
  obtain ⟨m7, e7⟩ : ∃ m, m = setS m6 183 (5 * t) (5 * t + 5) (fun j => iN (szL s t 1 (j - 5 * t))) := ⟨_, rfl⟩
  rw [← e7] at f7
  have g1 : m7 177 t = iN (drL s t 0) := by rw [e7, setS_o (by omega), e6, setS_o (by omega), e5, upM_o (by omega), e4, upM_at]
  have g2 : ∀ x, upM m7 175 t x 178 t = iN (drL s t 1) := fun x => by rw [upM_o (by omega), e7, setS_o (by omega), e6, setS_o (by omega), e5, upM_at]
  have f8 := r_tab196 (t := t) (x := drL s t 0) (y := drL s t 1) (g1 := szL s t 0) (g2 := szL s t 1) (σ := m7) (by omega) (fun l hl => ⟨by rw [e7, setS_o (by omega), e6, setS_in (by omega) (by omega), Nat.add_sub_cancel_left], by rw [e7, setS_in (by omega) (by omega), Nat.add_sub_cancel_left]⟩)
  rw [szL_all hw ht (by omega), szL_all hw ht (by omega), ← tsL_eq hw (by omega), ← tsL_eq hw (by omega), Nat.add_zero] at f8
  obtain ⟨m8, e8⟩ : ∃ m, m = upM (upM m7 175 t (iN (tsL s (2 * t)))) 176 t (iN (tsL s (2 * t + 1))) := ⟨_, rfl⟩
  rw [← e8] at f8
  refine ⟨m8, ?_, ⟨?_, ?_, ?_, ?_, ?_, fun q hq => ?_, fun q i hq ho hi => ?_, fun l hl => ⟨?_, ?_⟩⟩, fun k j hk => ?_⟩
  · unfold F_X6_laysTable
    simp (disch := omega) only [↓ite_ap, if_true, if_false, if_pos, if_neg, retM_ap, retZ_ap0, retZ_ap1, gM_ap, sM_ap, jM_ap, bI_ap, bL_ap, bD_ap, rdM_ap, wrM_ap, thrM_ap, nl_0, nl_1, nl_2, nl_3, nl_4, nl_5, nl_6, nl_7, nl_8, nl_9, nl_10, nl_11, nl_12, nl_13, nl_25, nl_33, nl_35, nl_45, nl_48, nl_49, nl_50, nl_52, nl_53, nl_57, nl_59, nl_60, nl_61, nl_77, nl_94, nl_97, nl_100, nl_101, nl_119, nl_125, nl_126, nl_137, nl_262, nl_387, nl_500, nl_512, nl_637, nl_999, nl_1022, nl_1137, nl_5685, nm_1b, iN_mI, mI_iN, iN_add, iN_mul, iN_sub, iN_div, iN_rem, iN_lt, iN_le, iN_eq, iN_nat, inB_iN, f1, f2, ↓invM_l f3, ↓invM_l f4, ← e4, ↓invM_l f5, ← e5, ↓invM_l f6, ↓invM_l f7, g1, g2, f8]
  · rw [e8, upM_o (by omega), upM_o (by omega), e7, setS_o (by omega), e6, setS_o (by omega), e5, upM_o (by omega), e4, upM_o (by omega), e3, setS_o (by omega), e2, setS_o (by omega), e1, upM_at]
  · rw [e8, upM_o (by omega), upM_at]
  · rw [e8, upM_at]
  · rw [e8, upM_o (by omega), upM_o (by omega)]; exact g1
  · rw [e8, upM_o (by omega), upM_o (by omega), e7, setS_o (by omega), e6, setS_o (by omega), e5, upM_at]
  · rw [e8, upM_o (by omega), upM_o (by omega), e7, setS_o (by omega), e6, setS_o (by omega), e5, upM_o (by omega), e4, upM_o (by omega), e3, setS_o (by omega), e2, setS_in (by omega) (by omega)]
  · rw [e8, upM_o (by omega), upM_o (by omega), e7, setS_o (by omega), e6, setS_o (by omega), e5, upM_o (by omega), e4, upM_o (by omega)]
    exact ru3 q i hq ho hi
  · rw [e8, upM_o (by omega), upM_o (by omega), e7, setS_o (by omega), e6, setS_in (by omega) (by omega), Nat.add_sub_cancel_left]
  · rw [e8, upM_o (by omega), upM_o (by omega), e7, setS_in (by omega) (by omega), Nat.add_sub_cancel_left]
  · unfold PM at hk
    rw [e8, upM_q (by omega), upM_q (by omega), e7, setS_q (by omega), e6, setS_q (by omega), e5, upM_q (by omega), e4, upM_q (by omega), e3, setS_q (by omega), e2, setS_q (by omega), e1, upM_q (by omega)]
theorem r_lays6 {a : Nat} {s : Sv} (hw : WF s) (ha : a < 174) : ∀ (T n : Nat) (x : Int32) (σ : Mm), T ≤ tbS s → T < n → (T = 0 → x = mI) → (∀ t, T = t + 1 → x = iN t) → Vw a s σ → (∀ t, T ≤ t → t < tbS s → MR s σ t) → ∃ σ1, L_X6_lays_6 a 1137 n x σ = some (.inl (), σ1) ∧ (∀ t, t < tbS s → MR s σ1 t) ∧ ∀ k j, ¬ (174 ≤ k ∧ k ≤ 183) → σ1 k j = σ k j := by
  have t5 := hw.1.2.2
  intro T
  induction T with
  | zero =>
    intro n x σ _ hn hx _ hv hM
    obtain ⟨n, rfl⟩ : ∃ m, n = m + 1 := ⟨n - 1, by omega⟩
    rw [hx rfl]
    refine ⟨σ, ?_, fun t h => hM t (by omega) h, fun k j _ => rfl⟩
    simp only [L_X6_lays_6]
    have hm : (mI < 0) = True := mI_lt (a := 0) (by omega)
    simp only [↓ite_ap, if_true, if_false, if_pos, if_neg, retM_ap, retZ_ap0, retZ_ap1, gM_ap, sM_ap, jM_ap, bI_ap, bL_ap, bD_ap, rdM_ap, wrM_ap, thrM_ap, hm]
  | succ T ih =>
    intro n x σ hT hn _ hx hv hM
    obtain ⟨n, rfl⟩ : ∃ m, n = m + 1 := ⟨n - 1, by omega⟩
    rw [hx T rfl]
    obtain ⟨m1, a1, a2, a3⟩ := r_laysTable hw hv ha (show T < tbS s by omega) (fun t' h1 h2 => hM t' (by omega) h2)
    have p3 := a3
    unfold PM at a3
    have v1 : Vw a s m1 := hv.fr (funext (fun j => a3 a j (by omega)))
    obtain ⟨σ1, c1, c2, c3⟩ := ih n (iN T + mI) m1 (by omega) (by omega) (fun h => by subst h; rfl) (fun t ht => by subst ht; rw [one_mI (by omega)]; rfl) v1 (fun t h1 h2 => by
      by_cases h : t = T
      · subst h
        exact a2
      · refine (hM t (by omega) h2).fr (fun k j hk => p3 k j ?_)
        unfold PM at hk ⊢
        omega)
    refine ⟨σ1, ?_, c2, fun k j hk => by rw [c3 k j hk, a3 k j (by omega)]⟩
    simp only [L_X6_lays_6]
    have hm : (iN T < 0) = False := by rw [show (iN T < 0) = (T < 0) from iN_lt (b := 0) (by omega) (by omega)]; exact propext ⟨fun h => by omega, fun h => h.elim⟩
    simp only [↓ite_ap, if_true, if_false, if_pos, if_neg, retM_ap, retZ_ap0, retZ_ap1, gM_ap, sM_ap, jM_ap, bI_ap, bL_ap, bD_ap, rdM_ap, wrM_ap, thrM_ap, hm]
    rw [invM_l a1]
    exact c1
theorem r_lays {a : Nat} {s : Sv} {σ : Mm} (hw : WF s) (hv : Vw a s σ) (ha : a < 174) : ∃ σ1, F_X6_lays a 1137 σ = some (.inl (), σ1) ∧ (∀ t, t < tbS s → MR s σ1 t) ∧ ∀ k j, ¬ (174 ≤ k ∧ k ≤ 183) → σ1 k j = σ k j := by
  have t5 := hw.1.2.2
  have t1 := hw.1.2.1
  obtain ⟨σ1, c1, c2, c3⟩ := r_lays6 hw ha (tbS s) FU (iN (tbS s - 1)) σ (by omega) (by unfold FU; omega) (fun h => by omega) (fun t h => by rw [h]; rfl) hv (fun t h1 h2 => by omega)
  refine ⟨σ1, ?_, c2, c3⟩
  unfold F_X6_lays
  have h0 := hv.tb hw
  simp (disch := omega) only [↓ite_ap, if_true, if_false, if_pos, if_neg, retM_ap, retZ_ap0, retZ_ap1, gM_ap, sM_ap, jM_ap, bI_ap, bL_ap, bD_ap, rdM_ap, wrM_ap, thrM_ap, nl_0, nl_1, nl_2, nl_3, nl_4, nl_5, nl_6, nl_7, nl_8, nl_9, nl_10, nl_11, nl_12, nl_13, nl_25, nl_33, nl_35, nl_45, nl_48, nl_49, nl_50, nl_52, nl_53, nl_57, nl_59, nl_60, nl_61, nl_77, nl_94, nl_97, nl_100, nl_101, nl_119, nl_125, nl_126, nl_137, nl_262, nl_387, nl_500, nl_512, nl_637, nl_999, nl_1022, nl_1137, nl_5685, nm_1b, iN_mI, mI_iN, iN_add, iN_mul, iN_sub, iN_div, iN_rem, iN_lt, iN_le, iN_eq, iN_nat, inB_iN, h0]
  exact c1
