/-! THE REFERENCE: RULES AND LINES -/
/-- what the reference's array of rules gets at 4 * q + i -/
def rlR (s : Sv) (k : Nat) : Int32 := if ofB s (k / 4) = true then iN (rlL s k) else if iN 0 ≤ s (637 + k) then s (637 + k) else iN 0
theorem r_laysRules {a t : Nat} {s : Sv} {σ : Mm} (hw : WF s) (hv : Vw a s σ) (ha : a ≠ 181) (ht : t < tbS s) (hru : ∀ q' i', t < q' / 25 → isOf s q' → i' < 4 → σ 181 (4 * q' + i') = iN (rlL s (q' * 4 + i'))) : F_X6_laysRules a 1137 (iN t) σ = some (.inl (), setS σ 181 (t * 100) (t * 100 + 100) (rlR s)) := by
  have t5 := hw.1.2.2
  have h := lp (fun n k (m : Mm) => L_X6_laysRules_2 a 1137 (iN t) n (iN k) m) (fun k => setS σ 181 (t * 100) (t * 100 + k) (rlR s)) (i0 := 0) (N := 100) (r := some (.inl (), setS σ 181 (t * 100) (t * 100 + 100) (rlR s))) (by omega) (by unfold FU; omega) ?_ ?_
  · simp only [Nat.add_zero, setS_0] at h
    exact h
  · intro n k hk1 hk2
    obtain ⟨m, hm⟩ : ∃ m, m = setS σ 181 (t * 100) (t * 100 + k) (rlR s) := ⟨_, rfl⟩
    have hvm : Vw a s m := hv.fr (by rw [hm, setS_o ha])
    obtain ⟨q, hq⟩ : ∃ q, q = t * 25 + k / 4 := ⟨_, rfl⟩
    obtain ⟨i, hi⟩ : ∃ i, i = k % 4 := ⟨_, rfl⟩
    have e1 : 25 * t + k / 4 = q := by omega
    have hqt : q / 25 = t := by omega
    have hq5 : q < 125 := by omega
    have hi4 : i < 4 := by omega
    have ek : t * 100 + k = 4 * q + i := by omega
    have ek2 : 637 + (4 * q + i) < 1137 := by omega
    have hrum : ∀ q' i', t < q' / 25 → isOf s q' → i' < 4 → m 181 (4 * q' + i') = iN (rlL s (q' * 4 + i')) := fun q' i' a1 a2 a3 => by
      rw [hm, setS_out (by omega)]
      exact hru q' i' a1 a2 a3
    have hst : ∀ x, x = rlR s (4 * q + i) → upM m 181 (4 * q + i) x = setS σ 181 (t * 100) (t * 100 + (k + 1)) (rlR s) := fun x hx => by
      rw [hm, ← Nat.add_assoc, ek]
      exact setS_up (by omega) hx
    simp only [L_X6_laysRules_2]
    rw [← hm]
    by_cases ho : isOf s q
    · have hown := hvm.ru hw ho hi4
      have bown := ((hw.2.2.2.2.2.1 q ho).2.2.1 i hi4).2
      have er : rlR s (4 * q + i) = iN (max (ruS s (4 * q + i)) (inS s (eL s) q i)) := by
        unfold rlR
        rw [show (4 * q + i) / 4 = q by omega, if_pos (ofB_iff.mpr ho), show 4 * q + i = q * 4 + i by omega, rlL_eq hi4]
        unfold rlS
        rw [if_pos (ofB_iff.mpr ho), show 4 * q + i = q * 4 + i by omega]
      have put0 : inS s (eL s) q i = 0 → rlR s (4 * q + i) = iN (ruS s (4 * q + i)) := fun h => by rw [er, h, Nat.max_zero]
      by_cases hc : isCl s q
      · have fc := r_isCell1 hw hvm hc
        have hk := hvm.ki hw ho
        have kb := (hw.2.2.2.2.2.1 q ho).2.1
        by_cases h3 : kiS s q = 3
        · have w7 := (hw.2.2.2.2.2.2.1 q hc).2.2 h3
          have hn := hvm.nu hw ho
          rw [w7.1] at hn
          have fb := r_border hw hvm w7.2.2 hi4 (fun q' i' a1 => hrum q' i' (by omega))
          have ei : inS s (eL s) q i = bdS s (eL s) (nv (nuS s q)) i := by
            unfold inS
            rw [clB_iff.mpr hc, decide_eq_true h3]
            rfl
          have bb : bdS s (eL s) (nv (nuS s q)) i ≤ 3 := bdS_le hi4 (fun k _ => eL_le3 hw k)
          rw [ei] at er
          by_cases hx : bdS s (eL s) (nv (nuS s q)) i ≤ ruS s (4 * q + i)
          · rw [Nat.max_eq_left hx] at er
            simp (disch := omega) only [↓ite_ap, if_true, if_false, if_pos, if_neg, retM_ap, retZ_ap0, retZ_ap1, gM_ap, sM_ap, jM_ap, bI_ap, bL_ap, bD_ap, rdM_ap, wrM_ap, thrM_ap, nl_0, nl_1, nl_2, nl_3, nl_4, nl_5, nl_6, nl_7, nl_8, nl_9, nl_10, nl_11, nl_12, nl_13, nl_25, nl_33, nl_35, nl_45, nl_48, nl_49, nl_50, nl_52, nl_53, nl_57, nl_59, nl_60, nl_61, nl_77, nl_94, nl_97, nl_100, nl_101, nl_119, nl_125, nl_126, nl_137, nl_262, nl_387, nl_500, nl_512, nl_637, nl_999, nl_1022, nl_1137, nl_5685, nm_1b, iN_mI, mI_iN, iN_add, iN_mul, iN_sub, iN_div, iN_rem, iN_lt, iN_le, iN_eq, iN_nat, inB_iN, e1, ← hi, Nat.add_assoc, hown, ↓invM_l fc, hk, h3, hn, ↓invM_l fb, hst _ er.symm]
          · rw [Nat.max_eq_right (by omega)] at er
            simp (disch := omega) only [↓ite_ap, if_true, if_false, if_pos, if_neg, retM_ap, retZ_ap0, retZ_ap1, gM_ap, sM_ap, jM_ap, bI_ap, bL_ap, bD_ap, rdM_ap, wrM_ap, thrM_ap, nl_0, nl_1, nl_2, nl_3, nl_4, nl_5, nl_6, nl_7, nl_8, nl_9, nl_10, nl_11, nl_12, nl_13, nl_25, nl_33, nl_35, nl_45, nl_48, nl_49, nl_50, nl_52, nl_53, nl_57, nl_59, nl_60, nl_61, nl_77, nl_94, nl_97, nl_100, nl_101, nl_119, nl_125, nl_126, nl_137, nl_262, nl_387, nl_500, nl_512, nl_637, nl_999, nl_1022, nl_1137, nl_5685, nm_1b, iN_mI, mI_iN, iN_add, iN_mul, iN_sub, iN_div, iN_rem, iN_lt, iN_le, iN_eq, iN_nat, inB_iN, e1, ← hi, Nat.add_assoc, hown, ↓invM_l fc, hk, h3, hn, ↓invM_l fb, hst _ er.symm]
        · have e0 := put0 (by unfold inS; rw [decide_eq_false h3, Bool.and_false]; rfl)
          simp (disch := omega) only [↓ite_ap, if_true, if_false, if_pos, if_neg, retM_ap, retZ_ap0, retZ_ap1, gM_ap, sM_ap, jM_ap, bI_ap, bL_ap, bD_ap, rdM_ap, wrM_ap, thrM_ap, nl_0, nl_1, nl_2, nl_3, nl_4, nl_5, nl_6, nl_7, nl_8, nl_9, nl_10, nl_11, nl_12, nl_13, nl_25, nl_33, nl_35, nl_45, nl_48, nl_49, nl_50, nl_52, nl_53, nl_57, nl_59, nl_60, nl_61, nl_77, nl_94, nl_97, nl_100, nl_101, nl_119, nl_125, nl_126, nl_137, nl_262, nl_387, nl_500, nl_512, nl_637, nl_999, nl_1022, nl_1137, nl_5685, nm_1b, iN_mI, mI_iN, iN_add, iN_mul, iN_sub, iN_div, iN_rem, iN_lt, iN_le, iN_eq, iN_nat, inB_iN, e1, ← hi, Nat.add_assoc, hown, ↓invM_l fc, hk, h3, hst _ e0.symm]
      · have fc := r_isCell0 hw hvm hq5 hc
        have e0 := put0 (by unfold inS; rw [clB_not hc, Bool.false_and]; rfl)
        simp (disch := omega) only [↓ite_ap, if_true, if_false, if_pos, if_neg, retM_ap, retZ_ap0, retZ_ap1, gM_ap, sM_ap, jM_ap, bI_ap, bL_ap, bD_ap, rdM_ap, wrM_ap, thrM_ap, nl_0, nl_1, nl_2, nl_3, nl_4, nl_5, nl_6, nl_7, nl_8, nl_9, nl_10, nl_11, nl_12, nl_13, nl_25, nl_33, nl_35, nl_45, nl_48, nl_49, nl_50, nl_52, nl_53, nl_57, nl_59, nl_60, nl_61, nl_77, nl_94, nl_97, nl_100, nl_101, nl_119, nl_125, nl_126, nl_137, nl_262, nl_387, nl_500, nl_512, nl_637, nl_999, nl_1022, nl_1137, nl_5685, nm_1b, iN_mI, mI_iN, iN_add, iN_mul, iN_sub, iN_div, iN_rem, iN_lt, iN_le, iN_eq, iN_nat, inB_iN, e1, ← hi, Nat.add_assoc, hown, ↓invM_l fc, hst _ e0.symm]
    · have hown := hvm _ ek2
      have fc := r_isCell0 hw hvm hq5 (fun g => ho g.1)
      have er : rlR s (4 * q + i) = if iN 0 ≤ s (637 + (4 * q + i)) then s (637 + (4 * q + i)) else iN 0 := by
        unfold rlR
        rw [show (4 * q + i) / 4 = q by omega, ofB_not ho]
        rfl
      by_cases hx : iN 0 ≤ s (637 + (4 * q + i))
      · rw [if_pos hx] at er
        simp (disch := omega) only [↓ite_ap, if_true, if_false, if_pos, if_neg, retM_ap, retZ_ap0, retZ_ap1, gM_ap, sM_ap, jM_ap, bI_ap, bL_ap, bD_ap, rdM_ap, wrM_ap, thrM_ap, nl_0, nl_1, nl_2, nl_3, nl_4, nl_5, nl_6, nl_7, nl_8, nl_9, nl_10, nl_11, nl_12, nl_13, nl_25, nl_33, nl_35, nl_45, nl_48, nl_49, nl_50, nl_52, nl_53, nl_57, nl_59, nl_60, nl_61, nl_77, nl_94, nl_97, nl_100, nl_101, nl_119, nl_125, nl_126, nl_137, nl_262, nl_387, nl_500, nl_512, nl_637, nl_999, nl_1022, nl_1137, nl_5685, nm_1b, iN_mI, mI_iN, iN_add, iN_mul, iN_sub, iN_div, iN_rem, iN_lt, iN_le, iN_eq, iN_nat, inB_iN, e1, ← hi, Nat.add_assoc, hown, ↓invM_l fc, hx, hst _ er.symm]
      · rw [if_neg hx] at er
        simp (disch := omega) only [↓ite_ap, if_true, if_false, if_pos, if_neg, retM_ap, retZ_ap0, retZ_ap1, gM_ap, sM_ap, jM_ap, bI_ap, bL_ap, bD_ap, rdM_ap, wrM_ap, thrM_ap, nl_0, nl_1, nl_2, nl_3, nl_4, nl_5, nl_6, nl_7, nl_8, nl_9, nl_10, nl_11, nl_12, nl_13, nl_25, nl_33, nl_35, nl_45, nl_48, nl_49, nl_50, nl_52, nl_53, nl_57, nl_59, nl_60, nl_61, nl_77, nl_94, nl_97, nl_100, nl_101, nl_119, nl_125, nl_126, nl_137, nl_262, nl_387, nl_500, nl_512, nl_637, nl_999, nl_1022, nl_1137, nl_5685, nm_1b, iN_mI, mI_iN, iN_add, iN_mul, iN_sub, iN_div, iN_rem, iN_lt, iN_le, iN_eq, iN_nat, inB_iN, e1, ← hi, Nat.add_assoc, hown, ↓invM_l fc, hx]
        rw [hst _ er.symm]
  · intro n
    simp only [L_X6_laysRules_2]
    simp (disch := omega) only [↓ite_ap, if_true, if_false, if_pos, if_neg, retM_ap, retZ_ap0, retZ_ap1, gM_ap, sM_ap, jM_ap, bI_ap, bL_ap, bD_ap, rdM_ap, wrM_ap, thrM_ap, nl_0, nl_1, nl_2, nl_3, nl_4, nl_5, nl_6, nl_7, nl_8, nl_9, nl_10, nl_11, nl_12, nl_13, nl_25, nl_33, nl_35, nl_45, nl_48, nl_49, nl_50, nl_52, nl_53, nl_57, nl_59, nl_60, nl_61, nl_77, nl_94, nl_97, nl_100, nl_101, nl_119, nl_125, nl_126, nl_137, nl_262, nl_387, nl_500, nl_512, nl_637, nl_999, nl_1022, nl_1137, nl_5685, nm_1b, iN_mI, mI_iN, iN_add, iN_mul, iN_sub, iN_div, iN_rem, iN_lt, iN_le, iN_eq, iN_nat, inB_iN]
theorem mxN_pos {g : Nat → Nat} {lo : Nat} : ∀ {hi : Nat}, 0 < mxN g lo hi ↔ ∃ i, lo ≤ i ∧ i < hi ∧ 0 < g i
  | 0 => ⟨fun h => absurd h (by unfold mxN; omega), fun ⟨i, _, h, _⟩ => absurd h (by omega)⟩
  | n + 1 => by
    by_cases hl : lo ≤ n
    · rw [mxN_s hl]
      constructor
      · intro h
        by_cases hg : 0 < g n
        · exact ⟨n, hl, by omega, hg⟩
        · obtain ⟨i, h1, h2, h3⟩ := mxN_pos.mp (show 0 < mxN g lo n by omega)
          exact ⟨i, h1, by omega, h3⟩
      · rintro ⟨i, h1, h2, h3⟩
        by_cases e : i = n
        · subst e
          omega
        · have := (mxN_pos (g := g) (lo := lo) (hi := n)).mpr ⟨i, h1, by omega, h3⟩
          omega
    · unfold mxN
      rw [if_neg hl]
      exact ⟨fun h => by omega, fun ⟨i, h1, h2, _⟩ => by omega⟩
/-- the square k of the line l: of a column (w = 0) or of a row -/
def lqS (t w l k : Nat) : Nat := if w = 1 then 25 * t + 5 * l + k else 25 * t + 5 * k + l
/-- how many there are -/
def frN (s : Sv) (w t : Nat) : Nat := if w = 1 then coS s t else roS s t
theorem lq_pl {t w l k : Nat} (h2 : w < 2) (hl : l < 5) (hk : k < 5) : lqS t w l k / 25 = t ∧ plS w (lqS t w l k) = l := by
  unfold lqS plS
  by_cases h : w = 1
  · rw [if_pos h, if_pos h]; omega
  · rw [if_neg h, if_neg h]; omega
theorem lq_of {s : Sv} {t w l k : Nat} (hw : WF s) (ht : t < tbS s) (h2 : w < 2) (hl : l < liS s w t) (hk : k < frN s w t) : isOf s (lqS t w l k) := by
  have w3 := hw.2.2.1 t ht
  unfold lqS
  unfold liS at hl
  unfold frN at hk
  by_cases h : w = 1
  · rw [if_pos h] at hl hk ⊢
    have e : (25 * t + 5 * l + k) / 25 = t := by omega
    exact ⟨by omega, by rw [e]; omega, by rw [e]; omega⟩
  · rw [if_neg h] at hl hk ⊢
    have e : (25 * t + 5 * k + l) / 25 = t := by omega
    exact ⟨by omega, by rw [e]; omega, by rw [e]; omega⟩
theorem gr_any {s : Sv} {t w l i : Nat} (hw : WF s) (ht : t < tbS s) (h2 : w < 2) (hi : i < 4) (hl : l < liS s w t) : (0 < grS (fun q => eL s (q * 4 + i)) t w l) ↔ anB (fun k => decide (0 < eL s (lqS t w l k * 4 + i))) (frN s w t) = true := by
  have w3 := hw.2.2.1 t ht
  unfold grS
  rw [mxN_pos, anB_iff]
  constructor
  · rintro ⟨q, h1, h3, h4⟩
    by_cases hp : plS w q = l
    · rw [if_pos hp] at h4
      have h4 : 0 < eL s (q * 4 + i) := h4
      have ho : isOf s q := by
        by_cases g : isOf s q
        · exact g
        · rw [eL_eq hw hi, ofB_not g] at h4
          exact absurd h4 (by rw [if_neg (show ¬ (false = true) by decide)]; omega)
      have o2 := ho.2.1
      have o3 := ho.2.2
      have hqt : q / 25 = t := by omega
      rw [hqt] at o2 o3
      unfold plS at hp
      unfold lqS frN
      by_cases h : w = 1
      · rw [if_pos h] at hp ⊢
        exact ⟨q % 5, o3, decide_eq_true (by rw [if_pos h, show 25 * t + 5 * l + q % 5 = q by omega]; exact h4)⟩
      · rw [if_neg h] at hp ⊢
        exact ⟨q % 25 / 5, o2, decide_eq_true (by rw [if_neg h, show 25 * t + 5 * (q % 25 / 5) + l = q by omega]; exact h4)⟩
    · rw [if_neg hp] at h4
      omega
  · rintro ⟨k, h1, h3⟩
    have h3 := of_decide_eq_true h3
    have l5 := (li_le hw (w := w) ht).2
    have k5 : k < 5 := by
      unfold frN at h1
      by_cases h : w = 1
      · rw [if_pos h] at h1; omega
      · rw [if_neg h] at h1; omega
    have e := lq_pl (t := t) (l := l) (k := k) h2 (by omega) k5
    exact ⟨lqS t w l k, by omega, by omega, by rw [if_pos e.2]; exact h3⟩
theorem r_lines_l {a t w l i : Nat} {s : Sv} {σ : Mm} {x2 x6 p2 : Int32} {K : Int32 → Dm Int32} (hw : WF s) (hv : Vw a s σ) (ht : t < tbS s) (h2 : w < 2) (hl : l < liS s w t) (hi : i < 4) (hp : p2 = if w = 0 then iN 1 else iN 0) (hx : (x2 ≤ x6 ∧ i = if w = 0 then 1 else 2) ∨ (¬ x2 ≤ x6 ∧ i = if w = 0 then 3 else 0)) (hru : ∀ q' i', q' / 25 = t → isOf s q' → i' < 4 → σ 181 (4 * q' + i') = iN (rlL s (q' * 4 + i'))) : L_X6_lines_69 a 1137 (iN t) p2 x2 (iN (frN s w t)) x6 (iN l) FU (iN 0) (iN 0) K σ = K (if 0 < grS (fun q => eL s (q * 4 + i)) t w l then iN 1 else iN 0) σ := by
  have w3 := hw.2.2.1 t ht
  have t5 := hw.1.2.2
  have l5 := (li_le hw (w := w) ht).2
  have hfr : frN s w t ≤ 5 := by
    unfold frN
    by_cases h : w = 1
    · rw [if_pos h]; omega
    · rw [if_neg h]; omega
  obtain ⟨p, hpp⟩ : ∃ p : Nat → Bool, p = fun k => decide (0 < eL s (lqS t w l k * 4 + i)) := ⟨_, rfl⟩
  have e0 : (if 0 < grS (fun q => eL s (q * 4 + i)) t w l then iN 1 else iN 0) = if anB p (frN s w t) = true then iN 1 else iN 0 := by
    have g := gr_any hw ht h2 hi hl
    rw [← hpp] at g
    by_cases h : 0 < grS (fun q => eL s (q * 4 + i)) t w l
    · rw [if_pos h, if_pos (g.mp h)]
    · rw [if_neg h, if_neg (fun q => h (g.mpr q))]
  rw [e0]
  refine lp (fun n k (x : Int32) => L_X6_lines_69 a 1137 (iN t) p2 x2 (iN (frN s w t)) x6 (iN l) n x (iN k) K σ) (fun k => if anB p k = true then iN 1 else iN 0) (i0 := 0) (N := frN s w t) (by omega) (by unfold FU; omega) ?_ ?_
  · intro n k hk1 hk2
    have ho := lq_of hw ht h2 hl hk2
    have hqt := (lq_pl (t := t) (l := l) (k := k) h2 (by omega) (by omega)).1
    have fe := r_edgeOf hw hv ho hi (fun q' i' h1 => hru q' i' (by omega))
    have b1 := eL_le3 hw (lqS t w l k * 4 + i)
    have ep : p k = decide (0 < eL s (lqS t w l k * 4 + i)) := by rw [hpp]
    simp only [L_X6_lines_69]
    have ea : anB p (k + 1) = (anB p k || p k) := rfl
    rw [ea]
    unfold lqS at fe ep b1
    cases e1 : anB p k
    · rw [Bool.false_or]
      by_cases hz : 0 < eL s ((if w = 1 then 25 * t + 5 * l + k else 25 * t + 5 * k + l) * 4 + i)
      · rw [decide_eq_true hz] at ep
        rw [ep]
        have hww : w = 0 ∨ w = 1 := by omega
        rcases hww with h | h
        · subst h
          rw [if_neg (show ¬ ((0 : Nat) = 1) by omega)] at fe b1 hz
          subst hp
          rcases hx with ⟨hx, he⟩ | ⟨hx, he⟩
          · have he : i = 1 := he
            subst he
            simp (disch := omega) only [↓ite_ap, if_true, if_false, if_pos, if_neg, retM_ap, retZ_ap0, retZ_ap1, gM_ap, sM_ap, jM_ap, bI_ap, bL_ap, bD_ap, rdM_ap, wrM_ap, thrM_ap, nl_0, nl_1, nl_2, nl_3, iN_eq, iN_le, iN_lt, iN_add, hx, ↓invM_l r_square, ↓invM_l fe, Bool.false_eq_true]
          · have he : i = 3 := he
            subst he
            simp (disch := omega) only [↓ite_ap, if_true, if_false, if_pos, if_neg, retM_ap, retZ_ap0, retZ_ap1, gM_ap, sM_ap, jM_ap, bI_ap, bL_ap, bD_ap, rdM_ap, wrM_ap, thrM_ap, nl_0, nl_1, nl_2, nl_3, iN_eq, iN_le, iN_lt, iN_add, hx, ↓invM_l r_square, ↓invM_l fe, Bool.false_eq_true]
        · subst h
          rw [if_pos rfl] at fe b1 hz
          subst hp
          rcases hx with ⟨hx, he⟩ | ⟨hx, he⟩
          · have he : i = 2 := he
            subst he
            simp (disch := omega) only [↓ite_ap, if_true, if_false, if_pos, if_neg, retM_ap, retZ_ap0, retZ_ap1, gM_ap, sM_ap, jM_ap, bI_ap, bL_ap, bD_ap, rdM_ap, wrM_ap, thrM_ap, nl_0, nl_1, nl_2, nl_3, iN_eq, iN_le, iN_lt, iN_add, hx, ↓invM_l r_square, ↓invM_l fe, Bool.false_eq_true]
          · have he : i = 0 := he
            subst he
            simp (disch := omega) only [↓ite_ap, if_true, if_false, if_pos, if_neg, retM_ap, retZ_ap0, retZ_ap1, gM_ap, sM_ap, jM_ap, bI_ap, bL_ap, bD_ap, rdM_ap, wrM_ap, thrM_ap, nl_0, nl_1, nl_2, nl_3, iN_eq, iN_le, iN_lt, iN_add, hx, ↓invM_l r_square, ↓invM_l fe, Bool.false_eq_true]
      · rw [decide_eq_false hz] at ep
        rw [ep]
        have hz0 : eL s ((if w = 1 then 25 * t + 5 * l + k else 25 * t + 5 * k + l) * 4 + i) = 0 := by omega
        have hww : w = 0 ∨ w = 1 := by omega
        rcases hww with h | h
        · subst h
          rw [hz0] at fe
          rw [if_neg (show ¬ ((0 : Nat) = 1) by omega)] at fe
          subst hp
          rcases hx with ⟨hx, he⟩ | ⟨hx, he⟩
          · have he : i = 1 := he
            subst he
            simp (disch := omega) only [↓ite_ap, if_true, if_false, if_pos, if_neg, retM_ap, retZ_ap0, retZ_ap1, gM_ap, sM_ap, jM_ap, bI_ap, bL_ap, bD_ap, rdM_ap, wrM_ap, thrM_ap, nl_0, nl_1, nl_2, nl_3, iN_eq, iN_le, iN_lt, iN_add, hx, ↓invM_l r_square, ↓invM_l fe, Bool.false_eq_true]
          · have he : i = 3 := he
            subst he
            simp (disch := omega) only [↓ite_ap, if_true, if_false, if_pos, if_neg, retM_ap, retZ_ap0, retZ_ap1, gM_ap, sM_ap, jM_ap, bI_ap, bL_ap, bD_ap, rdM_ap, wrM_ap, thrM_ap, nl_0, nl_1, nl_2, nl_3, iN_eq, iN_le, iN_lt, iN_add, hx, ↓invM_l r_square, ↓invM_l fe, Bool.false_eq_true]
        · subst h
          rw [hz0] at fe
          rw [if_pos rfl] at fe
          subst hp
          rcases hx with ⟨hx, he⟩ | ⟨hx, he⟩
          · have he : i = 2 := he
            subst he
            simp (disch := omega) only [↓ite_ap, if_true, if_false, if_pos, if_neg, retM_ap, retZ_ap0, retZ_ap1, gM_ap, sM_ap, jM_ap, bI_ap, bL_ap, bD_ap, rdM_ap, wrM_ap, thrM_ap, nl_0, nl_1, nl_2, nl_3, iN_eq, iN_le, iN_lt, iN_add, hx, ↓invM_l r_square, ↓invM_l fe, Bool.false_eq_true]
          · have he : i = 0 := he
            subst he
            simp (disch := omega) only [↓ite_ap, if_true, if_false, if_pos, if_neg, retM_ap, retZ_ap0, retZ_ap1, gM_ap, sM_ap, jM_ap, bI_ap, bL_ap, bD_ap, rdM_ap, wrM_ap, thrM_ap, nl_0, nl_1, nl_2, nl_3, iN_eq, iN_le, iN_lt, iN_add, hx, ↓invM_l r_square, ↓invM_l fe, Bool.false_eq_true]
    · rw [Bool.true_or]
      have hww : w = 0 ∨ w = 1 := by omega
      rcases hww with h | h
      · subst h
        subst hp
        rcases hx with ⟨hx, he⟩ | ⟨hx, he⟩
        · simp (disch := omega) only [↓ite_ap, if_true, if_false, if_pos, if_neg, retM_ap, retZ_ap0, retZ_ap1, gM_ap, sM_ap, jM_ap, bI_ap, bL_ap, bD_ap, rdM_ap, wrM_ap, thrM_ap, nl_0, nl_1, nl_2, nl_3, iN_eq, iN_le, iN_lt, iN_add, hx, ↓invM_l r_square]
        · simp (disch := omega) only [↓ite_ap, if_true, if_false, if_pos, if_neg, retM_ap, retZ_ap0, retZ_ap1, gM_ap, sM_ap, jM_ap, bI_ap, bL_ap, bD_ap, rdM_ap, wrM_ap, thrM_ap, nl_0, nl_1, nl_2, nl_3, iN_eq, iN_le, iN_lt, iN_add, hx, ↓invM_l r_square]
      · subst h
        subst hp
        rcases hx with ⟨hx, he⟩ | ⟨hx, he⟩
        · simp (disch := omega) only [↓ite_ap, if_true, if_false, if_pos, if_neg, retM_ap, retZ_ap0, retZ_ap1, gM_ap, sM_ap, jM_ap, bI_ap, bL_ap, bD_ap, rdM_ap, wrM_ap, thrM_ap, nl_0, nl_1, nl_2, nl_3, iN_eq, iN_le, iN_lt, iN_add, hx, ↓invM_l r_square]
        · simp (disch := omega) only [↓ite_ap, if_true, if_false, if_pos, if_neg, retM_ap, retZ_ap0, retZ_ap1, gM_ap, sM_ap, jM_ap, bI_ap, bL_ap, bD_ap, rdM_ap, wrM_ap, thrM_ap, nl_0, nl_1, nl_2, nl_3, iN_eq, iN_le, iN_lt, iN_add, hx, ↓invM_l r_square]
  · intro n
    simp only [L_X6_lines_69]
    simp (disch := omega) only [↓ite_ap, if_true, if_false, if_pos, if_neg, retM_ap, retZ_ap0, retZ_ap1, gM_ap, sM_ap, jM_ap, bI_ap, bL_ap, bD_ap, rdM_ap, wrM_ap, thrM_ap, nl_0, nl_1, nl_2, nl_3, nl_4, nl_5, nl_6, nl_7, nl_8, nl_9, nl_10, nl_11, nl_12, nl_13, nl_25, nl_33, nl_35, nl_45, nl_48, nl_49, nl_50, nl_52, nl_53, nl_57, nl_59, nl_60, nl_61, nl_77, nl_94, nl_97, nl_100, nl_101, nl_119, nl_125, nl_126, nl_137, nl_262, nl_387, nl_500, nl_512, nl_637, nl_999, nl_1022, nl_1137, nl_5685, nm_1b, iN_mI, mI_iN, iN_add, iN_mul, iN_sub, iN_div, iN_rem, iN_lt, iN_le, iN_eq, iN_nat, inB_iN]
theorem r_lines {a t w : Nat} {s : Sv} {σ : Mm} {p2 : Int32} (hw : WF s) (hv : Vw a s σ) (ht : t < tbS s) (h2 : w < 2) (hp : p2 = if w = 0 then iN 1 else iN 0) (hru : ∀ q' i', q' / 25 = t → isOf s q' → i' < 4 → σ 181 (4 * q' + i') = iN (rlL s (q' * 4 + i'))) : F_X6_lines a 1137 (iN t) p2 σ = some (.inl (iN (drL s t w)), σ) := by
  have w3 := hw.2.2.1 t ht
  have t5 := hw.1.2.2
  have l5 := li_le hw (w := w) ht
  have h1 := hv.ro hw ht
  have h3 := hv.co hw ht
  obtain ⟨L, hL⟩ : ∃ L, L = liS s w t := ⟨_, rfl⟩
  obtain ⟨bef, hbef⟩ : ∃ bef, bef = if w = 1 then 0 else 3 := ⟨_, rfl⟩
  obtain ⟨beh, hbeh⟩ : ∃ beh, beh = if w = 1 then 2 else 1 := ⟨_, rfl⟩
  obtain ⟨f, hf⟩ : ∃ f : Nat → Nat, f = fun l => if 0 < grS (fun q => eL s (q * 4 + bef)) t w l then 1 else 0 := ⟨_, rfl⟩
  obtain ⟨c0, hc0⟩ : ∃ c0, c0 = if 0 < grS (fun q => eL s (q * 4 + beh)) t w (L - 1) then 1 else 0 := ⟨_, rfl⟩
  have hln : drL s t w = c0 + smN f 0 L := by
    unfold drL lnS
    rw [hc0, hf, hbef, hbeh, hL]
  have hbb : bef = (if w = 0 then 3 else 0) ∧ beh = (if w = 0 then 1 else 2) ∧ bef < 4 ∧ beh < 4 := by
    rw [hbef, hbeh]
    have hww : w = 0 ∨ w = 1 := by omega
    rcases hww with h | h
    · subst h
      exact ⟨rfl, rfl, by decide, by decide⟩
    · subst h
      exact ⟨rfl, rfl, by decide, by decide⟩
  have loop : L_X6_lines_38 a 1137 (iN t) p2 (iN L) (iN (frN s w t)) FU (iN 0) (iN 0) σ = some (.inl (iN (drL s t w)), σ) := by
    have h := lp (fun n k (x : Int32) => L_X6_lines_38 a 1137 (iN t) p2 (iN L) (iN (frN s w t)) n x (iN k) σ) (fun k => iN (if k ≤ L then smN f 0 k else drL s t w)) (i0 := 0) (N := L + 1) (r := some (.inl (iN (drL s t w)), σ)) (by omega) (by unfold FU; omega) ?_ ?_
    · simp only [Nat.zero_le, if_true, smN_0] at h
      exact h
    · intro n k hk1 hk2
      simp only [L_X6_lines_38]
      by_cases hkL : k < L
      · have fl := fun K => r_lines_l (x2 := iN L) (x6 := iN k) (K := K) hw hv ht h2 (l := k) (i := bef) (by omega) hbb.2.2.1 hp (.inr ⟨by rw [iN_le (by omega) (by omega)]; omega, hbb.1⟩) hru
        rw [if_pos (show k ≤ L by omega), if_pos (show k + 1 ≤ L by omega), smN_s hk1]
        have hfk : f k = if 0 < grS (fun q => eL s (q * 4 + bef)) t w k then 1 else 0 := by rw [hf]
        by_cases hg : 0 < grS (fun q => eL s (q * 4 + bef)) t w k
        · rw [if_pos hg] at hfk
          simp (disch := omega) only [↓ite_ap, if_true, if_false, if_pos, if_neg, retM_ap, retZ_ap0, retZ_ap1, gM_ap, sM_ap, jM_ap, bI_ap, bL_ap, bD_ap, rdM_ap, wrM_ap, thrM_ap, nl_0, nl_1, nl_2, nl_3, nl_4, nl_5, nl_6, nl_7, nl_8, nl_9, nl_10, nl_11, nl_12, nl_13, nl_25, nl_33, nl_35, nl_45, nl_48, nl_49, nl_50, nl_52, nl_53, nl_57, nl_59, nl_60, nl_61, nl_77, nl_94, nl_97, nl_100, nl_101, nl_119, nl_125, nl_126, nl_137, nl_262, nl_387, nl_500, nl_512, nl_637, nl_999, nl_1022, nl_1137, nl_5685, nm_1b, iN_mI, mI_iN, iN_add, iN_mul, iN_sub, iN_div, iN_rem, iN_lt, iN_le, iN_eq, iN_nat, inB_iN, fl, hg, hfk]
        · rw [if_neg hg] at hfk
          simp (disch := omega) only [↓ite_ap, if_true, if_false, if_pos, if_neg, retM_ap, retZ_ap0, retZ_ap1, gM_ap, sM_ap, jM_ap, bI_ap, bL_ap, bD_ap, rdM_ap, wrM_ap, thrM_ap, nl_0, nl_1, nl_2, nl_3, nl_4, nl_5, nl_6, nl_7, nl_8, nl_9, nl_10, nl_11, nl_12, nl_13, nl_25, nl_33, nl_35, nl_45, nl_48, nl_49, nl_50, nl_52, nl_53, nl_57, nl_59, nl_60, nl_61, nl_77, nl_94, nl_97, nl_100, nl_101, nl_119, nl_125, nl_126, nl_137, nl_262, nl_387, nl_500, nl_512, nl_637, nl_999, nl_1022, nl_1137, nl_5685, nm_1b, iN_mI, mI_iN, iN_add, iN_mul, iN_sub, iN_div, iN_rem, iN_lt, iN_le, iN_eq, iN_nat, inB_iN, fl, hg, hfk]
      · have ek : k = L := by omega
        have fl := fun K => r_lines_l (x2 := iN L) (x6 := iN k) (K := K) hw hv ht h2 (l := L - 1) (i := beh) (by omega) hbb.2.2.2 hp (.inl ⟨by rw [iN_le (by omega) (by omega)]; omega, hbb.2.1⟩) hru
        rw [if_pos (show k ≤ L by omega), if_neg (show ¬ k + 1 ≤ L by omega), hln, Nat.add_comm c0]
        rw [ek] at fl ⊢
        by_cases hg : 0 < grS (fun q => eL s (q * 4 + beh)) t w (L - 1)
        · rw [if_pos hg] at hc0
          simp (disch := omega) only [↓ite_ap, if_true, if_false, if_pos, if_neg, retM_ap, retZ_ap0, retZ_ap1, gM_ap, sM_ap, jM_ap, bI_ap, bL_ap, bD_ap, rdM_ap, wrM_ap, thrM_ap, nl_0, nl_1, nl_2, nl_3, nl_4, nl_5, nl_6, nl_7, nl_8, nl_9, nl_10, nl_11, nl_12, nl_13, nl_25, nl_33, nl_35, nl_45, nl_48, nl_49, nl_50, nl_52, nl_53, nl_57, nl_59, nl_60, nl_61, nl_77, nl_94, nl_97, nl_100, nl_101, nl_119, nl_125, nl_126, nl_137, nl_262, nl_387, nl_500, nl_512, nl_637, nl_999, nl_1022, nl_1137, nl_5685, nm_1b, iN_mI, mI_iN, iN_add, iN_mul, iN_sub, iN_div, iN_rem, iN_lt, iN_le, iN_eq, iN_nat, inB_iN, fl, hg, hc0]
        · rw [if_neg hg] at hc0
          simp (disch := omega) only [↓ite_ap, if_true, if_false, if_pos, if_neg, retM_ap, retZ_ap0, retZ_ap1, gM_ap, sM_ap, jM_ap, bI_ap, bL_ap, bD_ap, rdM_ap, wrM_ap, thrM_ap, nl_0, nl_1, nl_2, nl_3, nl_4, nl_5, nl_6, nl_7, nl_8, nl_9, nl_10, nl_11, nl_12, nl_13, nl_25, nl_33, nl_35, nl_45, nl_48, nl_49, nl_50, nl_52, nl_53, nl_57, nl_59, nl_60, nl_61, nl_77, nl_94, nl_97, nl_100, nl_101, nl_119, nl_125, nl_126, nl_137, nl_262, nl_387, nl_500, nl_512, nl_637, nl_999, nl_1022, nl_1137, nl_5685, nm_1b, iN_mI, mI_iN, iN_add, iN_mul, iN_sub, iN_div, iN_rem, iN_lt, iN_le, iN_eq, iN_nat, inB_iN, fl, hg, hc0]
    · intro n
      simp only [L_X6_lines_38]
      rw [if_neg (show ¬ L + 1 ≤ L by omega)]
      simp (disch := omega) only [↓ite_ap, if_true, if_false, if_pos, if_neg, retM_ap, retZ_ap0, retZ_ap1, gM_ap, sM_ap, jM_ap, bI_ap, bL_ap, bD_ap, rdM_ap, wrM_ap, thrM_ap, nl_0, nl_1, nl_2, nl_3, nl_4, nl_5, nl_6, nl_7, nl_8, nl_9, nl_10, nl_11, nl_12, nl_13, nl_25, nl_33, nl_35, nl_45, nl_48, nl_49, nl_50, nl_52, nl_53, nl_57, nl_59, nl_60, nl_61, nl_77, nl_94, nl_97, nl_100, nl_101, nl_119, nl_125, nl_126, nl_137, nl_262, nl_387, nl_500, nl_512, nl_637, nl_999, nl_1022, nl_1137, nl_5685, nm_1b, iN_mI, mI_iN, iN_add, iN_mul, iN_sub, iN_div, iN_rem, iN_lt, iN_le, iN_eq, iN_nat, inB_iN]
  unfold F_X6_lines
  have hww : w = 0 ∨ w = 1 := by omega
  rcases hww with h | h
  · subst h
    have e1 : frN s 0 t = roS s t := rfl
    have e2 : L = coS s t := hL
    rw [e1, e2] at loop
    subst hp
    have loop : L_X6_lines_38 a 1137 (iN t) (iN 1) (iN (coS s t)) (iN (roS s t)) FU (iN 0) (iN 0) σ = some (.inl (iN (drL s t 0)), σ) := loop
    simp (disch := omega) only [↓ite_ap, if_true, if_false, if_pos, if_neg, retM_ap, retZ_ap0, retZ_ap1, gM_ap, sM_ap, jM_ap, bI_ap, bL_ap, bD_ap, rdM_ap, wrM_ap, thrM_ap, nl_0, nl_1, nl_2, nl_3, nl_4, nl_5, nl_6, nl_7, nl_8, nl_9, nl_10, nl_11, nl_12, nl_13, nl_25, nl_33, nl_35, nl_45, nl_48, nl_49, nl_50, nl_52, nl_53, nl_57, nl_59, nl_60, nl_61, nl_77, nl_94, nl_97, nl_100, nl_101, nl_119, nl_125, nl_126, nl_137, nl_262, nl_387, nl_500, nl_512, nl_637, nl_999, nl_1022, nl_1137, nl_5685, nm_1b, iN_mI, mI_iN, iN_add, iN_mul, iN_sub, iN_div, iN_rem, iN_lt, iN_le, iN_eq, iN_nat, inB_iN, h1, h3, loop]
  · subst h
    have e1 : frN s 1 t = coS s t := rfl
    have e2 : L = roS s t := hL
    rw [e1, e2] at loop
    subst hp
    have loop : L_X6_lines_38 a 1137 (iN t) (iN 0) (iN (roS s t)) (iN (coS s t)) FU (iN 0) (iN 0) σ = some (.inl (iN (drL s t 1)), σ) := loop
    simp (disch := omega) only [↓ite_ap, if_true, if_false, if_pos, if_neg, retM_ap, retZ_ap0, retZ_ap1, gM_ap, sM_ap, jM_ap, bI_ap, bL_ap, bD_ap, rdM_ap, wrM_ap, thrM_ap, nl_0, nl_1, nl_2, nl_3, nl_4, nl_5, nl_6, nl_7, nl_8, nl_9, nl_10, nl_11, nl_12, nl_13, nl_25, nl_33, nl_35, nl_45, nl_48, nl_49, nl_50, nl_52, nl_53, nl_57, nl_59, nl_60, nl_61, nl_77, nl_94, nl_97, nl_100, nl_101, nl_119, nl_125, nl_126, nl_137, nl_262, nl_387, nl_500, nl_512, nl_637, nl_999, nl_1022, nl_1137, nl_5685, nm_1b, iN_mI, mI_iN, iN_add, iN_mul, iN_sub, iN_div, iN_rem, iN_lt, iN_le, iN_eq, iN_nat, inB_iN, h1, h3, loop]
