/-! THE REFERENCE: ROWS -/
theorem r_tog_1 {t pl sp : Nat} {σ : Mm} {z : Nat → Nat} {K : Int32 → Dm Unit} (ht : t < 5) (h1 : 1 ≤ sp) (h5 : pl + sp ≤ 5) (hz : ∀ l, l < 5 → σ 183 (5 * t + l) = iN (z l)) : L_X6_laysRows_116 (iN (5 * t + (pl + sp - 1))) FU (iN 0) (iN (5 * t + pl)) K σ = K (iN (smN z pl (pl + sp))) σ := by
  have h := lp (fun n k (x : Int32) => L_X6_laysRows_116 (iN (5 * t + (pl + sp - 1))) n x (iN (5 * t + k)) K σ) (fun k => iN (smN z pl k)) (i0 := pl) (N := pl + sp) (r := K (iN (smN z pl (pl + sp))) σ) (by omega) (by unfold FU; omega) ?_ ?_
  · simp only [smN_0] at h
    exact h
  · intro n k hk1 hk2
    simp only [L_X6_laysRows_116]
    have := hz k (by omega)
    rw [smN_s hk1]
    simp (disch := omega) only [↓ite_ap, if_true, if_false, if_pos, if_neg, retM_ap, retZ_ap0, retZ_ap1, gM_ap, sM_ap, jM_ap, bI_ap, bL_ap, bD_ap, rdM_ap, wrM_ap, thrM_ap, nl_0, nl_1, nl_2, nl_3, nl_4, nl_5, nl_6, nl_7, nl_8, nl_9, nl_10, nl_11, nl_12, nl_13, nl_25, nl_33, nl_35, nl_45, nl_48, nl_49, nl_50, nl_52, nl_53, nl_57, nl_59, nl_60, nl_61, nl_77, nl_94, nl_97, nl_100, nl_101, nl_119, nl_125, nl_126, nl_137, nl_262, nl_387, nl_500, nl_512, nl_637, nl_999, nl_1022, nl_1137, nl_5685, nm_1b, iN_mI, mI_iN, iN_add, iN_mul, iN_sub, iN_div, iN_rem, iN_lt, iN_le, iN_eq, iN_nat, inB_iN, this, Nat.add_assoc]
  · intro n
    simp only [L_X6_laysRows_116]
    simp (disch := omega) only [↓ite_ap, if_true, if_false, if_pos, if_neg, retM_ap, retZ_ap0, retZ_ap1, gM_ap, sM_ap, jM_ap, bI_ap, bL_ap, bD_ap, rdM_ap, wrM_ap, thrM_ap, nl_0, nl_1, nl_2, nl_3, nl_4, nl_5, nl_6, nl_7, nl_8, nl_9, nl_10, nl_11, nl_12, nl_13, nl_25, nl_33, nl_35, nl_45, nl_48, nl_49, nl_50, nl_52, nl_53, nl_57, nl_59, nl_60, nl_61, nl_77, nl_94, nl_97, nl_100, nl_101, nl_119, nl_125, nl_126, nl_137, nl_262, nl_387, nl_500, nl_512, nl_637, nl_999, nl_1022, nl_1137, nl_5685, nm_1b, iN_mI, mI_iN, iN_add, iN_mul, iN_sub, iN_div, iN_rem, iN_lt, iN_le, iN_eq, iN_nat, inB_iN]
theorem r_laysRows {a t : Nat} {s : Sv} {σ : Mm} (hw : WF s) (hv : Vw a s σ) (ha : a ≠ 183) (ht : t < tbS s) (hts : ∀ t', t < t' → t' < tbS s → σ 176 t' = iN (tsL s (2 * t' + 1))) : F_X6_laysRows a 1137 (iN t) σ = some (.inl (), setS σ 183 (5 * t) (5 * t + 5) (fun j => iN (szL s t 1 (j - 5 * t)))) := by
  have t5 := hw.1.2.2
  have hmx := (tsL_max hw (w := 1) (by omega) ht).1
  have first : ∀ R : Dm Unit, L_X6_laysRows_2 (iN t) FU (iN 0) (fun _ => R) σ = R (setS σ 183 (5 * t) (5 * t + 5) (fun _ => iN 0)) := by
    intro R
    have h := lp (fun n k (m : Mm) => L_X6_laysRows_2 (iN t) n (iN k) (fun _ => R) m) (fun k => setS σ 183 (5 * t) (5 * t + k) (fun _ => iN 0)) (i0 := 0) (N := 5) (r := R (setS σ 183 (5 * t) (5 * t + 5) (fun _ => iN 0))) (by omega) (by unfold FU; omega) ?_ ?_
    · simp only [Nat.add_zero, setS_0] at h
      exact h
    · intro n k hk1 hk2
      simp only [L_X6_laysRows_2]
      have up := setS_up (σ := σ) (k := 183) (lo := 5 * t) (i := 5 * t + k) (F := fun _ => iN 0) (by omega) (v := iN 0) rfl
      simp (disch := omega) only [↓ite_ap, if_true, if_false, if_pos, if_neg, retM_ap, retZ_ap0, retZ_ap1, gM_ap, sM_ap, jM_ap, bI_ap, bL_ap, bD_ap, rdM_ap, wrM_ap, thrM_ap, nl_0, nl_1, nl_2, nl_3, nl_4, nl_5, nl_6, nl_7, nl_8, nl_9, nl_10, nl_11, nl_12, nl_13, nl_25, nl_33, nl_35, nl_45, nl_48, nl_49, nl_50, nl_52, nl_53, nl_57, nl_59, nl_60, nl_61, nl_77, nl_94, nl_97, nl_100, nl_101, nl_119, nl_125, nl_126, nl_137, nl_262, nl_387, nl_500, nl_512, nl_637, nl_999, nl_1022, nl_1137, nl_5685, nm_1b, iN_mI, mI_iN, iN_add, iN_mul, iN_sub, iN_div, iN_rem, iN_lt, iN_le, iN_eq, iN_nat, inB_iN, up, Nat.add_assoc]
    · intro n
      simp only [L_X6_laysRows_2]
      simp (disch := omega) only [↓ite_ap, if_true, if_false, if_pos, if_neg, retM_ap, retZ_ap0, retZ_ap1, gM_ap, sM_ap, jM_ap, bI_ap, bL_ap, bD_ap, rdM_ap, wrM_ap, thrM_ap, nl_0, nl_1, nl_2, nl_3, nl_4, nl_5, nl_6, nl_7, nl_8, nl_9, nl_10, nl_11, nl_12, nl_13, nl_25, nl_33, nl_35, nl_45, nl_48, nl_49, nl_50, nl_52, nl_53, nl_57, nl_59, nl_60, nl_61, nl_77, nl_94, nl_97, nl_100, nl_101, nl_119, nl_125, nl_126, nl_137, nl_262, nl_387, nl_500, nl_512, nl_637, nl_999, nl_1022, nl_1137, nl_5685, nm_1b, iN_mI, mI_iN, iN_add, iN_mul, iN_sub, iN_div, iN_rem, iN_lt, iN_le, iN_eq, iN_nat, inB_iN]
  obtain ⟨wa, hwa⟩ : ∃ wa, wa = waT s t 1 := ⟨_, rfl⟩
  obtain ⟨z0, hz0⟩ : ∃ z0 : Nat → Nat, z0 = fun l => sgS s wa t 1 l ((t + 1) * 25) := ⟨_, rfl⟩
  obtain ⟨zz, hzz⟩ : ∃ zz : Nat → Nat → Nat, zz = fun k l => if k < 25 then sgS s wa t 1 l (t * 25 + k) else spZ s wa 1 z0 (t * 25) (t * 25 + (k - 25)) l := ⟨_, rfl⟩
  have zlo : ∀ k l, k ≤ 25 → zz k l = sgS s wa t 1 l (t * 25 + k) := fun k l hk => by
    rw [hzz]
    show (if _ then _ else _) = _
    by_cases h : k < 25
    · rw [if_pos h]
    · obtain rfl : k = 25 := by omega
      rw [if_neg h, Nat.sub_self, Nat.add_zero, spZ_0, hz0]
      show sgS s wa t 1 l ((t + 1) * 25) = _
      rw [show (t + 1) * 25 = t * 25 + 25 by omega]
  have zhi : ∀ k, 25 ≤ k → zz k = spZ s wa 1 z0 (t * 25) (t * 25 + (k - 25)) := fun k hk => by
    rw [hzz]
    funext l
    show (if _ then _ else _) = _
    rw [if_neg (by omega)]
  have hmx' : ∀ q, wa q ≤ 10000000 := fun q => by rw [hwa]; exact hmx q
  have zle : ∀ k, k ≤ 50 → smN (zz k) 0 5 ≤ 300000000 := fun k hk => by
    by_cases h : k < 25
    · have := smN_leB (g := zz k) (B := 10000000) (fun l => by rw [zlo k l (by omega)]; exact sgS_le hmx')
      omega
    · rw [zhi k (by omega)]
      have h2 := spZ_sum (s := s) (w := 1) (z0 := z0) (lo := t * 25) hmx' (t * 25 + (k - 25)) (by omega)
      have h3 := smN_leB (g := z0) (B := 10000000) (fun l => by rw [hz0]; exact sgS_le hmx')
      have h4 : (t * 25 + (k - 25) - t * 25) * 10000000 ≤ 25 * 10000000 := Nat.mul_le_mul (by omega) (Nat.le_refl _)
      omega
  have main : L_X6_laysRows_26 a 1137 (iN t) FU (iN 0) (setS σ 183 (5 * t) (5 * t + 5) (fun _ => iN 0)) = some (.inl (), setS σ 183 (5 * t) (5 * t + 5) (fun j => iN (szL s t 1 (j - 5 * t)))) := by
    have h := lp (fun n k (m : Mm) => L_X6_laysRows_26 a 1137 (iN t) n (iN k) m) (fun k => setS σ 183 (5 * t) (5 * t + 5) (fun j => iN (zz k (j - 5 * t)))) (i0 := 0) (N := 50) (r := some (.inl (), setS σ 183 (5 * t) (5 * t + 5) (fun j => iN (szL s t 1 (j - 5 * t))))) (by omega) (by unfold FU; omega) ?_ ?_
    · have e0 : (fun j => iN (zz 0 (j - 5 * t))) = fun _ => iN 0 := by
        funext j
        rw [zlo 0 _ (by omega)]
        unfold sgS
        rw [Nat.add_zero, mxN_0]
      simp only [e0] at h
      exact h
    · intro n k hk1 hk2
      obtain ⟨m, hm⟩ : ∃ m, m = setS σ 183 (5 * t) (5 * t + 5) (fun j => iN (zz k (j - 5 * t))) := ⟨_, rfl⟩
      have hvm : Vw a s m := hv.fr (by rw [hm, setS_o ha])
      obtain ⟨q, hq⟩ : ∃ q, q = t * 25 + k % 25 := ⟨_, rfl⟩
      have e1 : 25 * t + k % 25 = q := by omega
      have hqt : q / 25 = t := by omega
      have hq5 : q < 125 := by omega
      have zb := zle k (by omega)
      have same : (∀ l, zz (k + 1) l = zz k l) → setS σ 183 (5 * t) (5 * t + 5) (fun j => iN (zz (k + 1) (j - 5 * t))) = m := fun g => by
        rw [hm]
        congr 1
        funext j
        rw [g]
      have hrd : ∀ l, l < 5 → m 183 (5 * t + l) = iN (zz k l) := fun l hl => by
        rw [hm, setS_in (by omega) (by omega), Nat.add_sub_cancel_left]
      have skip1 : k < 25 → (clB s q && decide (spW s 1 q = 1)) = false → ∀ l, zz (k + 1) l = zz k l := fun hk hc l => by
        rw [zlo _ _ (by omega), zlo _ _ (by omega)]
        unfold sgS
        rw [← Nat.add_assoc, mxN_s (by omega), show t * 25 + k = q by omega, hc, Bool.false_and]
        exact Nat.max_zero _
      have skip2 : 25 ≤ k → (clB s q && decide (1 < spW s 1 q)) = false → ∀ l, zz (k + 1) l = zz k l := fun hk hc l => by
        rw [zhi _ (by omega), zhi _ hk, show t * 25 + (k + 1 - 25) = t * 25 + (k - 25) + 1 by omega, spZ_s (by omega), show t * 25 + (k - 25) = q by omega, hc]
        rfl
      simp only [L_X6_laysRows_26]
      rw [← hm]
      by_cases hc : isCl s q
      · have fc := r_isCell1 hw hvm hc
        have hsp : m a (262 + q) = iN (spW s 1 q) := hvm.hi hw hc
        have w5 := hw.2.2.2.2.1 q hc
        have w6 := hw.2.2.1 _ hc.1.1
        have sp1 : 1 ≤ spW s 1 q := w5.2.2.1
        have spe : plS 1 q + spW s 1 q ≤ 5 := sp_end hw hc (by omega)
        have fw := r_heightOf hw hvm hc (fun t' h1 h2 => by rw [hm, setS_o (by omega)]; exact hts t' (by omega) h2)
        have ew : waL s (2 * q + 1) = wa q := by
          rw [hwa]
          unfold waT
          rw [if_pos hqt]
        rw [ew] at fw
        have bw := hmx' q
        have bz : smN (zz k) (plS 1 q) (plS 1 q + spW s 1 q) ≤ 300000000 := Nat.le_trans (smN_sub (Nat.zero_le _) spe) zb
        have ft := fun K => r_tog_1 (t := t) (pl := plS 1 q) (sp := spW s 1 q) (σ := m) (z := zz k) (K := K) (by omega) sp1 spe hrd
        have fr : m 183 (5 * t + (plS 1 q + spW s 1 q - 1)) = iN (zz k (plS 1 q + spW s 1 q - 1)) := hrd _ (by omega)
        have fin : ∀ v, v = zz k (plS 1 q + spW s 1 q - 1) + (wa q - smN (zz k) (plS 1 q) (plS 1 q + spW s 1 q)) → (∀ l, zz (k + 1) l = if l = plS 1 q + spW s 1 q - 1 then v else zz k l) → upM m 183 (5 * t + (plS 1 q + spW s 1 q - 1)) (iN v) = setS σ 183 (5 * t) (5 * t + 5) (fun j => iN (zz (k + 1) (j - 5 * t))) := fun v hv1 hv2 => by
          rw [hm]
          refine setS_upd (by omega) (by omega) ?_ (fun j h1 h2 h3 => ?_)
          · show _ = iN _
            rw [hv2, if_pos (by omega)]
          · show iN _ = iN _
            rw [hv2, if_neg (by omega)]
        have epl : q % 25 / 5 = plS 1 q := rfl
        by_cases hk25 : k < 25
        · by_cases hs1 : spW s 1 q = 1
          · have act : ∀ l, zz (k + 1) l = if l = plS 1 q + spW s 1 q - 1 then zz k (plS 1 q + spW s 1 q - 1) + (wa q - smN (zz k) (plS 1 q) (plS 1 q + spW s 1 q)) else zz k l := fun l => by
              rw [hs1, smN_s (Nat.le_refl _), smN_0, Nat.zero_add, Nat.add_sub_cancel, zlo _ l (by omega)]
              have ez : sgS s wa t 1 l (t * 25 + (k + 1)) = max (zz k l) (if plS 1 q = l then wa q else 0) := by
                rw [zlo k l (by omega)]
                unfold sgS
                rw [← Nat.add_assoc, mxN_s (by omega), show t * 25 + k = q by omega, clB_iff.mpr hc, decide_eq_true hs1]
                show max _ (if (true && true && decide (plS 1 q = l)) = true then wa q else 0) = _
                by_cases hl : plS 1 q = l
                · rw [decide_eq_true hl, if_pos hl]
                  rfl
                · rw [decide_eq_false hl, if_neg hl]
                  rfl
              rw [ez]
              by_cases hl : l = plS 1 q
              · subst hl
                rw [if_pos rfl, if_pos rfl]
                omega
              · rw [if_neg (fun g => hl g.symm), if_neg hl]
                exact Nat.max_zero _
            have f9 := fin _ rfl act
            have e7 : 5 * t + (plS 1 q + 1) - 1 = 5 * t + (plS 1 q + 1 - 1) := by omega
            by_cases hx : wa q ≤ smN (zz k) (plS 1 q) (plS 1 q + spW s 1 q)
            · rw [show wa q - smN (zz k) (plS 1 q) (plS 1 q + spW s 1 q) = 0 by omega, Nat.add_zero] at f9
              rw [hs1] at ft fr f9 bz hx hsp
              simp (disch := omega) only [↓ite_ap, if_true, if_false, if_pos, if_neg, retM_ap, retZ_ap0, retZ_ap1, gM_np, sM_ap, jM_np, bI_ap, bL_ap, bD_ap, rdM_ap, wrM_ap, thrM_ap, nl_0, nl_1, nl_2, nl_3, nl_4, nl_5, nl_6, nl_7, nl_8, nl_9, nl_10, nl_11, nl_12, nl_13, nl_25, nl_33, nl_35, nl_45, nl_48, nl_49, nl_50, nl_52, nl_53, nl_57, nl_59, nl_60, nl_61, nl_77, nl_94, nl_97, nl_100, nl_101, nl_119, nl_125, nl_126, nl_137, nl_262, nl_387, nl_500, nl_512, nl_637, nl_999, nl_1022, nl_1137, nl_5685, nm_1b, iN_mI, mI_iN, iN_add, iN_mul, iN_sub, iN_div, iN_rem, iN_lt, iN_le, iN_eq, iN_nat, inB_iN, e1, ↓invM_l fc, hsp, epl, ↓invM_l (r_rowOf (q := q) (σ := m) (by omega)), Nat.add_assoc, e7, ft, fr, ↓invM_l fw, Nat.add_zero, f9]
            · rw [hs1] at ft fr f9 bz hx hsp
              simp (disch := omega) only [↓ite_ap, if_true, if_false, if_pos, if_neg, retM_ap, retZ_ap0, retZ_ap1, gM_np, sM_ap, jM_np, bI_ap, bL_ap, bD_ap, rdM_ap, wrM_ap, thrM_ap, nl_0, nl_1, nl_2, nl_3, nl_4, nl_5, nl_6, nl_7, nl_8, nl_9, nl_10, nl_11, nl_12, nl_13, nl_25, nl_33, nl_35, nl_45, nl_48, nl_49, nl_50, nl_52, nl_53, nl_57, nl_59, nl_60, nl_61, nl_77, nl_94, nl_97, nl_100, nl_101, nl_119, nl_125, nl_126, nl_137, nl_262, nl_387, nl_500, nl_512, nl_637, nl_999, nl_1022, nl_1137, nl_5685, nm_1b, iN_mI, mI_iN, iN_add, iN_mul, iN_sub, iN_div, iN_rem, iN_lt, iN_le, iN_eq, iN_nat, inB_iN, e1, ↓invM_l fc, hsp, epl, ↓invM_l (r_rowOf (q := q) (σ := m) (by omega)), Nat.add_assoc, e7, ft, fr, ↓invM_l fw, Nat.add_zero, f9]
          · rw [same (skip1 hk25 (by rw [decide_eq_false hs1, Bool.and_false]))]
            simp (disch := omega) only [↓ite_ap, if_true, if_false, if_pos, if_neg, retM_ap, retZ_ap0, retZ_ap1, gM_np, sM_ap, jM_np, bI_ap, bL_ap, bD_ap, rdM_ap, wrM_ap, thrM_ap, nl_0, nl_1, nl_2, nl_3, nl_4, nl_5, nl_6, nl_7, nl_8, nl_9, nl_10, nl_11, nl_12, nl_13, nl_25, nl_33, nl_35, nl_45, nl_48, nl_49, nl_50, nl_52, nl_53, nl_57, nl_59, nl_60, nl_61, nl_77, nl_94, nl_97, nl_100, nl_101, nl_119, nl_125, nl_126, nl_137, nl_262, nl_387, nl_500, nl_512, nl_637, nl_999, nl_1022, nl_1137, nl_5685, nm_1b, iN_mI, mI_iN, iN_add, iN_mul, iN_sub, iN_div, iN_rem, iN_lt, iN_le, iN_eq, iN_nat, inB_iN, e1, ↓invM_l fc, hsp]
        · by_cases hs1 : spW s 1 q = 1
          · rw [same (skip2 (by omega) (by rw [hs1]; exact Bool.and_false _))]
            simp (disch := omega) only [↓ite_ap, if_true, if_false, if_pos, if_neg, retM_ap, retZ_ap0, retZ_ap1, gM_np, sM_ap, jM_np, bI_ap, bL_ap, bD_ap, rdM_ap, wrM_ap, thrM_ap, nl_0, nl_1, nl_2, nl_3, nl_4, nl_5, nl_6, nl_7, nl_8, nl_9, nl_10, nl_11, nl_12, nl_13, nl_25, nl_33, nl_35, nl_45, nl_48, nl_49, nl_50, nl_52, nl_53, nl_57, nl_59, nl_60, nl_61, nl_77, nl_94, nl_97, nl_100, nl_101, nl_119, nl_125, nl_126, nl_137, nl_262, nl_387, nl_500, nl_512, nl_637, nl_999, nl_1022, nl_1137, nl_5685, nm_1b, iN_mI, mI_iN, iN_add, iN_mul, iN_sub, iN_div, iN_rem, iN_lt, iN_le, iN_eq, iN_nat, inB_iN, e1, ↓invM_l fc, hsp]
          · have act : ∀ l, zz (k + 1) l = if l = plS 1 q + spW s 1 q - 1 then zz k (plS 1 q + spW s 1 q - 1) + (wa q - smN (zz k) (plS 1 q) (plS 1 q + spW s 1 q)) else zz k l := fun l => by
              rw [zhi _ (show 25 ≤ k + 1 by omega), show t * 25 + (k + 1 - 25) = t * 25 + (k - 25) + 1 by omega, spZ_s (by omega), show t * 25 + (k - 25) = q by omega, clB_iff.mpr hc, decide_eq_true (show 1 < spW s 1 q by omega)]
              have e9 := zhi k (by omega)
              rw [show t * 25 + (k - 25) = q by omega] at e9
              rw [← e9]
              show (if l = plS 1 q + spW s 1 q - 1 then zz k l + _ else zz k l) = _
              by_cases hl : l = plS 1 q + spW s 1 q - 1
              · rw [if_pos hl, if_pos hl, hl]
              · rw [if_neg hl, if_neg hl]
            have f9 := fin _ rfl act
            have e8 : plS 1 q + spW s 1 q - 1 < 5 := by omega
            have e7 : 5 * t + (plS 1 q + spW s 1 q) - 1 = 5 * t + (plS 1 q + spW s 1 q - 1) := by omega
            by_cases hx : wa q ≤ smN (zz k) (plS 1 q) (plS 1 q + spW s 1 q)
            · rw [show wa q - smN (zz k) (plS 1 q) (plS 1 q + spW s 1 q) = 0 by omega, Nat.add_zero] at f9
              simp (disch := omega) only [↓ite_ap, if_true, if_false, if_pos, if_neg, retM_ap, retZ_ap0, retZ_ap1, gM_np, sM_ap, jM_np, bI_ap, bL_ap, bD_ap, rdM_ap, wrM_ap, thrM_ap, nl_0, nl_1, nl_2, nl_3, nl_4, nl_5, nl_6, nl_7, nl_8, nl_9, nl_10, nl_11, nl_12, nl_13, nl_25, nl_33, nl_35, nl_45, nl_48, nl_49, nl_50, nl_52, nl_53, nl_57, nl_59, nl_60, nl_61, nl_77, nl_94, nl_97, nl_100, nl_101, nl_119, nl_125, nl_126, nl_137, nl_262, nl_387, nl_500, nl_512, nl_637, nl_999, nl_1022, nl_1137, nl_5685, nm_1b, iN_mI, mI_iN, iN_add, iN_mul, iN_sub, iN_div, iN_rem, iN_lt, iN_le, iN_eq, iN_nat, inB_iN, e1, ↓invM_l fc, hsp, epl, ↓invM_l (r_rowOf (q := q) (σ := m) (by omega)), Nat.add_assoc, e7, ft, fr, ↓invM_l fw, Nat.add_zero, f9]
            · have bz2 : zz k (plS 1 q + spW s 1 q - 1) ≤ 300000000 := by
                have := smN_sub (g := zz k) (lo := plS 1 q + spW s 1 q - 1) (lo' := 0) (hi := plS 1 q + spW s 1 q - 1 + 1) (hi' := 5) (Nat.zero_le _) (by omega)
                rw [smN_s (Nat.le_refl _), smN_0] at this
                omega
              simp (disch := omega) only [↓ite_ap, if_true, if_false, if_pos, if_neg, retM_ap, retZ_ap0, retZ_ap1, gM_np, sM_ap, jM_np, bI_ap, bL_ap, bD_ap, rdM_ap, wrM_ap, thrM_ap, nl_0, nl_1, nl_2, nl_3, nl_4, nl_5, nl_6, nl_7, nl_8, nl_9, nl_10, nl_11, nl_12, nl_13, nl_25, nl_33, nl_35, nl_45, nl_48, nl_49, nl_50, nl_52, nl_53, nl_57, nl_59, nl_60, nl_61, nl_77, nl_94, nl_97, nl_100, nl_101, nl_119, nl_125, nl_126, nl_137, nl_262, nl_387, nl_500, nl_512, nl_637, nl_999, nl_1022, nl_1137, nl_5685, nm_1b, iN_mI, mI_iN, iN_add, iN_mul, iN_sub, iN_div, iN_rem, iN_lt, iN_le, iN_eq, iN_nat, inB_iN, e1, ↓invM_l fc, hsp, epl, ↓invM_l (r_rowOf (q := q) (σ := m) (by omega)), Nat.add_assoc, e7, ft, fr, ↓invM_l fw, Nat.add_zero, f9]
      · have fc := r_isCell0 hw hvm hq5 hc
        have g : ∀ l, zz (k + 1) l = zz k l := by
          by_cases hk25 : k < 25
          · exact skip1 hk25 (by rw [clB_not hc, Bool.false_and])
          · exact skip2 (by omega) (by rw [clB_not hc, Bool.false_and])
        rw [same g]
        simp (disch := omega) only [↓ite_ap, if_true, if_false, if_pos, if_neg, retM_ap, retZ_ap0, retZ_ap1, gM_np, sM_ap, jM_np, bI_ap, bL_ap, bD_ap, rdM_ap, wrM_ap, thrM_ap, nl_0, nl_1, nl_2, nl_3, nl_4, nl_5, nl_6, nl_7, nl_8, nl_9, nl_10, nl_11, nl_12, nl_13, nl_25, nl_33, nl_35, nl_45, nl_48, nl_49, nl_50, nl_52, nl_53, nl_57, nl_59, nl_60, nl_61, nl_77, nl_94, nl_97, nl_100, nl_101, nl_119, nl_125, nl_126, nl_137, nl_262, nl_387, nl_500, nl_512, nl_637, nl_999, nl_1022, nl_1137, nl_5685, nm_1b, iN_mI, mI_iN, iN_add, iN_mul, iN_sub, iN_div, iN_rem, iN_lt, iN_le, iN_eq, iN_nat, inB_iN, e1, ↓invM_l fc]
    · intro n
      have e9 : zz 50 = szL s t 1 := by
        rw [zhi 50 (by omega), show t * 25 + (50 - 25) = (t + 1) * 25 by omega, hz0, hwa]
        rfl
      simp only [L_X6_laysRows_26]
      rw [e9]
      simp (disch := omega) only [↓ite_ap, if_true, if_false, if_pos, if_neg, retM_ap, retZ_ap0, retZ_ap1, gM_ap, sM_ap, jM_ap, bI_ap, bL_ap, bD_ap, rdM_ap, wrM_ap, thrM_ap, nl_0, nl_1, nl_2, nl_3, nl_4, nl_5, nl_6, nl_7, nl_8, nl_9, nl_10, nl_11, nl_12, nl_13, nl_25, nl_33, nl_35, nl_45, nl_48, nl_49, nl_50, nl_52, nl_53, nl_57, nl_59, nl_60, nl_61, nl_77, nl_94, nl_97, nl_100, nl_101, nl_119, nl_125, nl_126, nl_137, nl_262, nl_387, nl_500, nl_512, nl_637, nl_999, nl_1022, nl_1137, nl_5685, nm_1b, iN_mI, mI_iN, iN_add, iN_mul, iN_sub, iN_div, iN_rem, iN_lt, iN_le, iN_eq, iN_nat, inB_iN]
  unfold F_X6_laysRows
  have := first (L_X6_laysRows_26 a 1137 (iN t) FU (iN 0))
  rw [nl_0]
  rw [this]
  exact main
