/-! SPAN, AS A STEP -/
/-- the squares of c emptied and given to w -/
def mdS (s : Sv) (c : Nat → Bool) (w : Nat → Int32) : Sv := fun j =>
  if 12 ≤ j ∧ j < 137 then (if c (j - 12) = true then iN 0 else s j)
  else if 137 ≤ j ∧ j < 262 then (if c (j - 137) = true then iN 0 else s j)
  else if 262 ≤ j ∧ j < 387 then (if c (j - 262) = true then iN 1 else s j)
  else if 387 ≤ j ∧ j < 512 then (if c (j - 387) = true then iN 1 else s j)
  else if 512 ≤ j ∧ j < 637 then (if c (j - 512) = true then w (j - 512) else s j)
  else if 637 ≤ j ∧ j < 1137 then (if c ((j - 637) / 4) = true then iN 0 else s j)
  else s j
theorem md_0 {s : Sv} {w : Nat → Int32} {c : Nat → Bool} (h : ∀ z, c z = false) : mdS s c w = s := by
  funext j
  unfold mdS
  simp only [h, Bool.false_eq_true, if_false, ite_self]
theorem md_add {s : Sv} {c c' : Nat → Bool} {w : Nat → Int32} {z : Nat} (hz : z < 125) (hc : ∀ x, c' x = (c x || decide (x = z))) : upS (emS (mdS s c w) z) (512 + z) (w z) = mdS s c' w := by
  funext j
  have t : ∀ x, x = z → c' x = true := fun x e => by rw [hc, decide_eq_true e, Bool.or_true]
  have f : ∀ x, x ≠ z → c' x = c x := fun x e => by rw [hc, decide_eq_false e, Bool.or_false]
  by_cases h0 : j = 512 + z
  · rw [h0, up_at]
    unfold mdS
    rw [if_neg (by omega), if_neg (by omega), if_neg (by omega), if_neg (by omega), if_pos (by omega), t _ (by omega), if_pos rfl, show 512 + z - 512 = z by omega]
  · rw [up_o h0]
    unfold emS
    by_cases h1 : j = 12 + z ∨ j = 137 + z
    · rw [if_pos h1]
      unfold mdS
      rcases h1 with e | e
      · rw [if_pos (by omega), t _ (by omega), if_pos rfl]
      · rw [if_neg (by omega), if_pos (by omega), t _ (by omega), if_pos rfl]
    · rw [if_neg h1]
      by_cases h2 : j = 262 + z ∨ j = 387 + z
      · rw [if_pos h2]
        unfold mdS
        rcases h2 with e | e
        · rw [if_neg (by omega), if_neg (by omega), if_pos (by omega), t _ (by omega), if_pos rfl]
        · rw [if_neg (by omega), if_neg (by omega), if_neg (by omega), if_pos (by omega), t _ (by omega), if_pos rfl]
      · rw [if_neg h2, if_neg h0]
        by_cases h4 : 637 + 4 * z ≤ j ∧ j < 641 + 4 * z
        · rw [if_pos h4]
          unfold mdS
          rw [if_neg (by omega), if_neg (by omega), if_neg (by omega), if_neg (by omega), if_neg (by omega), if_pos (by omega), t _ (by omega), if_pos rfl]
        · rw [if_neg h4]
          unfold mdS
          by_cases c1 : 12 ≤ j ∧ j < 137
          · rw [if_pos c1, if_pos c1, f _ (by omega)]
          · rw [if_neg c1, if_neg c1]
            by_cases c2 : 137 ≤ j ∧ j < 262
            · rw [if_pos c2, if_pos c2, f _ (by omega)]
            · rw [if_neg c2, if_neg c2]
              by_cases c3 : 262 ≤ j ∧ j < 387
              · rw [if_pos c3, if_pos c3, f _ (by omega)]
              · rw [if_neg c3, if_neg c3]
                by_cases c4 : 387 ≤ j ∧ j < 512
                · rw [if_pos c4, if_pos c4, f _ (by omega)]
                · rw [if_neg c4, if_neg c4]
                  by_cases c5 : 512 ≤ j ∧ j < 637
                  · rw [if_pos c5, if_pos c5, f _ (by omega)]
                  · rw [if_neg c5, if_neg c5]
                    by_cases c6 : 637 ≤ j ∧ j < 1137
                    · rw [if_pos c6, if_pos c6, f _ (by omega)]
                    · rw [if_neg c6, if_neg c6]
theorem em_own {s : Sv} {z : Nat} : upS (emS s z) (512 + z) (iN z) = emS s z := by
  funext j
  by_cases h0 : j = 512 + z
  · rw [h0, up_at]
    unfold emS
    rw [if_neg (by omega), if_neg (by omega), if_pos rfl]
  · rw [up_o h0]
theorem r_span129 {q t : Nat} {σ : Mm} {g : Nat → Int32} (ht : q / 25 = t) (h5 : t < 5) (R : Dm Int32) : L_X6_span_129 (iN t) (iN q) FU (iN 0) (fun _ => R) (setR σ 169 g) = R (setR σ 169 (mdS g (oB g q) iN)) := by
  have h := lp (fun n k (m : Mm) => L_X6_span_129 (iN t) (iN q) n (iN k) (fun _ => R) m) (fun k => setR σ 169 (mdS g (fun z => oB g q z && decide (z < 25 * t + k)) iN)) (i0 := 0) (N := 25) (r := R (setR σ 169 (mdS g (oB g q) iN))) (by omega) (by unfold FU; omega) ?_ ?_
  · have e0 : mdS g (fun z => oB g q z && decide (z < 25 * t + 0)) iN = g := md_0 (fun z => by
      unfold oB
      by_cases e : z / 25 = q / 25
      · rw [decide_eq_false (show ¬ z < 25 * t + 0 by omega), Bool.and_false]
      · rw [decide_eq_false e, Bool.and_false, Bool.false_and, Bool.false_and])
    simp only [e0] at h
    exact h
  · intro n k hk1 hk2
    obtain ⟨z, hz⟩ : ∃ z, z = 25 * t + k := ⟨_, rfl⟩
    obtain ⟨c, hcd⟩ : ∃ c : Nat → Bool, c = fun z => oB g q z && decide (z < 25 * t + k) := ⟨_, rfl⟩
    have hc' : ∀ x, (oB g q x && decide (x < 25 * t + (k + 1))) = if oB g q z = true then (c x || decide (x = z)) else c x := fun x => by
      rw [hcd]
      show _ = if oB g q z = true then ((oB g q x && decide (x < 25 * t + k)) || decide (x = z)) else (oB g q x && decide (x < 25 * t + k))
      by_cases e : x = z
      · rw [e]
        cases eo : oB g q z
        · rfl
        · rw [decide_eq_true (show z < 25 * t + (k + 1) by omega), decide_eq_true (rfl : z = z), Bool.or_true]
          rfl
      · rw [decide_eq_false e, Bool.or_false, ite_self, show decide (x < 25 * t + (k + 1)) = decide (x < 25 * t + k) from decide_eq_decide.mpr (by omega)]
    have rd : setR σ 169 (mdS g c iN) 169 (512 + z) = g (512 + z) := by
      rw [setR_at]
      unfold mdS
      rw [if_neg (by omega), if_neg (by omega), if_neg (by omega), if_neg (by omega), if_pos (by omega), show 512 + z - 512 = z by omega, hcd]
      show (if (oB g q z && decide (z < 25 * t + k)) = true then _ else _) = _
      rw [decide_eq_false (by omega), Bool.and_false]
      rfl
    have fe := r_empties (a := 169) (q := z) (σ := σ) (g := mdS g c iN) (by omega)
    have fin : (fun x => oB g q x && decide (x < 25 * t + (k + 1))) = fun x => if oB g q z = true then (c x || decide (x = z)) else c x := funext hc'
    simp only [L_X6_span_129]
    rw [fin, ← hcd]
    cases eo : oB g q z
    · have e9 : (fun x => if false = true then (c x || decide (x = z)) else c x) = c := by
        funext x
        rfl
      rw [e9]
      by_cases e1 : z = q
      · simp (disch := omega) only [↓ite_ap, if_true, if_false, if_pos, if_neg, retM_ap, retZ_ap0, retZ_ap1, gM_np, sM_ap, jM_np, bI_ap, bL_ap, bD_ap, rdM_ap, wrM_ap, thrM_ap, nl_0, nl_1, nl_2, nl_3, nl_4, nl_5, nl_6, nl_7, nl_8, nl_9, nl_10, nl_11, nl_12, nl_13, nl_25, nl_33, nl_35, nl_45, nl_48, nl_49, nl_50, nl_52, nl_53, nl_57, nl_59, nl_60, nl_61, nl_77, nl_94, nl_97, nl_100, nl_101, nl_119, nl_125, nl_126, nl_137, nl_262, nl_387, nl_500, nl_512, nl_637, nl_999, nl_1022, nl_1137, nl_5685, nm_1b, iN_mI, mI_iN, iN_add, iN_mul, iN_sub, iN_div, iN_rem, iN_lt, iN_le, iN_eq, iN_nat, inB_iN, ← hz, e1]
      · by_cases e2 : g (512 + z) = iN q
        · unfold oB at eo
          rw [decide_eq_true e1, decide_eq_true (show z / 25 = q / 25 by omega), decide_eq_true e2] at eo
          cases eo
        · simp (disch := omega) only [↓ite_ap, if_true, if_false, if_pos, if_neg, retM_ap, retZ_ap0, retZ_ap1, gM_np, sM_ap, jM_np, bI_ap, bL_ap, bD_ap, rdM_ap, wrM_ap, thrM_ap, nl_0, nl_1, nl_2, nl_3, nl_4, nl_5, nl_6, nl_7, nl_8, nl_9, nl_10, nl_11, nl_12, nl_13, nl_25, nl_33, nl_35, nl_45, nl_48, nl_49, nl_50, nl_52, nl_53, nl_57, nl_59, nl_60, nl_61, nl_77, nl_94, nl_97, nl_100, nl_101, nl_119, nl_125, nl_126, nl_137, nl_262, nl_387, nl_500, nl_512, nl_637, nl_999, nl_1022, nl_1137, nl_5685, nm_1b, iN_mI, mI_iN, iN_add, iN_mul, iN_sub, iN_div, iN_rem, iN_lt, iN_le, iN_eq, iN_nat, inB_iN, ← hz, rd, e2]
    · have e9 : (fun x => if true = true then (c x || decide (x = z)) else c x) = fun x => c x || decide (x = z) := by
        funext x
        rfl
      rw [e9]
      unfold oB at eo
      rw [Bool.and_eq_true, Bool.and_eq_true, decide_eq_true_eq, decide_eq_true_eq, decide_eq_true_eq] at eo
      have fm := md_add (s := g) (c := c) (c' := fun x => c x || decide (x = z)) (w := iN) (z := z) (by omega) (fun x => rfl)
      rw [em_own] at fm
      rw [fm] at fe
      simp (disch := omega) only [↓ite_ap, if_true, if_false, if_pos, if_neg, retM_ap, retZ_ap0, retZ_ap1, gM_np, sM_ap, jM_np, bI_ap, bL_ap, bD_ap, rdM_ap, wrM_ap, thrM_ap, nl_0, nl_1, nl_2, nl_3, nl_4, nl_5, nl_6, nl_7, nl_8, nl_9, nl_10, nl_11, nl_12, nl_13, nl_25, nl_33, nl_35, nl_45, nl_48, nl_49, nl_50, nl_52, nl_53, nl_57, nl_59, nl_60, nl_61, nl_77, nl_94, nl_97, nl_100, nl_101, nl_119, nl_125, nl_126, nl_137, nl_262, nl_387, nl_500, nl_512, nl_637, nl_999, nl_1022, nl_1137, nl_5685, nm_1b, iN_mI, mI_iN, iN_add, iN_mul, iN_sub, iN_div, iN_rem, iN_lt, iN_le, iN_eq, iN_nat, inB_iN, ← hz, rd, eo.2, ↓invM_l fe, eo.1.1]
  · intro n
    have e1 : (fun z => oB g q z && decide (z < 25 * t + 25)) = oB g q := by
      funext z
      by_cases e : z / 25 = q / 25
      · rw [decide_eq_true (show z < 25 * t + 25 by omega), Bool.and_true]
      · unfold oB
        rw [decide_eq_false e, Bool.and_false, Bool.false_and, Bool.false_and]
    simp only [L_X6_span_129]
    rw [e1]
    simp (disch := omega) only [↓ite_ap, if_true, if_false, if_pos, if_neg, retM_ap, retZ_ap0, retZ_ap1, gM_np, sM_ap, jM_np, bI_ap, bL_ap, bD_ap, rdM_ap, wrM_ap, thrM_ap, nl_0, nl_1, nl_2, nl_3, nl_4, nl_5, nl_6, nl_7, nl_8, nl_9, nl_10, nl_11, nl_12, nl_13, nl_25, nl_33, nl_35, nl_45, nl_48, nl_49, nl_50, nl_52, nl_53, nl_57, nl_59, nl_60, nl_61, nl_77, nl_94, nl_97, nl_100, nl_101, nl_119, nl_125, nl_126, nl_137, nl_262, nl_387, nl_500, nl_512, nl_637, nl_999, nl_1022, nl_1137, nl_5685, nm_1b, iN_mI, mI_iN, iN_add, iN_mul, iN_sub, iN_div, iN_rem, iN_lt, iN_le, iN_eq, iN_nat, inB_iN]
/-- the place of a square in the rectangle's order -/
def ixN (q br z : Nat) : Nat := (z % 25 / 5 - q % 25 / 5) * br + (z % 5 - q % 5)
theorem ix_at {q hi br k : Nat} (hb : 1 ≤ br) (h5 : q % 25 / 5 + hi ≤ 5) (h6 : q % 5 + br ≤ 5) (hk : k < hi * br) : inN q hi br (q + 5 * (k / br) + k % br) ∧ ixN q br (q + 5 * (k / br) + k % br) = k ∧ q + 5 * (k / br) + k % br < q / 25 * 25 + 25 := by
  have k1 : k / br < hi := Nat.div_lt_of_lt_mul (by rw [Nat.mul_comm]; exact hk)
  have k2 : k % br < br := Nat.mod_lt _ (by omega)
  have e := Nat.div_add_mod' k br
  obtain ⟨r, hr⟩ : ∃ r, r = k / br := ⟨_, rfl⟩
  obtain ⟨c, hc⟩ : ∃ c, c = k % br := ⟨_, rfl⟩
  rw [← hr] at k1 e ⊢
  rw [← hc] at k2 e ⊢
  refine ⟨by unfold inN; omega, ?_, by omega⟩
  unfold ixN
  rw [show (q + 5 * r + c) % 25 / 5 - q % 25 / 5 = r by omega, show (q + 5 * r + c) % 5 - q % 5 = c by omega]
  exact e
theorem ix_lt {q hi br z : Nat} (h : inN q hi br z) : ixN q br z < hi * br := by
  unfold ixN
  have h1 : (z % 25 / 5 - q % 25 / 5) + 1 ≤ hi := by omega
  have h2 := Nat.mul_le_mul h1 (Nat.le_refl br)
  rw [Nat.add_mul, Nat.one_mul] at h2
  omega
theorem ix_inj {q hi br z z' : Nat} (h : inN q hi br z) (h' : inN q hi br z') (e : ixN q br z = ixN q br z') : z = z' := by
  unfold ixN at e
  have b1 : z % 5 - q % 5 < br := by omega
  have b2 : z' % 5 - q % 5 < br := by omega
  have e1 : ((z % 25 / 5 - q % 25 / 5) * br + (z % 5 - q % 5)) / br = z % 25 / 5 - q % 25 / 5 := by
    rw [Nat.add_comm, Nat.add_mul_div_right _ _ (by omega), Nat.div_eq_of_lt b1, Nat.zero_add]
  have e2 : ((z' % 25 / 5 - q % 25 / 5) * br + (z' % 5 - q % 5)) / br = z' % 25 / 5 - q % 25 / 5 := by
    rw [Nat.add_comm, Nat.add_mul_div_right _ _ (by omega), Nat.div_eq_of_lt b2, Nat.zero_add]
  rw [e, e2] at e1
  rw [e1] at e
  have e3 := Nat.add_left_cancel e
  omega
theorem r_span186 {q hi br : Nat} {σ : Mm} {g : Nat → Int32} (hq : q < 125) (h1 : 1 ≤ hi) (hb : 1 ≤ br) (h5 : q % 25 / 5 + hi ≤ 5) (h6 : q % 5 + br ≤ 5) (R : Dm Int32) : L_X6_span_186 (iN hi) (iN br) (iN q) FU (iN 1) (fun _ => R) (setR σ 169 g) = R (setR σ 169 (mdS g (xB q hi br) (fun _ => iN q))) := by
  have hN : hi * br ≤ 25 := mul_le25 (by omega) (by omega)
  have hN1 : 1 ≤ hi * br := Nat.mul_le_mul h1 hb
  have hnb : ¬ iN br = 0 := by rw [nl_0, iN_eq (by omega) (by omega)]; omega
  have h := lp (fun n k (m : Mm) => L_X6_span_186 (iN hi) (iN br) (iN q) n (iN k) (fun _ => R) m) (fun k => setR σ 169 (mdS g (fun z => xB q hi br z && decide (ixN q br z < k)) (fun _ => iN q))) (i0 := 1) (N := hi * br) (r := R (setR σ 169 (mdS g (xB q hi br) (fun _ => iN q)))) hN1 (by unfold FU; omega) ?_ ?_
  · have e0 : mdS g (fun z => xB q hi br z && decide (ixN q br z < 1)) (fun _ => iN q) = g := md_0 (fun z => by
      cases e : xB q hi br z
      · rfl
      · have e1 := xB_iff.mp e
        have qin : inN q hi br q := ⟨rfl, Nat.le_refl _, by omega, Nat.le_refl _, by omega⟩
        have i0 : ixN q br q = 0 := by unfold ixN; rw [Nat.sub_self, Nat.sub_self, Nat.zero_mul]
        rw [decide_eq_false (fun g => e1.1 (ix_inj e1.2 qin (by omega))), Bool.and_false])
    simp only [e0] at h
    exact h
  · intro n k hk1 hk2
    have ia := ix_at hb h5 h6 hk2
    have dk : iN k / iN br = iN (k / br) := iN_div (by omega) (by omega)
    have rk : iR (iN k) (iN br) = iN (k % br) := iN_rem (by omega) (by omega)
    obtain ⟨z, hz⟩ : ∃ z, z = q + 5 * (k / br) + k % br := ⟨_, rfl⟩
    rw [← hz] at ia
    obtain ⟨c, hcd⟩ : ∃ c : Nat → Bool, c = fun z => xB q hi br z && decide (ixN q br z < k) := ⟨_, rfl⟩
    have qin : inN q hi br q := ⟨rfl, Nat.le_refl _, by omega, Nat.le_refl _, by omega⟩
    have i0 : ixN q br q = 0 := by unfold ixN; rw [Nat.sub_self, Nat.sub_self, Nat.zero_mul]
    have zne : z ≠ q := fun e => by rw [e] at ia; omega
    have fin : (fun x => xB q hi br x && decide (ixN q br x < k + 1)) = fun x => c x || decide (x = z) := by
      funext x
      rw [hcd]
      show _ = ((xB q hi br x && decide (ixN q br x < k)) || decide (x = z))
      by_cases e : x = z
      · rw [e, xB_iff.mpr ⟨zne, ia.1⟩, decide_eq_true (show ixN q br z < k + 1 by omega), decide_eq_true (rfl : z = z), Bool.or_true]
        rfl
      · rw [decide_eq_false e, Bool.or_false]
        cases ex : xB q hi br x
        · rfl
        · have ex1 := xB_iff.mp ex
          have ne : ixN q br x ≠ k := fun g => e (ix_inj ex1.2 ia.1 (by omega))
          rw [show decide (ixN q br x < k + 1) = decide (ixN q br x < k) from decide_eq_decide.mpr (by omega)]
    have fe := r_empties (a := 169) (q := z) (σ := σ) (g := mdS g c (fun _ => iN q)) (by omega)
    have fm := md_add (s := g) (c := c) (c' := fun x => c x || decide (x = z)) (w := fun _ => iN q) (z := z) (by omega) (fun x => rfl)
    have ei : q + 5 * (k / br) + k % br = z := hz.symm
    have fck : ∀ (X : Dm Int32) (m : Mm), ckM (¬ iN br = (0 : Int32)) X m = X m := fun X m => ckM_t hnb
    have ehb : iN hi * iN br = iN (hi * br) := iN_mul
    simp only [L_X6_span_186]
    rw [fin, ← hcd, ← fm]
    simp (disch := omega) only [↓ite_ap, if_true, if_false, if_pos, if_neg, retM_ap, retZ_ap0, retZ_ap1, gM_np, sM_ap, jM_np, bI_ap, bL_ap, bD_ap, rdM_ap, wrM_ap, thrM_ap, nl_0, nl_1, nl_2, nl_3, nl_4, nl_5, nl_6, nl_7, nl_8, nl_9, nl_10, nl_11, nl_12, nl_13, nl_25, nl_33, nl_35, nl_45, nl_48, nl_49, nl_50, nl_52, nl_53, nl_57, nl_59, nl_60, nl_61, nl_77, nl_94, nl_97, nl_100, nl_101, nl_119, nl_125, nl_126, nl_137, nl_262, nl_387, nl_500, nl_512, nl_637, nl_999, nl_1022, nl_1137, nl_5685, nm_1b, iN_mI, mI_iN, iN_add, iN_mul, iN_sub, iN_div, iN_rem, iN_lt, iN_le, iN_eq, iN_nat, inB_iN, ↓fck, dk, rk, ei, ↓invM_l fe, upM_setR]
  · intro n
    have e1 : (fun z => xB q hi br z && decide (ixN q br z < hi * br)) = xB q hi br := by
      funext z
      cases e : xB q hi br z
      · rfl
      · rw [decide_eq_true (ix_lt (xB_iff.mp e).2)]
        rfl
    simp only [L_X6_span_186]
    rw [e1]
    simp (disch := omega) only [↓ite_ap, if_true, if_false, if_pos, if_neg, retM_ap, retZ_ap0, retZ_ap1, gM_np, sM_ap, jM_np, bI_ap, bL_ap, bD_ap, rdM_ap, wrM_ap, thrM_ap, nl_0, nl_1, nl_2, nl_3, nl_4, nl_5, nl_6, nl_7, nl_8, nl_9, nl_10, nl_11, nl_12, nl_13, nl_25, nl_33, nl_35, nl_45, nl_48, nl_49, nl_50, nl_52, nl_53, nl_57, nl_59, nl_60, nl_61, nl_77, nl_94, nl_97, nl_100, nl_101, nl_119, nl_125, nl_126, nl_137, nl_262, nl_387, nl_500, nl_512, nl_637, nl_999, nl_1022, nl_1137, nl_5685, nm_1b, iN_mI, mI_iN, iN_add, iN_mul, iN_sub, iN_div, iN_rem, iN_lt, iN_le, iN_eq, iN_nat, inB_iN]
/-- all of it is spS -/
theorem md_sp {g s : Sv} {q hi br : Nat} (hq : q < 125) (hg : ∀ j, j < 1137 → g j = s j) : ∀ j, j < 1137 → upS (upS (mdS (mdS g (oB g q) iN) (xB q hi br) (fun _ => iN q)) (262 + q) (iN hi)) (387 + q) (iN br) j = spS s q hi br j := by
  intro j hj
  have eo : ∀ z, z < 125 → oB g q z = oB s q z := fun z hz => by
    unfold oB
    rw [hg _ (by omega)]
  have ech : ∀ z, z < 125 → chB s q hi br z = (oB g q z || xB q hi br z) := fun z hz => by
    unfold chB
    rw [eo z hz]
  have ej := hg j hj
  unfold spS
  by_cases c1 : 12 ≤ j ∧ j < 137
  · rw [if_pos c1, up_o (by omega), up_o (by omega), ech _ (by omega)]
    unfold mdS
    rw [if_pos c1, if_pos c1, ej]
    cases oB g q (j - 12) <;> cases xB q hi br (j - 12) <;> rfl
  · rw [if_neg c1]
    by_cases c2 : 137 ≤ j ∧ j < 262
    · rw [if_pos c2, up_o (by omega), up_o (by omega), ech _ (by omega)]
      unfold mdS
      rw [if_neg c1, if_neg c1, if_pos c2, if_pos c2, ej]
      cases oB g q (j - 137) <;> cases xB q hi br (j - 137) <;> rfl
    · rw [if_neg c2]
      by_cases c3 : 262 ≤ j ∧ j < 387
      · rw [if_pos c3, up_o (by omega)]
        by_cases e : j = 262 + q
        · rw [if_pos e, e, up_at]
        · rw [if_neg e, up_o e, ech _ (by omega)]
          unfold mdS
          rw [if_neg c1, if_neg c1, if_neg c2, if_neg c2, if_pos c3, if_pos c3, ej]
          cases oB g q (j - 262) <;> cases xB q hi br (j - 262) <;> rfl
      · rw [if_neg c3]
        by_cases c4 : 387 ≤ j ∧ j < 512
        · rw [if_pos c4]
          by_cases e : j = 387 + q
          · rw [if_pos e, e, up_at]
          · rw [if_neg e, up_o e, up_o (by omega), ech _ (by omega)]
            unfold mdS
            rw [if_neg c1, if_neg c1, if_neg c2, if_neg c2, if_neg c3, if_neg c3, if_pos c4, if_pos c4, ej]
            cases oB g q (j - 387) <;> cases xB q hi br (j - 387) <;> rfl
        · rw [if_neg c4, up_o (by omega), up_o (by omega)]
          by_cases c5 : 512 ≤ j ∧ j < 637
          · rw [if_pos c5, ← eo _ (by omega)]
            unfold mdS
            rw [if_neg c1, if_neg c1, if_neg c2, if_neg c2, if_neg c3, if_neg c3, if_neg c4, if_neg c4, if_pos c5, if_pos c5, ej]
          · rw [if_neg c5]
            by_cases c6 : 637 ≤ j ∧ j < 1137
            · rw [if_pos c6, ech _ (by omega)]
              unfold mdS
              rw [if_neg c1, if_neg c1, if_neg c2, if_neg c2, if_neg c3, if_neg c3, if_neg c4, if_neg c4, if_neg c5, if_neg c5, if_pos c6, if_pos c6, ej]
              cases oB g q ((j - 637) / 4) <;> cases xB q hi br ((j - 637) / 4) <;> rfl
            · rw [if_neg c6]
              unfold mdS
              rw [if_neg c1, if_neg c1, if_neg c2, if_neg c2, if_neg c3, if_neg c3, if_neg c4, if_neg c4, if_neg c5, if_neg c5, if_neg c6, if_neg c6, ej]
