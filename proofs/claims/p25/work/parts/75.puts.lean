/-! PUTTING SOMETHING INTO A CELL -/
def puS (s : Sv) (q kind : Nat) (num : Int32) : Sv := fun j => if j = 0 then (if kiS s q = 3 then iN (tbS s - 1) else s 0) else if j = 12 + q then iN kind else if j = 137 + q then (if kind = 1 ∨ kind = 2 then num else iN 0) else s j
/-- what may be put -/
def okP (kind : Nat) (num : Int32) : Prop := kind ≤ 6 ∧ kind ≠ 3 ∧ (kind = 1 → -999 ≤ num.toInt ∧ num.toInt ≤ 999) ∧ (kind = 2 → ∃ w, num = iN w ∧ 1 ≤ w ∧ w ≤ 12)
def mayP (s : Sv) (q : Nat) : Prop := isCl s q ∧ (kiS s q = 3 → nv (nuS s q) = tbS s - 1)
section Puts
variable {s : Sv} {q kind : Nat} {num : Int32}
theorem pu_tb (hw : WF s) : tbS (puS s q kind num) = if kiS s q = 3 then tbS s - 1 else tbS s := by
  have t5 := hw.1.2.2
  unfold tbS puS
  rw [if_pos rfl]
  by_cases h : kiS s q = 3
  · rw [if_pos h, if_pos h]
    exact nv_iN (by omega)
  · rw [if_neg h, if_neg h]
theorem pu_o {j : Nat} (h0 : j ≠ 0) (h1 : j ≠ 12 + q) (h2 : j ≠ 137 + q) : puS s q kind num j = s j := by
  unfold puS
  rw [if_neg h0, if_neg h1, if_neg h2]
theorem pu_137 : puS s q kind num (137 + q) = if kind = 1 ∨ kind = 2 then num else iN 0 := by
  unfold puS
  rw [if_neg (show ¬ 137 + q = 0 by omega), if_neg (show ¬ 137 + q = 12 + q by omega), if_pos rfl]
theorem pu_ro {t : Nat} (ht : t < 5) : roS (puS s q kind num) t = roS s t := by
  unfold roS
  rw [pu_o (by omega) (by omega) (by omega)]
theorem pu_co {t : Nat} (ht : t < 5) : coS (puS s q kind num) t = coS s t := by
  unfold coS
  rw [pu_o (by omega) (by omega) (by omega)]
theorem pu_ow (hq : q < 125) {z : Nat} : owS (puS s q kind num) z = owS s z := by
  unfold owS
  rw [pu_o (by omega) (by omega) (by omega)]
theorem pu_hi (hq : q < 125) {z : Nat} : hiS (puS s q kind num) z = hiS s z := by
  unfold hiS
  rw [pu_o (by omega) (by omega) (by omega)]
theorem pu_br (hq : q < 125) {z : Nat} : brS (puS s q kind num) z = brS s z := by
  unfold brS
  rw [pu_o (by omega) (by omega) (by omega)]
theorem pu_ru (hq : q < 125) {i : Nat} : ruS (puS s q kind num) i = ruS s i := by
  unfold ruS
  rw [pu_o (by omega) (by omega) (by omega)]
theorem pu_ki (hk : kind ≤ 6) {z : Nat} (hz : z < 125) : kiS (puS s q kind num) z = if z = q then kind else kiS s z := by
  unfold kiS
  by_cases e : z = q
  · subst e
    rw [if_pos rfl]
    unfold puS
    rw [if_neg (by omega), if_pos rfl]
    exact nv_iN (by omega)
  · rw [if_neg e, pu_o (by omega) (by omega) (by omega)]
theorem pu_nu (hq : q < 125) {z : Nat} : nuS (puS s q kind num) z = if z = q then (if kind = 1 ∨ kind = 2 then num else iN 0) else nuS s z := by
  unfold nuS
  by_cases e : z = q
  · subst e
    rw [if_pos rfl]
    unfold puS
    rw [if_neg (by omega), if_neg (by omega), if_pos rfl]
  · rw [if_neg e, pu_o (by omega) (by omega) (by omega)]
theorem pu_of (hw : WF s) {z : Nat} : isOf (puS s q kind num) z ↔ isOf s z ∧ z / 25 < tbS (puS s q kind num) := by
  have t5 := hw.1.2.2
  have hT := pu_tb (q := q) (kind := kind) (num := num) hw
  have hle : tbS (puS s q kind num) ≤ tbS s := by
    rw [hT]
    by_cases h : kiS s q = 3
    · rw [if_pos h]; omega
    · rw [if_neg h]; omega
  constructor
  · intro h
    have h1 := h.1
    have h2 := h.2.1
    have h3 := h.2.2
    rw [pu_ro (by omega)] at h2
    rw [pu_co (by omega)] at h3
    exact ⟨⟨by omega, h2, h3⟩, h1⟩
  · intro h
    exact ⟨h.2, by rw [pu_ro (by have := h.1.1; omega)]; exact h.1.2.1, by rw [pu_co (by have := h.1.1; omega)]; exact h.1.2.2⟩
theorem pu_cl (hw : WF s) (hq : q < 125) {z : Nat} : isCl (puS s q kind num) z ↔ isCl s z ∧ z / 25 < tbS (puS s q kind num) := by
  unfold isCl
  rw [pu_of hw, pu_ow hq]
  exact ⟨fun h => ⟨⟨h.1.1, h.2⟩, h.1.2⟩, fun h => ⟨⟨h.1.1, h.2⟩, h.1.2⟩⟩
theorem pu_rc (hq : q < 125) {o z : Nat} : inRc (puS s q kind num) o z ↔ inRc s o z := by
  unfold inRc
  rw [pu_hi hq, pu_br hq]
theorem pu_T (hw : WF s) (hm : mayP s q) : 1 ≤ tbS (puS s q kind num) ∧ tbS (puS s q kind num) ≤ tbS s ∧ q / 25 < tbS (puS s q kind num) ∧ (∀ z, isCl s z → kiS s z = 3 → z ≠ q → nv (nuS s z) < tbS (puS s q kind num)) := by
  have t1 := hw.1.2.1
  rw [pu_tb hw]
  by_cases h : kiS s q = 3
  · have w7 := (hw.2.2.2.2.2.2.1 q hm.1).2.2 h
    have e := hm.2 h
    rw [if_pos h]
    refine ⟨by omega, by omega, by omega, fun z hz h3 hne => ?_⟩
    have w8 := (hw.2.2.2.2.2.2.1 z hz).2.2 h3
    have hd : nv (nuS s z) ≠ nv (nuS s q) := fun g => hne (hw.2.2.2.2.2.2.2.2 z q hz hm.1 h3 h g)
    omega
  · rw [if_neg h]
    exact ⟨t1, Nat.le_refl _, hm.1.1.1, fun z hz h3 _ => ((hw.2.2.2.2.2.2.1 z hz).2.2 h3).2.2⟩
theorem pu_WF (hw : WF s) (hm : mayP s q) (hk : okP kind num) : WF (puS s q kind num) := by
  have t5 := hw.1.2.2
  have hq5 := isOf_lt hw hm.1.1
  have hT := pu_T (kind := kind) (num := num) hw hm
  have hk6 := hk.1
  refine ⟨⟨?_, hT.1, by omega⟩, ?_, fun t ht => ?_, fun z hz => ?_, fun o ho => ?_, fun z hz => ?_, fun z hz => ?_, fun t h1 ht => ?_, fun z z' hz hz' h3 h3' he => ?_⟩
  · rw [pu_tb hw]
    unfold puS
    rw [if_pos rfl]
    by_cases h : kiS s q = 3
    · rw [if_pos h, if_pos h]
    · rw [if_neg h, if_neg h]
      exact hw.1.1
  · rw [pu_o (by omega) (by omega) (by omega)]
    exact hw.2.1
  · rw [pu_ro (by omega), pu_co (by omega), pu_o (by omega) (by omega) (by omega), pu_o (by omega) (by omega) (by omega)]
    exact hw.2.2.1 t (by omega)
  · have h := (pu_of hw).mp hz
    have w := hw.2.2.2.1 z h.1
    have l1 := isOf_lt hw h.1
    rw [pu_ow hq5, pu_o (by omega) (by omega) (by omega), pu_cl hw hq5, pu_rc hq5]
    have := w.2.2.1
    exact ⟨w.1, ⟨w.2.1, by omega⟩, w.2.2⟩
  · have h := (pu_cl hw hq5).mp ho
    have w := hw.2.2.2.2.1 o h.1
    have l1 := isOf_lt hw h.1.1
    rw [pu_hi hq5, pu_br hq5, pu_o (by omega) (by omega) (by omega), pu_o (by omega) (by omega) (by omega), pu_ro (by omega), pu_co (by omega)]
    refine ⟨w.1, w.2.1, w.2.2.1, w.2.2.2.1, w.2.2.2.2.1, w.2.2.2.2.2.1, fun z hz => ?_⟩
    rw [pu_ow hq5]
    exact w.2.2.2.2.2.2 z ((pu_rc hq5).mp hz)
  · have h := (pu_of hw).mp hz
    have w := hw.2.2.2.2.2.1 z h.1
    have l1 := isOf_lt hw h.1
    rw [pu_ki hk6 l1, pu_ow hq5]
    refine ⟨?_, ?_, fun i hi => ?_, fun hne => ?_⟩
    · by_cases e : z = q
      · subst e
        rw [if_pos rfl]
        unfold puS
        rw [if_neg (by omega), if_pos rfl]
      · rw [if_neg e, pu_o (by omega) (by omega) (by omega)]
        exact w.1
    · by_cases e : z = q
      · rw [if_pos e]; exact hk6
      · rw [if_neg e]; exact w.2.1
    · rw [pu_ru hq5, pu_o (by omega) (by omega) (by omega)]
      exact w.2.2.1 i hi
    · have e : z ≠ q := fun e => by rw [e] at hne; exact hne hm.1.2
      rw [if_neg e]
      exact w.2.2.2 hne
  · have h := (pu_cl hw hq5).mp hz
    have w := hw.2.2.2.2.2.2.1 z h.1
    have l1 := isOf_lt hw h.1.1
    rw [pu_ki hk6 l1, pu_nu hq5]
    by_cases e : z = q
    · rw [if_pos e, if_pos e]
      refine ⟨fun h1 => ?_, fun h2 => ?_, fun h3 => absurd h3 hk.2.1⟩
      · rw [if_pos (.inl h1)]
        exact hk.2.2.1 h1
      · rw [if_pos (.inr h2)]
        exact hk.2.2.2 h2
    · rw [if_neg e, if_neg e]
      exact ⟨w.1, w.2.1, fun h3 => ⟨(w.2.2 h3).1, (w.2.2 h3).2.1, hT.2.2.2 z h.1 h3 e⟩⟩
  · obtain ⟨z, a1, a2, a3⟩ := hw.2.2.2.2.2.2.2.1 t h1 (by omega)
    have w := (hw.2.2.2.2.2.2.1 z a1).2.2 a2
    have l1 := isOf_lt hw a1.1
    have e : z ≠ q := fun e => by
      rw [e] at a2 a3
      have h4 := hm.2 a2
      rw [pu_tb hw, if_pos a2] at ht
      omega
    refine ⟨z, (pu_cl hw hq5).mpr ⟨a1, by omega⟩, ?_, ?_⟩
    · rw [pu_ki hk6 l1, if_neg e]
      exact a2
    · rw [pu_nu hq5, if_neg e]
      exact a3
  · have h := (pu_cl hw hq5).mp hz
    have h' := (pu_cl hw hq5).mp hz'
    have l1 := isOf_lt hw h.1.1
    have l2 := isOf_lt hw h'.1.1
    rw [pu_ki hk6 l1] at h3
    rw [pu_ki hk6 l2] at h3'
    have e : z ≠ q := fun e => by rw [if_pos e] at h3; exact hk.2.1 h3
    have e' : z' ≠ q := fun e => by rw [if_pos e] at h3'; exact hk.2.1 h3'
    rw [if_neg e] at h3
    rw [if_neg e'] at h3'
    rw [pu_nu hq5, pu_nu hq5, if_neg e, if_neg e'] at he
    exact hw.2.2.2.2.2.2.2.2 z z' h.1 h'.1 h3 h3' he
/-- the class's fill -/
theorem f_fill {b : Nat} {σ : Mm} (hw : WF s) (hr : Rel b s σ) (hm : mayP s q) (hk : okP kind num) : ∃ σ1, F_X4_fill b (iN q) (iN kind) num σ = some (.inl (iN (kiS s q)), σ1) ∧ Rel b (puS s q kind num) σ1 ∧ ∀ k, ¬ (b ≤ k ∧ k ≤ b + 14) → σ1 k = σ k := by
  have t5 := hw.1.2.2
  have t1 := hw.1.2.1
  have hq5 := isOf_lt hw hm.1.1
  have hT := pu_T (kind := kind) (num := num) hw hm
  have hk6 := hk.1
  have r1 := hr.2.2.2.2.1 q hm.1.1
  have w3 := hw.2.2.2.2.2.1 q hm.1.1
  have k1 : σ (b + 8) q = iN (kiS s q) := r1.2.1.trans w3.1
  have kb := w3.2.1
  have e1 : σ b 1 = iN (tbS s) := hr.1.trans hw.1.1
  obtain ⟨m0, h0⟩ : ∃ m, m = upM σ b 1 (puS s q kind num 0) := ⟨_, rfl⟩
  obtain ⟨nm, hnm⟩ : ∃ nm, nm = if kind = 1 ∨ kind = 2 then num else iN 0 := ⟨_, rfl⟩
  have s0 : puS s q kind num 0 = if kiS s q = 3 then iN (tbS s - 1) else iN (tbS s) := by
    unfold puS
    rw [if_pos rfl, ← hw.1.1]
  refine ⟨upM (upM m0 (b + 8) q (iN kind)) (b + 10) q nm, ?_, ⟨?_, ?_, fun t ht => ?_, fun z hz hn => ?_, fun z hz => ?_, fun z hz hn => ?_, ?_, fun z hz h3 => ?_⟩, fun k hk => ?_⟩
  · have same : kiS s q ≠ 3 → m0 = σ := fun h => by
      rw [h0, s0, if_neg h, ← e1]
      funext k j
      by_cases g : k = b ∧ j = 1
      · rw [g.1, g.2, upM_at]
      · exact upM_q g
    unfold F_X4_fill
    by_cases h3 : kiS s q = 3
    · rw [if_pos h3] at s0
      rw [s0] at h0
      have hk' : kind = 0 ∨ kind = 1 ∨ kind = 2 ∨ 4 ≤ kind := by have := hk.2.1; omega
      rcases hk' with h | h | h | h
      · have hnm : nm = iN 0 := by rw [hnm, if_neg (by omega)]
        simp (disch := omega) only [↓ite_ap, if_true, if_false, if_pos, if_neg, retM_ap, retZ_ap0, retZ_ap1, gM_ap, sM_ap, jM_ap, bI_ap, bL_ap, bD_ap, rdM_ap, wrM_ap, thrM_ap, nl_0, nl_1, nl_2, nl_3, nl_4, nl_5, nl_6, nl_7, nl_8, nl_9, nl_10, nl_11, nl_12, nl_13, nl_25, nl_33, nl_35, nl_45, nl_48, nl_49, nl_50, nl_52, nl_53, nl_57, nl_59, nl_60, nl_61, nl_77, nl_94, nl_97, nl_100, nl_101, nl_119, nl_125, nl_126, nl_137, nl_262, nl_387, nl_500, nl_512, nl_637, nl_999, nl_1022, nl_1137, nl_5685, nm_1b, iN_mI, mI_iN, iN_add, iN_mul, iN_sub, iN_div, iN_rem, iN_lt, iN_le, iN_eq, iN_nat, inB_iN, ↓b_at, ↓b_store, ↓b_place1, ↓b_place0, ↓b_tableOf, ↓b_sqEnd, ↓b_isCell, Nat.add_assoc, Nat.reduceAdd, k1, h3, e1, ← h0, h, hnm]
      · have hnm : nm = num := by rw [hnm, if_pos (by omega)]
        simp (disch := omega) only [↓ite_ap, if_true, if_false, if_pos, if_neg, retM_ap, retZ_ap0, retZ_ap1, gM_ap, sM_ap, jM_ap, bI_ap, bL_ap, bD_ap, rdM_ap, wrM_ap, thrM_ap, nl_0, nl_1, nl_2, nl_3, nl_4, nl_5, nl_6, nl_7, nl_8, nl_9, nl_10, nl_11, nl_12, nl_13, nl_25, nl_33, nl_35, nl_45, nl_48, nl_49, nl_50, nl_52, nl_53, nl_57, nl_59, nl_60, nl_61, nl_77, nl_94, nl_97, nl_100, nl_101, nl_119, nl_125, nl_126, nl_137, nl_262, nl_387, nl_500, nl_512, nl_637, nl_999, nl_1022, nl_1137, nl_5685, nm_1b, iN_mI, mI_iN, iN_add, iN_mul, iN_sub, iN_div, iN_rem, iN_lt, iN_le, iN_eq, iN_nat, inB_iN, ↓b_at, ↓b_store, ↓b_place1, ↓b_place0, ↓b_tableOf, ↓b_sqEnd, ↓b_isCell, Nat.add_assoc, Nat.reduceAdd, k1, h3, e1, ← h0, h, hnm]
      · have hnm : nm = num := by rw [hnm, if_pos (by omega)]
        simp (disch := omega) only [↓ite_ap, if_true, if_false, if_pos, if_neg, retM_ap, retZ_ap0, retZ_ap1, gM_ap, sM_ap, jM_ap, bI_ap, bL_ap, bD_ap, rdM_ap, wrM_ap, thrM_ap, nl_0, nl_1, nl_2, nl_3, nl_4, nl_5, nl_6, nl_7, nl_8, nl_9, nl_10, nl_11, nl_12, nl_13, nl_25, nl_33, nl_35, nl_45, nl_48, nl_49, nl_50, nl_52, nl_53, nl_57, nl_59, nl_60, nl_61, nl_77, nl_94, nl_97, nl_100, nl_101, nl_119, nl_125, nl_126, nl_137, nl_262, nl_387, nl_500, nl_512, nl_637, nl_999, nl_1022, nl_1137, nl_5685, nm_1b, iN_mI, mI_iN, iN_add, iN_mul, iN_sub, iN_div, iN_rem, iN_lt, iN_le, iN_eq, iN_nat, inB_iN, ↓b_at, ↓b_store, ↓b_place1, ↓b_place0, ↓b_tableOf, ↓b_sqEnd, ↓b_isCell, Nat.add_assoc, Nat.reduceAdd, k1, h3, e1, ← h0, h, hnm]
      · have hnm : nm = iN 0 := by rw [hnm, if_neg (by omega)]
        simp (disch := omega) only [↓ite_ap, if_true, if_false, if_pos, if_neg, retM_ap, retZ_ap0, retZ_ap1, gM_ap, sM_ap, jM_ap, bI_ap, bL_ap, bD_ap, rdM_ap, wrM_ap, thrM_ap, nl_0, nl_1, nl_2, nl_3, nl_4, nl_5, nl_6, nl_7, nl_8, nl_9, nl_10, nl_11, nl_12, nl_13, nl_25, nl_33, nl_35, nl_45, nl_48, nl_49, nl_50, nl_52, nl_53, nl_57, nl_59, nl_60, nl_61, nl_77, nl_94, nl_97, nl_100, nl_101, nl_119, nl_125, nl_126, nl_137, nl_262, nl_387, nl_500, nl_512, nl_637, nl_999, nl_1022, nl_1137, nl_5685, nm_1b, iN_mI, mI_iN, iN_add, iN_mul, iN_sub, iN_div, iN_rem, iN_lt, iN_le, iN_eq, iN_nat, inB_iN, ↓b_at, ↓b_store, ↓b_place1, ↓b_place0, ↓b_tableOf, ↓b_sqEnd, ↓b_isCell, Nat.add_assoc, Nat.reduceAdd, k1, h3, e1, ← h0, hnm]
    · rw [same h3]
      have hk' : kind = 0 ∨ kind = 1 ∨ kind = 2 ∨ 4 ≤ kind := by have := hk.2.1; omega
      rcases hk' with h | h | h | h
      · have hnm : nm = iN 0 := by rw [hnm, if_neg (by omega)]
        simp (disch := omega) only [↓ite_ap, if_true, if_false, if_pos, if_neg, retM_ap, retZ_ap0, retZ_ap1, gM_ap, sM_ap, jM_ap, bI_ap, bL_ap, bD_ap, rdM_ap, wrM_ap, thrM_ap, nl_0, nl_1, nl_2, nl_3, nl_4, nl_5, nl_6, nl_7, nl_8, nl_9, nl_10, nl_11, nl_12, nl_13, nl_25, nl_33, nl_35, nl_45, nl_48, nl_49, nl_50, nl_52, nl_53, nl_57, nl_59, nl_60, nl_61, nl_77, nl_94, nl_97, nl_100, nl_101, nl_119, nl_125, nl_126, nl_137, nl_262, nl_387, nl_500, nl_512, nl_637, nl_999, nl_1022, nl_1137, nl_5685, nm_1b, iN_mI, mI_iN, iN_add, iN_mul, iN_sub, iN_div, iN_rem, iN_lt, iN_le, iN_eq, iN_nat, inB_iN, ↓b_at, ↓b_store, ↓b_place1, ↓b_place0, ↓b_tableOf, ↓b_sqEnd, ↓b_isCell, Nat.add_assoc, Nat.reduceAdd, k1, h, hnm]
      · have hnm : nm = num := by rw [hnm, if_pos (by omega)]
        simp (disch := omega) only [↓ite_ap, if_true, if_false, if_pos, if_neg, retM_ap, retZ_ap0, retZ_ap1, gM_ap, sM_ap, jM_ap, bI_ap, bL_ap, bD_ap, rdM_ap, wrM_ap, thrM_ap, nl_0, nl_1, nl_2, nl_3, nl_4, nl_5, nl_6, nl_7, nl_8, nl_9, nl_10, nl_11, nl_12, nl_13, nl_25, nl_33, nl_35, nl_45, nl_48, nl_49, nl_50, nl_52, nl_53, nl_57, nl_59, nl_60, nl_61, nl_77, nl_94, nl_97, nl_100, nl_101, nl_119, nl_125, nl_126, nl_137, nl_262, nl_387, nl_500, nl_512, nl_637, nl_999, nl_1022, nl_1137, nl_5685, nm_1b, iN_mI, mI_iN, iN_add, iN_mul, iN_sub, iN_div, iN_rem, iN_lt, iN_le, iN_eq, iN_nat, inB_iN, ↓b_at, ↓b_store, ↓b_place1, ↓b_place0, ↓b_tableOf, ↓b_sqEnd, ↓b_isCell, Nat.add_assoc, Nat.reduceAdd, k1, h, hnm]
      · have hnm : nm = num := by rw [hnm, if_pos (by omega)]
        simp (disch := omega) only [↓ite_ap, if_true, if_false, if_pos, if_neg, retM_ap, retZ_ap0, retZ_ap1, gM_ap, sM_ap, jM_ap, bI_ap, bL_ap, bD_ap, rdM_ap, wrM_ap, thrM_ap, nl_0, nl_1, nl_2, nl_3, nl_4, nl_5, nl_6, nl_7, nl_8, nl_9, nl_10, nl_11, nl_12, nl_13, nl_25, nl_33, nl_35, nl_45, nl_48, nl_49, nl_50, nl_52, nl_53, nl_57, nl_59, nl_60, nl_61, nl_77, nl_94, nl_97, nl_100, nl_101, nl_119, nl_125, nl_126, nl_137, nl_262, nl_387, nl_500, nl_512, nl_637, nl_999, nl_1022, nl_1137, nl_5685, nm_1b, iN_mI, mI_iN, iN_add, iN_mul, iN_sub, iN_div, iN_rem, iN_lt, iN_le, iN_eq, iN_nat, inB_iN, ↓b_at, ↓b_store, ↓b_place1, ↓b_place0, ↓b_tableOf, ↓b_sqEnd, ↓b_isCell, Nat.add_assoc, Nat.reduceAdd, k1, h, hnm]
      · have hnm : nm = iN 0 := by rw [hnm, if_neg (by omega)]
        simp (disch := omega) only [↓ite_ap, if_true, if_false, if_pos, if_neg, retM_ap, retZ_ap0, retZ_ap1, gM_ap, sM_ap, jM_ap, bI_ap, bL_ap, bD_ap, rdM_ap, wrM_ap, thrM_ap, nl_0, nl_1, nl_2, nl_3, nl_4, nl_5, nl_6, nl_7, nl_8, nl_9, nl_10, nl_11, nl_12, nl_13, nl_25, nl_33, nl_35, nl_45, nl_48, nl_49, nl_50, nl_52, nl_53, nl_57, nl_59, nl_60, nl_61, nl_77, nl_94, nl_97, nl_100, nl_101, nl_119, nl_125, nl_126, nl_137, nl_262, nl_387, nl_500, nl_512, nl_637, nl_999, nl_1022, nl_1137, nl_5685, nm_1b, iN_mI, mI_iN, iN_add, iN_mul, iN_sub, iN_div, iN_rem, iN_lt, iN_le, iN_eq, iN_nat, inB_iN, ↓b_at, ↓b_store, ↓b_place1, ↓b_place0, ↓b_tableOf, ↓b_sqEnd, ↓b_isCell, Nat.add_assoc, Nat.reduceAdd, k1, hnm]
  · rw [upM_o (by omega), upM_o (by omega), h0, upM_at]
  · rw [upM_o (by omega), upM_o (by omega), h0, upM_ni (by omega), pu_o (by omega) (by omega) (by omega)]
    exact hr.2.1
  · rw [upM_o (by omega), upM_o (by omega), h0, upM_o (by omega), pu_o (by omega) (by omega) (by omega), pu_o (by omega) (by omega) (by omega)]
    exact hr.2.2.1 t (by omega)
  · rw [upM_o (by omega), upM_o (by omega), h0, upM_o (by omega)]
    exact hr.2.2.2.1 z (by omega) (fun g => hn ((pu_of hw).mpr ⟨g, hz⟩))
  · have h := (pu_of hw).mp hz
    have l1 := isOf_lt hw h.1
    have rz := hr.2.2.2.2.1 z h.1
    refine ⟨?_, ?_, ?_, ?_, ?_, fun i hi => ?_⟩
    · rw [upM_o (by omega), upM_o (by omega), h0, upM_o (by omega), pu_o (by omega) (by omega) (by omega)]
      exact rz.1
    · by_cases e : z = q
      · subst e
        rw [upM_o (by omega), upM_at]
        unfold puS
        rw [if_neg (by omega), if_pos rfl]
      · rw [upM_o (by omega), upM_ni e, h0, upM_o (by omega), pu_o (by omega) (by omega) (by omega)]
        exact rz.2.1
    · by_cases e : z = q
      · subst e
        rw [upM_at, hnm, pu_137]
      · rw [upM_ni e, upM_o (by omega), h0, upM_o (by omega), pu_o (by omega) (by omega) (by omega)]
        exact rz.2.2.1
    · rw [upM_o (by omega), upM_o (by omega), h0, upM_o (by omega), pu_o (by omega) (by omega) (by omega)]
      exact rz.2.2.2.1
    · rw [upM_o (by omega), upM_o (by omega), h0, upM_o (by omega), pu_o (by omega) (by omega) (by omega)]
      exact rz.2.2.2.2.1
    · rw [upM_o (by omega), upM_o (by omega), h0, upM_o (by omega), pu_o (by omega) (by omega) (by omega)]
      exact rz.2.2.2.2.2 i hi
  · have hn' : ¬ isOf s z := fun g => hn ((pu_of hw).mpr ⟨g, hz⟩)
    have rz := hr.2.2.2.2.2.1 z (by omega) hn'
    have e : z ≠ q := fun e => hn' (by rw [e]; exact hm.1.1)
    refine ⟨?_, fun i hi => ?_⟩
    · rw [upM_o (by omega), upM_ni e, h0, upM_o (by omega)]
      exact rz.1
    · rw [upM_o (by omega), upM_o (by omega), h0, upM_o (by omega)]
      exact rz.2 i hi
  · rw [upM_o (by omega), upM_o (by omega), h0, upM_o (by omega)]
    exact hr.2.2.2.2.2.2.1
  · have h := (pu_cl hw hq5).mp hz
    have l1 := isOf_lt hw h.1.1
    rw [pu_ki hk6 l1] at h3
    have e : z ≠ q := fun e => by rw [if_pos e] at h3; exact hk.2.1 h3
    rw [if_neg e] at h3
    rw [pu_nu hq5, if_neg e, upM_o (by omega), upM_o (by omega), h0, upM_o (by omega)]
    exact hr.2.2.2.2.2.2.2 z h.1 h3
  · rw [upM_o (by omega), upM_o (by omega), h0, upM_o (by omega)]
end Puts

