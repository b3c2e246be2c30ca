/-! STEPS THAT CHANGE THE SHEET: PUT, RULE, SET -/
theorem sv_le {n : Nat} (h : n ≤ 6) : svN n ≤ 6 := by
  unfold svN
  by_cases g : n < 6
  · rw [if_pos g]; omega
  · rw [if_neg g]; exact Nat.le_refl _
/-! a rule of a cell -/
section Rule
variable {s : Sv} {q i r : Nat}
theorem ru_o {j : Nat} (h : j < 637) : upS s (637 + (4 * q + i)) (iN r) j = s j := up_o (by omega)
theorem ru_tb : tbS (upS s (637 + (4 * q + i)) (iN r)) = tbS s := by unfold tbS; rw [ru_o (by omega)]
theorem ru_of (hw : WF s) {z : Nat} (hz : z < 125) : isOf (upS s (637 + (4 * q + i)) (iN r)) z ↔ isOf s z := by
  unfold isOf roS coS
  rw [ru_tb, ru_o (by omega), ru_o (by omega)]
theorem ru_of2 (hw : WF s) {z : Nat} : isOf (upS s (637 + (4 * q + i)) (iN r)) z ↔ isOf s z := by
  have t5 := hw.1.2.2
  constructor
  · intro h
    have h1 := h.1
    rw [ru_tb] at h1
    exact (ru_of hw (by omega)).mp h
  · intro h
    exact (ru_of hw (isOf_lt hw h)).mpr h
theorem ru_ow {z : Nat} (hz : z < 125) : owS (upS s (637 + (4 * q + i)) (iN r)) z = owS s z := by unfold owS; rw [ru_o (by omega)]
theorem ru_hi {z : Nat} (hz : z < 125) : hiS (upS s (637 + (4 * q + i)) (iN r)) z = hiS s z := by unfold hiS; rw [ru_o (by omega)]
theorem ru_br {z : Nat} (hz : z < 125) : brS (upS s (637 + (4 * q + i)) (iN r)) z = brS s z := by unfold brS; rw [ru_o (by omega)]
theorem ru_ki {z : Nat} (hz : z < 125) : kiS (upS s (637 + (4 * q + i)) (iN r)) z = kiS s z := by unfold kiS; rw [ru_o (by omega)]
theorem ru_nu {z : Nat} (hz : z < 125) : nuS (upS s (637 + (4 * q + i)) (iN r)) z = nuS s z := by unfold nuS; rw [ru_o (by omega)]
theorem ru_cl (hw : WF s) {z : Nat} : isCl (upS s (637 + (4 * q + i)) (iN r)) z ↔ isCl s z := by
  constructor
  · intro h
    have h1 := (ru_of2 hw).mp h.1
    have h2 := h.2
    rw [ru_ow (isOf_lt hw h1)] at h2
    exact ⟨h1, h2⟩
  · intro h
    exact ⟨(ru_of2 hw).mpr h.1, by rw [ru_ow (isOf_lt hw h.1)]; exact h.2⟩
theorem ru_rc (hw : WF s) {o z : Nat} (ho : o < 125) : inRc (upS s (637 + (4 * q + i)) (iN r)) o z ↔ inRc s o z := by
  unfold inRc
  rw [ru_hi ho, ru_br ho]
theorem ru_WF (hw : WF s) (hr : r ≤ 3) : WF (upS s (637 + (4 * q + i)) (iN r)) := by
  have t5 := hw.1.2.2
  refine ⟨?_, ?_, fun t ht => ?_, fun z hz => ?_, fun o ho => ?_, fun z hz => ?_, fun z hz => ?_, fun t h1 ht => ?_, fun z z' hz hz' h3 h3' he => ?_⟩
  · rw [ru_tb, ru_o (by omega)]; exact hw.1
  · rw [ru_o (by omega)]; exact hw.2.1
  · rw [ru_tb] at ht
    unfold roS coS
    rw [ru_o (by omega), ru_o (by omega)]
    exact hw.2.2.1 t ht
  · have hz' := (ru_of2 hw).mp hz
    have l1 := isOf_lt hw hz'
    have w := hw.2.2.2.1 z hz'
    rw [ru_ow l1, ru_o (by omega), ru_cl hw, ru_rc hw (isOf_lt hw w.2.1.1)]
    exact w
  · have ho' := (ru_cl hw).mp ho
    have l1 := isOf_lt hw ho'.1
    have w := hw.2.2.2.2.1 o ho'
    have t6 := ho'.1.1
    rw [ru_hi l1, ru_br l1, ru_o (by omega), ru_o (by omega)]
    refine ⟨w.1, w.2.1, w.2.2.1, w.2.2.2.1, ?_, ?_, fun z hz => ?_⟩
    · unfold roS
      rw [ru_o (by omega)]
      exact w.2.2.2.2.1
    · unfold coS
      rw [ru_o (by omega)]
      exact w.2.2.2.2.2.1
    · have g := (ru_rc hw l1).mp hz
      have : z < 125 := by have := g.1; omega
      rw [ru_ow this]
      exact w.2.2.2.2.2.2 z g
  · have hz' := (ru_of2 hw).mp hz
    have l1 := isOf_lt hw hz'
    have w := hw.2.2.2.2.2.1 z hz'
    rw [ru_ki l1, ru_ow l1, ru_o (by omega)]
    refine ⟨w.1, w.2.1, fun i' hi' => ?_, w.2.2.2⟩
    by_cases e : 4 * z + i' = 4 * q + i
    · unfold ruS
      rw [e, up_at, nv_iN (by omega)]
      exact ⟨rfl, hr⟩
    · unfold ruS
      rw [up_o (by omega)]
      exact w.2.2.1 i' hi'
  · have hz' := (ru_cl hw).mp hz
    have l1 := isOf_lt hw hz'.1
    rw [ru_ki l1, ru_nu l1, ru_tb]
    exact hw.2.2.2.2.2.2.1 z hz'
  · rw [ru_tb] at ht
    obtain ⟨z, a1, a2, a3⟩ := hw.2.2.2.2.2.2.2.1 t h1 ht
    have l1 := isOf_lt hw a1.1
    exact ⟨z, (ru_cl hw).mpr a1, by rw [ru_ki l1]; exact a2, by rw [ru_nu l1]; exact a3⟩
  · have g := (ru_cl hw).mp hz
    have g' := (ru_cl hw).mp hz'
    have l1 := isOf_lt hw g.1
    have l2 := isOf_lt hw g'.1
    rw [ru_ki l1] at h3
    rw [ru_ki l2] at h3'
    rw [ru_nu l1, ru_nu l2] at he
    exact hw.2.2.2.2.2.2.2.2 z z' g g' h3 h3' he
theorem ru_Rel {b : Nat} {σ : Mm} (hw : WF s) (hr : Rel b s σ) (hq : isOf s q) (hi : i < 4) : Rel b (upS s (637 + (4 * q + i)) (iN r)) (upM σ (b + 14) (4 * q + i) (iN r)) := by
  have t5 := hw.1.2.2
  refine ⟨?_, ?_, fun t ht => ?_, fun z hz hn => ?_, fun z hz => ?_, fun z hz hn => ?_, ?_, fun z hz h3 => ?_⟩
  · rw [upM_o (by omega), ru_o (by omega)]; exact hr.1
  · rw [upM_o (by omega), ru_o (by omega)]; exact hr.2.1
  · rw [ru_tb] at ht
    rw [upM_o (by omega), ru_o (by omega), ru_o (by omega)]
    exact hr.2.2.1 t ht
  · rw [ru_tb] at hz
    rw [upM_o (by omega)]
    exact hr.2.2.2.1 z hz (fun g => hn ((ru_of2 hw).mpr g))
  · have g := (ru_of2 hw).mp hz
    have l1 := isOf_lt hw g
    have rz := hr.2.2.2.2.1 z g
    refine ⟨by rw [upM_o (by omega), ru_o (by omega)]; exact rz.1, by rw [upM_o (by omega), ru_o (by omega)]; exact rz.2.1, by rw [upM_o (by omega), ru_o (by omega)]; exact rz.2.2.1, by rw [upM_o (by omega), ru_o (by omega)]; exact rz.2.2.2.1, by rw [upM_o (by omega), ru_o (by omega)]; exact rz.2.2.2.2.1, fun i' hi' => ?_⟩
    by_cases e : 4 * z + i' = 4 * q + i
    · rw [e, upM_at, up_at]
    · rw [upM_ni e, up_o (by omega)]
      exact rz.2.2.2.2.2 i' hi'
  · rw [ru_tb] at hz
    have hn' : ¬ isOf s z := fun g => hn ((ru_of2 hw).mpr g)
    have rz := hr.2.2.2.2.2.1 z hz hn'
    have ne : z ≠ q := fun e => hn' (by rw [e]; exact hq)
    refine ⟨by rw [upM_o (by omega)]; exact rz.1, fun i' hi' => ?_⟩
    rw [upM_ni (by omega)]
    exact rz.2 i' hi'
  · rw [upM_o (by omega)]
    exact hr.2.2.2.2.2.2.1
  · have g := (ru_cl hw).mp hz
    have l1 := isOf_lt hw g.1
    rw [ru_ki l1] at h3
    rw [ru_nu l1, upM_o (by omega)]
    exact hr.2.2.2.2.2.2.2 z g h3
end Rule
