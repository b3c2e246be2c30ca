/-! BEGIN AND NEST, AS STEPS -/
def neS (s : Sv) (q : Nat) : Sv := upS (upS s (12 + q) (iN 3)) (137 + q) (iN (tbS s))
section Nest
variable {s : Sv} {q : Nat}
theorem ne_o {j : Nat} (h1 : j ≠ 12 + q) (h2 : j ≠ 137 + q) : neS s q j = s j := by
  unfold neS
  rw [up_o h2, up_o h1]
theorem ne_tb : tbS (neS s q) = tbS s := by unfold tbS; rw [ne_o (by omega) (by omega)]
theorem ne_ro {t : Nat} (ht : t < 5) : roS (neS s q) t = roS s t := by unfold roS; rw [ne_o (by omega) (by omega)]
theorem ne_co {t : Nat} (ht : t < 5) : coS (neS s q) t = coS s t := by unfold coS; rw [ne_o (by omega) (by omega)]
theorem ne_ow (hq : q < 125) {z : Nat} : owS (neS s q) z = owS s z := by unfold owS; rw [ne_o (by omega) (by omega)]
theorem ne_hi (hq : q < 125) {z : Nat} : hiS (neS s q) z = hiS s z := by unfold hiS; rw [ne_o (by omega) (by omega)]
theorem ne_br (hq : q < 125) {z : Nat} : brS (neS s q) z = brS s z := by unfold brS; rw [ne_o (by omega) (by omega)]
theorem ne_ru (hq : q < 125) {i : Nat} : ruS (neS s q) i = ruS s i := by unfold ruS; rw [ne_o (by omega) (by omega)]
theorem ne_12 : neS s q (12 + q) = iN 3 := by
  unfold neS
  rw [up_o (by omega), up_at]
theorem ne_137 : neS s q (137 + q) = iN (tbS s) := by
  unfold neS
  rw [up_at]
theorem ne_ki {z : Nat} (hz : z < 125) : kiS (neS s q) z = if z = q then 3 else kiS s z := by
  unfold kiS
  by_cases e : z = q
  · rw [if_pos e, e, ne_12]
    exact nv_iN (by omega)
  · rw [if_neg e, ne_o (by omega) (by omega)]
theorem ne_nu (hq : q < 125) {z : Nat} : nuS (neS s q) z = if z = q then iN (tbS s) else nuS s z := by
  unfold nuS
  by_cases e : z = q
  · rw [if_pos e, e, ne_137]
  · rw [if_neg e, ne_o (by omega) (by omega)]
theorem ne_of (hw : WF s) {z : Nat} : isOf (neS s q) z ↔ isOf s z := by
  have t5 := hw.1.2.2
  unfold isOf
  rw [ne_tb]
  constructor
  · rintro ⟨a, b, c⟩
    rw [ne_ro (by omega)] at b
    rw [ne_co (by omega)] at c
    exact ⟨a, b, c⟩
  · rintro ⟨a, b, c⟩
    rw [ne_ro (by omega), ne_co (by omega)]
    exact ⟨a, b, c⟩
theorem ne_cl (hw : WF s) (hq : q < 125) {z : Nat} : isCl (neS s q) z ↔ isCl s z := by
  unfold isCl
  rw [ne_of hw, ne_ow hq]
theorem ne_rc (hq : q < 125) {o z : Nat} : inRc (neS s q) o z ↔ inRc s o z := by
  unfold inRc
  rw [ne_hi hq, ne_br hq]
theorem ne_b (hw : WF s) (hq : isCl s q) (h0 : kiS s q = 0) (ht : tbS s < 5) : WFb (neS s q) (tbS s) := by
  have t5 := hw.1.2.2
  have t1 := hw.1.2.1
  have hq5 := isOf_lt hw hq.1
  refine ⟨⟨?_, ne_tb, ht⟩, ?_, fun t' h' => ?_, fun z hz => ?_, fun o ho => ?_, fun z hz => ?_, fun z hz => ?_, fun t' h1 h2 => ?_, fun z z' hz hz' h3 h3' he => ?_⟩
  · rw [ne_o (by omega) (by omega)]; exact hw.1.1
  · rw [ne_o (by omega) (by omega)]; exact hw.2.1
  · rw [ne_ro (by omega), ne_co (by omega), ne_o (by omega) (by omega), ne_o (by omega) (by omega)]
    exact hw.2.2.1 t' h'
  · have w := hw.2.2.2.1 z ((ne_of hw).mp hz)
    rw [ne_ow hq5, ne_o (by omega) (by omega), ne_cl hw hq5, ne_rc hq5]
    exact w
  · have ho' := (ne_cl hw hq5).mp ho
    have w := hw.2.2.2.2.1 o ho'
    have := ho'.1.1
    rw [ne_hi hq5, ne_br hq5, ne_ro (by omega), ne_co (by omega), ne_o (by omega) (by omega), ne_o (by omega) (by omega)]
    refine ⟨w.1, w.2.1, w.2.2.1, w.2.2.2.1, w.2.2.2.2.1, w.2.2.2.2.2.1, fun z hz => ?_⟩
    rw [ne_ow hq5]
    exact w.2.2.2.2.2.2 z ((ne_rc hq5).mp hz)
  · have hz' := (ne_of hw).mp hz
    have l1 := isOf_lt hw hz'
    have w := hw.2.2.2.2.2.1 z hz'
    rw [ne_ki l1, ne_ow hq5]
    refine ⟨?_, ?_, fun i hi => ?_, fun hne => ?_⟩
    · by_cases e : z = q
      · rw [if_pos e, e, ne_12]
      · rw [if_neg e, ne_o (by omega) (by omega)]; exact w.1
    · by_cases e : z = q
      · rw [if_pos e]; omega
      · rw [if_neg e]; exact w.2.1
    · rw [ne_ru hq5, ne_o (by omega) (by omega)]
      exact w.2.2.1 i hi
    · have e : z ≠ q := fun e => by rw [e] at hne; exact hne hq.2
      rw [if_neg e]
      exact w.2.2.2 hne
  · have hz' := (ne_cl hw hq5).mp hz
    have l1 := isOf_lt hw hz'.1
    have w := hw.2.2.2.2.2.2.1 z hz'
    rw [ne_ki l1, ne_nu hq5]
    by_cases e : z = q
    · rw [if_pos e, if_pos e, e, nv_iN (by omega)]
      exact ⟨fun g => by omega, fun g => by omega, fun _ => ⟨rfl, hq.1.1, by omega⟩⟩
    · rw [if_neg e, if_neg e]
      exact ⟨w.1, w.2.1, fun h3 => ⟨(w.2.2 h3).1, (w.2.2 h3).2.1, by have := (w.2.2 h3).2.2; omega⟩⟩
  · by_cases e : t' = tbS s
    · refine ⟨q, (ne_cl hw hq5).mpr hq, ?_, ?_⟩
      · rw [ne_ki hq5, if_pos rfl]
      · rw [ne_nu hq5, if_pos rfl, nv_iN (by omega), e]
    · obtain ⟨z, a1, a2, a3⟩ := hw.2.2.2.2.2.2.2.1 t' h1 (by omega)
      have l1 := isOf_lt hw a1.1
      have ne : z ≠ q := fun g => by rw [g, h0] at a2; omega
      refine ⟨z, (ne_cl hw hq5).mpr a1, ?_, ?_⟩
      · rw [ne_ki l1, if_neg ne]; exact a2
      · rw [ne_nu hq5, if_neg ne]; exact a3
  · have g := (ne_cl hw hq5).mp hz
    have g' := (ne_cl hw hq5).mp hz'
    have l1 := isOf_lt hw g.1
    have l2 := isOf_lt hw g'.1
    rw [ne_ki l1] at h3
    rw [ne_ki l2] at h3'
    rw [ne_nu hq5, ne_nu hq5] at he
    by_cases e : z = q
    · by_cases e' : z' = q
      · rw [e, e']
      · rw [if_neg e'] at h3' he
        rw [if_pos e, nv_iN (by omega)] at he
        have := ((hw.2.2.2.2.2.2.1 z' g').2.2 h3').2.2
        omega
    · rw [if_neg e] at h3 he
      by_cases e' : z' = q
      · rw [if_pos e', nv_iN (by omega)] at he
        have := ((hw.2.2.2.2.2.2.1 z g).2.2 h3).2.2
        omega
      · rw [if_neg e'] at h3' he
        exact hw.2.2.2.2.2.2.2.2 z z' g g' h3 h3' he
theorem ne_R {b : Nat} {σ : Mm} (hw : WF s) (hr : Rel b s σ) (hq : isCl s q) (h0 : kiS s q = 0) : RelT b (neS s q) (tbS s) (upM (upM σ (b + 8) q (iN 3)) (b + 10) q (iN (tbS s))) := by
  have t5 := hw.1.2.2
  have hq5 := isOf_lt hw hq.1
  refine ⟨?_, ?_, fun t' h' => ?_, fun z hz hn => ?_, fun z hz => ?_, fun z hz hn => ?_, fun _ => ?_, fun z hz h3 hlt => ?_⟩
  · rw [upM_o (by omega), upM_o (by omega)]; exact hr.1.trans hw.1.1
  · rw [upM_o (by omega), upM_o (by omega), ne_o (by omega) (by omega)]; exact hr.2.1
  · rw [upM_o (by omega), upM_o (by omega), ne_o (by omega) (by omega), ne_o (by omega) (by omega)]; exact hr.2.2.1 t' h'
  · rw [upM_o (by omega), upM_o (by omega)]
    exact hr.2.2.2.1 z hz (fun g => hn ((ne_of hw).mpr g))
  · have hz' := (ne_of hw).mp hz
    have l1 := isOf_lt hw hz'
    have rz := hr.2.2.2.2.1 z hz'
    refine ⟨?_, ?_, ?_, ?_, ?_, fun i hi => ?_⟩
    · rw [upM_o (by omega), upM_o (by omega), ne_o (by omega) (by omega)]; exact rz.1
    · by_cases e : z = q
      · rw [e, upM_o (by omega), upM_at, ne_12]
      · rw [upM_o (by omega), upM_ni e, ne_o (by omega) (by omega)]; exact rz.2.1
    · by_cases e : z = q
      · rw [e, upM_at, ne_137]
      · rw [upM_ni e, upM_o (by omega), ne_o (by omega) (by omega)]; exact rz.2.2.1
    · rw [upM_o (by omega), upM_o (by omega), ne_o (by omega) (by omega)]; exact rz.2.2.2.1
    · rw [upM_o (by omega), upM_o (by omega), ne_o (by omega) (by omega)]; exact rz.2.2.2.2.1
    · rw [upM_o (by omega), upM_o (by omega), ne_o (by omega) (by omega)]; exact rz.2.2.2.2.2 i hi
  · have hn' : ¬ isOf s z := fun g => hn ((ne_of hw).mpr g)
    have rz := hr.2.2.2.2.2.1 z hz hn'
    have e : z ≠ q := fun e => hn' (by rw [e]; exact hq.1)
    refine ⟨?_, fun i hi => ?_⟩
    · rw [upM_o (by omega), upM_ni e]; exact rz.1
    · rw [upM_o (by omega), upM_o (by omega)]; exact rz.2 i hi
  · rw [upM_o (by omega), upM_o (by omega)]; exact hr.2.2.2.2.2.2.1
  · have g := (ne_cl hw hq5).mp hz
    have l1 := isOf_lt hw g.1
    rw [ne_ki l1] at h3
    rw [ne_nu hq5] at hlt ⊢
    have e : z ≠ q := fun e => by
      rw [if_pos e, nv_iN (by omega)] at hlt
      omega
    rw [if_neg e] at h3 ⊢
    rw [upM_o (by omega), upM_o (by omega)]
    exact hr.2.2.2.2.2.2.2 z g h3
end Nest
