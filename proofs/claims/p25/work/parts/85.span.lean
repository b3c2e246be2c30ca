/-! SPAN: THE SHEET BEHIND IT -/
/-- the rectangle -/
abbrev inN (q hi br z : Nat) : Prop := z / 25 = q / 25 ∧ q % 25 / 5 ≤ z % 25 / 5 ∧ z % 25 / 5 < q % 25 / 5 + hi ∧ q % 5 ≤ z % 5 ∧ z % 5 < q % 5 + br
def nB (q hi br z : Nat) : Bool := decide (z / 25 = q / 25) && decide (q % 25 / 5 ≤ z % 25 / 5) && decide (z % 25 / 5 < q % 25 / 5 + hi) && decide (q % 5 ≤ z % 5) && decide (z % 5 < q % 5 + br)
theorem nB_iff {q hi br z : Nat} : nB q hi br z = true ↔ inN q hi br z := by
  unfold nB inN
  simp only [Bool.and_eq_true, decide_eq_true_eq, and_assoc]
/-- squares other than the cell's own that it gives back or takes -/
def oB (s : Sv) (q z : Nat) : Bool := decide (z ≠ q) && decide (z / 25 = q / 25) && decide (s (512 + z) = iN q)
def xB (q hi br z : Nat) : Bool := decide (z ≠ q) && nB q hi br z
def chB (s : Sv) (q hi br z : Nat) : Bool := oB s q z || xB q hi br z
def spS (s : Sv) (q hi br : Nat) : Sv := fun j =>
  if 12 ≤ j ∧ j < 137 then (if chB s q hi br (j - 12) = true then iN 0 else s j)
  else if 137 ≤ j ∧ j < 262 then (if chB s q hi br (j - 137) = true then iN 0 else s j)
  else if 262 ≤ j ∧ j < 387 then (if j = 262 + q then iN hi else if chB s q hi br (j - 262) = true then iN 1 else s j)
  else if 387 ≤ j ∧ j < 512 then (if j = 387 + q then iN br else if chB s q hi br (j - 387) = true then iN 1 else s j)
  else if 512 ≤ j ∧ j < 637 then (if xB q hi br (j - 512) = true then iN q else if oB s q (j - 512) = true then iN (j - 512) else s j)
  else if 637 ≤ j ∧ j < 1137 then (if chB s q hi br ((j - 637) / 4) = true then iN 0 else s j)
  else s j
/-- may the cell cover the rectangle -/
def cvO (s : Sv) (q hi br : Nat) : Prop := ∀ z, inN q hi br z → owS s z = q ∨ (kiS s (owS s z) = 0 ∧ hiS s (owS s z) = 1 ∧ brS s (owS s z) = 1)
section Span
variable {s : Sv} {q hi br : Nat}
theorem sp_lo {j : Nat} (h : j < 12) : spS s q hi br j = s j := by
  unfold spS
  rw [if_neg (by omega), if_neg (by omega), if_neg (by omega), if_neg (by omega), if_neg (by omega), if_neg (by omega)]
theorem sp_12 {z : Nat} (hz : z < 125) : spS s q hi br (12 + z) = if chB s q hi br z = true then iN 0 else s (12 + z) := by
  unfold spS
  rw [if_pos (by omega), Nat.add_sub_cancel_left]
theorem sp_137 {z : Nat} (hz : z < 125) : spS s q hi br (137 + z) = if chB s q hi br z = true then iN 0 else s (137 + z) := by
  unfold spS
  rw [if_neg (by omega), if_pos (by omega), Nat.add_sub_cancel_left]
theorem sp_262 {z : Nat} (hz : z < 125) : spS s q hi br (262 + z) = if z = q then iN hi else if chB s q hi br z = true then iN 1 else s (262 + z) := by
  unfold spS
  rw [if_neg (by omega), if_neg (by omega), if_pos (by omega), Nat.add_sub_cancel_left]
  by_cases e : z = q
  · rw [if_pos (by omega), if_pos e]
  · rw [if_neg (by omega), if_neg e]
theorem sp_387 {z : Nat} (hz : z < 125) : spS s q hi br (387 + z) = if z = q then iN br else if chB s q hi br z = true then iN 1 else s (387 + z) := by
  unfold spS
  rw [if_neg (by omega), if_neg (by omega), if_neg (by omega), if_pos (by omega), Nat.add_sub_cancel_left]
  by_cases e : z = q
  · rw [if_pos (by omega), if_pos e]
  · rw [if_neg (by omega), if_neg e]
theorem sp_512 {z : Nat} (hz : z < 125) : spS s q hi br (512 + z) = if xB q hi br z = true then iN q else if oB s q z = true then iN z else s (512 + z) := by
  unfold spS
  rw [if_neg (by omega), if_neg (by omega), if_neg (by omega), if_neg (by omega), if_pos (by omega), Nat.add_sub_cancel_left]
theorem sp_637 {z i : Nat} (hz : z < 125) (hi4 : i < 4) : spS s q hi br (637 + (4 * z + i)) = if chB s q hi br z = true then iN 0 else s (637 + (4 * z + i)) := by
  unfold spS
  rw [if_neg (by omega), if_neg (by omega), if_neg (by omega), if_neg (by omega), if_neg (by omega), if_pos (by omega), show (637 + (4 * z + i) - 637) / 4 = z by omega]
theorem sp_tb : tbS (spS s q hi br) = tbS s := by unfold tbS; rw [sp_lo (by omega)]
theorem sp_ro {t : Nat} (ht : t < 5) : roS (spS s q hi br) t = roS s t := by unfold roS; rw [sp_lo (by omega)]
theorem sp_co {t : Nat} (ht : t < 5) : coS (spS s q hi br) t = coS s t := by unfold coS; rw [sp_lo (by omega)]
theorem sp_of (hw : WF s) {z : Nat} : isOf (spS s q hi br) z ↔ isOf s z := by
  have t5 := hw.1.2.2
  unfold isOf
  rw [sp_tb]
  constructor
  · rintro ⟨a, b, c⟩
    rw [sp_ro (by omega)] at b
    rw [sp_co (by omega)] at c
    exact ⟨a, b, c⟩
  · rintro ⟨a, b, c⟩
    rw [sp_ro (by omega), sp_co (by omega)]
    exact ⟨a, b, c⟩
theorem oB_iff (hw : WF s) (hq : q < 125) {z : Nat} (hz : isOf s z) : oB s q z = true ↔ z ≠ q ∧ owS s z = q := by
  have w := hw.2.2.2.1 z hz
  have l2 := isOf_lt hw w.2.1.1
  unfold oB
  rw [Bool.and_eq_true, Bool.and_eq_true, decide_eq_true_eq, decide_eq_true_eq, decide_eq_true_eq, w.1, iN_eq (by omega) (by omega)]
  exact ⟨fun h => ⟨h.1.1, h.2⟩, fun h => ⟨⟨h.1, by have := w.2.2.1; rw [h.2] at this; exact this⟩, h.2⟩⟩
theorem xB_iff {z : Nat} : xB q hi br z = true ↔ z ≠ q ∧ inN q hi br z := by
  unfold xB
  rw [Bool.and_eq_true, decide_eq_true_eq, nB_iff]
theorem chB_q : chB s q hi br q = false := by
  unfold chB oB xB
  rw [decide_eq_false (not_not_intro rfl)]
  rfl
/-- a square that is changed: the cell's own of old, or one to be covered -/
theorem ch_iff (hw : WF s) (hq : q < 125) {z : Nat} (hz : isOf s z) : chB s q hi br z = true ↔ z ≠ q ∧ (owS s z = q ∨ inN q hi br z) := by
  unfold chB
  rw [Bool.or_eq_true, oB_iff hw hq hz, xB_iff]
  exact ⟨fun h => h.elim (fun g => ⟨g.1, .inl g.2⟩) (fun g => ⟨g.1, .inr g.2⟩), fun h => h.2.elim (fun g => .inl ⟨h.1, g⟩) (fun g => .inr ⟨h.1, g⟩)⟩
theorem sp_ki {z : Nat} (hz : z < 125) : kiS (spS s q hi br) z = if chB s q hi br z = true then 0 else kiS s z := by
  unfold kiS
  rw [sp_12 hz]
  by_cases h : chB s q hi br z = true
  · rw [if_pos h, if_pos h]
    exact nv_iN (by omega)
  · rw [if_neg h, if_neg h]
theorem sp_nu {z : Nat} (hz : z < 125) : nuS (spS s q hi br) z = if chB s q hi br z = true then iN 0 else nuS s z := by
  unfold nuS
  rw [sp_137 hz]
theorem sp_hiS {z : Nat} (hz : z < 125) (h5 : hi ≤ 5) : hiS (spS s q hi br) z = if z = q then hi else if chB s q hi br z = true then 1 else hiS s z := by
  unfold hiS
  rw [sp_262 hz]
  by_cases e : z = q
  · rw [if_pos e, if_pos e]
    exact nv_iN (by omega)
  · rw [if_neg e, if_neg e]
    by_cases h : chB s q hi br z = true
    · rw [if_pos h, if_pos h]
      exact nv_iN (by omega)
    · rw [if_neg h, if_neg h]
theorem sp_brS {z : Nat} (hz : z < 125) (h5 : br ≤ 5) : brS (spS s q hi br) z = if z = q then br else if chB s q hi br z = true then 1 else brS s z := by
  unfold brS
  rw [sp_387 hz]
  by_cases e : z = q
  · rw [if_pos e, if_pos e]
    exact nv_iN (by omega)
  · rw [if_neg e, if_neg e]
    by_cases h : chB s q hi br z = true
    · rw [if_pos h, if_pos h]
      exact nv_iN (by omega)
    · rw [if_neg h, if_neg h]
theorem sp_ow {z : Nat} (hq : q < 125) (hz : z < 125) : owS (spS s q hi br) z = if xB q hi br z = true then q else if oB s q z = true then z else owS s z := by
  unfold owS
  rw [sp_512 hz]
  by_cases h : xB q hi br z = true
  · rw [if_pos h, if_pos h]
    exact nv_iN (by omega)
  · rw [if_neg h, if_neg h]
    by_cases h : oB s q z = true
    · rw [if_pos h, if_pos h]
      exact nv_iN (by omega)
    · rw [if_neg h, if_neg h]
theorem sp_ru {z i : Nat} (hz : z < 125) (hi4 : i < 4) : ruS (spS s q hi br) (4 * z + i) = if chB s q hi br z = true then 0 else ruS s (4 * z + i) := by
  unfold ruS
  rw [sp_637 hz hi4]
  by_cases h : chB s q hi br z = true
  · rw [if_pos h, if_pos h]
    exact nv_iN (by omega)
  · rw [if_neg h, if_neg h]
/-- what the rectangle asks for -/
def fitN (s : Sv) (q hi br : Nat) : Prop := isCl s q ∧ 1 ≤ hi ∧ hi ≤ 5 ∧ 1 ≤ br ∧ br ≤ 5 ∧ q % 25 / 5 + hi ≤ roS s (q / 25) ∧ q % 5 + br ≤ coS s (q / 25) ∧ cvO s q hi br
theorem fit_of (hw : WF s) (hf : fitN s q hi br) {z : Nat} (h : inN q hi br z) : isOf s z := by
  obtain ⟨hc, _, _, _, _, f1, f2, _⟩ := hf
  refine ⟨by have := hc.1.1; have := h.1; omega, ?_, ?_⟩
  · rw [h.1]; have := h.2.2.1; omega
  · rw [h.1]; have := h.2.2.2.2; omega
/-- a cell other than q that stays as it is -/
theorem sp_keep (hw : WF s) (hf : fitN s q hi br) {w : Nat} (hc : isCl s w) (hne : w ≠ q) (h : kiS s w ≠ 0 ∨ ¬ inN q hi br w) : chB s q hi br w = false := by
  have hq5 := isOf_lt hw hf.1.1
  cases e : chB s q hi br w
  · rfl
  · have g := (ch_iff hw hq5 hc.1).mp e
    rcases g.2 with g2 | g2
    · rw [hc.2] at g2
      exact absurd g2 hne
    · have cv := hf.2.2.2.2.2.2.2 w g2
      rw [hc.2] at cv
      rcases cv with cv | cv
      · exact absurd cv hne
      · rcases h with h | h
        · exact absurd cv.1 h
        · exact absurd g2 h
theorem sp_own (hw : WF s) (hf : fitN s q hi br) {z : Nat} (hz : isOf s z) : owS (spS s q hi br) z = if inN q hi br z ∧ z ≠ q then q else if owS s z = q then z else owS s z := by
  have hq5 := isOf_lt hw hf.1.1
  have l1 := isOf_lt hw hz
  rw [sp_ow hq5 l1]
  by_cases h : xB q hi br z = true
  · have := xB_iff.mp h
    rw [if_pos h, if_pos ⟨this.2, this.1⟩]
  · have n1 : ¬ (inN q hi br z ∧ z ≠ q) := fun g => h (xB_iff.mpr ⟨g.2, g.1⟩)
    rw [if_neg h, if_neg n1]
    by_cases h2 : oB s q z = true
    · have := (oB_iff hw hq5 hz).mp h2
      rw [if_pos h2, if_pos this.2]
    · rw [if_neg h2]
      by_cases h3 : owS s z = q
      · have e : z = q := by
          by_cases e : z = q
          · exact e
          · exact absurd ((oB_iff hw hq5 hz).mpr ⟨e, h3⟩) h2
        rw [if_pos h3, h3, e]
      · rw [if_neg h3]
theorem sp_cl (hw : WF s) (hf : fitN s q hi br) {z : Nat} : isCl (spS s q hi br) z ↔ isOf s z ∧ (z = q ∨ (z ≠ q ∧ ¬ inN q hi br z ∧ (owS s z = q ∨ owS s z = z))) := by
  unfold isCl
  rw [sp_of hw]
  constructor
  · rintro ⟨a, b⟩
    refine ⟨a, ?_⟩
    rw [sp_own hw hf a] at b
    by_cases e : z = q
    · exact .inl e
    · by_cases h : inN q hi br z ∧ z ≠ q
      · rw [if_pos h] at b
        exact absurd b.symm e
      · rw [if_neg h] at b
        refine .inr ⟨e, fun g => h ⟨g, e⟩, ?_⟩
        by_cases h3 : owS s z = q
        · exact .inl h3
        · rw [if_neg h3] at b
          exact .inr b
  · rintro ⟨a, b⟩
    refine ⟨a, ?_⟩
    rw [sp_own hw hf a]
    rcases b with b | ⟨b1, b2, b3⟩
    · rw [if_neg (fun g => g.2 b), b, hf.1.2, if_pos rfl]
    · rw [if_neg (fun g => b2 g.1)]
      rcases b3 with b3 | b3
      · rw [if_pos b3]
      · by_cases h3 : owS s z = q
        · rw [if_pos h3]
        · rw [if_neg h3, b3]
theorem sp_WF (hw : WF s) (hf : fitN s q hi br) : WF (spS s q hi br) := by
  have t5 := hw.1.2.2
  have hq5 := isOf_lt hw hf.1.1
  obtain ⟨hc, h1, h5, b1, b5, f1, f2, cv⟩ := hf
  have hf : fitN s q hi br := ⟨hc, h1, h5, b1, b5, f1, f2, cv⟩
  have qin : inN q hi br q := ⟨rfl, Nat.le_refl _, by omega, Nat.le_refl _, by omega⟩
  have kq : chB s q hi br q = false := chB_q
  refine ⟨?_, ?_, fun t ht => ?_, fun z hz => ?_, fun o ho => ?_, fun z hz => ?_, fun z hz => ?_, fun t g1 ht => ?_, fun z z' hz hz' h3 h3' he => ?_⟩
  · rw [sp_tb, sp_lo (by omega)]; exact hw.1
  · rw [sp_lo (by omega)]; exact hw.2.1
  · rw [sp_tb] at ht
    rw [sp_ro (by omega), sp_co (by omega), sp_lo (by omega), sp_lo (by omega)]
    exact hw.2.2.1 t ht
  · have hz' := (sp_of hw).mp hz
    have l1 := isOf_lt hw hz'
    have w := hw.2.2.2.1 z hz'
    have lw := isOf_lt hw w.2.1.1
    have eo := sp_own hw hf hz'
    have e512 : spS s q hi br (512 + z) = iN (owS (spS s q hi br) z) := by
      rw [sp_512 l1, sp_ow hq5 l1]
      by_cases h : xB q hi br z = true
      · rw [if_pos h, if_pos h]
      · rw [if_neg h, if_neg h]
        by_cases h : oB s q z = true
        · rw [if_pos h, if_pos h]
        · rw [if_neg h, if_neg h]
          exact w.1
    refine ⟨e512, ?_⟩
    rw [eo, sp_cl hw hf]
    by_cases c1 : inN q hi br z ∧ z ≠ q
    · rw [if_pos c1]
      refine ⟨⟨hc.1, .inl rfl⟩, ?_⟩
      unfold inRc
      rw [sp_hiS hq5 h5, sp_brS hq5 b5, if_pos rfl, if_pos rfl]
      exact c1.1
    · rw [if_neg c1]
      by_cases c2 : owS s z = q
      · rw [if_pos c2]
        by_cases e : z = q
        · refine ⟨⟨hz', .inl e⟩, ?_⟩
          rw [e]
          unfold inRc
          rw [sp_hiS hq5 h5, sp_brS hq5 b5, if_pos rfl, if_pos rfl]
          exact qin
        · have nz : ¬ inN q hi br z := fun g => c1 ⟨g, e⟩
          refine ⟨⟨hz', .inr ⟨e, nz, .inl c2⟩⟩, ?_⟩
          have ch : chB s q hi br z = true := (ch_iff hw hq5 hz').mpr ⟨e, .inl c2⟩
          unfold inRc
          rw [sp_hiS l1 h5, sp_brS l1 b5, if_neg e, if_neg e, if_pos ch, if_pos ch]
          omega
      · rw [if_neg c2]
        have nw : ¬ inN q hi br (owS s z) := fun g => by
          have cw := cv _ g
          rw [w.2.1.2] at cw
          rcases cw with cw | cw
          · exact c2 cw
          · have rc := w.2.2
            unfold inRc at rc
            rw [cw.2.1, cw.2.2] at rc
            have e9 : z = owS s z := by omega
            rw [← e9] at g
            exact c1 ⟨g, fun e => c2 (by rw [e]; exact hc.2)⟩
        refine ⟨⟨w.2.1.1, .inr ⟨c2, nw, .inr w.2.1.2⟩⟩, ?_⟩
        have ch := sp_keep hw hf w.2.1 c2 (.inr nw)
        unfold inRc
        rw [sp_hiS lw h5, sp_brS lw b5, if_neg c2, if_neg c2, ch]
        exact w.2.2
  · have hh := (sp_cl hw hf).mp ho
    have l1 := isOf_lt hw hh.1
    have to := hh.1.1
    have e262 : spS s q hi br (262 + o) = iN (hiS (spS s q hi br) o) ∧ spS s q hi br (387 + o) = iN (brS (spS s q hi br) o) ∧ 1 ≤ hiS (spS s q hi br) o ∧ 1 ≤ brS (spS s q hi br) o ∧ o % 25 / 5 + hiS (spS s q hi br) o ≤ roS s (o / 25) ∧ o % 5 + brS (spS s q hi br) o ≤ coS s (o / 25) := by
      rw [sp_262 l1, sp_387 l1, sp_hiS l1 h5, sp_brS l1 b5]
      by_cases e : o = q
      · rw [if_pos e, if_pos e, if_pos e, if_pos e, e]
        exact ⟨rfl, rfl, h1, b1, f1, f2⟩
      · rw [if_neg e, if_neg e, if_neg e, if_neg e]
        by_cases c : chB s q hi br o = true
        · have := hh.1.2.1
          have := hh.1.2.2
          rw [if_pos c, if_pos c, if_pos c, if_pos c]
          exact ⟨rfl, rfl, by omega, by omega, by omega, by omega⟩
        · rw [if_neg c, if_neg c, if_neg c, if_neg c]
          rcases hh.2 with g | ⟨g1, g2, g3⟩
          · exact absurd g e
          · have oc : isCl s o := by
              rcases g3 with g3 | g3
              · exact absurd ((ch_iff hw hq5 hh.1).mpr ⟨g1, .inl g3⟩) c
              · exact ⟨hh.1, g3⟩
            have w := hw.2.2.2.2.1 o oc
            exact ⟨w.1, w.2.1, w.2.2.1, w.2.2.2.1, w.2.2.2.2.1, w.2.2.2.2.2.1⟩
    rw [sp_ro (by omega), sp_co (by omega)]
    refine ⟨e262.1, e262.2.1, e262.2.2.1, e262.2.2.2.1, e262.2.2.2.2.1, e262.2.2.2.2.2, fun z hz => ?_⟩
    unfold inRc at hz
    by_cases e : o = q
    · rw [e, sp_hiS hq5 h5, sp_brS hq5 b5, if_pos rfl, if_pos rfl] at hz
      have hN : inN q hi br z := hz
      rw [sp_own hw hf (fit_of hw hf hN), e]
      by_cases ez : z = q
      · rw [if_neg (fun g => g.2 ez), ez, hc.2, if_pos rfl]
      · rw [if_pos ⟨hN, ez⟩]
    · rw [sp_hiS l1 h5, sp_brS l1 b5, if_neg e, if_neg e] at hz
      rcases hh.2 with g | ⟨g1, g2, g3⟩
      · exact absurd g e
      · by_cases c : chB s q hi br o = true
        · rw [if_pos c, if_pos c] at hz
          have ez : z = o := by omega
          rw [ez]
          exact ho.2
        · rw [if_neg c, if_neg c] at hz
          have oc : isCl s o := by
            rcases g3 with g3 | g3
            · exact absurd ((ch_iff hw hq5 hh.1).mpr ⟨g1, .inl g3⟩) c
            · exact ⟨hh.1, g3⟩
          have w := hw.2.2.2.2.1 o oc
          have zo := w.2.2.2.2.2.2 z hz
          have zof : isOf s z := ⟨by omega, by rw [hz.1]; omega, by rw [hz.1]; omega⟩
          have nz : ¬ (inN q hi br z ∧ z ≠ q) := fun g => by
            have cw := cv z g.1
            rw [zo] at cw
            rcases cw with cw | cw
            · exact e cw
            · rw [cw.2.1, cw.2.2] at hz
              have ez : z = o := by omega
              rw [ez] at g
              exact g2 g.1
          rw [sp_own hw hf zof, if_neg nz, zo, if_neg e]
  · have hz' := (sp_of hw).mp hz
    have l1 := isOf_lt hw hz'
    have w := hw.2.2.2.2.2.1 z hz'
    rw [sp_ki l1, sp_12 l1]
    by_cases c : chB s q hi br z = true
    · rw [if_pos c, if_pos c]
      refine ⟨rfl, by omega, fun i hi4 => ?_, fun _ => rfl⟩
      rw [sp_ru l1 hi4, sp_637 l1 hi4, if_pos c, if_pos c]
      exact ⟨rfl, by omega⟩
    · rw [if_neg c, if_neg c]
      refine ⟨w.1, w.2.1, fun i hi4 => ?_, fun hne => ?_⟩
      · rw [sp_ru l1 hi4, sp_637 l1 hi4, if_neg c, if_neg c]
        exact w.2.2.1 i hi4
      · refine w.2.2.2 (fun g => hne ?_)
        rw [sp_own hw hf hz']
        by_cases e : z = q
        · rw [if_neg (fun x => x.2 e), e, hc.2, if_pos rfl]
        · rw [if_neg (fun x => c ((ch_iff hw hq5 hz').mpr ⟨e, .inr x.1⟩))]
          by_cases h3 : owS s z = q
          · rw [if_pos h3]
          · rw [if_neg h3]; exact g
  · have hh := (sp_cl hw hf).mp hz
    have l1 := isOf_lt hw hh.1
    rw [sp_ki l1, sp_nu l1, sp_tb]
    by_cases c : chB s q hi br z = true
    · rw [if_pos c]
      exact ⟨fun g => by omega, fun g => by omega, fun g => by omega⟩
    · rw [if_neg c, if_neg c]
      have oc : isCl s z := by
        rcases hh.2 with g | ⟨g1, g2, g3⟩
        · rw [g]; exact hc
        · rcases g3 with g3 | g3
          · exact absurd ((ch_iff hw hq5 hh.1).mpr ⟨g1, .inl g3⟩) c
          · exact ⟨hh.1, g3⟩
      exact hw.2.2.2.2.2.2.1 z oc
  · rw [sp_tb] at ht
    obtain ⟨z, a1, a2, a3⟩ := hw.2.2.2.2.2.2.2.1 t g1 ht
    have l1 := isOf_lt hw a1.1
    have c : chB s q hi br z = false := by
      by_cases e : z = q
      · rw [e]; exact kq
      · exact sp_keep hw hf a1 e (.inl (by omega))
    refine ⟨z, ?_, ?_, ?_⟩
    · rw [sp_cl hw hf]
      refine ⟨a1.1, ?_⟩
      by_cases e : z = q
      · exact .inl e
      · refine .inr ⟨e, fun g => ?_, .inr a1.2⟩
        rw [(ch_iff hw hq5 a1.1).mpr ⟨e, .inr g⟩] at c
        cases c
    · rw [sp_ki l1, c]; exact a2
    · rw [sp_nu l1, c]; exact a3
  · have old : ∀ z, isCl (spS s q hi br) z → kiS (spS s q hi br) z = 3 → isCl s z ∧ kiS s z = 3 ∧ nuS (spS s q hi br) z = nuS s z := fun z hz h3 => by
      have hh := (sp_cl hw hf).mp hz
      have l1 := isOf_lt hw hh.1
      rw [sp_ki l1] at h3
      by_cases c : chB s q hi br z = true
      · rw [if_pos c] at h3
        omega
      · rw [if_neg c] at h3
        rw [sp_nu l1, if_neg c]
        refine ⟨?_, h3, rfl⟩
        rcases hh.2 with g | ⟨g1, g2, g3⟩
        · rw [g]; exact hc
        · rcases g3 with g3 | g3
          · exact absurd ((ch_iff hw hq5 hh.1).mpr ⟨g1, .inl g3⟩) c
          · exact ⟨hh.1, g3⟩
    obtain ⟨a1, a2, a3⟩ := old z hz h3
    obtain ⟨d1, d2, d3⟩ := old z' hz' h3'
    rw [a3, d3] at he
    exact hw.2.2.2.2.2.2.2.2 z z' a1 d1 a2 d2 he
end Span

