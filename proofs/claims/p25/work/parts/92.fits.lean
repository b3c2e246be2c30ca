/-! WHAT IS IN A CELL FITS; EDGES FROM BOTH SIDES; SUMS AT A BORDER -/
theorem mxN_ge {g : Nat → Nat} {lo i : Nat} (h : lo ≤ i) : ∀ {hi : Nat}, i < hi → g i ≤ mxN g lo hi
  | 0, h2 => by omega
  | n + 1, h2 => by
    rw [mxN_s (by omega)]
    by_cases e : i = n
    · subst e
      exact Nat.le_max_right _ _
    · exact Nat.le_trans (mxN_ge h (by omega)) (Nat.le_max_left _ _)
theorem smN_monoR {g g' : Nat → Nat} (h : ∀ q, g q ≤ g' q) {lo : Nat} : ∀ hi, smN g lo hi ≤ smN g' lo hi
  | 0 => Nat.le_refl _
  | n + 1 => by
    unfold smN
    by_cases h1 : lo ≤ n
    · rw [if_pos h1, if_pos h1]
      exact Nat.add_le_add (smN_monoR h n) (h n)
    · rw [if_neg h1, if_neg h1]
      exact Nat.le_refl _
section Fit
variable {s : Sv} {wa : Nat → Nat} {w lo : Nat} {z0 : Nat → Nat}
theorem spZ_s1 {n : Nat} (h : lo ≤ n) (l : Nat) : spZ s wa w z0 lo (n + 1) l = (if (clB s n && decide (1 < spW s w n)) = true then (if l = plS w n + spW s w n - 1 then spZ s wa w z0 lo n l + (wa n - smN (spZ s wa w z0 lo n) (plS w n) (plS w n + spW s w n)) else spZ s wa w z0 lo n l) else spZ s wa w z0 lo n l) := by
  show (if lo ≤ n then _ else z0) l = _
  rw [if_pos h]
  by_cases hc : (clB s n && decide (1 < spW s w n)) = true
  · rw [if_pos hc, if_pos hc]
  · rw [if_neg hc, if_neg hc]
theorem spZ_up1 {n : Nat} (h : lo ≤ n) (l : Nat) : spZ s wa w z0 lo n l ≤ spZ s wa w z0 lo (n + 1) l := by
  rw [spZ_s1 h]
  by_cases hc : (clB s n && decide (1 < spW s w n)) = true
  · rw [if_pos hc]
    by_cases e : l = plS w n + spW s w n - 1
    · rw [if_pos e]
      exact Nat.le_add_right _ _
    · rw [if_neg e]
      exact Nat.le_refl _
  · rw [if_neg hc]
    exact Nat.le_refl _
theorem spZ_up {i : Nat} (h : lo ≤ i) (l : Nat) : ∀ d, spZ s wa w z0 lo i l ≤ spZ s wa w z0 lo (i + d) l
  | 0 => Nat.le_refl _
  | d + 1 => Nat.le_trans (spZ_up h l d) (spZ_up1 (by omega) l)
theorem spZ_lo (l : Nat) : spZ s wa w z0 lo lo l = z0 l := by
  cases lo with
  | zero => rfl
  | succ n =>
    show (if n + 1 ≤ n then _ else z0) l = _
    rw [if_neg (by omega)]
theorem spZ_fit {q : Nat} (h : lo ≤ q) (hc : clB s q = true) (hs : 1 < spW s w q) : wa q ≤ smN (spZ s wa w z0 lo (q + 1)) (plS w q) (plS w q + spW s w q) := by
  obtain ⟨m, hm⟩ : ∃ m, plS w q + spW s w q = m + 1 := ⟨plS w q + spW s w q - 1, by omega⟩
  have hcc : (clB s q && decide (1 < spW s w q)) = true := by rw [hc, decide_eq_true hs]; rfl
  obtain ⟨Z, hZ⟩ : ∃ Z, Z = spZ s wa w z0 lo q := ⟨_, rfl⟩
  have e : ∀ l, spZ s wa w z0 lo (q + 1) l = if l = m then Z l + (wa q - smN Z (plS w q) (m + 1)) else Z l := fun l => by
    rw [spZ_s1 h, if_pos hcc, hm, ← hZ, Nat.add_sub_cancel]
  rw [hm, smN_s (by omega), e m, if_pos rfl]
  have e2 : smN (spZ s wa w z0 lo (q + 1)) (plS w q) m = smN Z (plS w q) m := smN_congr (fun j _ hj => by rw [e j, if_neg (by omega)])
  rw [e2]
  have e3 : smN Z (plS w q) (m + 1) = smN Z (plS w q) m + Z m := smN_s (by omega)
  omega
end Fit
/-- what a cell wants is no more than its lines are together -/
theorem ce_fits {s : Sv} (hw : WF s) {q w : Nat} (h2 : w < 2) (hc : isCl s q) : waL s (2 * q + w) ≤ smN (szL s (q / 25) w) (plS w q) (plS w q + spW s w q) := by
  have hcb := clB_iff.mpr hc
  have e1 : waT s (q / 25) w q = waL s (2 * q + w) := if_pos rfl
  have w5 := hw.2.2.2.2.1 q hc
  have hs1 : 1 ≤ spW s w q := by
    unfold spW
    by_cases h : w = 1
    · rw [if_pos h]; exact w5.2.2.1
    · rw [if_neg h]; exact w5.2.2.2.1
  rw [← e1]
  obtain ⟨wa, hwa⟩ : ∃ wa, wa = waT s (q / 25) w := ⟨_, rfl⟩
  have e2 : szL s (q / 25) w = spZ s wa w (fun l => sgS s wa (q / 25) w l ((q / 25 + 1) * 25)) (q / 25 * 25) ((q / 25 + 1) * 25) := by rw [hwa]; rfl
  rw [e2, ← hwa]
  obtain ⟨z0, hz0⟩ : ∃ z0, z0 = (fun l => sgS s wa (q / 25) w l ((q / 25 + 1) * 25)) := ⟨_, rfl⟩
  rw [← hz0]
  have hlo : q / 25 * 25 ≤ q := by omega
  by_cases hs : 1 < spW s w q
  · refine Nat.le_trans (spZ_fit (z0 := z0) hlo hcb hs) (smN_monoR (fun l => ?_) _)
    have := spZ_up (s := s) (wa := wa) (w := w) (z0 := z0) (lo := q / 25 * 25) (i := q + 1) (by omega) l ((q / 25 + 1) * 25 - (q + 1))
    rw [show q + 1 + ((q / 25 + 1) * 25 - (q + 1)) = (q / 25 + 1) * 25 by omega] at this
    exact this
  · have e3 : spW s w q = 1 := by omega
    rw [e3, smN_s (Nat.le_refl _), smN_0, Nat.zero_add]
    have h0 : wa q ≤ z0 (plS w q) := by
      rw [hz0]
      have g : (clB s q && decide (spW s w q = 1) && decide (plS w q = plS w q)) = true := by rw [hcb, decide_eq_true e3, decide_eq_true rfl]; rfl
      have := mxN_ge (g := fun z => if (clB s z && decide (spW s w z = 1) && decide (plS w z = plS w q)) = true then wa z else 0) (lo := q / 25 * 25) (i := q) hlo (hi := (q / 25 + 1) * 25) (by omega)
      have e9 : (if (clB s q && decide (spW s w q = 1) && decide (plS w q = plS w q)) = true then wa q else 0) = wa q := if_pos g
      exact Nat.le_trans (Nat.le_of_eq e9.symm) this
    have h1 := spZ_up (s := s) (wa := wa) (w := w) (z0 := z0) (lo := q / 25 * 25) (i := q / 25 * 25) (Nat.le_refl _) (plS w q) ((q / 25 + 1) * 25 - q / 25 * 25)
    rw [show q / 25 * 25 + ((q / 25 + 1) * 25 - q / 25 * 25) = (q / 25 + 1) * 25 by omega, spZ_lo] at h1
    exact Nat.le_trans h0 h1
/-- a table within: no rule at its border above that of its cell -/
theorem wi_rule {s : Sv} {q i z : Nat} (h4 : i = 0 ∨ i = 3) (hc : isCl s q) (h3 : kiS s q = 3) (hz : z / 25 = nv (nuS s q)) (hz0 : (if i = 0 then z % 25 / 5 else z % 5) = 0) : eL s (z * 4 + i) ≤ rlL s (q * 4 + i) := by
  have hi : i < 4 := by omega
  rw [rlL_eq hi]
  unfold rlS
  refine Nat.le_trans ?_ (Nat.le_max_right _ _)
  unfold inS
  rw [if_pos (by rw [clB_iff.mpr hc, decide_eq_true h3]; rfl)]
  unfold bdS grS
  rw [if_pos (show i = 0 ∨ i = 3 from h4)]
  have hlo : nv (nuS s q) * 25 ≤ z := by omega
  have g := mxN_ge (g := fun z => if plS (if i = 0 ∨ i = 2 then 1 else 0) z = 0 then eL s (z * 4 + i) else 0) hlo (hi := (nv (nuS s q) + 1) * 25) (by omega)
  have e : (if plS (if i = 0 ∨ i = 2 then 1 else 0) z = 0 then eL s (z * 4 + i) else 0) = eL s (z * 4 + i) := by
    refine if_pos ?_
    rcases h4 with rfl | rfl
    · rw [if_pos (Or.inl rfl)]
      rw [if_pos rfl] at hz0
      exact hz0
    · rw [if_neg (by omega)]
      rw [if_neg (by omega)] at hz0
      exact hz0
  exact Nat.le_trans (Nat.le_of_eq e.symm) g
/-- an edge from both sides -/
theorem edge_h {s : Sv} (hw : WF s) {q : Nat} (h1 : isOf s q) (h2 : q % 5 + 1 < coS s (q / 25)) : eL s (q * 4 + 1) = eL s ((q + 1) * 4 + 3) := by
  have w3 := hw.2.2.1 (q / 25) h1.1
  have d1 : (q + 1) / 25 = q / 25 := by omega
  have d2 : (q + 1) % 25 / 5 = q % 25 / 5 := by omega
  have d3 : (q + 1) % 5 = q % 5 + 1 := by omega
  have ho : isOf s (q + 1) := ⟨by rw [d1]; exact h1.1, by rw [d1, d2]; exact h1.2.1, by rw [d1, d3]; exact h2⟩
  rw [eL_eq hw (by omega), eL_eq hw (by omega), if_pos (ofB_iff.mpr h1), if_pos (ofB_iff.mpr ho)]
  have b1 : bsS s q 1 = some (q + 1) := by
    unfold bsS
    rw [if_neg (by omega), if_pos rfl, if_pos h2]
  have b2 : bsS s (q + 1) 3 = some q := by
    unfold bsS
    rw [if_neg (by omega), if_neg (by omega), if_neg (by omega), if_pos (by omega), Nat.add_sub_cancel]
  unfold edN
  rw [b1, b2]
  show (if owS s (q + 1) = owS s q then 0 else max (rlL s (owS s q * 4 + 1)) (rlL s (owS s (q + 1) * 4 + 3))) = (if owS s q = owS s (q + 1) then 0 else max (rlL s (owS s (q + 1) * 4 + 3)) (rlL s (owS s q * 4 + 1)))
  by_cases e : owS s (q + 1) = owS s q
  · rw [if_pos e, if_pos e.symm]
  · rw [if_neg e, if_neg (fun g => e g.symm), Nat.max_comm]
theorem edge_v {s : Sv} (hw : WF s) {q : Nat} (h1 : isOf s q) (h2 : q % 25 / 5 + 1 < roS s (q / 25)) : eL s (q * 4 + 2) = eL s ((q + 5) * 4 + 0) := by
  have w3 := hw.2.2.1 (q / 25) h1.1
  have d1 : (q + 5) / 25 = q / 25 := by omega
  have d2 : (q + 5) % 25 / 5 = q % 25 / 5 + 1 := by omega
  have d3 : (q + 5) % 5 = q % 5 := by omega
  have ho : isOf s (q + 5) := ⟨by rw [d1]; exact h1.1, by rw [d1, d2]; exact h2, by rw [d1, d3]; exact h1.2.2⟩
  rw [eL_eq hw (by omega), eL_eq hw (by omega), if_pos (ofB_iff.mpr h1), if_pos (ofB_iff.mpr ho)]
  have b1 : bsS s q 2 = some (q + 5) := by
    unfold bsS
    rw [if_neg (by omega), if_neg (by omega), if_pos rfl, if_pos h2]
  have b2 : bsS s (q + 5) 0 = some q := by
    unfold bsS
    rw [if_pos rfl, if_pos (by omega), Nat.add_sub_cancel]
  unfold edN
  rw [b1, b2]
  show (if owS s (q + 5) = owS s q then 0 else max (rlL s (owS s q * 4 + 2)) (rlL s (owS s (q + 5) * 4 + 0))) = (if owS s q = owS s (q + 5) then 0 else max (rlL s (owS s (q + 5) * 4 + 0)) (rlL s (owS s q * 4 + 2)))
  by_cases e : owS s (q + 5) = owS s q
  · rw [if_pos e, if_pos e.symm]
  · rw [if_neg e, if_neg (fun g => e g.symm), Nat.max_comm]
/-- sums at a border, and a table's own -/
theorem sum_4 {s : Sv} {q : Nat} (hc : isCl s q) (h4 : kiS s q = 4) (h0 : q % 25 / 5 = 0) : shL s q = iN 0 := by
  unfold shL shS
  rw [if_pos (by rw [clB_iff.mpr hc, h4]; rfl)]
  unfold suS
  refine smI_none (fun j _ _ => if_neg (fun g => ?_))
  rw [Bool.and_eq_true] at g
  have g2 := g.2
  unfold cnB ctB alS at g2
  rw [h4] at g2
  simp only [Bool.or_eq_true, Bool.and_eq_true, decide_eq_true_eq, if_pos] at g2
  omega
theorem sum_5 {s : Sv} {q : Nat} (hc : isCl s q) (h4 : kiS s q = 5) (h0 : q % 5 = 0) : shL s q = iN 0 := by
  unfold shL shS
  rw [if_pos (by rw [clB_iff.mpr hc, h4]; rfl)]
  unfold suS
  refine smI_none (fun j _ _ => if_neg (fun g => ?_))
  rw [Bool.and_eq_true] at g
  have g2 := g.2
  unfold cnB ctB alS at g2
  rw [h4] at g2
  simp only [Bool.or_eq_true, Bool.and_eq_true, decide_eq_true_eq] at g2
  rw [if_neg (by omega), if_neg (by omega)] at g2
  omega
theorem sum_6 {s : Sv} (hw : WF s) {q : Nat} (hc : isCl s q) (h6 : kiS s q = 6) : shL s q = vaL s (q / 25) := by
  rw [vaL_eq hw]
  unfold shL shS
  rw [if_pos (by rw [clB_iff.mpr hc, h6]; rfl)]
  unfold suS
  refine smI_congr (fun j _ _ => ?_)
  have hcn : cnB s q j = true := by
    unfold cnB ctB
    rw [h6]
    rfl
  rw [hcn, Bool.and_true]
  by_cases h : clB s j = true
  · rw [if_pos h]
  · rw [if_neg h]
    unfold vS
    rw [if_neg h]
theorem counted_0 {s : Sv} {q : Nat} (hc : isCl s q) (h4 : 4 ≤ kiS s q) : couS s q = iN 0 := by
  unfold couS
  rw [if_pos (clB_iff.mpr hc), if_pos h4]
theorem counted_m {s : Sv} {q : Nat} (hc : ¬ isCl s q) : couS s q = mI := by
  unfold couS
  rw [if_neg (fun g => hc (clB_iff.mp g))]
/-! pages -/
theorem page_0 {s : Sv} {z : Nat → Nat} {h : Nat} : (pgS s z h 1).1 = 0 := by
  show (if jnB s 0 = true then pgS s z h 0 else if 0 < 0 ∧ h < (pgS s z h 0).2 + blS s z 0 then ((pgS s z h 0).1 + 1, blS s z 0) else ((pgS s z h 0).1, (pgS s z h 0).2 + blS s z 0)).1 = 0
  by_cases hj : jnB s 0 = true
  · rw [if_pos hj]; rfl
  · rw [if_neg hj, if_neg (by omega)]; rfl
theorem page_s {s : Sv} {z : Nat → Nat} {h i : Nat} : (pgS s z h (i + 1)).1 = (pgS s z h i).1 ∨ (pgS s z h (i + 1)).1 = (pgS s z h i).1 + 1 := by
  rw [pgS]
  by_cases hj : jnB s i = true
  · rw [if_pos hj]; exact .inl rfl
  · rw [if_neg hj]
    by_cases hc : 0 < i ∧ h < (pgS s z h i).2 + blS s z i
    · rw [if_pos hc]; exact .inr rfl
    · rw [if_neg hc]; exact .inl rfl
theorem page_le {s : Sv} {z : Nat → Nat} {h : Nat} : ∀ i, (pgS s z h (i + 1)).1 ≤ i
  | 0 => Nat.le_of_eq page_0
  | i + 1 => by
    have h1 := page_le (s := s) (z := z) (h := h) i
    have h2 := page_s (s := s) (z := z) (h := h) (i := i + 1)
    omega
theorem hfL_some {f : Nat → Bool} : ∀ d a x, a ≤ x → x < a + d → f x = true → ∃ y, a ≤ y ∧ y ≤ x ∧ hfL f d a = iN y
  | 0, a, x, h1, h2, _ => by omega
  | d + 1, a, x, h1, h2, h3 => by
    unfold hfL
    by_cases e : f a = true
    · rw [if_pos e]
      exact ⟨a, Nat.le_refl _, h1, rfl⟩
    · rw [if_neg e]
      have hne : a ≠ x := fun g => e (g ▸ h3)
      obtain ⟨y, b1, b2, b3⟩ := hfL_some d (a + 1) x (by omega) (by omega) h3
      exact ⟨y, by omega, b2, b3⟩
