/-! THE LAYOUT, AS EQUATIONS -/
/-- what a square adds -/
def vS (s : Sv) (va : Nat → Int32) (q : Nat) : Int32 := if clB s q = true then (if kiS s q = 1 then nuS s q else if kiS s q = 3 then va (nv (nuS s q)) else iN 0) else iN 0
def shS (s : Sv) (va : Nat → Int32) (q : Nat) : Int32 := if (clB s q && decide (4 ≤ kiS s q)) = true then suS s (vS s va) q else vS s va q
/-- the edge of a square, out of the cells' rules -/
def edN (s : Sv) (rl : Nat → Nat) (q side : Nat) : Nat := match bsS s q side with
  | none => rl (owS s q * 4 + side)
  | some q' => if owS s q' = owS s q then 0 else max (rl (owS s q * 4 + side)) (rl (owS s q' * 4 + (side + 2) % 4))
def eS (s : Sv) (rl : Nat → Nat) (q side : Nat) : Nat := if ofB s q = true then edN s rl q side else 0
def wS (s : Sv) (sh : Nat → Int32) (ts : Nat → Nat) (q w : Nat) : Nat := if clB s q = true then waS s sh ts q w else 0
def szS (s : Sv) (wa : Nat → Nat) (t w : Nat) : Nat → Nat := spZ s (fun q => wa (2 * q + w)) w (fun l => sgS s (fun q => wa (2 * q + w)) t w l ((t + 1) * 25)) (t * 25) ((t + 1) * 25)
/-- the equations of the table t -/
def LayT (s : Sv) (va sh : Nat → Int32) (rl e wa sz dr ts : Nat → Nat) (t : Nat) : Prop :=
  va t = smI (vS s va) (t * 25) ((t + 1) * 25) ∧
  (∀ q, q / 25 = t → sh q = shS s va q) ∧
  (∀ q i, q / 25 = t → i < 4 → rl (q * 4 + i) = rlS s e q i) ∧
  (∀ q i, q / 25 = t → i < 4 → e (q * 4 + i) = eS s rl q i) ∧
  (∀ q w, q / 25 = t → w < 2 → wa (2 * q + w) = wS s sh ts q w) ∧
  (∀ w l, w < 2 → l < 5 → sz ((2 * t + w) * 5 + l) = szS s wa t w l) ∧
  (∀ w, w < 2 → dr (2 * t + w) = lnS e t w (liS s w t)) ∧
  (∀ w, w < 2 → ts (2 * t + w) = dr (2 * t + w) + smN (fun l => sz ((2 * t + w) * 5 + l)) 0 (liS s w t))
theorem vS_congr {s : Sv} {va va' : Nat → Int32} (hw : WF s) {q : Nat} (h : ∀ t, q / 25 < t → t < tbS s → va t = va' t) : vS s va q = vS s va' q := by
  unfold vS
  by_cases hc : clB s q = true
  · rw [if_pos hc, if_pos hc]
    by_cases h1 : kiS s q = 1
    · rw [if_pos h1, if_pos h1]
    · rw [if_neg h1, if_neg h1]
      by_cases h3 : kiS s q = 3
      · have w7 := (hw.2.2.2.2.2.2.1 q (clB_iff.mp hc)).2.2 h3
        rw [if_pos h3, if_pos h3, h _ w7.2.1 w7.2.2]
      · rw [if_neg h3, if_neg h3]
  · rw [if_neg hc, if_neg hc]
theorem suS_congr {s : Sv} {v v' : Nat → Int32} {q : Nat} (h : ∀ j, j / 25 = q / 25 → v j = v' j) : suS s v q = suS s v' q := by
  unfold suS
  refine smI_congr (fun j h1 h2 => ?_)
  rw [h j (by omega)]
theorem shS_congr {s : Sv} {va va' : Nat → Int32} (hw : WF s) {q : Nat} (h : ∀ t, q / 25 < t → t < tbS s → va t = va' t) : shS s va q = shS s va' q := by
  unfold shS
  rw [vS_congr hw h, suS_congr (v' := vS s va') (fun j hj => vS_congr hw (fun t h1 h2 => h t (by omega) h2))]
