/-! THE LAYOUT THAT FOLLOWS FROM A SHEET: FROM THE LAST TABLE DOWN -/
/-- what a square adds -/
def vS (s : Sv) (va : Nat → Int32) (q : Nat) : Int32 := if clB s q = true then (if kiS s q = 1 then nuS s q else if kiS s q = 3 then va (nv (nuS s q)) else iN 0) else iN 0
def shS (s : Sv) (va : Nat → Int32) (q : Nat) : Int32 := if (clB s q && decide (4 ≤ kiS s q)) = true then suS s (vS s va) q else vS s va q
/-- the edge of a square, out of the cells' rules -/
def edN (s : Sv) (rl : Nat → Nat) (q side : Nat) : Nat := match bsS s q side with
  | none => rl (owS s q * 4 + side)
  | some q' => if owS s q' = owS s q then 0 else max (rl (owS s q * 4 + side)) (rl (owS s q' * 4 + (side + 2) % 4))
/-- a table's value -/
def vaL (s : Sv) (t : Nat) : Int32 := smI (vS s (fun t' => if h : t < t' ∧ t' < tbS s then vaL s t' else iN 0)) (t * 25) ((t + 1) * 25)
termination_by tbS s - t
decreasing_by omega
def shL (s : Sv) (q : Nat) : Int32 := shS s (vaL s) q
/-- an edge, at the place q * 4 + side -/
def eL (s : Sv) (k : Nat) : Nat := if ofB s (k / 4) = true then edN s (fun j => rlS s (fun k' => if h : k / 100 < k' / 100 ∧ k' / 100 < tbS s then eL s k' else 0) (j / 4) (j % 4)) (k / 4) (k % 4) else 0
termination_by tbS s - k / 100
decreasing_by omega
def rlL (s : Sv) (j : Nat) : Nat := rlS s (eL s) (j / 4) (j % 4)
/-- a line's size, of a table by a way -/
def szF (s : Sv) (wa : Nat → Nat) (t w : Nat) : Nat → Nat := spZ s wa w (fun l => sgS s wa t w l ((t + 1) * 25)) (t * 25) ((t + 1) * 25)
/-- a table's size, at the place 2 * t + w -/
def tsL (s : Sv) (k : Nat) : Nat := lnS (eL s) (k / 2) (k % 2) (liS s (k % 2) (k / 2)) + smN (szF s (fun q => if q / 25 = k / 2 then (if clB s q = true then waS s (shL s) (fun k' => if h : k / 2 < k' / 2 ∧ k' / 2 < tbS s then tsL s k' else 0) q (k % 2) else 0) else 0) (k / 2) (k % 2)) 0 (liS s (k % 2) (k / 2))
termination_by tbS s - k / 2
decreasing_by omega
/-- what a cell wants, at the place 2 * q + w -/
def waL (s : Sv) (j : Nat) : Nat := if clB s (j / 2) = true then waS s (shL s) (tsL s) (j / 2) (j % 2) else 0
def waT (s : Sv) (t w q : Nat) : Nat := if q / 25 = t then waL s (2 * q + w) else 0
def szL (s : Sv) (t w : Nat) : Nat → Nat := szF s (waT s t w) t w
def drL (s : Sv) (t w : Nat) : Nat := lnS (eL s) t w (liS s w t)
/-! their equations -/
theorem vS_congr {s : Sv} {va va' : Nat → Int32} (hw : WF s) {q : Nat} (h : ∀ t, q / 25 < t → t < tbS s → va t = va' t) : vS s va q = vS s va' q := by
  unfold vS
  by_cases hc : clB s q = true
  · rw [if_pos hc, if_pos hc]
    by_cases h1 : kiS s q = 1
    · rw [if_pos h1, if_pos h1]
    · rw [if_neg h1, if_neg h1]
      by_cases h3 : kiS s q = 3
      · have w7 := (hw.2.2.2.2.2.2.1 q (clB_iff.mp hc)).2.2 h3
        rw [if_pos h3, if_pos h3, h _ w7.2.1 w7.2.2]
      · rw [if_neg h3, if_neg h3]
  · rw [if_neg hc, if_neg hc]
theorem suS_congr {s : Sv} {v v' : Nat → Int32} {q : Nat} (h : ∀ j, j / 25 = q / 25 → v j = v' j) : suS s v q = suS s v' q := by
  unfold suS
  refine smI_congr (fun j h1 h2 => ?_)
  rw [h j (by omega)]
theorem vaL_eq {s : Sv} (hw : WF s) (t : Nat) : vaL s t = smI (vS s (vaL s)) (t * 25) ((t + 1) * 25) := by
  rw [vaL]
  refine smI_congr (fun j h1 h2 => vS_congr hw (fun t' h3 h4 => ?_))
  rw [dif_pos ⟨by omega, h4⟩]
theorem mxN_congr {g g' : Nat → Nat} {lo : Nat} : ∀ {hi : Nat}, (∀ j, lo ≤ j → j < hi → g j = g' j) → mxN g lo hi = mxN g' lo hi
  | 0, _ => rfl
  | n + 1, h => by
    unfold mxN
    by_cases h1 : lo ≤ n
    · rw [if_pos h1, if_pos h1, mxN_congr (fun j a b => h j a (by omega)), h n h1 (by omega)]
    · rw [if_neg h1, if_neg h1]
theorem bdS_congr {s : Sv} {e e' : Nat → Nat} {t i : Nat} (h4 : i < 4) (h : ∀ k, k / 100 = t → e k = e' k) : bdS s e t i = bdS s e' t i := by
  unfold bdS grS
  refine mxN_congr (fun j h1 h2 => ?_)
  rw [show (fun q => e (q * 4 + i)) j = (fun q => e' (q * 4 + i)) j from h (j * 4 + i) (by omega)]
theorem rlS_congr {s : Sv} {e e' : Nat → Nat} (hw : WF s) {q i : Nat} (h4 : i < 4) (h : ∀ k, q / 25 < k / 100 → k / 100 < tbS s → e k = e' k) : rlS s e q i = rlS s e' q i := by
  unfold rlS inS
  by_cases hc : (clB s q && decide (kiS s q = 3)) = true
  · rw [if_pos hc, if_pos hc]
    rw [Bool.and_eq_true, decide_eq_true_eq] at hc
    have w7 := (hw.2.2.2.2.2.2.1 q (clB_iff.mp hc.1)).2.2 hc.2
    rw [bdS_congr h4 (fun k hk => h k (by omega) (by omega))]
  · rw [if_neg hc, if_neg hc]
theorem edN_congr {s : Sv} {rl rl' : Nat → Nat} (hw : WF s) {q i : Nat} (h4 : i < 4) (hq : isOf s q) (h : ∀ j, j / 100 = q / 25 → rl j = rl' j) : edN s rl q i = edN s rl' q i := by
  have o : ∀ z, isOf s z → z / 25 = q / 25 → owS s z / 25 = q / 25 := fun z h1 h2 => by
    have := (hw.2.2.2.1 z h1).2.2.1
    omega
  have o1 := o q hq rfl
  unfold edN
  split
  · rw [h _ (by omega)]
  · rename_i q' e
    have b1 := bsS_of hw hq e
    have o2 := o q' b1.1 b1.2
    rw [h (owS s q * 4 + i) (by omega), h (owS s q' * 4 + (i + 2) % 4) (by omega)]
theorem eL_eq {s : Sv} (hw : WF s) {q i : Nat} (h4 : i < 4) : eL s (q * 4 + i) = if ofB s q = true then edN s (rlL s) q i else 0 := by
  rw [eL, show (q * 4 + i) / 4 = q by omega, show (q * 4 + i) % 4 = i by omega]
  by_cases hc : ofB s q = true
  · rw [if_pos hc, if_pos hc]
    refine edN_congr hw h4 (ofB_iff.mp hc) (fun j hj => rlS_congr hw (by omega) (fun k h1 h2 => ?_))
    rw [dif_pos ⟨by omega, h2⟩]
  · rw [if_neg hc, if_neg hc]
theorem rlL_eq {s : Sv} {q i : Nat} (h4 : i < 4) : rlL s (q * 4 + i) = rlS s (eL s) q i := by
  unfold rlL
  rw [show (q * 4 + i) / 4 = q by omega, show (q * 4 + i) % 4 = i by omega]
theorem waL_eq {s : Sv} {q w : Nat} (h2 : w < 2) : waL s (2 * q + w) = if clB s q = true then waS s (shL s) (tsL s) q w else 0 := by
  unfold waL
  rw [show (2 * q + w) / 2 = q by omega, show (2 * q + w) % 2 = w by omega]
theorem waS_congr {s : Sv} {sh : Nat → Int32} {ts ts' : Nat → Nat} {q w : Nat} (hw : WF s) (h2 : w < 2) (hc : isCl s q) (h : ∀ k, q / 25 < k / 2 → k / 2 < tbS s → ts k = ts' k) : waS s sh ts q w = waS s sh ts' q w := by
  unfold waS
  by_cases h3 : kiS s q = 3
  · have w7 := (hw.2.2.2.2.2.2.1 q hc).2.2 h3
    rw [h (2 * nv (nuS s q) + w) (by omega) (by omega)]
  · rw [if_neg h3, if_neg h3]
theorem tsL_eq {s : Sv} (hw : WF s) {t w : Nat} (h2 : w < 2) : tsL s (2 * t + w) = drL s t w + smN (szL s t w) 0 (liS s w t) := by
  rw [tsL, show (2 * t + w) / 2 = t by omega, show (2 * t + w) % 2 = w by omega]
  unfold drL szL
  congr 3
  funext q
  unfold waT
  by_cases hq : q / 25 = t
  · rw [if_pos hq, if_pos hq, waL_eq h2]
    by_cases hc : clB s q = true
    · rw [if_pos hc, if_pos hc]
      refine waS_congr hw h2 (clB_iff.mp hc) (fun k h3 h4 => ?_)
      rw [dif_pos ⟨by omega, h4⟩]
    · rw [if_neg hc, if_neg hc]
  · rw [if_neg hq, if_neg hq]

