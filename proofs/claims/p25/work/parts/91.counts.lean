/-! SUMS OVER ALL SQUARES -/
theorem i_add0 {a : Int32} : a + iN 0 = a := Int32.add_zero a
theorem i_0add {a : Int32} : iN 0 + a = a := Int32.zero_add a
theorem i_cancel {a b c : Int32} (h : a + c = b + c) : a = b := by
  have h1 := congrArg (fun z => z - c) h
  simpa using h1
theorem smI_app {g : Nat → Int32} {lo mid : Nat} (h1 : lo ≤ mid) : ∀ {hi : Nat}, mid ≤ hi → smI g lo hi = smI g lo mid + smI g mid hi
  | 0, h2 => by
    obtain rfl : mid = 0 := by omega
    exact i_add0.symm
  | n + 1, h2 => by
    by_cases e : mid = n + 1
    · subst e
      rw [smI_0, i_add0]
    · rw [smI_s (by omega), smI_s (by omega), smI_app h1 (by omega), Int32.add_assoc]
theorem smI_add {g g' : Nat → Int32} {lo : Nat} : ∀ {hi : Nat}, smI (fun q => g q + g' q) lo hi = smI g lo hi + smI g' lo hi
  | 0 => i_add0.symm
  | n + 1 => by
    unfold smI
    by_cases h : lo ≤ n
    · rw [if_pos h, if_pos h, if_pos h, smI_add]
      rw [Int32.add_assoc, Int32.add_assoc, ← Int32.add_assoc (smI g' lo n), Int32.add_comm (smI g' lo n) (g n), Int32.add_assoc]
    · rw [if_neg h, if_neg h, if_neg h]
      exact i_add0.symm
theorem smI_none {g : Nat → Int32} {lo : Nat} : ∀ {hi : Nat}, (∀ j, lo ≤ j → j < hi → g j = iN 0) → smI g lo hi = iN 0
  | 0, _ => rfl
  | n + 1, h => by
    unfold smI
    by_cases h1 : lo ≤ n
    · rw [if_pos h1, smI_none (fun j a b => h j a (by omega)), h n h1 (by omega), i_add0]
    · rw [if_neg h1]
theorem smI_ext {g : Nat → Int32} {lo hi hi' : Nat} (h1 : lo ≤ hi) (h2 : hi ≤ hi') (h : ∀ j, hi ≤ j → j < hi' → g j = iN 0) : smI g lo hi' = smI g lo hi := by
  rw [smI_app h1 h2, smI_none h, i_add0]
theorem smI_one {p : Nat → Bool} {v : Int32} {x lo : Nat} : ∀ {hi : Nat}, lo ≤ x → x < hi → p x = true → (∀ q, lo ≤ q → p q = true → q = x) → smI (fun q => if p q = true then v else iN 0) lo hi = v
  | 0, _, h, _, _ => by omega
  | n + 1, h0, h, hp, hu => by
    rw [smI_s (by omega)]
    by_cases e : x = n
    · subst e
      rw [if_pos hp, smI_none (fun j a b => if_neg (fun g => by have := hu j a g; omega)), i_0add]
    · have hn : ¬ p n = true := fun g => e (hu n (by omega) g).symm
      rw [if_neg hn, i_add0]
      exact smI_one h0 (by omega) hp hu
/-- five tables of twenty-five squares -/
theorem smI_5 {g : Nat → Int32} : smI g 0 125 = smI (fun t => smI g (t * 25) ((t + 1) * 25)) 0 5 := by
  rw [smI_app (lo := 0) (mid := 100) (hi := 125) (by omega) (by omega), smI_app (lo := 0) (mid := 75) (hi := 100) (by omega) (by omega), smI_app (lo := 0) (mid := 50) (hi := 75) (by omega) (by omega), smI_app (lo := 0) (mid := 25) (hi := 50) (by omega) (by omega)]
  rw [smI_s (i := 4) (by omega), smI_s (i := 3) (by omega), smI_s (i := 2) (by omega), smI_s (i := 1) (by omega), smI_s (i := 0) (by omega), smI_0, i_0add]
/-- what the tables within are, seen from their cells -/
theorem in_cells {s : Sv} (hw : WF s) (f : Nat → Int32) : smI (fun q => if (clB s q && decide (kiS s q = 3)) = true then f (nv (nuS s q)) else iN 0) 0 125 = smI (fun t => if 1 ≤ t ∧ t < tbS s then f t else iN 0) 0 5 := by
  have t5 := hw.1.2.2
  have e1 : ∀ q, (if (clB s q && decide (kiS s q = 3)) = true then f (nv (nuS s q)) else iN 0) = smI (fun t => if (clB s q && decide (kiS s q = 3) && decide (nv (nuS s q) = t)) = true then f t else iN 0) 0 5 := fun q => by
    by_cases h : (clB s q && decide (kiS s q = 3)) = true
    · rw [if_pos h]
      have h' := h
      rw [Bool.and_eq_true, decide_eq_true_eq] at h'
      have w7 := (hw.2.2.2.2.2.2.1 q (clB_iff.mp h'.1)).2.2 h'.2
      have e : ∀ t, (if (clB s q && decide (kiS s q = 3) && decide (nv (nuS s q) = t)) = true then f t else iN 0) = (if (decide (nv (nuS s q) = t)) = true then f (nv (nuS s q)) else iN 0) := fun t => by
        rw [h, Bool.true_and]
        by_cases g : nv (nuS s q) = t
        · rw [if_pos (decide_eq_true g), if_pos (decide_eq_true g), g]
        · rw [if_neg (fun k => g (of_decide_eq_true k)), if_neg (fun k => g (of_decide_eq_true k))]
      rw [smI_congr (fun t _ _ => e t)]
      exact (smI_one (x := nv (nuS s q)) (Nat.zero_le _) (by omega) (decide_eq_true rfl) (fun t _ g => (of_decide_eq_true g).symm)).symm
    · rw [if_neg h]
      refine (smI_none (fun t _ _ => if_neg (fun g => h ?_))).symm
      rw [Bool.and_eq_true] at g
      exact g.1
  rw [smI_congr (fun q _ _ => e1 q)]
  have e2 : ∀ (G : Nat → Nat → Int32) (q : Nat), smI (fun t => G q t) 0 5 = G q 0 + (G q 1 + (G q 2 + (G q 3 + G q 4))) := fun G q => by
    rw [smI_s (i := 4) (by omega), smI_s (i := 3) (by omega), smI_s (i := 2) (by omega), smI_s (i := 1) (by omega), smI_s (i := 0) (by omega), smI_0, i_0add]
    simp only [Int32.add_assoc]
  have e3 : ∀ t, t < 5 → smI (fun q => if (clB s q && decide (kiS s q = 3) && decide (nv (nuS s q) = t)) = true then f t else iN 0) 0 125 = (if 1 ≤ t ∧ t < tbS s then f t else iN 0) := fun t ht => by
    by_cases h : 1 ≤ t ∧ t < tbS s
    · rw [if_pos h]
      obtain ⟨x, a1, a2, a3⟩ := hw.2.2.2.2.2.2.2.1 t h.1 h.2
      have hx : (clB s x && decide (kiS s x = 3) && decide (nv (nuS s x) = t)) = true := by
        rw [Bool.and_eq_true, Bool.and_eq_true, decide_eq_true_eq, decide_eq_true_eq]
        exact ⟨⟨clB_iff.mpr a1, a2⟩, a3⟩
      refine smI_one (p := fun q => clB s q && decide (kiS s q = 3) && decide (nv (nuS s q) = t)) (x := x) (Nat.zero_le _) (isOf_lt hw a1.1) hx (fun q _ g => ?_)
      rw [Bool.and_eq_true, Bool.and_eq_true, decide_eq_true_eq, decide_eq_true_eq] at g
      exact hw.2.2.2.2.2.2.2.2 q x (clB_iff.mp g.1.1) a1 g.1.2 a2 (g.2.trans a3.symm)
    · rw [if_neg h]
      refine smI_none (fun q _ _ => if_neg (fun g => h ?_))
      rw [Bool.and_eq_true, Bool.and_eq_true, decide_eq_true_eq, decide_eq_true_eq] at g
      have w7 := (hw.2.2.2.2.2.2.1 q (clB_iff.mp g.1.1)).2.2 g.1.2
      rw [g.2] at w7
      omega
  rw [smI_congr (fun q _ _ => e2 (fun q t => if (clB s q && decide (kiS s q = 3) && decide (nv (nuS s q) = t)) = true then f t else iN 0) q)]
  rw [smI_add, smI_add, smI_add, smI_add, e3 0 (by omega), e3 1 (by omega), e3 2 (by omega), e3 3 (by omega), e3 4 (by omega)]
  exact (e2 (fun _ t => if 1 ≤ t ∧ t < tbS s then f t else iN 0) 0).symm
/-- a number that is in a cell -/
def dV (s : Sv) (q : Nat) : Int32 := if (clB s q && decide (kiS s q = 1)) = true then nuS s q else iN 0
theorem vS_two {s : Sv} (va : Nat → Int32) (q : Nat) : vS s va q = dV s q + (if (clB s q && decide (kiS s q = 3)) = true then va (nv (nuS s q)) else iN 0) := by
  unfold vS dV
  cases hc : clB s q
  · rw [Bool.false_and, Bool.false_and, if_neg (by decide), if_neg (by decide), if_neg (by decide), i_add0]
  · rw [Bool.true_and, Bool.true_and, if_pos rfl]
    by_cases h1 : kiS s q = 1
    · rw [if_pos h1, if_pos (decide_eq_true h1), if_neg (fun g => by have := of_decide_eq_true g; omega), i_add0]
    · rw [if_neg h1, if_neg (fun g => h1 (of_decide_eq_true g)), i_0add]
      by_cases h3 : kiS s q = 3
      · rw [if_pos h3, if_pos (decide_eq_true h3)]
      · rw [if_neg h3, if_neg (fun g => h3 (of_decide_eq_true g))]
/-- the value of the table 0 is that of all numbers in all tables -/
theorem value_0 {s : Sv} (hw : WF s) : vaL s 0 = smI (dV s) 0 125 := by
  have t5 := hw.1.2.2
  have t1 := hw.1.2.1
  have a1 : smI (fun t => vaL s t) 0 5 = smI (dV s) 0 125 + smI (fun t => if 1 ≤ t ∧ t < tbS s then vaL s t else iN 0) 0 5 := by
    rw [smI_congr (fun t _ _ => vaL_eq hw t), ← smI_5, smI_congr (fun q _ _ => vS_two (vaL s) q), smI_add, in_cells hw]
  have a2 : smI (fun t => vaL s t) 0 5 = vaL s 0 + smI (fun t => if 1 ≤ t ∧ t < tbS s then vaL s t else iN 0) 0 5 := by
    have e : ∀ t, t < 5 → vaL s t = (if t = 0 then vaL s 0 else iN 0) + (if 1 ≤ t ∧ t < tbS s then vaL s t else iN 0) := fun t ht => by
      by_cases h0 : t = 0
      · subst h0
        rw [if_pos rfl, if_neg (by omega), i_add0]
      · rw [if_neg h0, i_0add]
        by_cases h1 : t < tbS s
        · rw [if_pos ⟨by omega, h1⟩]
        · rw [if_neg (by omega), vaL_eq hw]
          refine smI_none (fun q h2 h3 => ?_)
          unfold vS
          rw [if_neg (fun g => by have := (clB_iff.mp g).1.1; omega)]
    rw [smI_congr (g' := fun t => (if t = 0 then vaL s 0 else iN 0) + (if 1 ≤ t ∧ t < tbS s then vaL s t else iN 0)) (fun t _ h => e t h), smI_add]
    congr 1
    rw [smI_s (i := 4) (by omega), smI_s (i := 3) (by omega), smI_s (i := 2) (by omega), smI_s (i := 1) (by omega), smI_s (i := 0) (by omega), smI_0]
    show iN 0 + vaL s 0 + iN 0 + iN 0 + iN 0 + iN 0 = vaL s 0
    rw [i_add0, i_add0, i_add0, i_add0, i_0add]
  rw [a2] at a1
  exact i_cancel a1
/-- tables within count one less than tables -/
theorem nests_1 {s : Sv} (hw : WF s) : iN (tbS s) = iN (kindsS s 3) + iN 1 := by
  have t5 := hw.1.2.2
  have t1 := hw.1.2.1
  have h := in_cells hw (fun _ => iN 1)
  have e : ∀ q, (if (clB s q && decide (kiS s q = 3)) = true then iN 1 else iN 0) = iN (if (clB s q && decide (kiS s q = 3)) = true then 1 else 0) := fun q => by
    by_cases g : (clB s q && decide (kiS s q = 3)) = true
    · rw [if_pos g, if_pos g]
    · rw [if_neg g, if_neg g]
  rw [smI_congr (g' := fun q => iN (if (clB s q && decide (kiS s q = 3)) = true then 1 else 0)) (fun q _ _ => e q), smI_iN] at h
  unfold kindsS
  rw [h]
  generalize tbS s = T at t1 t5
  have hT : T = 1 ∨ T = 2 ∨ T = 3 ∨ T = 4 ∨ T = 5 := by omega
  rcases hT with rfl | rfl | rfl | rfl | rfl <;> decide
/-! counts -/
theorem smN_app {g : Nat → Nat} {lo mid : Nat} (h1 : lo ≤ mid) : ∀ {hi : Nat}, mid ≤ hi → smN g lo hi = smN g lo mid + smN g mid hi
  | 0, h2 => by
    obtain rfl : mid = 0 := by omega
    rfl
  | n + 1, h2 => by
    by_cases e : mid = n + 1
    · subst e
      rw [smN_0]
      rfl
    · rw [smN_s (by omega), smN_s (by omega), smN_app h1 (by omega)]
      omega
theorem smN_add {g g' : Nat → Nat} {lo : Nat} : ∀ {hi : Nat}, smN (fun q => g q + g' q) lo hi = smN g lo hi + smN g' lo hi
  | 0 => rfl
  | n + 1 => by
    unfold smN
    by_cases h : lo ≤ n
    · rw [if_pos h, if_pos h, if_pos h, smN_add]
      omega
    · rw [if_neg h, if_neg h, if_neg h]
theorem smN_sh {g : Nat → Nat} {a : Nat} : ∀ {n : Nat}, smN g a (a + n) = smN (fun j => g (a + j)) 0 n
  | 0 => smN_0
  | n + 1 => by
    rw [← Nat.add_assoc, smN_s (by omega), smN_s (by omega), smN_sh]
theorem kind_sum {s : Sv} (hw : WF s) : smN (kindsS s) 0 7 = cellsS s := by
  have e : ∀ (G : Nat → Nat), smN G 0 7 = G 0 + (G 1 + (G 2 + (G 3 + (G 4 + (G 5 + G 6))))) := fun G => by
    rw [smN_s (i := 6) (by omega), smN_s (i := 5) (by omega), smN_s (i := 4) (by omega), smN_s (i := 3) (by omega), smN_s (i := 2) (by omega), smN_s (i := 1) (by omega), smN_s (i := 0) (by omega), smN_0]
    omega
  rw [e]
  unfold kindsS cellsS
  rw [← smN_add, ← smN_add, ← smN_add, ← smN_add, ← smN_add, ← smN_add]
  refine smN_congr (fun q _ _ => ?_)
  cases hc : clB s q
  · simp only [Bool.false_and, Bool.false_eq_true, if_false, Nat.add_zero]
  · have hk := (hw.2.2.2.2.2.1 q (clB_iff.mp hc).1).2.1
    generalize kiS s q = K at hk
    have hK : K = 0 ∨ K = 1 ∨ K = 2 ∨ K = 3 ∨ K = 4 ∨ K = 5 ∨ K = 6 := by omega
    rcases hK with rfl | rfl | rfl | rfl | rfl | rfl | rfl <;> rfl
/-- squares that a table has -/
theorem squares_t : ∀ r, r < 6 → ∀ c, c < 6 → smN (fun j => if (decide (j / 5 < r) && decide (j % 5 < c)) = true then 1 else 0) 0 25 = r * c := by decide +kernel
theorem square_sum {s : Sv} (hw : WF s) : smN (fun q => if ofB s q = true then 1 else 0) 0 125 = squaresS s := by
  have t5 := hw.1.2.2
  have key : ∀ t, t < 5 → smN (fun q => if ofB s q = true then 1 else 0) (t * 25) (t * 25 + 25) = if t < tbS s then roS s t * coS s t else 0 := fun t ht => by
    rw [smN_sh]
    by_cases h : t < tbS s
    · rw [if_pos h]
      have w3 := hw.2.2.1 t h
      rw [← squares_t (roS s t) (by omega) (coS s t) (by omega)]
      refine smN_congr (fun j _ hj => ?_)
      unfold ofB
      rw [show (t * 25 + j) / 25 = t by omega, show (t * 25 + j) % 25 / 5 = j / 5 by omega, show (t * 25 + j) % 5 = j % 5 by omega, decide_eq_true h, Bool.true_and]
    · rw [if_neg h]
      refine Nat.le_antisymm ?_ (Nat.zero_le _)
      refine Nat.le_trans (smN_le (B := 0) (fun j => ?_) 25) (by omega)
      by_cases hj : ofB s (t * 25 + j) = true
      · rw [if_pos hj]
        exact absurd (ofB_iff.mp hj).1 (by omega)
      · rw [if_neg hj]
        exact Nat.le_refl _
  unfold squaresS
  rw [smN_app (lo := 0) (mid := 100) (hi := 125) (by omega) (by omega), smN_app (lo := 0) (mid := 75) (hi := 100) (by omega) (by omega), smN_app (lo := 0) (mid := 50) (hi := 75) (by omega) (by omega), smN_app (lo := 0) (mid := 25) (hi := 50) (by omega) (by omega)]
  rw [key 0 (by omega), key 1 (by omega), key 2 (by omega), key 3 (by omega), key 4 (by omega)]
  rw [smN_s (i := 4) (by omega), smN_s (i := 3) (by omega), smN_s (i := 2) (by omega), smN_s (i := 1) (by omega), smN_s (i := 0) (by omega), smN_0, Nat.zero_add]
