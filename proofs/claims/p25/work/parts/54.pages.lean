/-! PAGES -/
/-- a loop that may end early -/
theorem lpx {A R : Type} (X : Nat → Nat → A → R) (a : Nat → A) (P : Nat → Prop) {r : R} {i0 N : Nat} (h : i0 ≤ N) (hF : N < FU) (h0 : P i0) (step : ∀ n i, i0 ≤ i → i < N → P i → X (n + 1) i (a i) = r ∨ (P (i + 1) ∧ X (n + 1) i (a i) = X n (i + 1) (a (i + 1)))) (fin : ∀ n, P N → X (n + 1) N (a N) = r) : X FU i0 (a i0) = r := by
  have key : ∀ d i n, i0 ≤ i → i + d = N → d < n → P i → X n i (a i) = r := by
    intro d
    induction d with
    | zero =>
      intro i n _ h1 h2 hp
      obtain ⟨m, rfl⟩ : ∃ m, n = m + 1 := ⟨n - 1, by omega⟩
      have : i = N := by omega
      subst this
      exact fin m hp
    | succ d ih =>
      intro i n h0 h1 h2 hp
      obtain ⟨m, rfl⟩ : ∃ m, n = m + 1 := ⟨n - 1, by omega⟩
      rcases step m i h0 (by omega) hp with g | ⟨g1, g2⟩
      · exact g
      · rw [g2]
        exact ih (i + 1) m (by omega) (by omega) (by omega) g1
  exact key (N - i0) i0 FU (Nat.le_refl _) (by omega) (by omega) h0
/-- one of the numbers below N -/
def anB (p : Nat → Bool) : Nat → Bool
  | 0 => false
  | n + 1 => anB p n || p n
theorem anB_iff {p : Nat → Bool} : ∀ {N : Nat}, anB p N = true ↔ ∃ i, i < N ∧ p i = true
  | 0 => ⟨fun h => (by cases h), fun ⟨i, h, _⟩ => (by omega)⟩
  | n + 1 => by
    unfold anB
    rw [Bool.or_eq_true, anB_iff]
    constructor
    · rintro (⟨i, h1, h2⟩ | h)
      · exact ⟨i, by omega, h2⟩
      · exact ⟨n, by omega, h⟩
    · rintro ⟨i, h1, h2⟩
      by_cases h : i = n
      · subst h
        exact .inr h2
      · exact .inl ⟨i, by omega, h2⟩
/-- the row is joined to the one above -/
def jnB (s : Sv) (r : Nat) : Bool := anB (fun c => decide (0 < r) && decide (owS s ((r - 1) * 5 + c) = owS s (r * 5 + c))) (coS s 0)
theorem f_isJoined {b r : Nat} {s : Sv} {σ : Mm} (hw : WF s) (hr : Rel (b + 1) s σ) (h5 : r < roS s 0) : F_X1_isJoined b (iN r) σ = some (.inl (if jnB s r = true then iN 1 else iN 0), σ) := by
  have t1 := hw.1.2.1
  have a1 := hw.2.2.1 0 (by omega)
  have l0 := rel_lines hr (hw := hw) (t := 0) (w := 0) (by omega) (by omega)
  have l0' : σ (b + 3) 0 = iN (coS s 0) := l0.1
  refine lpx (fun n i (_ : Unit) => L_X1_isJoined_2 b (iN r) n (iN i) σ) (fun _ => ()) (fun i => ∀ c, c < i → ¬ (0 < r ∧ owS s ((r - 1) * 5 + c) = owS s (r * 5 + c))) (i0 := 0) (N := coS s 0) (by omega) (by unfold FU; omega) (fun c h => by omega) ?_ ?_
  · intro n i h1 h2 hp
    have hq : isOf s (r * 5 + i) := ⟨by omega, by rw [show (r * 5 + i) / 25 = 0 by omega]; omega, by rw [show (r * 5 + i) / 25 = 0 by omega]; omega⟩
    have o1 := f_ownerBeside (side := 0) hw hr hq (by omega)
    have o2 : σ (b + 7) (r * 5 + i) = iN (owS s (r * 5 + i)) := (hr.2.2.2.2.1 _ hq).1.trans (hw.2.2.2.1 _ hq).1
    have b2 := isOf_lt hw (hw.2.2.2.1 _ hq).2.1.1
    have b3 := isOf_lt hw hq
    simp only [L_X1_isJoined_2]
    by_cases h0 : 0 < r
    · have eo : obS s (r * 5 + i) 0 = iN (owS s ((r - 1) * 5 + i)) := by
        unfold obS bsS
        rw [if_pos rfl, if_pos (by omega), show r * 5 + i - 5 = (r - 1) * 5 + i by omega]
      rw [eo] at o1
      have hq1 : isOf s ((r - 1) * 5 + i) := ⟨by omega, by rw [show ((r - 1) * 5 + i) / 25 = 0 by omega]; omega, by rw [show ((r - 1) * 5 + i) / 25 = 0 by omega]; omega⟩
      have b1 := isOf_lt hw (hw.2.2.2.1 _ hq1).2.1.1
      by_cases he : owS s ((r - 1) * 5 + i) = owS s (r * 5 + i)
      · refine .inl ?_
        have hj : jnB s r = true := anB_iff.mpr ⟨i, h2, by rw [decide_eq_true h0, decide_eq_true he]; rfl⟩
        simp (disch := omega) only [↓ite_ap, if_true, if_false, if_pos, if_neg, retM_ap, retZ_ap0, retZ_ap1, gM_ap, sM_ap, jM_ap, bI_ap, bL_ap, bD_ap, rdM_ap, wrM_ap, thrM_ap, nl_0, nl_1, nl_2, nl_3, nl_4, nl_5, nl_6, nl_7, nl_8, nl_9, nl_10, nl_11, nl_12, nl_13, nl_25, nl_33, nl_35, nl_45, nl_48, nl_49, nl_50, nl_52, nl_53, nl_57, nl_59, nl_60, nl_61, nl_77, nl_94, nl_97, nl_100, nl_101, nl_119, nl_125, nl_126, nl_137, nl_262, nl_387, nl_500, nl_512, nl_637, nl_999, nl_1022, nl_1137, nl_5685, nm_1b, iN_mI, mI_iN, iN_add, iN_mul, iN_sub, iN_div, iN_rem, iN_lt, iN_le, iN_eq, iN_nat, inB_iN, ↓b_at, ↓b_store, ↓b_place1, ↓b_place0, ↓b_tableOf, ↓b_sqEnd, ↓b_isCell, ↓b_linesOf, ↓b_spanOf, ↓b_isSum, ↓b_sizePlace, ↓b_isBetween, ↓b_sizeOf, ↓b_sizeTogether, Bool.false_eq_true, not_true_eq_false, not_false_eq_true, Nat.add_assoc, Nat.reduceAdd, Nat.reduceMul, l0', ↓invM_l o1, o2, he, hj]
      · refine .inr ⟨fun c hc g => ?_, ?_⟩
        · by_cases hci : c = i
          · subst hci
            exact he g.2
          · exact hp c (by omega) g
        · simp (disch := omega) only [↓ite_ap, if_true, if_false, if_pos, if_neg, retM_ap, retZ_ap0, retZ_ap1, gM_ap, sM_ap, jM_ap, bI_ap, bL_ap, bD_ap, rdM_ap, wrM_ap, thrM_ap, nl_0, nl_1, nl_2, nl_3, nl_4, nl_5, nl_6, nl_7, nl_8, nl_9, nl_10, nl_11, nl_12, nl_13, nl_25, nl_33, nl_35, nl_45, nl_48, nl_49, nl_50, nl_52, nl_53, nl_57, nl_59, nl_60, nl_61, nl_77, nl_94, nl_97, nl_100, nl_101, nl_119, nl_125, nl_126, nl_137, nl_262, nl_387, nl_500, nl_512, nl_637, nl_999, nl_1022, nl_1137, nl_5685, nm_1b, iN_mI, mI_iN, iN_add, iN_mul, iN_sub, iN_div, iN_rem, iN_lt, iN_le, iN_eq, iN_nat, inB_iN, ↓b_at, ↓b_store, ↓b_place1, ↓b_place0, ↓b_tableOf, ↓b_sqEnd, ↓b_isCell, ↓b_linesOf, ↓b_spanOf, ↓b_isSum, ↓b_sizePlace, ↓b_isBetween, ↓b_sizeOf, ↓b_sizeTogether, Bool.false_eq_true, not_true_eq_false, not_false_eq_true, Nat.add_assoc, Nat.reduceAdd, Nat.reduceMul, l0', ↓invM_l o1, o2, he]
    · have eo : obS s (r * 5 + i) 0 = mI := by
        unfold obS bsS
        rw [if_pos rfl, if_neg (by omega)]
      rw [eo] at o1
      refine .inr ⟨fun c hc g => h0 g.1, ?_⟩
      simp (disch := omega) only [↓ite_ap, if_true, if_false, if_pos, if_neg, retM_ap, retZ_ap0, retZ_ap1, gM_ap, sM_ap, jM_ap, bI_ap, bL_ap, bD_ap, rdM_ap, wrM_ap, thrM_ap, nl_0, nl_1, nl_2, nl_3, nl_4, nl_5, nl_6, nl_7, nl_8, nl_9, nl_10, nl_11, nl_12, nl_13, nl_25, nl_33, nl_35, nl_45, nl_48, nl_49, nl_50, nl_52, nl_53, nl_57, nl_59, nl_60, nl_61, nl_77, nl_94, nl_97, nl_100, nl_101, nl_119, nl_125, nl_126, nl_137, nl_262, nl_387, nl_500, nl_512, nl_637, nl_999, nl_1022, nl_1137, nl_5685, nm_1b, iN_mI, mI_iN, iN_add, iN_mul, iN_sub, iN_div, iN_rem, iN_lt, iN_le, iN_eq, iN_nat, inB_iN, ↓b_at, ↓b_store, ↓b_place1, ↓b_place0, ↓b_tableOf, ↓b_sqEnd, ↓b_isCell, ↓b_linesOf, ↓b_spanOf, ↓b_isSum, ↓b_sizePlace, ↓b_isBetween, ↓b_sizeOf, ↓b_sizeTogether, Bool.false_eq_true, not_true_eq_false, not_false_eq_true, Nat.add_assoc, Nat.reduceAdd, Nat.reduceMul, l0', ↓invM_l o1, o2, mI_iN]
  · intro n hp
    have hj : jnB s r = false := by
      cases e : jnB s r
      · rfl
      · obtain ⟨i, h1, h2⟩ := anB_iff.mp e
        rw [Bool.and_eq_true, decide_eq_true_eq, decide_eq_true_eq] at h2
        exact absurd h2 (hp i h1)
    simp only [L_X1_isJoined_2]
    simp (disch := omega) only [↓ite_ap, if_true, if_false, if_pos, if_neg, retM_ap, retZ_ap0, retZ_ap1, gM_ap, sM_ap, jM_ap, bI_ap, bL_ap, bD_ap, rdM_ap, wrM_ap, thrM_ap, nl_0, nl_1, nl_2, nl_3, nl_4, nl_5, nl_6, nl_7, nl_8, nl_9, nl_10, nl_11, nl_12, nl_13, nl_25, nl_33, nl_35, nl_45, nl_48, nl_49, nl_50, nl_52, nl_53, nl_57, nl_59, nl_60, nl_61, nl_77, nl_94, nl_97, nl_100, nl_101, nl_119, nl_125, nl_126, nl_137, nl_262, nl_387, nl_500, nl_512, nl_637, nl_999, nl_1022, nl_1137, nl_5685, nm_1b, iN_mI, mI_iN, iN_add, iN_mul, iN_sub, iN_div, iN_rem, iN_lt, iN_le, iN_eq, iN_nat, inB_iN, ↓b_at, ↓b_store, ↓b_place1, ↓b_place0, ↓b_tableOf, ↓b_sqEnd, ↓b_isCell, ↓b_linesOf, ↓b_spanOf, ↓b_isSum, ↓b_sizePlace, ↓b_isBetween, ↓b_sizeOf, ↓b_sizeTogether, Bool.false_eq_true, not_true_eq_false, not_false_eq_true, Nat.add_assoc, Nat.reduceAdd, Nat.reduceMul, l0', hj]
/-- the rows behind first, up to j, are joined each to the one above -/
def alB (s : Sv) (first : Nat) : Nat → Bool
  | 0 => true
  | j + 1 => if first ≤ j then alB s first j && jnB s (j + 1) else true
theorem alB_0 {s : Sv} {first j : Nat} (h : j ≤ first) : alB s first j = true := by
  cases j with
  | zero => rfl
  | succ j => unfold alB; rw [if_neg (by omega)]
theorem alB_s {s : Sv} {first j : Nat} (h : first ≤ j) : alB s first (j + 1) = (alB s first j && jnB s (j + 1)) := by
  rw [alB, if_pos h]
theorem alB_no {s : Sv} {first i : Nat} (h : first ≤ i) (hn : alB s first i = false) : ∀ j, i ≤ j → alB s first j = false
  | 0, h1 => by
    obtain rfl : i = 0 := by omega
    exact hn
  | j + 1, h1 => by
    by_cases e : i = j + 1
    · subst e
      exact hn
    · rw [alB_s (by omega), alB_no h hn j (by omega)]
      rfl
/-- the heights of a block together -/
def blS (s : Sv) (z : Nat → Nat) (first : Nat) : Nat := smN (fun j => if alB s first j = true then z j else 0) first (roS s 0)
/-- the page and what is used of it, behind the rows before i -/
def pgS (s : Sv) (z : Nat → Nat) (h : Nat) : Nat → Nat × Nat
  | 0 => (0, 0)
  | i + 1 => if jnB s i = true then pgS s z h i else if 0 < i ∧ h < (pgS s z h i).2 + blS s z i then ((pgS s z h i).1 + 1, blS s z i) else ((pgS s z h i).1, (pgS s z h i).2 + blS s z i)
theorem blS_le {s : Sv} {z : Nat → Nat} {first : Nat} : blS s z first ≤ smN z 0 (roS s 0) := by
  unfold blS
  refine Nat.le_trans ?_ (smN_sub (Nat.zero_le first) (Nat.le_refl _))
  generalize roS s 0 = N
  induction N with
  | zero => exact Nat.le_refl _
  | succ n ih =>
    by_cases h : first ≤ n
    · rw [smN_s h, smN_s h]
      by_cases ha : alB s first n = true
      · rw [if_pos ha]; omega
      · rw [if_neg ha]; omega
    · unfold smN
      rw [if_neg h, if_neg h]
      exact Nat.le_refl _
theorem pgS_le {s : Sv} {z : Nat → Nat} {h B : Nat} (hz : smN z 0 (roS s 0) ≤ B) : ∀ i, (pgS s z h i).1 ≤ i ∧ (pgS s z h i).2 ≤ i * B
  | 0 => ⟨Nat.zero_le _, Nat.zero_le _⟩
  | i + 1 => by
    have ih := pgS_le hz (h := h) i
    have hb := Nat.le_trans (blS_le (s := s) (z := z) (first := i)) hz
    have e : (i + 1) * B = i * B + B := by rw [Nat.add_mul, Nat.one_mul]
    rw [pgS, e]
    by_cases hj : jnB s i = true
    · rw [if_pos hj]; omega
    · rw [if_neg hj]
      by_cases hc : 0 < i ∧ h < (pgS s z h i).2 + blS s z i
      · rw [if_pos hc]
        exact ⟨Nat.add_le_add_right ih.1 1, Nat.le_trans hb (Nat.le_add_left _ _)⟩
      · rw [if_neg hc]
        exact ⟨Nat.le_trans ih.1 (Nat.le_succ i), Nat.add_le_add ih.2 hb⟩
theorem f_block {b first : Nat} {s : Sv} {σ : Mm} {z : Nat → Nat} {K : Int32 → Dm Int32} (hw : WF s) (hr : Rel (b + 1) s σ) (hf : first < roS s 0) (hz : ∀ l, l < 5 → σ (b + 29) (5 + l) = iN (z l)) : L_X1_pageOf_42 b FU (iN (z first)) (iN (first + 1)) K σ = K (iN (blS s z first)) σ := by
  have t1 := hw.1.2.1
  have a1 := hw.2.2.1 0 (by omega)
  have l1 := rel_lines hr (hw := hw) (t := 0) (w := 1) (by omega) (by omega)
  have l1' : σ (b + 3) 1 = iN (roS s 0) := l1.1
  have h := lpx (fun n i (a : Int32) => L_X1_pageOf_42 b n a (iN i) K σ) (fun i => iN (smN (fun j => if alB s first j = true then z j else 0) first i)) (fun i => alB s first (i - 1) = true) (r := K (iN (blS s z first)) σ) (i0 := first + 1) (N := roS s 0) (by omega) (by unfold FU; omega) (alB_0 (by omega)) ?_ ?_
  · have e0 : smN (fun j => if alB s first j = true then z j else 0) first (first + 1) = z first := by
      rw [smN_s (Nat.le_refl _), smN_0, alB_0 (Nat.le_refl _), if_pos rfl, Nat.zero_add]
    simp only [e0] at h
    exact h
  · intro n i h1 h2 hp
    have fj := f_isJoined hw hr h2
    have hzi := hz i (by omega)
    have ei : alB s first i = (alB s first (i - 1) && jnB s i) := by
      have := alB_s (s := s) (first := first) (j := i - 1) (by omega)
      rw [show i - 1 + 1 = i by omega] at this
      exact this
    simp only [L_X1_pageOf_42]
    by_cases hj : jnB s i = true
    · rw [hp, hj] at ei
      have ei : alB s first i = true := ei
      refine .inr ⟨by rw [Nat.add_sub_cancel]; exact ei, ?_⟩
      rw [hj, if_pos rfl] at fj
      rw [smN_s (by omega), ei, if_pos rfl]
      simp (disch := omega) only [↓ite_ap, if_true, if_false, if_pos, if_neg, retM_ap, retZ_ap0, retZ_ap1, gM_ap, sM_ap, jM_ap, bI_ap, bL_ap, bD_ap, rdM_ap, wrM_ap, thrM_ap, nl_0, nl_1, nl_2, nl_3, nl_4, nl_5, nl_6, nl_7, nl_8, nl_9, nl_10, nl_11, nl_12, nl_13, nl_25, nl_33, nl_35, nl_45, nl_48, nl_49, nl_50, nl_52, nl_53, nl_57, nl_59, nl_60, nl_61, nl_77, nl_94, nl_97, nl_100, nl_101, nl_119, nl_125, nl_126, nl_137, nl_262, nl_387, nl_500, nl_512, nl_637, nl_999, nl_1022, nl_1137, nl_5685, nm_1b, iN_mI, mI_iN, iN_add, iN_mul, iN_sub, iN_div, iN_rem, iN_lt, iN_le, iN_eq, iN_nat, inB_iN, ↓b_at, ↓b_store, ↓b_place1, ↓b_place0, ↓b_tableOf, ↓b_sqEnd, ↓b_isCell, ↓b_linesOf, ↓b_spanOf, ↓b_isSum, ↓b_sizePlace, ↓b_isBetween, ↓b_sizeOf, ↓b_sizeTogether, Bool.false_eq_true, not_true_eq_false, not_false_eq_true, Nat.add_assoc, Nat.reduceAdd, Nat.reduceMul, l1', ↓invM_l fj, hzi]
    · refine .inl ?_
      rw [Bool.not_eq_true] at hj
      rw [hp, hj] at ei
      have ei : alB s first i = false := ei
      rw [hj, if_neg (by decide)] at fj
      have eb : blS s z first = smN (fun j => if alB s first j = true then z j else 0) first i := smN_ext (by omega) (by omega) (fun j h3 h4 => by
        have := alB_no (s := s) (first := first) (i := i) (by omega) ei j h3
        rw [this]
        rfl)
      rw [eb]
      simp (disch := omega) only [↓ite_ap, if_true, if_false, if_pos, if_neg, retM_ap, retZ_ap0, retZ_ap1, gM_ap, sM_ap, jM_ap, bI_ap, bL_ap, bD_ap, rdM_ap, wrM_ap, thrM_ap, nl_0, nl_1, nl_2, nl_3, nl_4, nl_5, nl_6, nl_7, nl_8, nl_9, nl_10, nl_11, nl_12, nl_13, nl_25, nl_33, nl_35, nl_45, nl_48, nl_49, nl_50, nl_52, nl_53, nl_57, nl_59, nl_60, nl_61, nl_77, nl_94, nl_97, nl_100, nl_101, nl_119, nl_125, nl_126, nl_137, nl_262, nl_387, nl_500, nl_512, nl_637, nl_999, nl_1022, nl_1137, nl_5685, nm_1b, iN_mI, mI_iN, iN_add, iN_mul, iN_sub, iN_div, iN_rem, iN_lt, iN_le, iN_eq, iN_nat, inB_iN, ↓b_at, ↓b_store, ↓b_place1, ↓b_place0, ↓b_tableOf, ↓b_sqEnd, ↓b_isCell, ↓b_linesOf, ↓b_spanOf, ↓b_isSum, ↓b_sizePlace, ↓b_isBetween, ↓b_sizeOf, ↓b_sizeTogether, Bool.false_eq_true, not_true_eq_false, not_false_eq_true, Nat.add_assoc, Nat.reduceAdd, Nat.reduceMul, l1', ↓invM_l fj]
  · intro n hp
    simp only [L_X1_pageOf_42]
    simp (disch := omega) only [↓ite_ap, if_true, if_false, if_pos, if_neg, retM_ap, retZ_ap0, retZ_ap1, gM_ap, sM_ap, jM_ap, bI_ap, bL_ap, bD_ap, rdM_ap, wrM_ap, thrM_ap, nl_0, nl_1, nl_2, nl_3, nl_4, nl_5, nl_6, nl_7, nl_8, nl_9, nl_10, nl_11, nl_12, nl_13, nl_25, nl_33, nl_35, nl_45, nl_48, nl_49, nl_50, nl_52, nl_53, nl_57, nl_59, nl_60, nl_61, nl_77, nl_94, nl_97, nl_100, nl_101, nl_119, nl_125, nl_126, nl_137, nl_262, nl_387, nl_500, nl_512, nl_637, nl_999, nl_1022, nl_1137, nl_5685, nm_1b, iN_mI, mI_iN, iN_add, iN_mul, iN_sub, iN_div, iN_rem, iN_lt, iN_le, iN_eq, iN_nat, inB_iN, ↓b_at, ↓b_store, ↓b_place1, ↓b_place0, ↓b_tableOf, ↓b_sqEnd, ↓b_isCell, ↓b_linesOf, ↓b_spanOf, ↓b_isSum, ↓b_sizePlace, ↓b_isBetween, ↓b_sizeOf, ↓b_sizeTogether, Bool.false_eq_true, not_true_eq_false, not_false_eq_true, Nat.add_assoc, Nat.reduceAdd, Nat.reduceMul, l1']
    rfl
theorem f_pageOf {b row h : Nat} {s : Sv} {σ : Mm} {z : Nat → Nat} (hw : WF s) (hr : Rel (b + 1) s σ) (hrow : row < roS s 0) (hh : h < 1000) (hz : ∀ l, l < 5 → σ (b + 29) (5 + l) = iN (z l)) (hB : smN z 0 (roS s 0) ≤ 300000000) : F_X1_pageOf b (iN row) (iN h) σ = some (.inl (iN (pgS s z h (row + 1)).1), σ) := by
  have t1 := hw.1.2.1
  have a1 := hw.2.2.1 0 (by omega)
  refine lp (fun n i (a : Int32 × Int32) => L_X1_pageOf_8 b (iN row) (iN h) n a.1 a.2 (iN i) σ) (fun i => (iN (pgS s z h i).1, iN (pgS s z h i).2)) (i0 := 0) (N := row + 1) (by omega) (by unfold FU; omega) ?_ ?_
  · intro n i h1 h2
    have fj := f_isJoined hw hr (show i < roS s 0 by omega)
    have hzi := hz i (by omega)
    have b1 := pgS_le (h := h) hB i
    have b2 := Nat.le_trans (blS_le (s := s) (z := z) (first := i)) hB
    have b3 : i * 300000000 ≤ 4 * 300000000 := Nat.mul_le_mul (by omega) (Nat.le_refl _)
    simp only [L_X1_pageOf_8]
    rw [pgS]
    by_cases hj : jnB s i = true
    · rw [hj, if_pos rfl] at fj
      rw [if_pos hj]
      simp (disch := omega) only [↓ite_ap, if_true, if_false, if_pos, if_neg, retM_ap, retZ_ap0, retZ_ap1, gM_ap, sM_ap, jM_ap, bI_ap, bL_ap, bD_ap, rdM_ap, wrM_ap, thrM_ap, nl_0, nl_1, nl_2, nl_3, nl_4, nl_5, nl_6, nl_7, nl_8, nl_9, nl_10, nl_11, nl_12, nl_13, nl_25, nl_33, nl_35, nl_45, nl_48, nl_49, nl_50, nl_52, nl_53, nl_57, nl_59, nl_60, nl_61, nl_77, nl_94, nl_97, nl_100, nl_101, nl_119, nl_125, nl_126, nl_137, nl_262, nl_387, nl_500, nl_512, nl_637, nl_999, nl_1022, nl_1137, nl_5685, nm_1b, iN_mI, mI_iN, iN_add, iN_mul, iN_sub, iN_div, iN_rem, iN_lt, iN_le, iN_eq, iN_nat, inB_iN, ↓b_at, ↓b_store, ↓b_place1, ↓b_place0, ↓b_tableOf, ↓b_sqEnd, ↓b_isCell, ↓b_linesOf, ↓b_spanOf, ↓b_isSum, ↓b_sizePlace, ↓b_isBetween, ↓b_sizeOf, ↓b_sizeTogether, Bool.false_eq_true, not_true_eq_false, not_false_eq_true, Nat.add_assoc, Nat.reduceAdd, Nat.reduceMul, ↓invM_l fj]
    · rw [if_neg hj] at fj ⊢
      have fb := fun K => f_block (K := K) hw hr (show i < roS s 0 by omega) hz
      by_cases hc : 0 < i ∧ h < (pgS s z h i).2 + blS s z i
      · rw [if_pos hc]
        have c1 := hc.1
        have c2 := hc.2
        simp (disch := omega) only [↓ite_ap, if_true, if_false, if_pos, if_neg, retM_ap, retZ_ap0, retZ_ap1, gM_ap, sM_ap, jM_ap, bI_ap, bL_ap, bD_ap, rdM_ap, wrM_ap, thrM_ap, nl_0, nl_1, nl_2, nl_3, nl_4, nl_5, nl_6, nl_7, nl_8, nl_9, nl_10, nl_11, nl_12, nl_13, nl_25, nl_33, nl_35, nl_45, nl_48, nl_49, nl_50, nl_52, nl_53, nl_57, nl_59, nl_60, nl_61, nl_77, nl_94, nl_97, nl_100, nl_101, nl_119, nl_125, nl_126, nl_137, nl_262, nl_387, nl_500, nl_512, nl_637, nl_999, nl_1022, nl_1137, nl_5685, nm_1b, iN_mI, mI_iN, iN_add, iN_mul, iN_sub, iN_div, iN_rem, iN_lt, iN_le, iN_eq, iN_nat, inB_iN, ↓b_at, ↓b_store, ↓b_place1, ↓b_place0, ↓b_tableOf, ↓b_sqEnd, ↓b_isCell, ↓b_linesOf, ↓b_spanOf, ↓b_isSum, ↓b_sizePlace, ↓b_isBetween, ↓b_sizeOf, ↓b_sizeTogether, Bool.false_eq_true, not_true_eq_false, not_false_eq_true, Nat.add_assoc, Nat.reduceAdd, Nat.reduceMul, ↓invM_l fj, hzi, fb, Nat.zero_add]
      · rw [if_neg hc]
        by_cases c1 : i ≤ 0
        · simp (disch := omega) only [↓ite_ap, if_true, if_false, if_pos, if_neg, retM_ap, retZ_ap0, retZ_ap1, gM_ap, sM_ap, jM_ap, bI_ap, bL_ap, bD_ap, rdM_ap, wrM_ap, thrM_ap, nl_0, nl_1, nl_2, nl_3, nl_4, nl_5, nl_6, nl_7, nl_8, nl_9, nl_10, nl_11, nl_12, nl_13, nl_25, nl_33, nl_35, nl_45, nl_48, nl_49, nl_50, nl_52, nl_53, nl_57, nl_59, nl_60, nl_61, nl_77, nl_94, nl_97, nl_100, nl_101, nl_119, nl_125, nl_126, nl_137, nl_262, nl_387, nl_500, nl_512, nl_637, nl_999, nl_1022, nl_1137, nl_5685, nm_1b, iN_mI, mI_iN, iN_add, iN_mul, iN_sub, iN_div, iN_rem, iN_lt, iN_le, iN_eq, iN_nat, inB_iN, ↓b_at, ↓b_store, ↓b_place1, ↓b_place0, ↓b_tableOf, ↓b_sqEnd, ↓b_isCell, ↓b_linesOf, ↓b_spanOf, ↓b_isSum, ↓b_sizePlace, ↓b_isBetween, ↓b_sizeOf, ↓b_sizeTogether, Bool.false_eq_true, not_true_eq_false, not_false_eq_true, Nat.add_assoc, Nat.reduceAdd, Nat.reduceMul, ↓invM_l fj, hzi, fb]
        · have c2 : (pgS s z h i).2 + blS s z i ≤ h := by omega
          simp (disch := omega) only [↓ite_ap, if_true, if_false, if_pos, if_neg, retM_ap, retZ_ap0, retZ_ap1, gM_ap, sM_ap, jM_ap, bI_ap, bL_ap, bD_ap, rdM_ap, wrM_ap, thrM_ap, nl_0, nl_1, nl_2, nl_3, nl_4, nl_5, nl_6, nl_7, nl_8, nl_9, nl_10, nl_11, nl_12, nl_13, nl_25, nl_33, nl_35, nl_45, nl_48, nl_49, nl_50, nl_52, nl_53, nl_57, nl_59, nl_60, nl_61, nl_77, nl_94, nl_97, nl_100, nl_101, nl_119, nl_125, nl_126, nl_137, nl_262, nl_387, nl_500, nl_512, nl_637, nl_999, nl_1022, nl_1137, nl_5685, nm_1b, iN_mI, mI_iN, iN_add, iN_mul, iN_sub, iN_div, iN_rem, iN_lt, iN_le, iN_eq, iN_nat, inB_iN, ↓b_at, ↓b_store, ↓b_place1, ↓b_place0, ↓b_tableOf, ↓b_sqEnd, ↓b_isCell, ↓b_linesOf, ↓b_spanOf, ↓b_isSum, ↓b_sizePlace, ↓b_isBetween, ↓b_sizeOf, ↓b_sizeTogether, Bool.false_eq_true, not_true_eq_false, not_false_eq_true, Nat.add_assoc, Nat.reduceAdd, Nat.reduceMul, ↓invM_l fj, hzi, fb]
  · intro n
    simp only [L_X1_pageOf_8]
    simp (disch := omega) only [↓ite_ap, if_true, if_false, if_pos, if_neg, retM_ap, retZ_ap0, retZ_ap1, gM_ap, sM_ap, jM_ap, bI_ap, bL_ap, bD_ap, rdM_ap, wrM_ap, thrM_ap, nl_0, nl_1, nl_2, nl_3, nl_4, nl_5, nl_6, nl_7, nl_8, nl_9, nl_10, nl_11, nl_12, nl_13, nl_25, nl_33, nl_35, nl_45, nl_48, nl_49, nl_50, nl_52, nl_53, nl_57, nl_59, nl_60, nl_61, nl_77, nl_94, nl_97, nl_100, nl_101, nl_119, nl_125, nl_126, nl_137, nl_262, nl_387, nl_500, nl_512, nl_637, nl_999, nl_1022, nl_1137, nl_5685, nm_1b, iN_mI, mI_iN, iN_add, iN_mul, iN_sub, iN_div, iN_rem, iN_lt, iN_le, iN_eq, iN_nat, inB_iN, ↓b_at, ↓b_store, ↓b_place1, ↓b_place0, ↓b_tableOf, ↓b_sqEnd, ↓b_isCell, ↓b_linesOf, ↓b_spanOf, ↓b_isSum, ↓b_sizePlace, ↓b_isBetween, ↓b_sizeOf, ↓b_sizeTogether, Bool.false_eq_true, not_true_eq_false, not_false_eq_true]
theorem f_countPages {b h : Nat} {s : Sv} {σ : Mm} {z : Nat → Nat} (hw : WF s) (hr : Rel (b + 1) s σ) (hh : h < 1000) (hz : ∀ l, l < 5 → σ (b + 29) (5 + l) = iN (z l)) (hB : smN z 0 (roS s 0) ≤ 300000000) : F_X1_countPages b (iN h) σ = some (.inl (iN ((pgS s z h (roS s 0)).1 + 1)), σ) := by
  have t1 := hw.1.2.1
  have a1 := hw.2.2.1 0 (by omega)
  have l1 := rel_lines hr (hw := hw) (t := 0) (w := 1) (by omega) (by omega)
  have l1' : σ (b + 3) 1 = iN (roS s 0) := l1.1
  have f1 := f_pageOf hw hr (show roS s 0 - 1 < roS s 0 by omega) hh hz hB
  rw [show roS s 0 - 1 + 1 = roS s 0 by omega] at f1
  unfold F_X1_countPages
  simp (disch := omega) only [↓ite_ap, if_true, if_false, if_pos, if_neg, retM_ap, retZ_ap0, retZ_ap1, gM_ap, sM_ap, jM_ap, bI_ap, bL_ap, bD_ap, rdM_ap, wrM_ap, thrM_ap, nl_0, nl_1, nl_2, nl_3, nl_4, nl_5, nl_6, nl_7, nl_8, nl_9, nl_10, nl_11, nl_12, nl_13, nl_25, nl_33, nl_35, nl_45, nl_48, nl_49, nl_50, nl_52, nl_53, nl_57, nl_59, nl_60, nl_61, nl_77, nl_94, nl_97, nl_100, nl_101, nl_119, nl_125, nl_126, nl_137, nl_262, nl_387, nl_500, nl_512, nl_637, nl_999, nl_1022, nl_1137, nl_5685, nm_1b, iN_mI, mI_iN, iN_add, iN_mul, iN_sub, iN_div, iN_rem, iN_lt, iN_le, iN_eq, iN_nat, inB_iN, ↓b_at, ↓b_store, ↓b_place1, ↓b_place0, ↓b_tableOf, ↓b_sqEnd, ↓b_isCell, ↓b_linesOf, ↓b_spanOf, ↓b_isSum, ↓b_sizePlace, ↓b_isBetween, ↓b_sizeOf, ↓b_sizeTogether, Bool.false_eq_true, not_true_eq_false, not_false_eq_true, Nat.add_assoc, Nat.reduceAdd, Nat.reduceMul, l1', ↓invM_l f1]

