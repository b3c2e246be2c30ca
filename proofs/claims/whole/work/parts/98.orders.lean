/-! RUN: WHAT THE CLASS READS OF AN ORDER -/
/-- the class's text -/
def CT5 (C : Nat → Nat) (L : Nat) (σ : Mm) : Prop := L ≤ 60 ∧ σ 165 1 = iN L ∧ ∀ j, j < L → σ 167 j = iN (C j) ∧ C j < 1000
theorem CT5.fr {C : Nat → Nat} {L : Nat} {σ σ1 : Mm} (h : CT5 C L σ) (h5 : σ1 165 = σ 165) (h7 : σ1 167 = σ 167) : CT5 C L σ1 :=
  ⟨h.1, by rw [h5]; exact h.2.1, fun j hj => by rw [h7]; exact h.2.2 j hj⟩
theorem f_isOrderEnd {C : Nat → Nat} {L x : Nat} {σ : Mm} (h : CT5 C L σ) (hx : x ≤ L) : F_X3_isOrderEnd (iN x) σ = some (.inl (if x = L ∨ C x = 59 then iN 1 else iN 0), σ) := by
  obtain ⟨hL, e1, hC⟩ := h
  unfold F_X3_isOrderEnd
  by_cases g : x = L
  · rw [if_pos (.inl g)]
    simp (disch := omega) only [↓ite_ap, if_true, if_false, if_pos, if_neg, retM_ap, retZ_ap0, retZ_ap1, gM_np, sM_ap, jM_np, bI_ap, bL_ap, bD_ap, rdM_ap, wrM_ap, thrM_ap, nl_0, nl_1, nl_2, nl_3, nl_4, nl_5, nl_6, nl_7, nl_8, nl_9, nl_10, nl_11, nl_12, nl_13, nl_25, nl_33, nl_35, nl_45, nl_48, nl_49, nl_50, nl_52, nl_53, nl_57, nl_59, nl_60, nl_61, nl_77, nl_94, nl_97, nl_100, nl_101, nl_119, nl_125, nl_126, nl_137, nl_262, nl_387, nl_500, nl_512, nl_637, nl_999, nl_1022, nl_1137, nl_5685, nm_1b, iN_mI, mI_iN, iN_add, iN_mul, iN_sub, iN_div, iN_rem, iN_lt, iN_le, iN_eq, iN_nat, inB_iN, e1]
  · have c := hC x (by omega)
    have c2 := c.2
    by_cases g2 : C x = 59
    · rw [if_pos (.inr g2)]
      simp (disch := omega) only [↓ite_ap, if_true, if_false, if_pos, if_neg, retM_ap, retZ_ap0, retZ_ap1, gM_np, sM_ap, jM_np, bI_ap, bL_ap, bD_ap, rdM_ap, wrM_ap, thrM_ap, nl_0, nl_1, nl_2, nl_3, nl_4, nl_5, nl_6, nl_7, nl_8, nl_9, nl_10, nl_11, nl_12, nl_13, nl_25, nl_33, nl_35, nl_45, nl_48, nl_49, nl_50, nl_52, nl_53, nl_57, nl_59, nl_60, nl_61, nl_77, nl_94, nl_97, nl_100, nl_101, nl_119, nl_125, nl_126, nl_137, nl_262, nl_387, nl_500, nl_512, nl_637, nl_999, nl_1022, nl_1137, nl_5685, nm_1b, iN_mI, mI_iN, iN_add, iN_mul, iN_sub, iN_div, iN_rem, iN_lt, iN_le, iN_eq, iN_nat, inB_iN, ↓b_at, ↓b_store, ↓b_place1, ↓b_place0, ↓b_tableOf, ↓b_sqEnd, ↓b_isCell, Nat.reduceAdd, e1, c.1, g2]
    · rw [if_neg (fun y => y.elim g g2)]
      simp (disch := omega) only [↓ite_ap, if_true, if_false, if_pos, if_neg, retM_ap, retZ_ap0, retZ_ap1, gM_np, sM_ap, jM_np, bI_ap, bL_ap, bD_ap, rdM_ap, wrM_ap, thrM_ap, nl_0, nl_1, nl_2, nl_3, nl_4, nl_5, nl_6, nl_7, nl_8, nl_9, nl_10, nl_11, nl_12, nl_13, nl_25, nl_33, nl_35, nl_45, nl_48, nl_49, nl_50, nl_52, nl_53, nl_57, nl_59, nl_60, nl_61, nl_77, nl_94, nl_97, nl_100, nl_101, nl_119, nl_125, nl_126, nl_137, nl_262, nl_387, nl_500, nl_512, nl_637, nl_999, nl_1022, nl_1137, nl_5685, nm_1b, iN_mI, mI_iN, iN_add, iN_mul, iN_sub, iN_div, iN_rem, iN_lt, iN_le, iN_eq, iN_nat, inB_iN, ↓b_at, ↓b_store, ↓b_place1, ↓b_place0, ↓b_tableOf, ↓b_sqEnd, ↓b_isCell, Nat.reduceAdd, e1, c.1]
section Leaf
variable {C : Nat → Nat} {L p p' : Nat} {σ : Mm}
theorem f_tableAt (h : CT5 C L σ) (hs : sgO C p p') (hp : p' ≤ L) : F_X3_tableAt (iN p) σ = some (.inl (iN (C p - 48)), σ) := by
  obtain ⟨hL, e1, hC⟩ := h
  obtain ⟨s1, s2, s3, s4, s5, s6, s7, s8, s9⟩ := hs
  have c := hC p (by omega)
  unfold F_X3_tableAt
  simp (disch := omega) only [↓ite_ap, if_true, if_false, if_pos, if_neg, retM_ap, retZ_ap0, retZ_ap1, gM_np, sM_ap, jM_np, bI_ap, bL_ap, bD_ap, rdM_ap, wrM_ap, thrM_ap, nl_0, nl_1, nl_2, nl_3, nl_4, nl_5, nl_6, nl_7, nl_8, nl_9, nl_10, nl_11, nl_12, nl_13, nl_25, nl_33, nl_35, nl_45, nl_48, nl_49, nl_50, nl_52, nl_53, nl_57, nl_59, nl_60, nl_61, nl_77, nl_94, nl_97, nl_100, nl_101, nl_119, nl_125, nl_126, nl_137, nl_262, nl_387, nl_500, nl_512, nl_637, nl_999, nl_1022, nl_1137, nl_5685, nm_1b, iN_mI, mI_iN, iN_add, iN_mul, iN_sub, iN_div, iN_rem, iN_lt, iN_le, iN_eq, iN_nat, inB_iN, ↓b_at, ↓b_store, ↓b_place1, ↓b_place0, ↓b_tableOf, ↓b_sqEnd, ↓b_isCell, Nat.reduceAdd, c.1]
theorem f_rowAt (h : CT5 C L σ) (hs : sgO C p p') (hp : p' ≤ L) : F_X3_rowAt (iN p) σ = some (.inl (iN (C (p + 2) - 49)), σ) := by
  obtain ⟨hL, e1, hC⟩ := h
  obtain ⟨s1, s2, s3, s4, s5, s6, s7, s8, s9⟩ := hs
  have c := hC (p + 2) (by omega)
  unfold F_X3_rowAt
  simp (disch := omega) only [↓ite_ap, if_true, if_false, if_pos, if_neg, retM_ap, retZ_ap0, retZ_ap1, gM_np, sM_ap, jM_np, bI_ap, bL_ap, bD_ap, rdM_ap, wrM_ap, thrM_ap, nl_0, nl_1, nl_2, nl_3, nl_4, nl_5, nl_6, nl_7, nl_8, nl_9, nl_10, nl_11, nl_12, nl_13, nl_25, nl_33, nl_35, nl_45, nl_48, nl_49, nl_50, nl_52, nl_53, nl_57, nl_59, nl_60, nl_61, nl_77, nl_94, nl_97, nl_100, nl_101, nl_119, nl_125, nl_126, nl_137, nl_262, nl_387, nl_500, nl_512, nl_637, nl_999, nl_1022, nl_1137, nl_5685, nm_1b, iN_mI, mI_iN, iN_add, iN_mul, iN_sub, iN_div, iN_rem, iN_lt, iN_le, iN_eq, iN_nat, inB_iN, ↓b_at, ↓b_store, ↓b_place1, ↓b_place0, ↓b_tableOf, ↓b_sqEnd, ↓b_isCell, Nat.reduceAdd, c.1]
theorem f_columnAt (h : CT5 C L σ) (hs : sgO C p p') (hp : p' ≤ L) : F_X3_columnAt (iN p) σ = some (.inl (iN (C (p + 1) - 97)), σ) := by
  obtain ⟨hL, e1, hC⟩ := h
  obtain ⟨s1, s2, s3, s4, s5, s6, s7, s8, s9⟩ := hs
  have c := hC (p + 1) (by omega)
  unfold F_X3_columnAt
  simp (disch := omega) only [↓ite_ap, if_true, if_false, if_pos, if_neg, retM_ap, retZ_ap0, retZ_ap1, gM_np, sM_ap, jM_np, bI_ap, bL_ap, bD_ap, rdM_ap, wrM_ap, thrM_ap, nl_0, nl_1, nl_2, nl_3, nl_4, nl_5, nl_6, nl_7, nl_8, nl_9, nl_10, nl_11, nl_12, nl_13, nl_25, nl_33, nl_35, nl_45, nl_48, nl_49, nl_50, nl_52, nl_53, nl_57, nl_59, nl_60, nl_61, nl_77, nl_94, nl_97, nl_100, nl_101, nl_119, nl_125, nl_126, nl_137, nl_262, nl_387, nl_500, nl_512, nl_637, nl_999, nl_1022, nl_1137, nl_5685, nm_1b, iN_mI, mI_iN, iN_add, iN_mul, iN_sub, iN_div, iN_rem, iN_lt, iN_le, iN_eq, iN_nat, inB_iN, ↓b_at, ↓b_store, ↓b_place1, ↓b_place0, ↓b_tableOf, ↓b_sqEnd, ↓b_isCell, Nat.reduceAdd, c.1]
theorem f_kindAt (h : CT5 C L σ) (hs : sgO C p p') (hp : p' ≤ L) : F_X3_kindAt (iN p) σ = some (.inl (iN (kdA (C (p + 3)))), σ) := by
  obtain ⟨hL, e1, hC⟩ := h
  obtain ⟨s1, s2, s3, s4, s5, s6, s7, s8, s9⟩ := hs
  have c := hC (p + 3) (by omega)
  have c1 := c.1
  have c2 := c.2
  obtain ⟨x, hx⟩ : ∃ x, x = C (p + 3) := ⟨_, rfl⟩
  rw [← hx] at c1 c2 ⊢
  have go : ∀ k n, k = kdA x → (if iN x = (35 : Int32) then retM (6 : Int32) else (if iN x = (60 : Int32) then retM (5 : Int32) else (if iN x = (61 : Int32) then retM (1 : Int32) else (if iN x = (94 : Int32) then retM (4 : Int32) else (if iN x = (119 : Int32) then retM (2 : Int32) else retM (0 : Int32)))))) σ = some (.inl n, σ) → n = iN k → F_X3_kindAt (iN p) σ = some (.inl (iN (kdA x)), σ) := by
    intro k n hk hz hn
    rw [← hk, ← hn, ← hz]
    unfold F_X3_kindAt
    rw [nl_3, iN_add, b_at (by omega) (by omega), c1]
  clear c c1 hx hC s2 s9
  by_cases g1 : x = 35
  · refine go 6 _ (by rw [g1]; rfl) ?_ rfl
    clear go
    simp (disch := omega) only [↓ite_ap, if_true, if_false, if_pos, if_neg, retM_ap, retZ_ap0, retZ_ap1, gM_np, sM_ap, jM_np, bI_ap, bL_ap, bD_ap, rdM_ap, wrM_ap, thrM_ap, nl_0, nl_1, nl_2, nl_3, nl_4, nl_5, nl_6, nl_7, nl_8, nl_9, nl_10, nl_11, nl_12, nl_13, nl_25, nl_33, nl_35, nl_45, nl_48, nl_49, nl_50, nl_52, nl_53, nl_57, nl_59, nl_60, nl_61, nl_77, nl_94, nl_97, nl_100, nl_101, nl_119, nl_125, nl_126, nl_137, nl_262, nl_387, nl_500, nl_512, nl_637, nl_999, nl_1022, nl_1137, nl_5685, nm_1b, iN_mI, mI_iN, iN_add, iN_mul, iN_sub, iN_div, iN_rem, iN_lt, iN_le, iN_eq, iN_nat, inB_iN, g1]
  by_cases g2 : x = 60
  · refine go 5 _ (by rw [g2]; rfl) ?_ rfl
    clear go
    simp (disch := omega) only [↓ite_ap, if_true, if_false, if_pos, if_neg, retM_ap, retZ_ap0, retZ_ap1, gM_np, sM_ap, jM_np, bI_ap, bL_ap, bD_ap, rdM_ap, wrM_ap, thrM_ap, nl_0, nl_1, nl_2, nl_3, nl_4, nl_5, nl_6, nl_7, nl_8, nl_9, nl_10, nl_11, nl_12, nl_13, nl_25, nl_33, nl_35, nl_45, nl_48, nl_49, nl_50, nl_52, nl_53, nl_57, nl_59, nl_60, nl_61, nl_77, nl_94, nl_97, nl_100, nl_101, nl_119, nl_125, nl_126, nl_137, nl_262, nl_387, nl_500, nl_512, nl_637, nl_999, nl_1022, nl_1137, nl_5685, nm_1b, iN_mI, mI_iN, iN_add, iN_mul, iN_sub, iN_div, iN_rem, iN_lt, iN_le, iN_eq, iN_nat, inB_iN, g2]
  by_cases g3 : x = 61
  · refine go 1 _ (by rw [g3]; rfl) ?_ rfl
    clear go
    simp (disch := omega) only [↓ite_ap, if_true, if_false, if_pos, if_neg, retM_ap, retZ_ap0, retZ_ap1, gM_np, sM_ap, jM_np, bI_ap, bL_ap, bD_ap, rdM_ap, wrM_ap, thrM_ap, nl_0, nl_1, nl_2, nl_3, nl_4, nl_5, nl_6, nl_7, nl_8, nl_9, nl_10, nl_11, nl_12, nl_13, nl_25, nl_33, nl_35, nl_45, nl_48, nl_49, nl_50, nl_52, nl_53, nl_57, nl_59, nl_60, nl_61, nl_77, nl_94, nl_97, nl_100, nl_101, nl_119, nl_125, nl_126, nl_137, nl_262, nl_387, nl_500, nl_512, nl_637, nl_999, nl_1022, nl_1137, nl_5685, nm_1b, iN_mI, mI_iN, iN_add, iN_mul, iN_sub, iN_div, iN_rem, iN_lt, iN_le, iN_eq, iN_nat, inB_iN, g3]
  by_cases g4 : x = 94
  · refine go 4 _ (by rw [g4]; rfl) ?_ rfl
    clear go
    simp (disch := omega) only [↓ite_ap, if_true, if_false, if_pos, if_neg, retM_ap, retZ_ap0, retZ_ap1, gM_np, sM_ap, jM_np, bI_ap, bL_ap, bD_ap, rdM_ap, wrM_ap, thrM_ap, nl_0, nl_1, nl_2, nl_3, nl_4, nl_5, nl_6, nl_7, nl_8, nl_9, nl_10, nl_11, nl_12, nl_13, nl_25, nl_33, nl_35, nl_45, nl_48, nl_49, nl_50, nl_52, nl_53, nl_57, nl_59, nl_60, nl_61, nl_77, nl_94, nl_97, nl_100, nl_101, nl_119, nl_125, nl_126, nl_137, nl_262, nl_387, nl_500, nl_512, nl_637, nl_999, nl_1022, nl_1137, nl_5685, nm_1b, iN_mI, mI_iN, iN_add, iN_mul, iN_sub, iN_div, iN_rem, iN_lt, iN_le, iN_eq, iN_nat, inB_iN, g4]
  by_cases g5 : x = 119
  · refine go 2 _ (by rw [g5]; rfl) ?_ rfl
    clear go
    simp (disch := omega) only [↓ite_ap, if_true, if_false, if_pos, if_neg, retM_ap, retZ_ap0, retZ_ap1, gM_np, sM_ap, jM_np, bI_ap, bL_ap, bD_ap, rdM_ap, wrM_ap, thrM_ap, nl_0, nl_1, nl_2, nl_3, nl_4, nl_5, nl_6, nl_7, nl_8, nl_9, nl_10, nl_11, nl_12, nl_13, nl_25, nl_33, nl_35, nl_45, nl_48, nl_49, nl_50, nl_52, nl_53, nl_57, nl_59, nl_60, nl_61, nl_77, nl_94, nl_97, nl_100, nl_101, nl_119, nl_125, nl_126, nl_137, nl_262, nl_387, nl_500, nl_512, nl_637, nl_999, nl_1022, nl_1137, nl_5685, nm_1b, iN_mI, mI_iN, iN_add, iN_mul, iN_sub, iN_div, iN_rem, iN_lt, iN_le, iN_eq, iN_nat, inB_iN, g5]
  refine go 0 _ (by unfold kdA; rw [if_neg g3, if_neg g5, if_neg g4, if_neg g2, if_neg g1]) ?_ rfl
  clear go
  simp (disch := omega) only [↓ite_ap, if_true, if_false, if_pos, if_neg, retM_ap, retZ_ap0, retZ_ap1, gM_np, sM_ap, jM_np, bI_ap, bL_ap, bD_ap, rdM_ap, wrM_ap, thrM_ap, nl_0, nl_1, nl_2, nl_3, nl_4, nl_5, nl_6, nl_7, nl_8, nl_9, nl_10, nl_11, nl_12, nl_13, nl_25, nl_33, nl_35, nl_45, nl_48, nl_49, nl_50, nl_52, nl_53, nl_57, nl_59, nl_60, nl_61, nl_77, nl_94, nl_97, nl_100, nl_101, nl_119, nl_125, nl_126, nl_137, nl_262, nl_387, nl_500, nl_512, nl_637, nl_999, nl_1022, nl_1137, nl_5685, nm_1b, iN_mI, mI_iN, iN_add, iN_mul, iN_sub, iN_div, iN_rem, iN_lt, iN_le, iN_eq, iN_nat, inB_iN]
theorem f_numLoop {k1 : Int32 → Dm Int32} (h : CT5 C L σ) (hp : p' ≤ L) : ∀ d x a n, x + d = p' → d < n → (∀ j, x ≤ j → j < p' → C j = 45 ∨ (48 ≤ C j ∧ C j ≤ 57)) → L_X3_numberAt_7 (iN p') n (iN a) (iN x) k1 σ = k1 (iN (nmN C d x a)) σ
  | 0, x, a, n, h1, h2, h3 => by
    obtain ⟨n, rfl⟩ : ∃ y, n = y + 1 := ⟨n - 1, by omega⟩
    obtain rfl : x = p' := by omega
    simp only [L_X3_numberAt_7]
    rw [if_pos (by rw [iN_le (by have := h.1; omega) (by have := h.1; omega)]; omega)]
    rfl
  | d + 1, x, a, n, h1, h2, h3 => by
    obtain ⟨n, rfl⟩ : ∃ y, n = y + 1 := ⟨n - 1, by omega⟩
    have hL := h.1
    have c := h.2.2 x (by omega)
    have ih := fun a' => f_numLoop (k1 := k1) h hp d (x + 1) a' n (by omega) (by omega) (fun j u v => h3 j (by omega) v)
    simp only [L_X3_numberAt_7]
    rw [nmN]
    rcases h3 x (Nat.le_refl _) (by omega) with g | ⟨g1, g2⟩
    · rw [if_pos g]
      have c1 := c.1
      rw [g] at c1
      simp (disch := omega) only [↓ite_ap, if_true, if_false, if_pos, if_neg, retM_ap, retZ_ap0, retZ_ap1, gM_np, sM_ap, jM_np, bI_ap, bL_ap, bD_ap, rdM_ap, wrM_ap, thrM_ap, nl_0, nl_1, nl_2, nl_3, nl_4, nl_5, nl_6, nl_7, nl_8, nl_9, nl_10, nl_11, nl_12, nl_13, nl_25, nl_33, nl_35, nl_45, nl_48, nl_49, nl_50, nl_52, nl_53, nl_57, nl_59, nl_60, nl_61, nl_77, nl_94, nl_97, nl_100, nl_101, nl_119, nl_125, nl_126, nl_137, nl_262, nl_387, nl_500, nl_512, nl_637, nl_999, nl_1022, nl_1137, nl_5685, nm_1b, iN_mI, mI_iN, iN_add, iN_mul, iN_sub, iN_div, iN_rem, iN_lt, iN_le, iN_eq, iN_nat, inB_iN, ↓b_at, ↓b_store, ↓b_place1, ↓b_place0, ↓b_tableOf, ↓b_sqEnd, ↓b_isCell, Nat.reduceAdd, c1, ih]
    · rw [if_neg (show ¬ C x = 45 by omega)]
      have c2 := c.2
      have e : bI (((iN a * iN 10) + iN (C x)) - iN 48) (fun x7 => L_X3_numberAt_7 (iN p') n x7 (iN (x + 1)) k1) σ = k1 (iN (nmN C d (x + 1) (a * 10 + C x - 48))) σ := by
        rw [iN_mul, iN_add, iN_sub (by omega), bI_np, ih]
      simp (disch := omega) only [↓ite_ap, if_true, if_false, if_pos, if_neg, jM_np, nl_0, nl_1, nl_2, nl_3, nl_4, nl_5, nl_6, nl_7, nl_8, nl_9, nl_10, nl_11, nl_12, nl_13, nl_25, nl_33, nl_35, nl_45, nl_48, nl_49, nl_50, nl_52, nl_53, nl_57, nl_59, nl_60, nl_61, nl_77, nl_94, nl_97, nl_100, nl_101, nl_119, nl_125, nl_126, nl_137, nl_262, nl_387, nl_500, nl_512, nl_637, nl_999, nl_1022, nl_1137, nl_5685, iN_eq, iN_le, ↓b_at, ↓b_store, ↓b_place1, ↓b_place0, ↓b_tableOf, ↓b_sqEnd, ↓b_isCell, Nat.reduceAdd, c.1]
      rw [← iN_add (a := x) (b := 1)] at e
      exact e
theorem f_numberAt (h : CT5 C L σ) (hs : sgO C p p') (hp : p' ≤ L) : F_X3_numberAt (iN p) (iN p') σ = some (.inl (numA C p p'), σ) := by
  have hL := h.1
  obtain ⟨s1, s2, s3, s4, s5, s6, s7, s8, s9⟩ := hs
  have lo := fun k1 => f_numLoop (k1 := k1) h hp (p' - (p + 4)) (p + 4) 0 FU (by omega) (by unfold FU; omega) s9
  unfold F_X3_numberAt
  rw [nl_4, iN_add, bI_np, nl_0, lo]
  unfold numA
  by_cases g : p + 4 < p'
  · have c := h.2.2 (p + 4) (by omega)
    have c2 := c.2
    rw [b_at (by omega) (by omega), c.1]
    by_cases g2 : C (p + 4) = 45
    · rw [nl_45, if_pos (by rw [g2]), if_pos ⟨g, g2⟩]
      rfl
    · rw [nl_45, if_neg (by rw [iN_eq (by omega) (by omega)]; exact g2), if_neg (fun y => g2 y.2)]
      rfl
  · obtain ⟨x, hx⟩ := f_at_any (b := 166) (nb := 60) (i := p + 4) (σ := σ) (by omega) (by omega)
    rw [invM_l hx, show p' - (p + 4) = 0 by omega, if_neg (c := p + 4 < p' ∧ C (p + 4) = 45) (fun y => g y.1)]
    by_cases g2 : x = (45 : Int32)
    · rw [if_pos g2]
      have z : -(iN 0) = iN 0 := by decide
      show some (Sum.inl (-(iN 0)), σ) = some (Sum.inl (iN 0), σ)
      rw [z]
    · rw [if_neg g2]
      rfl
end Leaf
