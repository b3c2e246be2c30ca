/-! SPAN: THE CLASS'S COVER -/
def plc (b z k j : Nat) : Prop := ((k = b + 6 ∨ k = b + 8 ∨ k = b + 10) ∧ j = z) ∨ (k = b + 12 ∧ j / 2 = z) ∨ (k = b + 14 ∧ j / 4 = z)
def vls (b : Nat) (own : Int32) (m : Mm) (z : Nat) : Prop := m (b + 6) z = own ∧ m (b + 8) z = iN 0 ∧ m (b + 10) z = iN 0 ∧ m (b + 12) (2 * z + 1) = iN 1 ∧ m (b + 12) (2 * z) = iN 1 ∧ ∀ i, i < 4 → m (b + 14) (4 * z + i) = iN 0
def GPd (b : Nat) (own : Nat → Int32) (D : Nat → Prop) (m0 m : Mm) : Prop := (∀ z, D z → vls b (own z) m z) ∧ ∀ k j, (∀ z, D z → ¬ plc b z k j) → m k j = m0 k j
theorem vls_fr {b z : Nat} {own : Int32} {m m' : Mm} (h : vls b own m z) (hf : ∀ k j, plc b z k j → m' k j = m k j) : vls b own m' z := by
  unfold plc at hf
  refine ⟨?_, ?_, ?_, ?_, ?_, fun i hi => ?_⟩
  · rw [hf _ _ (by omega)]; exact h.1
  · rw [hf _ _ (by omega)]; exact h.2.1
  · rw [hf _ _ (by omega)]; exact h.2.2.1
  · rw [hf _ _ (by omega)]; exact h.2.2.2.1
  · rw [hf _ _ (by omega)]; exact h.2.2.2.2.1
  · rw [hf _ _ (by omega)]; exact h.2.2.2.2.2 i hi
theorem GP_add {b z0 : Nat} {own : Nat → Int32} {D D' : Nat → Prop} {m0 m m' : Mm} (h : GPd b own D m0 m) (hv : vls b (own z0) m' z0) (hf : ∀ k j, ¬ plc b z0 k j → m' k j = m k j) (hD : ∀ z, D' z ↔ D z ∨ z = z0) : GPd b own D' m0 m' := by
  refine ⟨fun z hz => ?_, fun k j hk => ?_⟩
  · by_cases e : z = z0
    · rw [e]; exact hv
    · rcases (hD z).mp hz with g | g
      · refine vls_fr (h.1 z g) (fun k j hp => hf k j (fun g2 => ?_))
        unfold plc at hp g2
        omega
      · exact absurd g e
  · rw [hf k j (hk z0 ((hD z0).mpr (.inr rfl)))]
    exact h.2 k j (fun z hz => hk z ((hD z).mpr (.inl hz)))
theorem GP_iff {b : Nat} {own : Nat → Int32} {D D' : Nat → Prop} {m0 m : Mm} (h : GPd b own D m0 m) (hD : ∀ z, D' z ↔ D z) : GPd b own D' m0 m :=
  ⟨fun z hz => h.1 z ((hD z).mp hz), fun k j hk => h.2 k j (fun z hz => hk z ((hD z).mpr hz))⟩
/-- the squares of a rectangle that come ahead of the row r, column c of it -/
def Dr (q br r c z : Nat) : Prop := z ≠ q ∧ z / 25 = q / 25 ∧ q % 5 ≤ z % 5 ∧ z % 5 < q % 5 + br ∧ q % 25 / 5 ≤ z % 25 / 5 ∧ (z % 25 / 5 < q % 25 / 5 + r ∨ (z % 25 / 5 = q % 25 / 5 + r ∧ z % 5 < q % 5 + c))
def ownT (q x : Nat) (z : Nat) : Int32 := if x = 0 then iN z else iN q
theorem f_give12 {b q br r x : Nat} {m0 : Mm} (hq : q < 125) (hx : x < 2) (h6 : q % 5 + br ≤ 5) (hr : q % 25 / 5 + r < 5) : ∀ (d c n : Nat) (m : Mm), c + d = br → d < n → GPd b (ownT q x) (Dr q br r c) m0 m → ∃ m1, (∀ R : Dm Unit, L_X4_giveSquares_12 b (iN q) (iN br) (iN x) (iN r) n (iN c) (fun _ => R) m = R m1) ∧ GPd b (ownT q x) (Dr q br r br) m0 m1 := by
  intro d
  induction d with
  | zero =>
    intro c n m h1 h2 hp
    obtain ⟨n, rfl⟩ : ∃ k, n = k + 1 := ⟨n - 1, by omega⟩
    obtain rfl : c = br := by omega
    refine ⟨m, fun R => ?_, hp⟩
    simp only [L_X4_giveSquares_12]
    simp (disch := omega) only [↓ite_ap, if_true, if_false, if_pos, if_neg, retM_ap, retZ_ap0, retZ_ap1, gM_ap, sM_ap, jM_ap, bI_ap, bL_ap, bD_ap, rdM_ap, wrM_ap, thrM_ap, nl_0, nl_1, nl_2, nl_3, nl_4, nl_5, nl_6, nl_7, nl_8, nl_9, nl_10, nl_11, nl_12, nl_13, nl_25, nl_33, nl_35, nl_45, nl_48, nl_49, nl_50, nl_52, nl_53, nl_57, nl_59, nl_60, nl_61, nl_77, nl_94, nl_97, nl_100, nl_101, nl_119, nl_125, nl_126, nl_137, nl_262, nl_387, nl_500, nl_512, nl_637, nl_999, nl_1022, nl_1137, nl_5685, nm_1b, iN_mI, mI_iN, iN_add, iN_mul, iN_sub, iN_div, iN_rem, iN_lt, iN_le, iN_eq, iN_nat, inB_iN]
  | succ d ih =>
    intro c n m h1 h2 hp
    obtain ⟨n, rfl⟩ : ∃ k, n = k + 1 := ⟨n - 1, by omega⟩
    have hz5 : q + r * 5 + c < 125 := by omega
    by_cases hz : q + r * 5 + c = q
    · have hp2 : GPd b (ownT q x) (Dr q br r (c + 1)) m0 m := GP_iff hp (fun z => by unfold Dr; omega)
      obtain ⟨m3, b1, b2⟩ := ih (c + 1) n m (by omega) (by omega) hp2
      refine ⟨m3, fun R => ?_, b2⟩
      simp only [L_X4_giveSquares_12]
      have hz' : r = 0 ∧ c = 0 := by omega
      obtain ⟨hz1, hz2⟩ := hz'
      subst hz1 hz2
      simp (disch := omega) only [↓ite_ap, if_true, if_false, if_pos, if_neg, retM_ap, retZ_ap0, retZ_ap1, gM_ap, sM_ap, jM_ap, bI_ap, bL_ap, bD_ap, rdM_ap, wrM_ap, thrM_ap, nl_0, nl_1, nl_2, nl_3, nl_4, nl_5, nl_6, nl_7, nl_8, nl_9, nl_10, nl_11, nl_12, nl_13, nl_25, nl_33, nl_35, nl_45, nl_48, nl_49, nl_50, nl_52, nl_53, nl_57, nl_59, nl_60, nl_61, nl_77, nl_94, nl_97, nl_100, nl_101, nl_119, nl_125, nl_126, nl_137, nl_262, nl_387, nl_500, nl_512, nl_637, nl_999, nl_1022, nl_1137, nl_5685, nm_1b, iN_mI, mI_iN, iN_add, iN_mul, iN_sub, iN_div, iN_rem, iN_lt, iN_le, iN_eq, iN_nat, inB_iN, Nat.zero_mul, Nat.add_zero, Nat.zero_add, b1] at b1 ⊢
    · obtain ⟨m1, a0, a1, a2, a3, a4, a5, a6, a7⟩ := f_makeEmpty (b := b) (q := q + r * 5 + c) (σ := m) hz5
      obtain ⟨m2, h2m⟩ : ∃ m2, m2 = upM m1 (b + 6) (q + r * 5 + c) (ownT q x (q + r * 5 + c)) := ⟨_, rfl⟩
      have hv : vls b (ownT q x (q + r * 5 + c)) m2 (q + r * 5 + c) := by
        rw [h2m]
        refine ⟨upM_at, ?_, ?_, ?_, ?_, fun i hi => ?_⟩
        · rw [upM_o (by omega)]; exact a2
        · rw [upM_o (by omega)]; exact a3
        · rw [upM_o (by omega)]; exact a4
        · rw [upM_o (by omega)]; exact a5
        · rw [upM_o (by omega)]; exact a6 i hi
      have hf : ∀ k j, ¬ plc b (q + r * 5 + c) k j → m2 k j = m k j := fun k j g => by
        unfold plc at g
        rw [h2m, upM_q (by omega), a7 k j (by omega)]
      have hp2 : GPd b (ownT q x) (Dr q br r (c + 1)) m0 m2 := GP_add hp hv hf (fun z => by unfold Dr; omega)
      obtain ⟨m3, b1, b2⟩ := ih (c + 1) n m2 (by omega) (by omega) hp2
      refine ⟨m3, fun R => ?_, b2⟩
      have b1 := b1 R
      rw [h2m] at b1
      simp only [L_X4_giveSquares_12]
      have hx' : x = 0 ∨ x = 1 := by omega
      rcases hx' with e | e
      · subst e
        have eo : ownT q 0 (q + r * 5 + c) = iN (q + r * 5 + c) := by unfold ownT; rw [if_pos rfl]
        rw [eo] at b1
        rw [← Nat.add_assoc] at *
        simp (disch := omega) only [↓ite_ap, if_true, if_false, if_pos, if_neg, retM_ap, retZ_ap0, retZ_ap1, gM_np, sM_ap, jM_np, bI_ap, bL_ap, bD_ap, rdM_ap, wrM_ap, thrM_ap, nl_0, nl_1, nl_2, nl_3, nl_4, nl_5, nl_6, nl_7, nl_8, nl_9, nl_10, nl_11, nl_12, nl_13, nl_25, nl_33, nl_35, nl_45, nl_48, nl_49, nl_50, nl_52, nl_53, nl_57, nl_59, nl_60, nl_61, nl_77, nl_94, nl_97, nl_100, nl_101, nl_119, nl_125, nl_126, nl_137, nl_262, nl_387, nl_500, nl_512, nl_637, nl_999, nl_1022, nl_1137, nl_5685, nm_1b, iN_mI, mI_iN, iN_add, iN_mul, iN_sub, iN_div, iN_rem, iN_lt, iN_le, iN_eq, iN_nat, inB_iN, ↓b_at, ↓b_store, ↓b_place1, ↓b_place0, ↓b_tableOf, ↓b_sqEnd, ↓b_isCell, ↓invM_l a0, Nat.add_assoc, Nat.reduceAdd] at b1 a0 ⊢
        simp (disch := omega) only [↓ite_ap, if_true, if_false, if_pos, if_neg, retM_ap, retZ_ap0, retZ_ap1, gM_np, sM_ap, jM_np, bI_ap, bL_ap, bD_ap, rdM_ap, wrM_ap, thrM_ap, nl_0, nl_1, nl_2, nl_3, nl_4, nl_5, nl_6, nl_7, nl_8, nl_9, nl_10, nl_11, nl_12, nl_13, nl_25, nl_33, nl_35, nl_45, nl_48, nl_49, nl_50, nl_52, nl_53, nl_57, nl_59, nl_60, nl_61, nl_77, nl_94, nl_97, nl_100, nl_101, nl_119, nl_125, nl_126, nl_137, nl_262, nl_387, nl_500, nl_512, nl_637, nl_999, nl_1022, nl_1137, nl_5685, nm_1b, iN_mI, mI_iN, iN_add, iN_mul, iN_sub, iN_div, iN_rem, iN_lt, iN_le, iN_eq, iN_nat, inB_iN, ↓b_at, ↓b_store, ↓b_place1, ↓b_place0, ↓b_tableOf, ↓b_sqEnd, ↓b_isCell, ↓invM_l a0, Nat.add_assoc, Nat.reduceAdd, b1]
      · subst e
        have eo : ownT q 1 (q + r * 5 + c) = iN q := by unfold ownT; rw [if_neg (by omega)]
        rw [eo] at b1
        simp (disch := omega) only [↓ite_ap, if_true, if_false, if_pos, if_neg, retM_ap, retZ_ap0, retZ_ap1, gM_np, sM_ap, jM_np, bI_ap, bL_ap, bD_ap, rdM_ap, wrM_ap, thrM_ap, nl_0, nl_1, nl_2, nl_3, nl_4, nl_5, nl_6, nl_7, nl_8, nl_9, nl_10, nl_11, nl_12, nl_13, nl_25, nl_33, nl_35, nl_45, nl_48, nl_49, nl_50, nl_52, nl_53, nl_57, nl_59, nl_60, nl_61, nl_77, nl_94, nl_97, nl_100, nl_101, nl_119, nl_125, nl_126, nl_137, nl_262, nl_387, nl_500, nl_512, nl_637, nl_999, nl_1022, nl_1137, nl_5685, nm_1b, iN_mI, mI_iN, iN_add, iN_mul, iN_sub, iN_div, iN_rem, iN_lt, iN_le, iN_eq, iN_nat, inB_iN, ↓b_at, ↓b_store, ↓b_place1, ↓b_place0, ↓b_tableOf, ↓b_sqEnd, ↓b_isCell, ↓invM_l a0, Nat.add_assoc, Nat.reduceAdd] at b1 a0 ⊢
        simp (disch := omega) only [↓ite_ap, if_true, if_false, if_pos, if_neg, retM_ap, retZ_ap0, retZ_ap1, gM_np, sM_ap, jM_np, bI_ap, bL_ap, bD_ap, rdM_ap, wrM_ap, thrM_ap, nl_0, nl_1, nl_2, nl_3, nl_4, nl_5, nl_6, nl_7, nl_8, nl_9, nl_10, nl_11, nl_12, nl_13, nl_25, nl_33, nl_35, nl_45, nl_48, nl_49, nl_50, nl_52, nl_53, nl_57, nl_59, nl_60, nl_61, nl_77, nl_94, nl_97, nl_100, nl_101, nl_119, nl_125, nl_126, nl_137, nl_262, nl_387, nl_500, nl_512, nl_637, nl_999, nl_1022, nl_1137, nl_5685, nm_1b, iN_mI, mI_iN, iN_add, iN_mul, iN_sub, iN_div, iN_rem, iN_lt, iN_le, iN_eq, iN_nat, inB_iN, ↓b_at, ↓b_store, ↓b_place1, ↓b_place0, ↓b_tableOf, ↓b_sqEnd, ↓b_isCell, ↓invM_l a0, Nat.add_assoc, Nat.reduceAdd, b1]
theorem f_give {b q hi br x : Nat} {m0 : Mm} (hq : q < 125) (hx : x < 2) (h6 : q % 5 + br ≤ 5) (h5 : q % 25 / 5 + hi ≤ 5) : ∃ m1, F_X4_giveSquares b (iN q) (iN hi) (iN br) (iN x) m0 = some (.inl (), m1) ∧ GPd b (ownT q x) (fun z => inN q hi br z ∧ z ≠ q) m0 m1 := by
  have key : ∀ (d r n : Nat) (m : Mm), r + d = hi → d < n → GPd b (ownT q x) (Dr q br r 0) m0 m → ∃ m1, L_X4_giveSquares_3 b (iN q) (iN hi) (iN br) (iN x) n (iN r) m = some (.inl (), m1) ∧ GPd b (ownT q x) (Dr q br hi 0) m0 m1 := by
    intro d
    induction d with
    | zero =>
      intro r n m h1 h2 hp
      obtain ⟨n, rfl⟩ : ∃ k, n = k + 1 := ⟨n - 1, by omega⟩
      obtain rfl : r = hi := by omega
      refine ⟨m, ?_, hp⟩
      simp only [L_X4_giveSquares_3]
      simp (disch := omega) only [↓ite_ap, if_true, if_false, if_pos, if_neg, retM_ap, retZ_ap0, retZ_ap1, gM_ap, sM_ap, jM_ap, bI_ap, bL_ap, bD_ap, rdM_ap, wrM_ap, thrM_ap, nl_0, nl_1, nl_2, nl_3, nl_4, nl_5, nl_6, nl_7, nl_8, nl_9, nl_10, nl_11, nl_12, nl_13, nl_25, nl_33, nl_35, nl_45, nl_48, nl_49, nl_50, nl_52, nl_53, nl_57, nl_59, nl_60, nl_61, nl_77, nl_94, nl_97, nl_100, nl_101, nl_119, nl_125, nl_126, nl_137, nl_262, nl_387, nl_500, nl_512, nl_637, nl_999, nl_1022, nl_1137, nl_5685, nm_1b, iN_mI, mI_iN, iN_add, iN_mul, iN_sub, iN_div, iN_rem, iN_lt, iN_le, iN_eq, iN_nat, inB_iN]
    | succ d ih =>
      intro r n m h1 h2 hp
      obtain ⟨n, rfl⟩ : ∃ k, n = k + 1 := ⟨n - 1, by omega⟩
      obtain ⟨m1, a1, a2⟩ := f_give12 hq hx h6 (show q % 25 / 5 + r < 5 by omega) br 0 FU m (by omega) (by unfold FU; omega) hp
      obtain ⟨m2, b1, b2⟩ := ih (r + 1) n m1 (by omega) (by omega) (GP_iff a2 (fun z => by unfold Dr; omega))
      refine ⟨m2, ?_, b2⟩
      simp only [L_X4_giveSquares_3]
      simp (disch := omega) only [↓ite_ap, if_true, if_false, if_pos, if_neg, retM_ap, retZ_ap0, retZ_ap1, gM_ap, sM_ap, jM_ap, bI_ap, bL_ap, bD_ap, rdM_ap, wrM_ap, thrM_ap, nl_0, nl_1, nl_2, nl_3, nl_4, nl_5, nl_6, nl_7, nl_8, nl_9, nl_10, nl_11, nl_12, nl_13, nl_25, nl_33, nl_35, nl_45, nl_48, nl_49, nl_50, nl_52, nl_53, nl_57, nl_59, nl_60, nl_61, nl_77, nl_94, nl_97, nl_100, nl_101, nl_119, nl_125, nl_126, nl_137, nl_262, nl_387, nl_500, nl_512, nl_637, nl_999, nl_1022, nl_1137, nl_5685, nm_1b, iN_mI, mI_iN, iN_add, iN_mul, iN_sub, iN_div, iN_rem, iN_lt, iN_le, iN_eq, iN_nat, inB_iN, a1, b1]
  obtain ⟨m1, a1, a2⟩ := key hi 0 FU m0 (by omega) (by unfold FU; omega) ⟨fun z hz => by unfold Dr at hz; omega, fun _ _ _ => rfl⟩
  exact ⟨m1, a1, GP_iff a2 (fun z => by unfold Dr; omega)⟩
theorem f_cover {b q hi br : Nat} {s : Sv} {σ : Mm} (hw : WF s) (hr : Rel b s σ) (hf : fitN s q hi br) : ∃ σ1, F_X4_cover b (iN q) (iN hi) (iN br) σ = some (.inl (), σ1) ∧ Rel b (spS s q hi br) σ1 ∧ ∀ k, ¬ (b ≤ k ∧ k ≤ b + 14) → σ1 k = σ k := by
  have t5 := hw.1.2.2
  obtain ⟨hc, h1, h5, b1, b5, f1, f2, cv⟩ := hf
  have hf : fitN s q hi br := ⟨hc, h1, h5, b1, b5, f1, f2, cv⟩
  have hq5 := isOf_lt hw hc.1
  have w5 := hw.2.2.2.2.1 q hc
  have w6 := hw.2.2.1 _ hc.1.1
  have s1 := rel_span hw hr hc (w := 1) (by omega)
  have s0 := rel_span hw hr hc (w := 0) (by omega)
  have s1' : σ (b + 12) (2 * q + 1) = iN (hiS s q) := s1.1
  have s0' : σ (b + 12) (2 * q) = iN (brS s q) := s0.1
  have hh5 := s1.2
  have hb5 := s0.2
  have hh5 : 1 ≤ hiS s q ∧ hiS s q ≤ 5 := hh5
  have hb5 : 1 ≤ brS s q ∧ brS s q ≤ 5 := hb5
  obtain ⟨m1, a1, a2, a3⟩ := f_give (b := b) (q := q) (hi := hiS s q) (br := brS s q) (x := 0) (m0 := σ) hq5 (by omega) (by omega) (by omega)
  obtain ⟨m2, d1, d2, d3⟩ := f_give (b := b) (q := q) (hi := hi) (br := br) (x := 1) (m0 := m1) hq5 (by omega) (by omega) (by omega)
  obtain ⟨m3, e3⟩ : ∃ m, m = upM (upM m2 (b + 12) (2 * q + 1) (iN hi)) (b + 12) (2 * q) (iN br) := ⟨_, rfl⟩
  have oldof : ∀ z, inN q (hiS s q) (brS s q) z → isOf s z ∧ owS s z = q := fun z h => ⟨⟨by have := hc.1.1; have := h.1; omega, by rw [h.1]; have := h.2.2.1; omega, by rw [h.1]; have := h.2.2.2.2; omega⟩, w5.2.2.2.2.2.2 z h⟩
  have fr : ∀ k j, (∀ z, isOf s z → z ≠ q → (owS s z = q ∨ inN q hi br z) → ¬ plc b z k j) → m2 k j = σ k j := fun k j g => by
    rw [d3 k j (fun z hz => g z (fit_of hw hf hz.1) hz.2 (.inr hz.1)), a3 k j (fun z hz => g z (oldof z hz.1).1 hz.2 (.inl (oldof z hz.1).2))]
  have keep : ∀ z, isOf s z → (z = q ∨ ¬ (owS s z = q ∨ inN q hi br z)) → ∀ k j, plc b z k j → m2 k j = σ k j := fun z hz hk k j hp => fr k j (fun z' g1 g2 g3 g4 => by
    have : z' = z := by
      unfold plc at hp g4
      omega
    rw [this] at g2 g3
    rcases hk with e | e
    · exact g2 e
    · exact e g3)
  have out : ∀ z, ¬ isOf s z → ∀ k j, plc b z k j → m2 k j = σ k j := fun z hn k j hp => fr k j (fun z' g1 g2 g3 g4 => by
    have : z' = z := by
      unfold plc at hp g4
      omega
    rw [this] at g1
    exact hn g1)
  have e3f : ∀ k j, ¬ (k = b + 12 ∧ (j = 2 * q + 1 ∨ j = 2 * q)) → m3 k j = m2 k j := fun k j g => by
    rw [e3, upM_q (by omega), upM_q (by omega)]
  have notsq : ∀ k j, (k = b ∨ k = b + 2 ∨ k = b + 4 ∨ k < b ∨ b + 14 < k) → m3 k j = σ k j := fun k j g => by
    rw [e3f k j (by omega), fr k j (fun z _ _ _ hp => by unfold plc at hp; omega)]
  refine ⟨m3, ?_, ⟨?_, ?_, fun t ht => ?_, fun z hz hn => ?_, fun z hz => ?_, fun z hz hn => ?_, ?_, fun z hz h3 => ?_⟩, fun k hk => funext (fun j => notsq k j (by omega))⟩
  · unfold F_X4_cover
    simp (disch := omega) only [↓ite_ap, if_true, if_false, if_pos, if_neg, retM_ap, retZ_ap0, retZ_ap1, gM_np, sM_ap, jM_np, bI_ap, bL_ap, bD_ap, rdM_ap, wrM_ap, thrM_ap, nl_0, nl_1, nl_2, nl_3, nl_4, nl_5, nl_6, nl_7, nl_8, nl_9, nl_10, nl_11, nl_12, nl_13, nl_25, nl_33, nl_35, nl_45, nl_48, nl_49, nl_50, nl_52, nl_53, nl_57, nl_59, nl_60, nl_61, nl_77, nl_94, nl_97, nl_100, nl_101, nl_119, nl_125, nl_126, nl_137, nl_262, nl_387, nl_500, nl_512, nl_637, nl_999, nl_1022, nl_1137, nl_5685, nm_1b, iN_mI, mI_iN, iN_add, iN_mul, iN_sub, iN_div, iN_rem, iN_lt, iN_le, iN_eq, iN_nat, inB_iN, ↓b_at, ↓b_store, ↓b_place1, ↓b_place0, ↓b_tableOf, ↓b_sqEnd, ↓b_isCell, ↓b_linesOf, ↓b_spanOf, ↓b_isSum, ↓b_sizePlace, ↓b_isBetween, ↓b_sizeOf, ↓b_sizeTogether, Bool.false_eq_true, not_true_eq_false, not_false_eq_true, Nat.add_assoc, Nat.reduceAdd, Nat.add_zero, s1', s0', ↓invM_l a1, ↓invM_l d1, Nat.mul_comm q 2, ← e3]
  · rw [notsq _ _ (by omega), sp_lo (by omega)]; exact hr.1
  · rw [notsq _ _ (by omega), sp_lo (by omega)]; exact hr.2.1
  · rw [sp_tb] at ht
    rw [notsq _ _ (by omega), notsq _ _ (by omega), sp_lo (by omega), sp_lo (by omega)]
    exact hr.2.2.1 t ht
  · rw [sp_tb] at hz
    have hn' : ¬ isOf s z := fun g => hn ((sp_of hw).mpr g)
    rw [e3f _ _ (by omega), out z hn' _ _ (by unfold plc; omega)]
    exact hr.2.2.2.1 z hz hn'
  · have hz' := (sp_of hw).mp hz
    have l1 := isOf_lt hw hz'
    have rz := hr.2.2.2.2.1 z hz'
    rw [sp_512 l1, sp_12 l1, sp_137 l1, sp_262 l1, sp_387 l1]
    by_cases ch : chB s q hi br z = true
    · have cz := (ch_iff hw hq5 hz').mp ch
      have v : vls b (if xB q hi br z = true then iN q else iN z) m2 z := by
        by_cases hN : inN q hi br z
        · have v := d2 z ⟨hN, cz.1⟩
          unfold ownT at v
          rw [if_neg (by omega)] at v
          rw [if_pos (xB_iff.mpr ⟨cz.1, hN⟩)]
          exact v
        · have hO : owS s z = q := by
            rcases cz.2 with g | g
            · exact g
            · exact absurd g hN
          have rc : inN q (hiS s q) (brS s q) z := by
            have := (hw.2.2.2.1 z hz').2.2
            rw [hO] at this
            exact this
          have v := a2 z ⟨rc, cz.1⟩
          unfold ownT at v
          rw [if_pos rfl] at v
          rw [if_neg (fun g => hN (xB_iff.mp g).2)]
          refine vls_fr v (fun k j hp => d3 k j (fun z' hz2 hp2 => ?_))
          have : z' = z := by
            unfold plc at hp hp2
            omega
          rw [this] at hz2
          exact hN hz2.1
      rw [if_pos ch, if_pos ch, if_neg cz.1, if_neg cz.1, if_pos ch, if_pos ch]
      refine ⟨?_, ?_, ?_, ?_, ?_, fun i hi4 => ?_⟩
      · rw [e3f _ _ (by omega), v.1]
        by_cases hx : xB q hi br z = true
        · rw [if_pos hx, if_pos hx]
        · have hO : oB s q z = true := by
            unfold chB at ch
            rw [Bool.or_eq_true] at ch
            rcases ch with g | g
            · exact g
            · exact absurd g hx
          rw [if_neg hx, if_neg hx, if_pos hO]
      · rw [e3f _ _ (by omega)]; exact v.2.1
      · rw [e3f _ _ (by omega)]; exact v.2.2.1
      · rw [e3f _ _ (by have := cz.1; omega)]; exact v.2.2.2.1
      · rw [e3f _ _ (by have := cz.1; omega)]; exact v.2.2.2.2.1
      · rw [e3f _ _ (by omega), sp_637 l1 hi4, if_pos ch]; exact v.2.2.2.2.2 i hi4
    · have hk : z = q ∨ ¬ (owS s z = q ∨ inN q hi br z) := by
        by_cases e : z = q
        · exact .inl e
        · exact .inr (fun g => ch ((ch_iff hw hq5 hz').mpr ⟨e, g⟩))
      have kp := keep z hz' hk
      have nx : ¬ xB q hi br z = true := fun g => ch (by unfold chB; rw [g, Bool.or_true])
      have no : ¬ oB s q z = true := fun g => ch (by unfold chB; rw [g, Bool.true_or])
      rw [if_neg ch, if_neg ch, if_neg nx, if_neg no, if_neg ch, if_neg ch]
      refine ⟨?_, ?_, ?_, ?_, ?_, fun i hi4 => ?_⟩
      · rw [e3f _ _ (by omega), kp _ _ (by unfold plc; omega)]; exact rz.1
      · rw [e3f _ _ (by omega), kp _ _ (by unfold plc; omega)]; exact rz.2.1
      · rw [e3f _ _ (by omega), kp _ _ (by unfold plc; omega)]; exact rz.2.2.1
      · by_cases e : z = q
        · rw [if_pos e, e, e3, upM_ni (by omega), upM_at]
        · rw [if_neg e, e3f _ _ (by omega), kp _ _ (by unfold plc; omega)]; exact rz.2.2.2.1
      · by_cases e : z = q
        · rw [if_pos e, e, e3, upM_at]
        · rw [if_neg e, e3f _ _ (by omega), kp _ _ (by unfold plc; omega)]; exact rz.2.2.2.2.1
      · rw [e3f _ _ (by omega), kp _ _ (by unfold plc; omega), sp_637 l1 hi4, if_neg ch]; exact rz.2.2.2.2.2 i hi4
  · rw [sp_tb] at hz
    have hn' : ¬ isOf s z := fun g => hn ((sp_of hw).mpr g)
    have rz := hr.2.2.2.2.2.1 z hz hn'
    refine ⟨?_, fun i hi4 => ?_⟩
    · rw [e3f _ _ (by omega), out z hn' _ _ (by unfold plc; omega)]; exact rz.1
    · rw [e3f _ _ (by omega), out z hn' _ _ (by unfold plc; omega)]; exact rz.2 i hi4
  · rw [notsq _ _ (by omega)]; exact hr.2.2.2.2.2.2.1
  · have hh := (sp_cl hw hf).mp hz
    have l1 := isOf_lt hw hh.1
    rw [sp_ki l1] at h3
    by_cases c : chB s q hi br z = true
    · rw [if_pos c] at h3
      omega
    · rw [if_neg c] at h3
      rw [sp_nu l1, if_neg c, notsq _ _ (by omega)]
      have oc : isCl s z := by
        rcases hh.2 with g | ⟨g1, g2, g3⟩
        · rw [g]; exact hc
        · rcases g3 with g3 | g3
          · exact absurd ((ch_iff hw hq5 hh.1).mpr ⟨g1, .inl g3⟩) c
          · exact ⟨hh.1, g3⟩
      exact hr.2.2.2.2.2.2.2 z oc h3

