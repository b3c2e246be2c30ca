/-! A NEW TABLE: WELL-FORMED, AND WHAT THE CLASS DOES -/
/-- ahead of the new table t -/
def WFb (s : Sv) (t : Nat) : Prop :=
  (s 0 = iN t ∧ tbS s = t ∧ t < 5) ∧
  (∃ h, s 1 = iN h ∧ 1 ≤ h ∧ h ≤ 60) ∧
  (∀ t', t' < t → s (2 + t') = iN (roS s t') ∧ 1 ≤ roS s t' ∧ roS s t' ≤ 5 ∧ s (7 + t') = iN (coS s t') ∧ 1 ≤ coS s t' ∧ coS s t' ≤ 5) ∧
  (∀ q, isOf s q → s (512 + q) = iN (owS s q) ∧ isCl s (owS s q) ∧ inRc s (owS s q) q) ∧
  (∀ o, isCl s o → s (262 + o) = iN (hiS s o) ∧ s (387 + o) = iN (brS s o) ∧ 1 ≤ hiS s o ∧ 1 ≤ brS s o ∧ o % 25 / 5 + hiS s o ≤ roS s (o / 25) ∧ o % 5 + brS s o ≤ coS s (o / 25) ∧ ∀ q, inRc s o q → owS s q = o) ∧
  (∀ q, isOf s q → s (12 + q) = iN (kiS s q) ∧ kiS s q ≤ 6 ∧ (∀ i, i < 4 → s (637 + (4 * q + i)) = iN (ruS s (4 * q + i)) ∧ ruS s (4 * q + i) ≤ 3) ∧ (owS s q ≠ q → kiS s q = 0)) ∧
  (∀ q, isCl s q → (kiS s q = 1 → -999 ≤ (nuS s q).toInt ∧ (nuS s q).toInt ≤ 999) ∧ (kiS s q = 2 → ∃ w, nuS s q = iN w ∧ 1 ≤ w ∧ w ≤ 12) ∧ (kiS s q = 3 → nuS s q = iN (nv (nuS s q)) ∧ q / 25 < nv (nuS s q) ∧ nv (nuS s q) < t + 1)) ∧
  (∀ t', 1 ≤ t' → t' < t + 1 → ∃ q, isCl s q ∧ kiS s q = 3 ∧ nv (nuS s q) = t') ∧
  (∀ q q', isCl s q → isCl s q' → kiS s q = 3 → kiS s q' = 3 → nv (nuS s q) = nv (nuS s q') → q = q')
section New2
variable {s : Sv} {t hi br : Nat}
theorem nw_of (hb : WFb s t) (h1 : hi ≤ 5) (h2 : br ≤ 5) {z : Nat} : isOf (nwS s t hi br) z ↔ (isOf s z ∧ z / 25 < t) ∨ (z / 25 = t ∧ z % 25 / 5 < hi ∧ z % 5 < br) := by
  have ht := hb.1.2.2
  unfold isOf
  rw [nw_tb ht, hb.1.2.1]
  constructor
  · rintro ⟨a, b, c⟩
    rw [nw_ro ht (by omega) h1] at b
    rw [nw_co ht (by omega) h2] at c
    by_cases e : z / 25 = t
    · rw [if_pos e] at b c
      exact .inr ⟨e, b, c⟩
    · rw [if_neg e] at b c
      exact .inl ⟨⟨by omega, b, c⟩, by omega⟩
  · rintro (⟨⟨a, b, c⟩, d⟩ | ⟨a, b, c⟩)
    · refine ⟨by omega, ?_, ?_⟩
      · rw [nw_ro ht (by omega) h1, if_neg (by omega)]; exact b
      · rw [nw_co ht (by omega) h2, if_neg (by omega)]; exact c
    · refine ⟨by omega, ?_, ?_⟩
      · rw [nw_ro ht (by omega) h1, if_pos a]; exact b
      · rw [nw_co ht (by omega) h2, if_pos a]; exact c
theorem nb_lt (hb : WFb s t) {z : Nat} (h : isOf s z) : z / 25 < t ∧ z < 125 := by
  have h1 := h.1
  have ht := hb.1.2.2
  rw [hb.1.2.1] at h1
  omega
theorem nw_cl (hb : WFb s t) (h1 : hi ≤ 5) (h2 : br ≤ 5) {z : Nat} : isCl (nwS s t hi br) z ↔ (isCl s z ∧ z / 25 < t) ∨ (z / 25 = t ∧ z % 25 / 5 < hi ∧ z % 5 < br) := by
  have ht := hb.1.2.2
  unfold isCl
  rw [nw_of hb h1 h2]
  constructor
  · rintro ⟨⟨a, b⟩ | a, c⟩
    · rw [(nw_acc ht (by omega)).2.2.2.2.1, if_neg (by omega)] at c
      exact .inl ⟨⟨a, c⟩, b⟩
    · exact .inr a
  · rintro (⟨⟨a, c⟩, b⟩ | a)
    · refine ⟨.inl ⟨a, b⟩, ?_⟩
      rw [(nw_acc ht (by omega)).2.2.2.2.1, if_neg (by omega)]
      exact c
    · refine ⟨.inr a, ?_⟩
      rw [(nw_acc ht (by omega)).2.2.2.2.1, if_pos a.1]
theorem nw_rc (ht : t < 5) {o z : Nat} (ho : o < 125) (hne : o / 25 ≠ t) : inRc (nwS s t hi br) o z ↔ inRc s o z := by
  unfold inRc
  rw [(nw_acc ht ho).2.2.1, (nw_acc ht ho).2.2.2.1, if_neg hne, if_neg hne]
theorem nw_WF (hb : WFb s t) (h1 : 1 ≤ hi) (h5 : hi ≤ 5) (h2 : 1 ≤ br) (h6 : br ≤ 5) : WF (nwS s t hi br) := by
  have ht := hb.1.2.2
  have hbt := hb.1.2.1
  refine ⟨⟨?_, by rw [nw_tb ht]; omega, by rw [nw_tb ht]; omega⟩, by rw [nw_1]; exact hb.2.1, fun t' ht' => ?_, fun z hz => ?_, fun o ho => ?_, fun z hz => ?_, fun z hz => ?_, fun t' h3 ht' => ?_, fun z z' hz hz' h3 h3' he => ?_⟩
  · rw [nw_tb ht]
    unfold nwS
    rw [if_pos rfl]
  · rw [nw_tb ht] at ht'
    rw [nw_ro ht (by omega) h5, nw_co ht (by omega) h6, nw_2 ht (by omega), nw_7 ht (by omega)]
    by_cases e : t' = t
    · rw [if_pos e, if_pos e, if_pos e, if_pos e]
      exact ⟨rfl, h1, h5, rfl, h2, h6⟩
    · rw [if_neg e, if_neg e, if_neg e, if_neg e]
      exact hb.2.2.1 t' (by omega)
  · rcases (nw_of hb h5 h6).mp hz with ⟨a, b⟩ | ⟨a, b, c⟩
    · have l1 := nb_lt hb a
      have w := hb.2.2.2.1 z a
      have l2 := nb_lt hb w.2.1.1
      rw [(nw_acc ht l1.2).2.2.2.2.1, if_neg (by omega), (nw_sq ht l1.2).2.2.2.2.1, if_neg (by omega), nw_cl hb h5 h6, nw_rc ht l2.2 (by omega)]
      exact ⟨w.1, .inl ⟨w.2.1, l2.1⟩, w.2.2⟩
    · have l1 : z < 125 := by omega
      rw [(nw_acc ht l1).2.2.2.2.1, if_pos a, (nw_sq ht l1).2.2.2.2.1, if_pos a, nw_cl hb h5 h6]
      refine ⟨rfl, .inr ⟨a, b, c⟩, ?_⟩
      unfold inRc
      rw [(nw_acc ht l1).2.2.1, (nw_acc ht l1).2.2.2.1, if_pos a, if_pos a]
      omega
  · rcases (nw_cl hb h5 h6).mp ho with ⟨a, b⟩ | ⟨a, b, c⟩
    · have l1 := nb_lt hb a.1
      have w := hb.2.2.2.2.1 o a
      have ac := nw_acc (s := s) (hi := hi) (br := br) ht l1.2
      have sq := nw_sq (s := s) (hi := hi) (br := br) ht l1.2
      rw [ac.2.2.1, if_neg (by omega), ac.2.2.2.1, if_neg (by omega), sq.2.2.1, if_neg (by omega), sq.2.2.2.1, if_neg (by omega), nw_ro ht (by omega) h5, if_neg (by omega), nw_co ht (by omega) h6, if_neg (by omega)]
      refine ⟨w.1, w.2.1, w.2.2.1, w.2.2.2.1, w.2.2.2.2.1, w.2.2.2.2.2.1, fun z hz => ?_⟩
      have hz' := (nw_rc ht l1.2 (by omega)).mp hz
      have e := hz'.1
      rw [(nw_acc ht (show z < 125 by omega)).2.2.2.2.1, if_neg (by omega)]
      exact w.2.2.2.2.2.2 z hz'
    · have l1 : o < 125 := by omega
      have ac := nw_acc (s := s) (hi := hi) (br := br) ht l1
      have sq := nw_sq (s := s) (hi := hi) (br := br) ht l1
      have e1 : hiS (nwS s t hi br) o = 1 := by rw [ac.2.2.1, if_pos a]
      have e2 : brS (nwS s t hi br) o = 1 := by rw [ac.2.2.2.1, if_pos a]
      rw [e1, e2, sq.2.2.1, if_pos a, sq.2.2.2.1, if_pos a, nw_ro ht (by omega) h5, if_pos a, nw_co ht (by omega) h6, if_pos a]
      refine ⟨rfl, rfl, Nat.le_refl _, Nat.le_refl _, by omega, by omega, fun z hz => ?_⟩
      unfold inRc at hz
      rw [e1, e2] at hz
      have : z = o := by omega
      rw [this, ac.2.2.2.2.1, if_pos a]
  · rcases (nw_of hb h5 h6).mp hz with ⟨a, b⟩ | ⟨a, b, c⟩
    · have l1 := nb_lt hb a
      have w := hb.2.2.2.2.2.1 z a
      have ac := nw_acc (s := s) (hi := hi) (br := br) ht l1.2
      have sq := nw_sq (s := s) (hi := hi) (br := br) ht l1.2
      rw [ac.1, if_neg (by omega), ac.2.2.2.2.1, if_neg (by omega), sq.1, if_neg (by omega)]
      refine ⟨w.1, w.2.1, fun i hi4 => ?_, w.2.2.2⟩
      rw [ac.2.2.2.2.2 i hi4, if_neg (by omega), sq.2.2.2.2.2 i hi4, if_neg (by omega)]
      exact w.2.2.1 i hi4
    · have l1 : z < 125 := by omega
      have ac := nw_acc (s := s) (hi := hi) (br := br) ht l1
      have sq := nw_sq (s := s) (hi := hi) (br := br) ht l1
      rw [ac.1, if_pos a, ac.2.2.2.2.1, if_pos a, sq.1, if_pos a]
      refine ⟨rfl, by omega, fun i hi4 => ?_, fun _ => rfl⟩
      rw [ac.2.2.2.2.2 i hi4, if_pos a, sq.2.2.2.2.2 i hi4, if_pos a]
      exact ⟨rfl, by omega⟩
  · rcases (nw_cl hb h5 h6).mp hz with ⟨a, b⟩ | ⟨a, b, c⟩
    · have l1 := nb_lt hb a.1
      have w := hb.2.2.2.2.2.2.1 z a
      have ac := nw_acc (s := s) (hi := hi) (br := br) ht l1.2
      rw [ac.1, if_neg (by omega), ac.2.1, if_neg (by omega), nw_tb ht]
      exact w
    · have l1 : z < 125 := by omega
      have ac := nw_acc (s := s) (hi := hi) (br := br) ht l1
      rw [ac.1, if_pos a]
      exact ⟨fun g => by omega, fun g => by omega, fun g => by omega⟩
  · rw [nw_tb ht] at ht'
    obtain ⟨z, a1, a2, a3⟩ := hb.2.2.2.2.2.2.2.1 t' h3 ht'
    have l1 := nb_lt hb a1.1
    have ac := nw_acc (s := s) (hi := hi) (br := br) ht l1.2
    refine ⟨z, (nw_cl hb h5 h6).mpr (.inl ⟨a1, l1.1⟩), ?_, ?_⟩
    · rw [ac.1, if_neg (by omega)]; exact a2
    · rw [ac.2.1, if_neg (by omega)]; exact a3
  · have old : ∀ z, isCl (nwS s t hi br) z → kiS (nwS s t hi br) z = 3 → isCl s z ∧ kiS s z = 3 ∧ nuS (nwS s t hi br) z = nuS s z := fun z hz h3 => by
      rcases (nw_cl hb h5 h6).mp hz with ⟨a, b⟩ | ⟨a, b, c⟩
      · have l1 := nb_lt hb a.1
        have ac := nw_acc (s := s) (hi := hi) (br := br) ht l1.2
        rw [ac.1, if_neg (by omega)] at h3
        rw [ac.2.1, if_neg (by omega)]
        exact ⟨a, h3, rfl⟩
      · have ac := nw_acc (s := s) (hi := hi) (br := br) ht (show z < 125 by omega)
        rw [ac.1, if_pos a] at h3
        omega
    obtain ⟨a1, a2, a3⟩ := old z hz h3
    obtain ⟨b1, b2, b3⟩ := old z' hz' h3'
    rw [a3, b3] at he
    exact hb.2.2.2.2.2.2.2.2 z z' a1 b1 a2 b2 he
/-- what the class's sheet at b holds ahead of the new table t -/
def RelT (b : Nat) (s : Sv) (t : Nat) (σ : Mm) : Prop :=
  σ b 1 = iN t ∧ σ b 0 = s 1 ∧
  (∀ t', t' < t → σ (b + 2) (2 * t' + 1) = s (2 + t') ∧ σ (b + 2) (2 * t') = s (7 + t')) ∧
  (∀ q, q / 25 < t → ¬ isOf s q → σ (b + 6) q = mI) ∧
  (∀ q, isOf s q → σ (b + 6) q = s (512 + q) ∧ σ (b + 8) q = s (12 + q) ∧ σ (b + 10) q = s (137 + q) ∧ σ (b + 12) (2 * q + 1) = s (262 + q) ∧ σ (b + 12) (2 * q) = s (387 + q) ∧ ∀ i, i < 4 → σ (b + 14) (4 * q + i) = s (637 + (4 * q + i))) ∧
  (∀ q, q / 25 < t → ¬ isOf s q → σ (b + 8) q = iN 0 ∧ ∀ i, i < 4 → σ (b + 14) (4 * q + i) = iN 0) ∧
  (1 ≤ t → σ (b + 4) 0 = mI) ∧
  (∀ q, isCl s q → kiS s q = 3 → nv (nuS s q) < t → σ (b + 4) (nv (nuS s q)) = iN q)
theorem f_makeEmpty {b q : Nat} {σ : Mm} (hq : q < 125) : ∃ σ1, F_X4_makeEmpty b (iN q) σ = some (.inl (), σ1) ∧ σ1 (b + 6) q = iN q ∧ σ1 (b + 8) q = iN 0 ∧ σ1 (b + 10) q = iN 0 ∧ σ1 (b + 12) (2 * q + 1) = iN 1 ∧ σ1 (b + 12) (2 * q) = iN 1 ∧ (∀ i, i < 4 → σ1 (b + 14) (4 * q + i) = iN 0) ∧ ∀ k j, ¬ (((k = b + 6 ∨ k = b + 8 ∨ k = b + 10) ∧ j = q) ∨ (k = b + 12 ∧ j / 2 = q) ∨ (k = b + 14 ∧ j / 4 = q)) → σ1 k j = σ k j := by
  obtain ⟨m, hm⟩ : ∃ m, m = upM (upM (upM (upM (upM σ (b + 6) q (iN q)) (b + 8) q (iN 0)) (b + 10) q (iN 0)) (b + 12) (2 * q + 1) (iN 1)) (b + 12) (2 * q) (iN 1) := ⟨_, rfl⟩
  have loop : L_X4_makeEmpty_55 b (iN q) FU (iN 0) m = some (.inl (), setS m (b + 14) (4 * q) (4 * q + 4) (fun _ => iN 0)) := by
    have h := lp (fun n k (x : Mm) => L_X4_makeEmpty_55 b (iN q) n (iN k) x) (fun k => setS m (b + 14) (4 * q) (4 * q + k) (fun _ => iN 0)) (i0 := 0) (N := 4) (r := some (.inl (), setS m (b + 14) (4 * q) (4 * q + 4) (fun _ => iN 0))) (by omega) (by unfold FU; omega) ?_ ?_
    · simp only [Nat.add_zero, setS_0] at h
      exact h
    · intro n k hk1 hk2
      have up : upM (setS m (b + 14) (4 * q) (4 * q + k) (fun _ => iN 0)) (b + 14) (4 * q + k) (iN 0) = setS m (b + 14) (4 * q) (4 * q + (k + 1)) (fun _ => iN 0) := by
        rw [← Nat.add_assoc]
        exact setS_up (by omega) rfl
      simp only [L_X4_makeEmpty_55]
      simp (disch := omega) only [↓ite_ap, if_true, if_false, if_pos, if_neg, retM_ap, retZ_ap0, retZ_ap1, gM_ap, sM_ap, jM_ap, bI_ap, bL_ap, bD_ap, rdM_ap, wrM_ap, thrM_ap, nl_0, nl_1, nl_2, nl_3, nl_4, nl_5, nl_6, nl_7, nl_8, nl_9, nl_10, nl_11, nl_12, nl_13, nl_25, nl_33, nl_35, nl_45, nl_48, nl_49, nl_50, nl_52, nl_53, nl_57, nl_59, nl_60, nl_61, nl_77, nl_94, nl_97, nl_100, nl_101, nl_119, nl_125, nl_126, nl_137, nl_262, nl_387, nl_500, nl_512, nl_637, nl_999, nl_1022, nl_1137, nl_5685, nm_1b, iN_mI, mI_iN, iN_add, iN_mul, iN_sub, iN_div, iN_rem, iN_lt, iN_le, iN_eq, iN_nat, inB_iN, ↓b_at, ↓b_store, ↓b_place1, ↓b_place0, ↓b_tableOf, ↓b_sqEnd, ↓b_isCell, Nat.add_assoc, Nat.reduceAdd, Nat.mul_comm q 4, up]
    · intro n
      simp only [L_X4_makeEmpty_55]
      simp (disch := omega) only [↓ite_ap, if_true, if_false, if_pos, if_neg, retM_ap, retZ_ap0, retZ_ap1, gM_ap, sM_ap, jM_ap, bI_ap, bL_ap, bD_ap, rdM_ap, wrM_ap, thrM_ap, nl_0, nl_1, nl_2, nl_3, nl_4, nl_5, nl_6, nl_7, nl_8, nl_9, nl_10, nl_11, nl_12, nl_13, nl_25, nl_33, nl_35, nl_45, nl_48, nl_49, nl_50, nl_52, nl_53, nl_57, nl_59, nl_60, nl_61, nl_77, nl_94, nl_97, nl_100, nl_101, nl_119, nl_125, nl_126, nl_137, nl_262, nl_387, nl_500, nl_512, nl_637, nl_999, nl_1022, nl_1137, nl_5685, nm_1b, iN_mI, mI_iN, iN_add, iN_mul, iN_sub, iN_div, iN_rem, iN_lt, iN_le, iN_eq, iN_nat, inB_iN]
  refine ⟨setS m (b + 14) (4 * q) (4 * q + 4) (fun _ => iN 0), ?_, ?_, ?_, ?_, ?_, ?_, fun i hi => ?_, fun k j hk => ?_⟩
  · unfold F_X4_makeEmpty
    simp (disch := omega) only [↓ite_ap, if_true, if_false, if_pos, if_neg, retM_ap, retZ_ap0, retZ_ap1, gM_ap, sM_ap, jM_ap, bI_ap, bL_ap, bD_ap, rdM_ap, wrM_ap, thrM_ap, nl_0, nl_1, nl_2, nl_3, nl_4, nl_5, nl_6, nl_7, nl_8, nl_9, nl_10, nl_11, nl_12, nl_13, nl_25, nl_33, nl_35, nl_45, nl_48, nl_49, nl_50, nl_52, nl_53, nl_57, nl_59, nl_60, nl_61, nl_77, nl_94, nl_97, nl_100, nl_101, nl_119, nl_125, nl_126, nl_137, nl_262, nl_387, nl_500, nl_512, nl_637, nl_999, nl_1022, nl_1137, nl_5685, nm_1b, iN_mI, mI_iN, iN_add, iN_mul, iN_sub, iN_div, iN_rem, iN_lt, iN_le, iN_eq, iN_nat, inB_iN, ↓b_at, ↓b_store, ↓b_place1, ↓b_place0, ↓b_tableOf, ↓b_sqEnd, ↓b_isCell, Nat.add_assoc, Nat.reduceAdd, Nat.add_zero, Nat.mul_comm q 2, ← hm]
    exact loop
  · rw [setS_o (by omega), hm, upM_o (by omega), upM_o (by omega), upM_o (by omega), upM_o (by omega), upM_at]
  · rw [setS_o (by omega), hm, upM_o (by omega), upM_o (by omega), upM_o (by omega), upM_at]
  · rw [setS_o (by omega), hm, upM_o (by omega), upM_o (by omega), upM_at]
  · rw [setS_o (by omega), hm, upM_ni (by omega), upM_at]
  · rw [setS_o (by omega), hm, upM_at]
  · rw [setS_in (by omega) (by omega)]
  · rw [setS_q (by omega), hm, upM_q (by omega), upM_q (by omega), upM_q (by omega), upM_q (by omega), upM_q (by omega)]
end New2

