/-! THE REFERENCE: PAGES -/
theorem r_isParted {a r : Nat} {s : Sv} {σ : Mm} (hw : WF s) (hv : Vw a s σ) (h5 : r + 1 < roS s 0) : F_X6_isParted a 1137 (iN r) σ = some (.inl (if jnB s (r + 1) = true then iN 0 else iN 1), σ) := by
  have t1 := hw.1.2.1
  have a1 := hw.2.2.1 0 (by omega)
  have hco : σ a 7 = iN (coS s 0) := hv.co hw (t := 0) (by omega)
  obtain ⟨p, hp⟩ : ∃ p : Nat → Bool, p = fun c => decide (0 < r + 1) && decide (owS s ((r + 1 - 1) * 5 + c) = owS s ((r + 1) * 5 + c)) := ⟨_, rfl⟩
  have ej : jnB s (r + 1) = anB p (coS s 0) := by
    unfold jnB
    rw [hp]
  rw [ej]
  refine lp (fun n k (x : Int32) => L_X6_isParted_4 a 1137 (iN r) n x (iN k) σ) (fun k => if anB p k = true then iN 0 else iN 1) (i0 := 0) (N := coS s 0) (by omega) (by unfold FU; omega) ?_ ?_
  · intro n k hk1 hk2
    have e0 : (5 * r + k) / 25 = 0 := by omega
    have e5 : (5 * (r + 1) + k) / 25 = 0 := by omega
    have ho1 : isOf s (5 * r + k) := ⟨by omega, by rw [e0]; omega, by rw [e0]; omega⟩
    have ho2 : isOf s (5 * (r + 1) + k) := ⟨by omega, by rw [e5]; omega, by rw [e5]; omega⟩
    have h1 := hv.ow hw ho1
    have h2 := hv.ow hw ho2
    have b1 := isOf_lt hw (hw.2.2.2.1 _ ho1).2.1.1
    have b2 := isOf_lt hw (hw.2.2.2.1 _ ho2).2.1.1
    have ep : p k = decide (owS s (5 * r + k) = owS s (5 * (r + 1) + k)) := by
      rw [hp]
      show (decide (0 < r + 1) && decide (owS s ((r + 1 - 1) * 5 + k) = owS s ((r + 1) * 5 + k))) = _
      rw [decide_eq_true (show 0 < r + 1 by omega), Bool.true_and, show (r + 1 - 1) * 5 + k = 5 * r + k by omega, show (r + 1) * 5 + k = 5 * (r + 1) + k by omega]
    simp only [L_X6_isParted_4]
    have ea : anB p (k + 1) = (anB p k || p k) := rfl
    rw [ea]
    have i1 : 512 + 5 * r + k = 512 + (5 * r + k) := by omega
    have i2 : 512 + 5 * (r + 1) + k = 512 + (5 * (r + 1) + k) := by omega
    cases e1 : anB p k
    · rw [Bool.false_or]
      by_cases hz : owS s (5 * r + k) = owS s (5 * (r + 1) + k)
      · rw [decide_eq_true hz] at ep
        rw [ep]
        simp (disch := omega) only [↓ite_ap, if_true, if_false, if_pos, if_neg, retM_ap, retZ_ap0, retZ_ap1, gM_ap, sM_ap, jM_ap, bI_ap, bL_ap, bD_ap, rdM_ap, wrM_ap, thrM_ap, nl_0, nl_1, nl_2, nl_3, nl_4, nl_5, nl_6, nl_7, nl_8, nl_9, nl_10, nl_11, nl_12, nl_13, nl_25, nl_33, nl_35, nl_45, nl_48, nl_49, nl_50, nl_52, nl_53, nl_57, nl_59, nl_60, nl_61, nl_77, nl_94, nl_97, nl_100, nl_101, nl_119, nl_125, nl_126, nl_137, nl_262, nl_387, nl_500, nl_512, nl_637, nl_999, nl_1022, nl_1137, nl_5685, nm_1b, iN_mI, mI_iN, iN_add, iN_mul, iN_sub, iN_div, iN_rem, iN_lt, iN_le, iN_eq, iN_nat, inB_iN, hco, i1, i2, h1, h2, hz, Bool.false_eq_true]
      · rw [decide_eq_false hz] at ep
        rw [ep]
        simp (disch := omega) only [↓ite_ap, if_true, if_false, if_pos, if_neg, retM_ap, retZ_ap0, retZ_ap1, gM_ap, sM_ap, jM_ap, bI_ap, bL_ap, bD_ap, rdM_ap, wrM_ap, thrM_ap, nl_0, nl_1, nl_2, nl_3, nl_4, nl_5, nl_6, nl_7, nl_8, nl_9, nl_10, nl_11, nl_12, nl_13, nl_25, nl_33, nl_35, nl_45, nl_48, nl_49, nl_50, nl_52, nl_53, nl_57, nl_59, nl_60, nl_61, nl_77, nl_94, nl_97, nl_100, nl_101, nl_119, nl_125, nl_126, nl_137, nl_262, nl_387, nl_500, nl_512, nl_637, nl_999, nl_1022, nl_1137, nl_5685, nm_1b, iN_mI, mI_iN, iN_add, iN_mul, iN_sub, iN_div, iN_rem, iN_lt, iN_le, iN_eq, iN_nat, inB_iN, hco, i1, i2, h1, h2, hz, Bool.false_eq_true]
    · rw [Bool.true_or]
      simp (disch := omega) only [↓ite_ap, if_true, if_false, if_pos, if_neg, retM_ap, retZ_ap0, retZ_ap1, gM_ap, sM_ap, jM_ap, bI_ap, bL_ap, bD_ap, rdM_ap, wrM_ap, thrM_ap, nl_0, nl_1, nl_2, nl_3, nl_4, nl_5, nl_6, nl_7, nl_8, nl_9, nl_10, nl_11, nl_12, nl_13, nl_25, nl_33, nl_35, nl_45, nl_48, nl_49, nl_50, nl_52, nl_53, nl_57, nl_59, nl_60, nl_61, nl_77, nl_94, nl_97, nl_100, nl_101, nl_119, nl_125, nl_126, nl_137, nl_262, nl_387, nl_500, nl_512, nl_637, nl_999, nl_1022, nl_1137, nl_5685, nm_1b, iN_mI, mI_iN, iN_add, iN_mul, iN_sub, iN_div, iN_rem, iN_lt, iN_le, iN_eq, iN_nat, inB_iN, hco]
  · intro n
    simp only [L_X6_isParted_4]
    cases e1 : anB p (coS s 0)
    · simp (disch := omega) only [↓ite_ap, if_true, if_false, if_pos, if_neg, retM_ap, retZ_ap0, retZ_ap1, gM_ap, sM_ap, jM_ap, bI_ap, bL_ap, bD_ap, rdM_ap, wrM_ap, thrM_ap, nl_0, nl_1, nl_2, nl_3, nl_4, nl_5, nl_6, nl_7, nl_8, nl_9, nl_10, nl_11, nl_12, nl_13, nl_25, nl_33, nl_35, nl_45, nl_48, nl_49, nl_50, nl_52, nl_53, nl_57, nl_59, nl_60, nl_61, nl_77, nl_94, nl_97, nl_100, nl_101, nl_119, nl_125, nl_126, nl_137, nl_262, nl_387, nl_500, nl_512, nl_637, nl_999, nl_1022, nl_1137, nl_5685, nm_1b, iN_mI, mI_iN, iN_add, iN_mul, iN_sub, iN_div, iN_rem, iN_lt, iN_le, iN_eq, iN_nat, inB_iN, hco, Bool.false_eq_true]
    · simp (disch := omega) only [↓ite_ap, if_true, if_false, if_pos, if_neg, retM_ap, retZ_ap0, retZ_ap1, gM_ap, sM_ap, jM_ap, bI_ap, bL_ap, bD_ap, rdM_ap, wrM_ap, thrM_ap, nl_0, nl_1, nl_2, nl_3, nl_4, nl_5, nl_6, nl_7, nl_8, nl_9, nl_10, nl_11, nl_12, nl_13, nl_25, nl_33, nl_35, nl_45, nl_48, nl_49, nl_50, nl_52, nl_53, nl_57, nl_59, nl_60, nl_61, nl_77, nl_94, nl_97, nl_100, nl_101, nl_119, nl_125, nl_126, nl_137, nl_262, nl_387, nl_500, nl_512, nl_637, nl_999, nl_1022, nl_1137, nl_5685, nm_1b, iN_mI, mI_iN, iN_add, iN_mul, iN_sub, iN_div, iN_rem, iN_lt, iN_le, iN_eq, iN_nat, inB_iN, hco]
theorem r_blockEnd {a : Nat} {s : Sv} {σ : Mm} (hw : WF s) (hv : Vw a s σ) : ∀ (d f first n : Nat), f + d + 1 = roS s 0 → d < n → first ≤ f → alB s first f = true → ∃ e, f ≤ e ∧ e < roS s 0 ∧ alB s first e = true ∧ (e + 1 < roS s 0 → jnB s (e + 1) = false) ∧ ∀ K, L_X6_laysPages_20 a 1137 n (iN f) K σ = K (iN e) σ := by
  have t1 := hw.1.2.1
  have a1 := hw.2.2.1 0 (by omega)
  have hro : σ a 2 = iN (roS s 0) := hv.ro hw (t := 0) (by omega)
  intro d
  induction d with
  | zero =>
    intro f first n h1 h2 h3 h4
    obtain ⟨n, rfl⟩ : ∃ m, n = m + 1 := ⟨n - 1, by omega⟩
    refine ⟨f, Nat.le_refl _, by omega, h4, fun h => by omega, fun K => ?_⟩
    simp only [L_X6_laysPages_20]
    simp (disch := omega) only [↓ite_ap, if_true, if_false, if_pos, if_neg, retM_ap, retZ_ap0, retZ_ap1, gM_ap, sM_ap, jM_ap, bI_ap, bL_ap, bD_ap, rdM_ap, wrM_ap, thrM_ap, nl_0, nl_1, nl_2, nl_3, nl_4, nl_5, nl_6, nl_7, nl_8, nl_9, nl_10, nl_11, nl_12, nl_13, nl_25, nl_33, nl_35, nl_45, nl_48, nl_49, nl_50, nl_52, nl_53, nl_57, nl_59, nl_60, nl_61, nl_77, nl_94, nl_97, nl_100, nl_101, nl_119, nl_125, nl_126, nl_137, nl_262, nl_387, nl_500, nl_512, nl_637, nl_999, nl_1022, nl_1137, nl_5685, nm_1b, iN_mI, mI_iN, iN_add, iN_mul, iN_sub, iN_div, iN_rem, iN_lt, iN_le, iN_eq, iN_nat, inB_iN, hro]
  | succ d ih =>
    intro f first n h1 h2 h3 h4
    obtain ⟨n, rfl⟩ : ∃ m, n = m + 1 := ⟨n - 1, by omega⟩
    have fp := r_isParted hw hv (show f + 1 < roS s 0 by omega)
    cases ej : jnB s (f + 1)
    · rw [ej, if_neg (by decide)] at fp
      refine ⟨f, Nat.le_refl _, by omega, h4, fun _ => ej, fun K => ?_⟩
      simp only [L_X6_laysPages_20]
      simp (disch := omega) only [↓ite_ap, if_true, if_false, if_pos, if_neg, retM_ap, retZ_ap0, retZ_ap1, gM_ap, sM_ap, jM_ap, bI_ap, bL_ap, bD_ap, rdM_ap, wrM_ap, thrM_ap, nl_0, nl_1, nl_2, nl_3, nl_4, nl_5, nl_6, nl_7, nl_8, nl_9, nl_10, nl_11, nl_12, nl_13, nl_25, nl_33, nl_35, nl_45, nl_48, nl_49, nl_50, nl_52, nl_53, nl_57, nl_59, nl_60, nl_61, nl_77, nl_94, nl_97, nl_100, nl_101, nl_119, nl_125, nl_126, nl_137, nl_262, nl_387, nl_500, nl_512, nl_637, nl_999, nl_1022, nl_1137, nl_5685, nm_1b, iN_mI, mI_iN, iN_add, iN_mul, iN_sub, iN_div, iN_rem, iN_lt, iN_le, iN_eq, iN_nat, inB_iN, hro, ↓invM_l fp]
    · rw [ej, if_pos rfl] at fp
      obtain ⟨e, b1, b2, b3, b4, b5⟩ := ih (f + 1) first n (by omega) (by omega) (by omega) (by rw [alB_s h3, h4, ej]; rfl)
      refine ⟨e, by omega, b2, b3, b4, fun K => ?_⟩
      simp only [L_X6_laysPages_20]
      simp (disch := omega) only [↓ite_ap, if_true, if_false, if_pos, if_neg, retM_ap, retZ_ap0, retZ_ap1, gM_ap, sM_ap, jM_ap, bI_ap, bL_ap, bD_ap, rdM_ap, wrM_ap, thrM_ap, nl_0, nl_1, nl_2, nl_3, nl_4, nl_5, nl_6, nl_7, nl_8, nl_9, nl_10, nl_11, nl_12, nl_13, nl_25, nl_33, nl_35, nl_45, nl_48, nl_49, nl_50, nl_52, nl_53, nl_57, nl_59, nl_60, nl_61, nl_77, nl_94, nl_97, nl_100, nl_101, nl_119, nl_125, nl_126, nl_137, nl_262, nl_387, nl_500, nl_512, nl_637, nl_999, nl_1022, nl_1137, nl_5685, nm_1b, iN_mI, mI_iN, iN_add, iN_mul, iN_sub, iN_div, iN_rem, iN_lt, iN_le, iN_eq, iN_nat, inB_iN, hro, ↓invM_l fp, b5]
theorem r_blockSum {f e : Nat} {σ : Mm} {z : Nat → Nat} {K : Int32 → Dm Int32} (h1 : f ≤ e) (h5 : e < 5) (hz : ∀ l, l < 5 → σ 183 l = iN (z l)) : L_X6_laysPages_52 (iN e) FU (iN 0) (iN f) K σ = K (iN (smN z f (e + 1))) σ := by
  have h := lp (fun n k (x : Int32) => L_X6_laysPages_52 (iN e) n x (iN k) K σ) (fun k => iN (smN z f k)) (i0 := f) (N := e + 1) (r := K (iN (smN z f (e + 1))) σ) (by omega) (by unfold FU; omega) ?_ ?_
  · simp only [smN_0] at h
    exact h
  · intro n k hk1 hk2
    simp only [L_X6_laysPages_52]
    have := hz k (by omega)
    rw [smN_s hk1]
    simp (disch := omega) only [↓ite_ap, if_true, if_false, if_pos, if_neg, retM_ap, retZ_ap0, retZ_ap1, gM_ap, sM_ap, jM_ap, bI_ap, bL_ap, bD_ap, rdM_ap, wrM_ap, thrM_ap, nl_0, nl_1, nl_2, nl_3, nl_4, nl_5, nl_6, nl_7, nl_8, nl_9, nl_10, nl_11, nl_12, nl_13, nl_25, nl_33, nl_35, nl_45, nl_48, nl_49, nl_50, nl_52, nl_53, nl_57, nl_59, nl_60, nl_61, nl_77, nl_94, nl_97, nl_100, nl_101, nl_119, nl_125, nl_126, nl_137, nl_262, nl_387, nl_500, nl_512, nl_637, nl_999, nl_1022, nl_1137, nl_5685, nm_1b, iN_mI, mI_iN, iN_add, iN_mul, iN_sub, iN_div, iN_rem, iN_lt, iN_le, iN_eq, iN_nat, inB_iN, this]
  · intro n
    simp only [L_X6_laysPages_52]
    simp (disch := omega) only [↓ite_ap, if_true, if_false, if_pos, if_neg, retM_ap, retZ_ap0, retZ_ap1, gM_ap, sM_ap, jM_ap, bI_ap, bL_ap, bD_ap, rdM_ap, wrM_ap, thrM_ap, nl_0, nl_1, nl_2, nl_3, nl_4, nl_5, nl_6, nl_7, nl_8, nl_9, nl_10, nl_11, nl_12, nl_13, nl_25, nl_33, nl_35, nl_45, nl_48, nl_49, nl_50, nl_52, nl_53, nl_57, nl_59, nl_60, nl_61, nl_77, nl_94, nl_97, nl_100, nl_101, nl_119, nl_125, nl_126, nl_137, nl_262, nl_387, nl_500, nl_512, nl_637, nl_999, nl_1022, nl_1137, nl_5685, nm_1b, iN_mI, mI_iN, iN_add, iN_mul, iN_sub, iN_div, iN_rem, iN_lt, iN_le, iN_eq, iN_nat, inB_iN]
theorem r_blockSet {f e : Nat} {x : Int32} {σ : Mm} {R : Dm Int32} (h1 : f ≤ e) (h5 : e < 5) : L_X6_laysPages_132 (iN e) x FU (iN f) (fun _ => R) σ = R (setS σ 184 f (e + 1) (fun _ => x)) := by
  have h := lp (fun n k (m : Mm) => L_X6_laysPages_132 (iN e) x n (iN k) (fun _ => R) m) (fun k => setS σ 184 f k (fun _ => x)) (i0 := f) (N := e + 1) (r := R (setS σ 184 f (e + 1) (fun _ => x))) (by omega) (by unfold FU; omega) ?_ ?_
  · simp only [setS_0] at h
    exact h
  · intro n k hk1 hk2
    simp only [L_X6_laysPages_132]
    have up := setS_up (σ := σ) (k := 184) (lo := f) (i := k) (F := fun _ => x) hk1 (v := x) rfl
    simp (disch := omega) only [↓ite_ap, if_true, if_false, if_pos, if_neg, retM_ap, retZ_ap0, retZ_ap1, gM_ap, sM_ap, jM_ap, bI_ap, bL_ap, bD_ap, rdM_ap, wrM_ap, thrM_ap, nl_0, nl_1, nl_2, nl_3, nl_4, nl_5, nl_6, nl_7, nl_8, nl_9, nl_10, nl_11, nl_12, nl_13, nl_25, nl_33, nl_35, nl_45, nl_48, nl_49, nl_50, nl_52, nl_53, nl_57, nl_59, nl_60, nl_61, nl_77, nl_94, nl_97, nl_100, nl_101, nl_119, nl_125, nl_126, nl_137, nl_262, nl_387, nl_500, nl_512, nl_637, nl_999, nl_1022, nl_1137, nl_5685, nm_1b, iN_mI, mI_iN, iN_add, iN_mul, iN_sub, iN_div, iN_rem, iN_lt, iN_le, iN_eq, iN_nat, inB_iN, up]
  · intro n
    simp only [L_X6_laysPages_132]
    simp (disch := omega) only [↓ite_ap, if_true, if_false, if_pos, if_neg, retM_ap, retZ_ap0, retZ_ap1, gM_ap, sM_ap, jM_ap, bI_ap, bL_ap, bD_ap, rdM_ap, wrM_ap, thrM_ap, nl_0, nl_1, nl_2, nl_3, nl_4, nl_5, nl_6, nl_7, nl_8, nl_9, nl_10, nl_11, nl_12, nl_13, nl_25, nl_33, nl_35, nl_45, nl_48, nl_49, nl_50, nl_52, nl_53, nl_57, nl_59, nl_60, nl_61, nl_77, nl_94, nl_97, nl_100, nl_101, nl_119, nl_125, nl_126, nl_137, nl_262, nl_387, nl_500, nl_512, nl_637, nl_999, nl_1022, nl_1137, nl_5685, nm_1b, iN_mI, mI_iN, iN_add, iN_mul, iN_sub, iN_div, iN_rem, iN_lt, iN_le, iN_eq, iN_nat, inB_iN]
theorem al_le {s : Sv} {first e : Nat} (h : first ≤ e) (ha : alB s first e = true) : ∀ j, first ≤ j → j ≤ e → alB s first j = true := fun j h1 h2 => by
  cases hj : alB s first j
  · rw [alB_no h1 hj e h2] at ha
    exact ha
  · rfl
theorem bl_sum {s : Sv} {z : Nat → Nat} {first e : Nat} (h : first ≤ e) (he : e < roS s 0) (ha : alB s first e = true) (hn : e + 1 < roS s 0 → jnB s (e + 1) = false) : blS s z first = smN z first (e + 1) := by
  have h1 : blS s z first = smN (fun j => if alB s first j = true then z j else 0) first (e + 1) := smN_ext (by omega) (by omega) (fun j h3 h4 => by
    have h5 : alB s first (e + 1) = false := by rw [alB_s h, hn (by omega), Bool.and_false]
    show (if alB s first j = true then z j else 0) = 0
    rw [alB_no (by omega) h5 j h3]
    rfl)
  rw [h1]
  refine smN_congr (fun j h3 h4 => ?_)
  show (if alB s first j = true then z j else 0) = z j
  rw [al_le h ha j h3 (by omega), if_pos rfl]
theorem pg_same {s : Sv} {z : Nat → Nat} {h first e : Nat} (h0 : first ≤ e) (ha : alB s first e = true) : ∀ j, first ≤ j → j ≤ e → pgS s z h (j + 1) = pgS s z h (first + 1)
  | 0, h1, _ => by
    obtain rfl : first = 0 := by omega
    rfl
  | j + 1, h1, h2 => by
    by_cases e1 : first = j + 1
    · rw [e1]
    · have h3 := al_le h0 ha (j + 1) h1 h2
      rw [alB_s (by omega), Bool.and_eq_true] at h3
      rw [pgS, if_pos h3.2]
      exact pg_same h0 ha j (by omega) (by omega)
theorem r_pages_l {a h : Nat} {s : Sv} {z : Nat → Nat} (hw : WF s) (hh : h < 1000) (ha : a ≠ 184) (hB : smN z 0 (roS s 0) ≤ 300000000) : ∀ (d from_ n : Nat) (σ : Mm), from_ + d = roS s 0 → d < n → (from_ = roS s 0 ∨ jnB s from_ = false) → Vw a s σ → (∀ l, l < 5 → σ 183 l = iN (z l)) → ∃ σ1, L_X6_laysPages_8 a 1137 (iN h) n (iN (pgS s z h from_).1) (iN (pgS s z h from_).2) (iN from_) σ = some (.inl (iN ((pgS s z h (roS s 0)).1 + 1)), σ1) ∧ (∀ r, from_ ≤ r → r < roS s 0 → σ1 184 r = iN (pgS s z h (r + 1)).1) ∧ ∀ k j, ¬ (k = 184 ∧ from_ ≤ j ∧ j < roS s 0) → σ1 k j = σ k j := by
  have t1 := hw.1.2.1
  have a1 := hw.2.2.1 0 (by omega)
  intro d
  induction d using Nat.strongRecOn with
  | ind d ih =>
    intro f n σ h1 h2 h3 hv hz
    obtain ⟨n, rfl⟩ : ∃ m, n = m + 1 := ⟨n - 1, by omega⟩
    have hro : σ a 2 = iN (roS s 0) := hv.ro hw (t := 0) (by omega)
    by_cases hf : f = roS s 0
    · refine ⟨σ, ?_, fun r h4 h5 => by omega, fun k j _ => rfl⟩
      simp only [L_X6_laysPages_8]
      have b1 := pgS_le (h := h) hB (roS s 0)
      rw [hf]
      simp (disch := omega) only [↓ite_ap, if_true, if_false, if_pos, if_neg, retM_ap, retZ_ap0, retZ_ap1, gM_ap, sM_ap, jM_ap, bI_ap, bL_ap, bD_ap, rdM_ap, wrM_ap, thrM_ap, nl_0, nl_1, nl_2, nl_3, nl_4, nl_5, nl_6, nl_7, nl_8, nl_9, nl_10, nl_11, nl_12, nl_13, nl_25, nl_33, nl_35, nl_45, nl_48, nl_49, nl_50, nl_52, nl_53, nl_57, nl_59, nl_60, nl_61, nl_77, nl_94, nl_97, nl_100, nl_101, nl_119, nl_125, nl_126, nl_137, nl_262, nl_387, nl_500, nl_512, nl_637, nl_999, nl_1022, nl_1137, nl_5685, nm_1b, iN_mI, mI_iN, iN_add, iN_mul, iN_sub, iN_div, iN_rem, iN_lt, iN_le, iN_eq, iN_nat, inB_iN, hro]
    · obtain ⟨e, b1, b2, b3, b4, b5⟩ := r_blockEnd hw hv (d - 1) f f FU (by omega) (by unfold FU; omega) (Nat.le_refl _) (alB_0 (Nat.le_refl _))
      have eb := bl_sum (z := z) b1 b2 b3 b4
      have fs := fun K => r_blockSum (K := K) b1 (show e < 5 by omega) hz
      rw [← eb] at fs
      have hjn : jnB s f = false := by
        rcases h3 with h3 | h3
        · exact absurd h3 hf
        · exact h3
      have pe := pg_same (z := z) (h := h) b1 b3 e b1 (Nat.le_refl _)
      have pf : pgS s z h (f + 1) = if 0 < f ∧ h < (pgS s z h f).2 + blS s z f then ((pgS s z h f).1 + 1, blS s z f) else ((pgS s z h f).1, (pgS s z h f).2 + blS s z f) := by
        rw [pgS, hjn]
        rfl
      obtain ⟨m, hm⟩ : ∃ m, m = setS σ 184 f (e + 1) (fun _ => iN (pgS s z h (f + 1)).1) := ⟨_, rfl⟩
      have fst := fun R => r_blockSet (x := iN (pgS s z h (f + 1)).1) (σ := σ) (R := R) b1 (show e < 5 by omega)
      rw [← hm] at fst
      have hvm : Vw a s m := hv.fr (by rw [hm, setS_o ha])
      obtain ⟨σ1, c1, c2, c3⟩ := ih (roS s 0 - (e + 1)) (by omega) (e + 1) n m (by omega) (by omega) (by
        by_cases g : e + 1 < roS s 0
        · exact .inr (b4 g)
        · exact .inl (by omega)) hvm (fun l hl => by rw [hm, setS_o (by omega)]; exact hz l hl)
      rw [pe] at c1
      have bp := pgS_le (h := h) hB f
      have bb := Nat.le_trans (blS_le (s := s) (z := z) (first := f)) hB
      have bm : f * 300000000 ≤ 4 * 300000000 := Nat.mul_le_mul (by omega) (Nat.le_refl _)
      refine ⟨σ1, ?_, fun r h4 h5 => ?_, fun k j hk => ?_⟩
      · simp only [L_X6_laysPages_8]
        by_cases hc : 0 < f ∧ h < (pgS s z h f).2 + blS s z f
        · rw [if_pos hc] at pf
          have hc1 := hc.1
          have hc2 := hc.2
          rw [pf] at c1 fst
          have fst : ∀ R, L_X6_laysPages_132 (iN e) (iN ((pgS s z h f).1 + 1)) FU (iN f) (fun _ => R) σ = R m := fst
          have c1 : L_X6_laysPages_8 a 1137 (iN h) n (iN ((pgS s z h f).1 + 1)) (iN (blS s z f)) (iN (e + 1)) m = some (.inl (iN ((pgS s z h (roS s 0)).1 + 1)), σ1) := c1
          simp (disch := omega) only [↓ite_ap, if_true, if_false, if_pos, if_neg, retM_ap, retZ_ap0, retZ_ap1, gM_ap, sM_ap, jM_ap, bI_ap, bL_ap, bD_ap, rdM_ap, wrM_ap, thrM_ap, nl_0, nl_1, nl_2, nl_3, nl_4, nl_5, nl_6, nl_7, nl_8, nl_9, nl_10, nl_11, nl_12, nl_13, nl_25, nl_33, nl_35, nl_45, nl_48, nl_49, nl_50, nl_52, nl_53, nl_57, nl_59, nl_60, nl_61, nl_77, nl_94, nl_97, nl_100, nl_101, nl_119, nl_125, nl_126, nl_137, nl_262, nl_387, nl_500, nl_512, nl_637, nl_999, nl_1022, nl_1137, nl_5685, nm_1b, iN_mI, mI_iN, iN_add, iN_mul, iN_sub, iN_div, iN_rem, iN_lt, iN_le, iN_eq, iN_nat, inB_iN, hro, b5, fs, fst, c1]
        · rw [if_neg hc] at pf
          rw [pf] at c1 fst
          have fst : ∀ R, L_X6_laysPages_132 (iN e) (iN ((pgS s z h f).1)) FU (iN f) (fun _ => R) σ = R m := fst
          have c1 : L_X6_laysPages_8 a 1137 (iN h) n (iN ((pgS s z h f).1)) (iN ((pgS s z h f).2 + blS s z f)) (iN (e + 1)) m = some (.inl (iN ((pgS s z h (roS s 0)).1 + 1)), σ1) := c1
          by_cases hc1 : f = 0
          · simp (disch := omega) only [↓ite_ap, if_true, if_false, if_pos, if_neg, retM_ap, retZ_ap0, retZ_ap1, gM_ap, sM_ap, jM_ap, bI_ap, bL_ap, bD_ap, rdM_ap, wrM_ap, thrM_ap, nl_0, nl_1, nl_2, nl_3, nl_4, nl_5, nl_6, nl_7, nl_8, nl_9, nl_10, nl_11, nl_12, nl_13, nl_25, nl_33, nl_35, nl_45, nl_48, nl_49, nl_50, nl_52, nl_53, nl_57, nl_59, nl_60, nl_61, nl_77, nl_94, nl_97, nl_100, nl_101, nl_119, nl_125, nl_126, nl_137, nl_262, nl_387, nl_500, nl_512, nl_637, nl_999, nl_1022, nl_1137, nl_5685, nm_1b, iN_mI, mI_iN, iN_add, iN_mul, iN_sub, iN_div, iN_rem, iN_lt, iN_le, iN_eq, iN_nat, inB_iN, hro, b5, fs, Nat.add_zero, fst, c1]
          · have hc2 : (pgS s z h f).2 + blS s z f ≤ h := by omega
            simp (disch := omega) only [↓ite_ap, if_true, if_false, if_pos, if_neg, retM_ap, retZ_ap0, retZ_ap1, gM_ap, sM_ap, jM_ap, bI_ap, bL_ap, bD_ap, rdM_ap, wrM_ap, thrM_ap, nl_0, nl_1, nl_2, nl_3, nl_4, nl_5, nl_6, nl_7, nl_8, nl_9, nl_10, nl_11, nl_12, nl_13, nl_25, nl_33, nl_35, nl_45, nl_48, nl_49, nl_50, nl_52, nl_53, nl_57, nl_59, nl_60, nl_61, nl_77, nl_94, nl_97, nl_100, nl_101, nl_119, nl_125, nl_126, nl_137, nl_262, nl_387, nl_500, nl_512, nl_637, nl_999, nl_1022, nl_1137, nl_5685, nm_1b, iN_mI, mI_iN, iN_add, iN_mul, iN_sub, iN_div, iN_rem, iN_lt, iN_le, iN_eq, iN_nat, inB_iN, hro, b5, fs, Nat.add_zero, fst, c1]
      · by_cases g : e + 1 ≤ r
        · exact c2 r g h5
        · rw [c3 184 r (by omega), hm, setS_in (by omega) (by omega), pg_same b1 b3 r h4 (by omega)]
      · rw [c3 k j (by omega), hm, setS_q (by omega)]
theorem r_laysPages {a h : Nat} {s : Sv} {σ : Mm} (hw : WF s) (hv : Vw a s σ) (ha : a ≠ 184) (hh : h < 1000) (hz : ∀ l, l < 5 → σ 183 l = iN (szL s 0 1 l)) : ∃ σ1, F_X6_laysPages a 1137 (iN h) σ = some (.inl (iN (pgN s h)), σ1) ∧ (∀ r, r < roS s 0 → σ1 184 r = iN (pgS s (szL s 0 1) h (r + 1)).1) ∧ ∀ k j, k ≠ 184 → σ1 k j = σ k j := by
  have t1 := hw.1.2.1
  have a1 := hw.2.2.1 0 (by omega)
  obtain ⟨σ1, c1, c2, c3⟩ := r_pages_l (h := h) (z := szL s 0 1) hw hh ha (szL_max hw (by omega) (by omega) (by omega)) (roS s 0) 0 FU σ (by omega) (by unfold FU; omega) (.inr (by
    cases e : jnB s 0
    · rfl
    · obtain ⟨i, h1, h2⟩ := anB_iff.mp e
      rw [Bool.and_eq_true, decide_eq_true_eq] at h2
      exact absurd h2.1 (by omega))) hv hz
  exact ⟨σ1, c1, fun r hr => c2 r (Nat.zero_le _) hr, fun k j hk => c3 k j (fun g => hk g.1)⟩
