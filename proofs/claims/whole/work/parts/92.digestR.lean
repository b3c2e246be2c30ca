/-! DIGEST: THE REFERENCE -/
theorem r_dig15 {s : Sv} {saved : Int32} {h : Int64} {K : Int64 → Dm Int64} : ∀ (d k n : Nat) (m : Mm), k + d = 13 → d < n → RO s m → m 168 3 = saved → ∃ m1, L_X6_digest_15 n (foI (cnS s saved) h k) (iN k) K m = K (foI (cnS s saved) h 13) m1 ∧ ∀ k' j, k' ≠ 184 → m1 k' j = m k' j
  | 0, k, n, m, h1, h2, hR, h3 => by
    obtain ⟨n, rfl⟩ : ∃ x, n = x + 1 := ⟨n - 1, by omega⟩
    obtain rfl : k = 13 := by omega
    refine ⟨m, ?_, fun _ _ _ => rfl⟩
    simp only [L_X6_digest_15]
    simp (disch := omega) only [↓ite_ap, if_true, if_false, if_pos, if_neg, retM_ap, retZ_ap0, retZ_ap1, gM_np, sM_ap, jM_np, bI_ap, bL_ap, bD_ap, rdM_ap, wrM_ap, thrM_ap, nl_0, nl_1, nl_2, nl_3, nl_4, nl_5, nl_6, nl_7, nl_8, nl_9, nl_10, nl_11, nl_12, nl_13, nl_25, nl_33, nl_35, nl_45, nl_48, nl_49, nl_50, nl_52, nl_53, nl_57, nl_59, nl_60, nl_61, nl_77, nl_94, nl_97, nl_100, nl_101, nl_119, nl_125, nl_126, nl_137, nl_262, nl_387, nl_500, nl_512, nl_637, nl_999, nl_1022, nl_1137, nl_5685, nm_1b, iN_mI, mI_iN, iN_add, iN_mul, iN_sub, iN_div, iN_rem, iN_lt, iN_le, iN_eq, iN_nat, inB_iN]
  | d + 1, k, n, m, h1, h2, hR, h3 => by
    obtain ⟨n, rfl⟩ : ∃ x, n = x + 1 := ⟨n - 1, by omega⟩
    obtain ⟨m1, c1, c2⟩ := r_counted (k := k) hR (by omega)
    rw [h3] at c1
    obtain ⟨m2, d1, d2⟩ := r_dig15 (saved := saved) (h := h) (K := K) d (k + 1) n m1 (by omega) (by omega) (hR.fr c2) (by rw [c2 _ _ (by omega)]; exact h3)
    refine ⟨m2, ?_, fun k' j g => by rw [d2 k' j g, c2 k' j g]⟩
    simp only [L_X6_digest_15]
    rw [fo_s] at d1
    simp (disch := omega) only [↓ite_ap, if_true, if_false, if_pos, if_neg, retM_ap, retZ_ap0, retZ_ap1, gM_np, sM_ap, jM_np, bI_ap, bL_ap, bD_ap, rdM_ap, wrM_ap, thrM_ap, nl_0, nl_1, nl_2, nl_3, nl_4, nl_5, nl_6, nl_7, nl_8, nl_9, nl_10, nl_11, nl_12, nl_13, nl_25, nl_33, nl_35, nl_45, nl_48, nl_49, nl_50, nl_52, nl_53, nl_57, nl_59, nl_60, nl_61, nl_77, nl_94, nl_97, nl_100, nl_101, nl_119, nl_125, nl_126, nl_137, nl_262, nl_387, nl_500, nl_512, nl_637, nl_999, nl_1022, nl_1137, nl_5685, nm_1b, iN_mI, mI_iN, iN_add, iN_mul, iN_sub, iN_div, iN_rem, iN_lt, iN_le, iN_eq, iN_nat, inB_iN, ↓invM_l c1, d1]
theorem r_dig183 {s : Sv} {m : Mm} {t : Nat} {h : Int64} {K : Int64 → Dm Int64} (hR : RO s m) (ht : t < tbS s) : L_X6_digest_183 (iN t) FU h (iN 0) K m = K (fqS s t h 25) m := by
  obtain ⟨hw, hv, hM⟩ := hR
  have t5 := hw.1.2.2
  have hru : ∀ q' i', isOf s q' → i' < 4 → m 181 (4 * q' + i') = iN (rlL s (q' * 4 + i')) := fun q' i' h2 h3 => (hM _ h2.1).2.2.2.2.2.2.1 q' i' rfl h2 h3
  refine lp (fun n k (x : Int64) => L_X6_digest_183 (iN t) n x (iN k) K m) (fun k => fqS s t h k) (i0 := 0) (N := 25) (by omega) (by unfold FU; omega) ?_ ?_
  · intro n k h1 h2
    obtain ⟨q, hq⟩ : ∃ q, q = 25 * t + k := ⟨_, rfl⟩
    have hq5 : q < 125 := by omega
    have fo := r_isOf hw hv hq5
    simp only [L_X6_digest_183]
    rw [fqS, ← hq]
    by_cases ho : isOf s q
    · rw [if_pos (ofB_iff.mpr ho)] at fo ⊢
      have f202 : ∀ (h' : Int64) (K' : Int64 → Dm Int64), L_X6_digest_202 (iN q) FU h' (iN 0) K' m = K' (foI (cpS s q) h' 12) m := fun h' K' => by
        refine lp (fun n k (x : Int64) => L_X6_digest_202 (iN q) n x (iN k) K' m) (fun k => foI (cpS s q) h' k) (i0 := 0) (N := 12) (by omega) (by unfold FU; omega) ?_ ?_
        · intro n k h1 h2
          have fc := r_ofCell (q := q) (k := k) ⟨hw, hv, hM⟩ hq5 h2
          simp only [L_X6_digest_202]
          rw [fo_s]
          simp (disch := omega) only [↓ite_ap, if_true, if_false, if_pos, if_neg, retM_ap, retZ_ap0, retZ_ap1, gM_np, sM_ap, jM_np, bI_ap, bL_ap, bD_ap, rdM_ap, wrM_ap, thrM_ap, nl_0, nl_1, nl_2, nl_3, nl_4, nl_5, nl_6, nl_7, nl_8, nl_9, nl_10, nl_11, nl_12, nl_13, nl_25, nl_33, nl_35, nl_45, nl_48, nl_49, nl_50, nl_52, nl_53, nl_57, nl_59, nl_60, nl_61, nl_77, nl_94, nl_97, nl_100, nl_101, nl_119, nl_125, nl_126, nl_137, nl_262, nl_387, nl_500, nl_512, nl_637, nl_999, nl_1022, nl_1137, nl_5685, nm_1b, iN_mI, mI_iN, iN_add, iN_mul, iN_sub, iN_div, iN_rem, iN_lt, iN_le, iN_eq, iN_nat, inB_iN, ↓invM_l fo, ↓invM_l fc]
        · intro n
          simp only [L_X6_digest_202]
          simp (disch := omega) only [↓ite_ap, if_true, if_false, if_pos, if_neg, retM_ap, retZ_ap0, retZ_ap1, gM_np, sM_ap, jM_np, bI_ap, bL_ap, bD_ap, rdM_ap, wrM_ap, thrM_ap, nl_0, nl_1, nl_2, nl_3, nl_4, nl_5, nl_6, nl_7, nl_8, nl_9, nl_10, nl_11, nl_12, nl_13, nl_25, nl_33, nl_35, nl_45, nl_48, nl_49, nl_50, nl_52, nl_53, nl_57, nl_59, nl_60, nl_61, nl_77, nl_94, nl_97, nl_100, nl_101, nl_119, nl_125, nl_126, nl_137, nl_262, nl_387, nl_500, nl_512, nl_637, nl_999, nl_1022, nl_1137, nl_5685, nm_1b, iN_mI, mI_iN, iN_add, iN_mul, iN_sub, iN_div, iN_rem, iN_lt, iN_le, iN_eq, iN_nat, inB_iN]
      have f246 : ∀ (h' : Int64) (K' : Int64 → Dm Int64), L_X6_digest_246 (iN q) FU h' (iN 0) K' m = K' (foI (fun i => iN (eL s (q * 4 + i))) h' 4) m := fun h' K' => by
        refine lp (fun n k (x : Int64) => L_X6_digest_246 (iN q) n x (iN k) K' m) (fun k => foI (fun i => iN (eL s (q * 4 + i))) h' k) (i0 := 0) (N := 4) (by omega) (by unfold FU; omega) ?_ ?_
        · intro n k h1 h2
          have fc := r_edgeOf (i := k) hw hv ho h2 (fun q' i' _ a b => hru q' i' a b)
          simp only [L_X6_digest_246]
          rw [fo_s]
          simp (disch := omega) only [↓ite_ap, if_true, if_false, if_pos, if_neg, retM_ap, retZ_ap0, retZ_ap1, gM_np, sM_ap, jM_np, bI_ap, bL_ap, bD_ap, rdM_ap, wrM_ap, thrM_ap, nl_0, nl_1, nl_2, nl_3, nl_4, nl_5, nl_6, nl_7, nl_8, nl_9, nl_10, nl_11, nl_12, nl_13, nl_25, nl_33, nl_35, nl_45, nl_48, nl_49, nl_50, nl_52, nl_53, nl_57, nl_59, nl_60, nl_61, nl_77, nl_94, nl_97, nl_100, nl_101, nl_119, nl_125, nl_126, nl_137, nl_262, nl_387, nl_500, nl_512, nl_637, nl_999, nl_1022, nl_1137, nl_5685, nm_1b, iN_mI, mI_iN, iN_add, iN_mul, iN_sub, iN_div, iN_rem, iN_lt, iN_le, iN_eq, iN_nat, inB_iN, ↓invM_l fo, ↓invM_l fc]
        · intro n
          simp only [L_X6_digest_246]
          simp (disch := omega) only [↓ite_ap, if_true, if_false, if_pos, if_neg, retM_ap, retZ_ap0, retZ_ap1, gM_np, sM_ap, jM_np, bI_ap, bL_ap, bD_ap, rdM_ap, wrM_ap, thrM_ap, nl_0, nl_1, nl_2, nl_3, nl_4, nl_5, nl_6, nl_7, nl_8, nl_9, nl_10, nl_11, nl_12, nl_13, nl_25, nl_33, nl_35, nl_45, nl_48, nl_49, nl_50, nl_52, nl_53, nl_57, nl_59, nl_60, nl_61, nl_77, nl_94, nl_97, nl_100, nl_101, nl_119, nl_125, nl_126, nl_137, nl_262, nl_387, nl_500, nl_512, nl_637, nl_999, nl_1022, nl_1137, nl_5685, nm_1b, iN_mI, mI_iN, iN_add, iN_mul, iN_sub, iN_div, iN_rem, iN_lt, iN_le, iN_eq, iN_nat, inB_iN]
      have fc := r_counters (c := q) hw hv hq5
      have ei : iN 25 * iN t + iN k = iN q := by rw [iN_mul, iN_add, hq]
      rw [nl_25, ei, bI_np, nl_0, if_neg (show ¬ iN 25 ≤ iN k by rw [iN_le (by omega) (by omega)]; omega), f202, f246, invM_l fo, jM_np, if_neg (show ¬ iN 1 = iN 0 by rw [iN_eq (by omega) (by omega)]; omega), invM_l fc, nl_1, iN_add]
      rfl
    · rw [if_neg (fun g => ho (ofB_iff.mp g))] at fo ⊢
      have f202 : ∀ (h' : Int64) (K' : Int64 → Dm Int64), L_X6_digest_202 (iN q) FU h' (iN 0) K' m = K' h' m := fun h' K' => by
        obtain ⟨n, hn⟩ : ∃ n, FU = n + 1 := ⟨FU - 1, by unfold FU; omega⟩
        rw [hn]
        simp only [L_X6_digest_202]
        simp (disch := omega) only [↓ite_ap, if_true, if_false, if_pos, if_neg, retM_ap, retZ_ap0, retZ_ap1, gM_np, sM_ap, jM_np, bI_ap, bL_ap, bD_ap, rdM_ap, wrM_ap, thrM_ap, nl_0, nl_1, nl_2, nl_3, nl_4, nl_5, nl_6, nl_7, nl_8, nl_9, nl_10, nl_11, nl_12, nl_13, nl_25, nl_33, nl_35, nl_45, nl_48, nl_49, nl_50, nl_52, nl_53, nl_57, nl_59, nl_60, nl_61, nl_77, nl_94, nl_97, nl_100, nl_101, nl_119, nl_125, nl_126, nl_137, nl_262, nl_387, nl_500, nl_512, nl_637, nl_999, nl_1022, nl_1137, nl_5685, nm_1b, iN_mI, mI_iN, iN_add, iN_mul, iN_sub, iN_div, iN_rem, iN_lt, iN_le, iN_eq, iN_nat, inB_iN, ↓invM_l fo]
      have f246 : ∀ (h' : Int64) (K' : Int64 → Dm Int64), L_X6_digest_246 (iN q) FU h' (iN 0) K' m = K' h' m := fun h' K' => by
        obtain ⟨n, hn⟩ : ∃ n, FU = n + 1 := ⟨FU - 1, by unfold FU; omega⟩
        rw [hn]
        simp only [L_X6_digest_246]
        simp (disch := omega) only [↓ite_ap, if_true, if_false, if_pos, if_neg, retM_ap, retZ_ap0, retZ_ap1, gM_np, sM_ap, jM_np, bI_ap, bL_ap, bD_ap, rdM_ap, wrM_ap, thrM_ap, nl_0, nl_1, nl_2, nl_3, nl_4, nl_5, nl_6, nl_7, nl_8, nl_9, nl_10, nl_11, nl_12, nl_13, nl_25, nl_33, nl_35, nl_45, nl_48, nl_49, nl_50, nl_52, nl_53, nl_57, nl_59, nl_60, nl_61, nl_77, nl_94, nl_97, nl_100, nl_101, nl_119, nl_125, nl_126, nl_137, nl_262, nl_387, nl_500, nl_512, nl_637, nl_999, nl_1022, nl_1137, nl_5685, nm_1b, iN_mI, mI_iN, iN_add, iN_mul, iN_sub, iN_div, iN_rem, iN_lt, iN_le, iN_eq, iN_nat, inB_iN, ↓invM_l fo]
      have ei : iN 25 * iN t + iN k = iN q := by rw [iN_mul, iN_add, hq]
      rw [nl_25, ei, bI_np, nl_0, if_neg (show ¬ iN 25 ≤ iN k by rw [iN_le (by omega) (by omega)]; omega), f202, f246, invM_l fo, jM_np, if_pos rfl, nl_1, iN_add]
  · intro n
    simp only [L_X6_digest_183]
    simp (disch := omega) only [↓ite_ap, if_true, if_false, if_pos, if_neg, retM_ap, retZ_ap0, retZ_ap1, gM_np, sM_ap, jM_np, bI_ap, bL_ap, bD_ap, rdM_ap, wrM_ap, thrM_ap, nl_0, nl_1, nl_2, nl_3, nl_4, nl_5, nl_6, nl_7, nl_8, nl_9, nl_10, nl_11, nl_12, nl_13, nl_25, nl_33, nl_35, nl_45, nl_48, nl_49, nl_50, nl_52, nl_53, nl_57, nl_59, nl_60, nl_61, nl_77, nl_94, nl_97, nl_100, nl_101, nl_119, nl_125, nl_126, nl_137, nl_262, nl_387, nl_500, nl_512, nl_637, nl_999, nl_1022, nl_1137, nl_5685, nm_1b, iN_mI, mI_iN, iN_add, iN_mul, iN_sub, iN_div, iN_rem, iN_lt, iN_le, iN_eq, iN_nat, inB_iN]
theorem r_dig56 {s : Sv} {m : Mm} {h : Int64} {K : Int64 → Dm Int64} (hR : RO s m) : L_X6_digest_56 FU h (iN 0) K m = K (tbsH s h (tbS s)) m := by
  obtain ⟨hw, hv, hM⟩ := hR
  have t5 := hw.1.2.2
  have e0 := hv.tb hw
  refine lp (fun n k (x : Int64) => L_X6_digest_56 n x (iN k) K m) (fun k => tbsH s h k) (i0 := 0) (N := tbS s) (by omega) (by unfold FU; omega) ?_ ?_
  · intro n t h1 ht
    have w := hw.2.2.1 t ht
    have wR := w.2.2.1
    have wC := w.2.2.2.2.2
    have qR := hv.ro hw ht
    have qC := hv.co hw ht
    have hsz := (hM t ht).2.2.2.2.2.2.2
    have f69 : ∀ (h' : Int64) (K' : Int64 → Dm Int64), L_X6_digest_69 (iN t) FU h' (iN 0) K' m = K' (foI (tpS s t) h' 8) m := fun h' K' => by
      refine lp (fun n k (x : Int64) => L_X6_digest_69 (iN t) n x (iN k) K' m) (fun k => foI (tpS s t) h' k) (i0 := 0) (N := 8) (by omega) (by unfold FU; omega) ?_ ?_
      · intro n k h1 h2
        have fc := r_ofTable (t := t) (k := k) ⟨hw, hv, hM⟩ ht h2
        simp only [L_X6_digest_69]
        rw [fo_s]
        simp (disch := omega) only [↓ite_ap, if_true, if_false, if_pos, if_neg, retM_ap, retZ_ap0, retZ_ap1, gM_np, sM_ap, jM_np, bI_ap, bL_ap, bD_ap, rdM_ap, wrM_ap, thrM_ap, nl_0, nl_1, nl_2, nl_3, nl_4, nl_5, nl_6, nl_7, nl_8, nl_9, nl_10, nl_11, nl_12, nl_13, nl_25, nl_33, nl_35, nl_45, nl_48, nl_49, nl_50, nl_52, nl_53, nl_57, nl_59, nl_60, nl_61, nl_77, nl_94, nl_97, nl_100, nl_101, nl_119, nl_125, nl_126, nl_137, nl_262, nl_387, nl_500, nl_512, nl_637, nl_999, nl_1022, nl_1137, nl_5685, nm_1b, iN_mI, mI_iN, iN_add, iN_mul, iN_sub, iN_div, iN_rem, iN_lt, iN_le, iN_eq, iN_nat, inB_iN, ↓invM_l fc]
      · intro n
        simp only [L_X6_digest_69]
        simp (disch := omega) only [↓ite_ap, if_true, if_false, if_pos, if_neg, retM_ap, retZ_ap0, retZ_ap1, gM_np, sM_ap, jM_np, bI_ap, bL_ap, bD_ap, rdM_ap, wrM_ap, thrM_ap, nl_0, nl_1, nl_2, nl_3, nl_4, nl_5, nl_6, nl_7, nl_8, nl_9, nl_10, nl_11, nl_12, nl_13, nl_25, nl_33, nl_35, nl_45, nl_48, nl_49, nl_50, nl_52, nl_53, nl_57, nl_59, nl_60, nl_61, nl_77, nl_94, nl_97, nl_100, nl_101, nl_119, nl_125, nl_126, nl_137, nl_262, nl_387, nl_500, nl_512, nl_637, nl_999, nl_1022, nl_1137, nl_5685, nm_1b, iN_mI, mI_iN, iN_add, iN_mul, iN_sub, iN_div, iN_rem, iN_lt, iN_le, iN_eq, iN_nat, inB_iN]
    have f100 : ∀ (h' : Int64) (K' : Int64 → Dm Int64), L_X6_digest_100 (iN t) FU h' (iN 0) K' m = K' (foI (fun l => iN (szL s t 0 l)) h' (coS s t)) m := fun h' K' => by
      refine lp (fun n k (x : Int64) => L_X6_digest_100 (iN t) n x (iN k) K' m) (fun k => foI (fun l => iN (szL s t 0 l)) h' k) (i0 := 0) (N := coS s t) (by omega) (by unfold FU; omega) ?_ ?_
      · intro n k h1 h2
        have fc := (hsz k (by omega)).1
        simp only [L_X6_digest_100]
        rw [fo_s]
        simp (disch := omega) only [↓ite_ap, if_true, if_false, if_pos, if_neg, retM_ap, retZ_ap0, retZ_ap1, gM_np, sM_ap, jM_np, bI_ap, bL_ap, bD_ap, rdM_ap, wrM_ap, thrM_ap, nl_0, nl_1, nl_2, nl_3, nl_4, nl_5, nl_6, nl_7, nl_8, nl_9, nl_10, nl_11, nl_12, nl_13, nl_25, nl_33, nl_35, nl_45, nl_48, nl_49, nl_50, nl_52, nl_53, nl_57, nl_59, nl_60, nl_61, nl_77, nl_94, nl_97, nl_100, nl_101, nl_119, nl_125, nl_126, nl_137, nl_262, nl_387, nl_500, nl_512, nl_637, nl_999, nl_1022, nl_1137, nl_5685, nm_1b, iN_mI, mI_iN, iN_add, iN_mul, iN_sub, iN_div, iN_rem, iN_lt, iN_le, iN_eq, iN_nat, inB_iN, qC, fc]
      · intro n
        simp only [L_X6_digest_100]
        simp (disch := omega) only [↓ite_ap, if_true, if_false, if_pos, if_neg, retM_ap, retZ_ap0, retZ_ap1, gM_np, sM_ap, jM_np, bI_ap, bL_ap, bD_ap, rdM_ap, wrM_ap, thrM_ap, nl_0, nl_1, nl_2, nl_3, nl_4, nl_5, nl_6, nl_7, nl_8, nl_9, nl_10, nl_11, nl_12, nl_13, nl_25, nl_33, nl_35, nl_45, nl_48, nl_49, nl_50, nl_52, nl_53, nl_57, nl_59, nl_60, nl_61, nl_77, nl_94, nl_97, nl_100, nl_101, nl_119, nl_125, nl_126, nl_137, nl_262, nl_387, nl_500, nl_512, nl_637, nl_999, nl_1022, nl_1137, nl_5685, nm_1b, iN_mI, mI_iN, iN_add, iN_mul, iN_sub, iN_div, iN_rem, iN_lt, iN_le, iN_eq, iN_nat, inB_iN, qC]
    have f142 : ∀ (h' : Int64) (K' : Int64 → Dm Int64), L_X6_digest_142 (iN t) FU h' (iN 0) K' m = K' (foI (fun l => iN (szL s t 1 l)) h' (roS s t)) m := fun h' K' => by
      refine lp (fun n k (x : Int64) => L_X6_digest_142 (iN t) n x (iN k) K' m) (fun k => foI (fun l => iN (szL s t 1 l)) h' k) (i0 := 0) (N := roS s t) (by omega) (by unfold FU; omega) ?_ ?_
      · intro n k h1 h2
        have fc := (hsz k (by omega)).2
        simp only [L_X6_digest_142]
        rw [fo_s]
        simp (disch := omega) only [↓ite_ap, if_true, if_false, if_pos, if_neg, retM_ap, retZ_ap0, retZ_ap1, gM_np, sM_ap, jM_np, bI_ap, bL_ap, bD_ap, rdM_ap, wrM_ap, thrM_ap, nl_0, nl_1, nl_2, nl_3, nl_4, nl_5, nl_6, nl_7, nl_8, nl_9, nl_10, nl_11, nl_12, nl_13, nl_25, nl_33, nl_35, nl_45, nl_48, nl_49, nl_50, nl_52, nl_53, nl_57, nl_59, nl_60, nl_61, nl_77, nl_94, nl_97, nl_100, nl_101, nl_119, nl_125, nl_126, nl_137, nl_262, nl_387, nl_500, nl_512, nl_637, nl_999, nl_1022, nl_1137, nl_5685, nm_1b, iN_mI, mI_iN, iN_add, iN_mul, iN_sub, iN_div, iN_rem, iN_lt, iN_le, iN_eq, iN_nat, inB_iN, qR, fc]
      · intro n
        simp only [L_X6_digest_142]
        simp (disch := omega) only [↓ite_ap, if_true, if_false, if_pos, if_neg, retM_ap, retZ_ap0, retZ_ap1, gM_np, sM_ap, jM_np, bI_ap, bL_ap, bD_ap, rdM_ap, wrM_ap, thrM_ap, nl_0, nl_1, nl_2, nl_3, nl_4, nl_5, nl_6, nl_7, nl_8, nl_9, nl_10, nl_11, nl_12, nl_13, nl_25, nl_33, nl_35, nl_45, nl_48, nl_49, nl_50, nl_52, nl_53, nl_57, nl_59, nl_60, nl_61, nl_77, nl_94, nl_97, nl_100, nl_101, nl_119, nl_125, nl_126, nl_137, nl_262, nl_387, nl_500, nl_512, nl_637, nl_999, nl_1022, nl_1137, nl_5685, nm_1b, iN_mI, mI_iN, iN_add, iN_mul, iN_sub, iN_div, iN_rem, iN_lt, iN_le, iN_eq, iN_nat, inB_iN, qR]
    have f183 := fun (h' : Int64) (K' : Int64 → Dm Int64) => r_dig183 (h := h') (K := K') ⟨hw, hv, hM⟩ ht
    simp only [L_X6_digest_56]
    simp (disch := omega) only [↓ite_ap, if_true, if_false, if_pos, if_neg, retM_ap, retZ_ap0, retZ_ap1, gM_np, sM_ap, jM_np, bI_ap, bL_ap, bD_ap, rdM_ap, wrM_ap, thrM_ap, nl_0, nl_1, nl_2, nl_3, nl_4, nl_5, nl_6, nl_7, nl_8, nl_9, nl_10, nl_11, nl_12, nl_13, nl_25, nl_33, nl_35, nl_45, nl_48, nl_49, nl_50, nl_52, nl_53, nl_57, nl_59, nl_60, nl_61, nl_77, nl_94, nl_97, nl_100, nl_101, nl_119, nl_125, nl_126, nl_137, nl_262, nl_387, nl_500, nl_512, nl_637, nl_999, nl_1022, nl_1137, nl_5685, nm_1b, iN_mI, mI_iN, iN_add, iN_mul, iN_sub, iN_div, iN_rem, iN_lt, iN_le, iN_eq, iN_nat, inB_iN, e0, f69, f100, f142, f183]
    rfl
  · intro n
    simp only [L_X6_digest_56]
    simp (disch := omega) only [↓ite_ap, if_true, if_false, if_pos, if_neg, retM_ap, retZ_ap0, retZ_ap1, gM_np, sM_ap, jM_np, bI_ap, bL_ap, bD_ap, rdM_ap, wrM_ap, thrM_ap, nl_0, nl_1, nl_2, nl_3, nl_4, nl_5, nl_6, nl_7, nl_8, nl_9, nl_10, nl_11, nl_12, nl_13, nl_25, nl_33, nl_35, nl_45, nl_48, nl_49, nl_50, nl_52, nl_53, nl_57, nl_59, nl_60, nl_61, nl_77, nl_94, nl_97, nl_100, nl_101, nl_119, nl_125, nl_126, nl_137, nl_262, nl_387, nl_500, nl_512, nl_637, nl_999, nl_1022, nl_1137, nl_5685, nm_1b, iN_mI, mI_iN, iN_add, iN_mul, iN_sub, iN_div, iN_rem, iN_lt, iN_le, iN_eq, iN_nat, inB_iN, e0]
theorem r_dig381 {s : Sv} {h : Int64} {K : Int64 → Dm Int64} (ho : isOf s 0) (h77 : -999 ≤ (iN 77).toInt ∧ (iN 77).toInt ≤ 999) : ∀ (d k n : Nat) (m : Mm), k + d = 3 → d < n → II m → nowS m = s → RO s m → ∃ m1, L_X6_digest_381 n (foI (fun k => bpS s 0 (iN 77) k) h k) (iN k) K m = K (foI (fun k => bpS s 0 (iN 77) k) h 3) m1 ∧ II m1 ∧ nowS m1 = s ∧ RO s m1 ∧ ∀ k j, ¬ (k = 170 ∨ (174 ≤ k ∧ k ≤ 183)) → ¬ (k = 168 ∧ j = 12) → m1 k j = m k j
  | 0, k, n, m, h1, h2, hI, hn, hR => by
    obtain ⟨n, rfl⟩ : ∃ x, n = x + 1 := ⟨n - 1, by omega⟩
    obtain rfl : k = 3 := by omega
    refine ⟨m, ?_, hI, hn, hR, fun _ _ _ _ => rfl⟩
    simp only [L_X6_digest_381]
    simp (disch := omega) only [↓ite_ap, if_true, if_false, if_pos, if_neg, retM_ap, retZ_ap0, retZ_ap1, gM_np, sM_ap, jM_np, bI_ap, bL_ap, bD_ap, rdM_ap, wrM_ap, thrM_ap, nl_0, nl_1, nl_2, nl_3, nl_4, nl_5, nl_6, nl_7, nl_8, nl_9, nl_10, nl_11, nl_12, nl_13, nl_25, nl_33, nl_35, nl_45, nl_48, nl_49, nl_50, nl_52, nl_53, nl_57, nl_59, nl_60, nl_61, nl_77, nl_94, nl_97, nl_100, nl_101, nl_119, nl_125, nl_126, nl_137, nl_262, nl_387, nl_500, nl_512, nl_637, nl_999, nl_1022, nl_1137, nl_5685, nm_1b, iN_mI, mI_iN, iN_add, iN_mul, iN_sub, iN_div, iN_rem, iN_lt, iN_le, iN_eq, iN_nat, inB_iN]
  | d + 1, k, n, m, h1, h2, hI, hn, hR => by
    obtain ⟨n, rfl⟩ : ∃ x, n = x + 1 := ⟨n - 1, by omega⟩
    obtain ⟨m1, c1, c2, c3, c4⟩ := r_byPutting (k := k) (num := iN 77) hI (by rw [hn]; exact ho) h77 (by omega)
    rw [hn] at c1 c3
    have hn1 : nowS m1 = s := by rw [now_fr (funext (fun j => c4 169 j (by omega) (by omega))), hn]
    obtain ⟨m2, d1, d2, d3, d4, d5⟩ := r_dig381 (h := h) (K := K) ho h77 d (k + 1) n m1 (by omega) (by omega) c2 hn1 (c3 hR)
    refine ⟨m2, ?_, d2, d3, d4, fun k' j g1 g2 => by rw [d5 k' j g1 g2, c4 k' j g1 g2]⟩
    simp only [L_X6_digest_381]
    rw [fo_s] at d1
    simp (disch := omega) only [↓ite_ap, if_true, if_false, if_pos, if_neg, retM_ap, retZ_ap0, retZ_ap1, gM_np, sM_ap, jM_np, bI_ap, bL_ap, bD_ap, rdM_ap, wrM_ap, thrM_ap, nl_0, nl_1, nl_2, nl_3, nl_4, nl_5, nl_6, nl_7, nl_8, nl_9, nl_10, nl_11, nl_12, nl_13, nl_25, nl_33, nl_35, nl_45, nl_48, nl_49, nl_50, nl_52, nl_53, nl_57, nl_59, nl_60, nl_61, nl_77, nl_94, nl_97, nl_100, nl_101, nl_119, nl_125, nl_126, nl_137, nl_262, nl_387, nl_500, nl_512, nl_637, nl_999, nl_1022, nl_1137, nl_5685, nm_1b, iN_mI, mI_iN, iN_add, iN_mul, iN_sub, iN_div, iN_rem, iN_lt, iN_le, iN_eq, iN_nat, inB_iN, ↓invM_l c1, d1]
theorem st_digest : StP (fun _ => True) II F_X5_digest F_X6_digest := by
  intro σ h
  obtain ⟨L, hL, e1, e2, e3⟩ := h.2.2.1
  obtain ⟨nn, oo, _, _, e73, _, e3k, _⟩ := h.2.1
  have hw := h.1.1
  have t1 := hw.1.2.1
  have w0 := hw.2.2.1 0 (by omega)
  obtain ⟨s, hs⟩ : ∃ s, s = nowS σ := ⟨_, rfl⟩
  rw [← hs] at hw t1 w0
  obtain ⟨σ1, f1, f2⟩ := f_digest h.1 hL e1
  rw [← hs] at f1
  have h1 : II σ1 := h.fr (fun k j g => by rw [f2 k (by unfold PI at g; omega)])
  have n1 : nowS σ1 = s := by rw [now_fr (f2 169 (by omega)), hs]
  obtain ⟨m0, em0⟩ : ∃ m0, m0 = upM σ1 168 6 (iN 0) := ⟨_, rfl⟩
  have hm0 : II m0 := by rw [em0]; exact h1.up (.inl ⟨rfl, rfl⟩)
  have n0 : nowS m0 = s := by rw [em0, now_up (by omega), n1]
  have f0 : ∀ k j, 73 ≤ k → ¬ (k = 168 ∧ j = 6) → m0 k j = σ k j := fun k j g1 g2 => by rw [em0, upM_q g2, f2 k (by omega)]
  obtain ⟨m1, a1, a2, a3, a4, a5⟩ := r_laysNow hm0
  rw [n0] at a3 a4
  have e13 : m1 168 3 = σ 73 2 := by rw [a5 _ _ (by omega) (by omega), f0 _ _ (by omega) (by omega), e3k, e73]
  obtain ⟨m2, b1, b2⟩ := r_dig15 (s := s) (h := 2887) (K := fun x5 => rdM 169 1137 (iN 1) fun x6 => bL (((31 : Int64) * x5) + x6.toInt64) fun x7 => L_X6_digest_56 FU x7 (iN 0) (fun x47 => rdM 169 1137 (iN 1) fun x48 => invM (F_X6_laysPages 169 1137 x48) fun x49 => L_X6_digest_349 FU x47 (iN 0) (fun x55 => L_X6_digest_381 FU x55 (iN 0) (fun x60 => invM (F_X6_leastFor (iN 1)) fun x61 => invM (F_X6_leastFor (iN 2)) fun x62 => bL (((31 : Int64) * (((31 : Int64) * x60) + x61.toInt64)) + x62.toInt64) fun x63 => invM (F_X6_share) fun x64 => invM (F_Jxe99ae_doubleToLongBits_ccdee x64) fun x65 => gM (fun σ => σ 168 5) fun x66 => bL (((31 : Int64) * (((31 : Int64) * x63) + x65)) + x66.toInt64) fun x67 => L_X6_digest_458 FU x67 (iN 0))))) 13 0 FU m1 (by omega) (by unfold FU; omega) a3 e13
  have R2 := a3.fr b2
  have I2 : II m2 := a2.fr (fun k j g => b2 k j (by unfold PI at g; omega))
  have n2 : nowS m2 = s := by rw [now_fr (funext (fun j => b2 169 j (by omega))), a4]
  have e21 : m2 169 1 = s 1 := R2.2.1 1 (by omega)
  obtain ⟨hh, eh, hh1, hh2⟩ := hw.2.1
  have g56 := fun (h' : Int64) (K' : Int64 → Dm Int64) => r_dig56 (h := h') (K := K') R2
  obtain ⟨m3, c1, c2, c3⟩ := r_laysPages (h := hh) hw R2.2.1 (by omega) (by omega) R2.z
  have R3 := R2.fr c3
  have I3 : II m3 := I2.fr (fun k j g => c3 k j (by unfold PI at g; omega))
  have n3 : nowS m3 = s := by rw [now_fr (funext (fun j => c3 169 j (by omega))), n2]
  have q3 : m3 169 2 = iN (roS s 0) := R3.2.1.ro hw (t := 0) (by omega)
  have w0R := w0.2.2.1
  have g349 : ∀ (h' : Int64) (K' : Int64 → Dm Int64), L_X6_digest_349 FU h' (iN 0) K' m3 = K' (foI (fun r => iN (pgS s (szL s 0 1) (nv (s 1)) (r + 1)).1) h' (roS s 0)) m3 := fun h' K' => by
    rw [eh, nv_iN (by omega)]
    refine lp (fun n k (x : Int64) => L_X6_digest_349 n x (iN k) K' m3) (fun k => foI (fun r => iN (pgS s (szL s 0 1) hh (r + 1)).1) h' k) (i0 := 0) (N := roS s 0) (by omega) (by unfold FU; omega) ?_ ?_
    · intro n k h1 h2
      have fc := c2 k h2
      simp only [L_X6_digest_349]
      rw [fo_s]
      simp (disch := omega) only [↓ite_ap, if_true, if_false, if_pos, if_neg, retM_ap, retZ_ap0, retZ_ap1, gM_np, sM_ap, jM_np, bI_ap, bL_ap, bD_ap, rdM_ap, wrM_ap, thrM_ap, nl_0, nl_1, nl_2, nl_3, nl_4, nl_5, nl_6, nl_7, nl_8, nl_9, nl_10, nl_11, nl_12, nl_13, nl_25, nl_33, nl_35, nl_45, nl_48, nl_49, nl_50, nl_52, nl_53, nl_57, nl_59, nl_60, nl_61, nl_77, nl_94, nl_97, nl_100, nl_101, nl_119, nl_125, nl_126, nl_137, nl_262, nl_387, nl_500, nl_512, nl_637, nl_999, nl_1022, nl_1137, nl_5685, nm_1b, iN_mI, mI_iN, iN_add, iN_mul, iN_sub, iN_div, iN_rem, iN_lt, iN_le, iN_eq, iN_nat, inB_iN, q3, fc]
    · intro n
      simp only [L_X6_digest_349]
      simp (disch := omega) only [↓ite_ap, if_true, if_false, if_pos, if_neg, retM_ap, retZ_ap0, retZ_ap1, gM_np, sM_ap, jM_np, bI_ap, bL_ap, bD_ap, rdM_ap, wrM_ap, thrM_ap, nl_0, nl_1, nl_2, nl_3, nl_4, nl_5, nl_6, nl_7, nl_8, nl_9, nl_10, nl_11, nl_12, nl_13, nl_25, nl_33, nl_35, nl_45, nl_48, nl_49, nl_50, nl_52, nl_53, nl_57, nl_59, nl_60, nl_61, nl_77, nl_94, nl_97, nl_100, nl_101, nl_119, nl_125, nl_126, nl_137, nl_262, nl_387, nl_500, nl_512, nl_637, nl_999, nl_1022, nl_1137, nl_5685, nm_1b, iN_mI, mI_iN, iN_add, iN_mul, iN_sub, iN_div, iN_rem, iN_lt, iN_le, iN_eq, iN_nat, inB_iN, q3]
  have ho : isOf s 0 := ⟨(show 0 < tbS s by omega), (show 0 < roS s 0 by omega), (show 0 < coS s 0 by have := w0.2.2.2.2.1; omega)⟩
  have h77 : -999 ≤ (iN 77).toInt ∧ (iN 77).toInt ≤ 999 := by
    rw [iN_int (by omega)]
    omega
  obtain ⟨H3, hH3⟩ : ∃ H3, H3 = foI (fun r => iN (pgS s (szL s 0 1) (nv (s 1)) (r + 1)).1) (tbsH s ((31 : Int64) * foI (cnS s (σ 73 2)) 2887 13 + (s 1).toInt64) (tbS s)) (roS s 0) := ⟨_, rfl⟩
  obtain ⟨m4, d1, d2, d3, d4, d5⟩ := r_dig381 (s := s) (h := H3) (K := fun x60 => invM (F_X6_leastFor (iN 1)) fun x61 => invM (F_X6_leastFor (iN 2)) fun x62 => bL (((31 : Int64) * (((31 : Int64) * x60) + x61.toInt64)) + x62.toInt64) fun x63 => invM (F_X6_share) fun x64 => invM (F_Jxe99ae_doubleToLongBits_ccdee x64) fun x65 => gM (fun σ => σ 168 5) fun x66 => bL (((31 : Int64) * (((31 : Int64) * x63) + x65)) + x66.toInt64) fun x67 => L_X6_digest_458 FU x67 (iN 0)) ho h77 3 0 FU m3 (by omega) (by unfold FU; omega) I3 n3 R3
  obtain ⟨m5, l1, l2⟩ := r_leastFor (p := 1) (by omega) d4
  have R5 := d4.fr l2
  have I5 : II m5 := d2.fr (fun k j g => l2 k j (by unfold PI at g; omega))
  obtain ⟨m6, l3, l4⟩ := r_leastFor (p := 2) (by omega) R5
  have R6 := R5.fr l4
  have I6 : II m6 := I5.fr (fun k j g => l4 k j (by unfold PI at g; omega))
  have fsh := r_share hw R6.2.1
  have hb := cells_b hw
  have fbt : F_Jxe99ae_doubleToLongBits_ccdee (shr s) m6 = some (.inl (shr s).toInt64, m6) := r_toBits hb.1 hb.2.1 (Nat.sub_le _ _)
  have far : ∀ k j, (k = 172 ∨ (k = 168 ∧ j = 5)) → m6 k j = σ k j := fun k j g => by
    rw [l4 k j (by omega), l2 k j (by omega), d5 k j (by omega) (by omega), c3 k j (by omega), b2 k j (by omega), a5 k j (by omega) (by omega), f0 k j (by omega) (by omega)]
  have e65 : m6 168 5 = iN L := by rw [far _ _ (by omega)]; exact e2
  have f458 : ∀ h : Int64, L_X6_digest_458 FU h (iN 0) m6 = some (.inl (foI (σ 167) h L), m6) := fun h => by
    refine lp (fun n k (x : Int64) => L_X6_digest_458 n x (iN k) m6) (fun k => foI (σ 167) h k) (i0 := 0) (N := L) (by omega) (by unfold FU; omega) ?_ ?_
    · intro n k h1 h2
      have fa : m6 172 k = σ 167 k := by rw [far _ _ (by omega), (e3 k h2).1]
      simp only [L_X6_digest_458]
      rw [fo_s]
      simp (disch := omega) only [↓ite_ap, if_true, if_false, if_pos, if_neg, retM_ap, retZ_ap0, retZ_ap1, gM_np, sM_ap, jM_np, bI_ap, bL_ap, bD_ap, rdM_ap, wrM_ap, thrM_ap, nl_0, nl_1, nl_2, nl_3, nl_4, nl_5, nl_6, nl_7, nl_8, nl_9, nl_10, nl_11, nl_12, nl_13, nl_25, nl_33, nl_35, nl_45, nl_48, nl_49, nl_50, nl_52, nl_53, nl_57, nl_59, nl_60, nl_61, nl_77, nl_94, nl_97, nl_100, nl_101, nl_119, nl_125, nl_126, nl_137, nl_262, nl_387, nl_500, nl_512, nl_637, nl_999, nl_1022, nl_1137, nl_5685, nm_1b, iN_mI, mI_iN, iN_add, iN_mul, iN_sub, iN_div, iN_rem, iN_lt, iN_le, iN_eq, iN_nat, inB_iN, e65, fa]
    · intro n
      simp only [L_X6_digest_458]
      simp (disch := omega) only [↓ite_ap, if_true, if_false, if_pos, if_neg, retM_ap, retZ_ap0, retZ_ap1, gM_np, sM_ap, jM_np, bI_ap, bL_ap, bD_ap, rdM_ap, wrM_ap, thrM_ap, nl_0, nl_1, nl_2, nl_3, nl_4, nl_5, nl_6, nl_7, nl_8, nl_9, nl_10, nl_11, nl_12, nl_13, nl_25, nl_33, nl_35, nl_45, nl_48, nl_49, nl_50, nl_52, nl_53, nl_57, nl_59, nl_60, nl_61, nl_77, nl_94, nl_97, nl_100, nl_101, nl_119, nl_125, nl_126, nl_137, nl_262, nl_387, nl_500, nl_512, nl_637, nl_999, nl_1022, nl_1137, nl_5685, nm_1b, iN_mI, mI_iN, iN_add, iN_mul, iN_sub, iN_div, iN_rem, iN_lt, iN_le, iN_eq, iN_nat, inB_iN, e65]
  refine ⟨digS s (σ 73 2) L (σ 167), σ1, f1, m6, ?_, I6, trivial⟩
  have rd2 : ∀ K' : Int32 → Dm Int64, rdM 169 1137 (iN 1) K' m2 = K' (s 1) m2 := fun K' => by rw [rdM_ap (by omega) (by omega), e21]
  unfold F_X6_digest digS
  rw [nl_0, nl_1, nl_2, sM_ap, ← em0, invM_l a1]
  refine b1.trans ?_
  show (rdM 169 1137 (iN 1) _) m2 = _
  rw [rd2, bL_ap, g56, rd2, eh, invM_l c1, g349, ← eh, ← hH3]
  refine d1.trans ?_
  show (invM (F_X6_leastFor (iN 1)) _) m4 = _
  rw [invM_l l1, invM_l l3, bL_ap, invM_l fsh, invM_l fbt, gM_ap, e65, bL_ap, f458, hH3]
