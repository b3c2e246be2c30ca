/-! DIGEST: THE CLASS -/
def foI (g : Nat → Int32) (h : Int64) : Nat → Int64
  | 0 => h
  | n + 1 => (31 : Int64) * foI g h n + (g n).toInt64
def sqH (s : Sv) (q : Nat) (h : Int64) : Int64 := (31 : Int64) * foI (fun i => iN (eL s (q * 4 + i))) (foI (cpS s q) h 12) 4 + (couS s q).toInt64
/-- the first k squares of a table -/
def fqS (s : Sv) (t : Nat) (h : Int64) : Nat → Int64
  | 0 => h
  | k + 1 => if ofB s (25 * t + k) = true then sqH s (25 * t + k) (fqS s t h k) else fqS s t h k
def tbH (s : Sv) (t : Nat) (h : Int64) : Int64 := fqS s t (foI (fun l => iN (szL s t 1 l)) (foI (fun l => iN (szL s t 0 l)) (foI (tpS s t) h 8) (coS s t)) (roS s t)) 25
def tbsH (s : Sv) (h : Int64) : Nat → Int64
  | 0 => h
  | n + 1 => tbH s n (tbsH s h n)
def digS (s : Sv) (saved : Int32) (L : Nat) (C : Nat → Int32) : Int64 :=
  let h1 := (31 : Int64) * foI (cnS s saved) 2887 13 + (s 1).toInt64
  let h2 := tbsH s h1 (tbS s)
  let h3 := foI (fun r => iN (pgS s (szL s 0 1) (nv (s 1)) (r + 1)).1) h2 (roS s 0)
  let h4 := foI (fun k => bpS s 0 (iN 77) k) h3 3
  let h5 := (31 : Int64) * ((31 : Int64) * h4 + (hfL (fun x => decide (pgN s x ≤ 1)) 60 1).toInt64) + (hfL (fun x => decide (pgN s x ≤ 2)) 60 1).toInt64
  let h6 := (31 : Int64) * ((31 : Int64) * h5 + (shr s).toInt64) + (iN L).toInt64
  foI C h6 L
theorem f_mix {a b : Int64} {σ : Mm} : F_X5_mix a b σ = some (.inl ((31 : Int64) * a + b), σ) := rfl
theorem b_mix {α : Type} {a b : Int64} {K : Int64 → Dm α} {σ : Mm} : invM (F_X5_mix a b) K σ = K ((31 : Int64) * a + b) σ := invM_l f_mix
theorem fo_0 {g : Nat → Int32} {h : Int64} : foI g h 0 = h := rfl
theorem fo_s {g : Nat → Int32} {h : Int64} {n : Nat} : foI g h (n + 1) = (31 : Int64) * foI g h n + (g n).toInt64 := rfl
theorem f_dig6 {s : Sv} {σ : Mm} {h : Int64} {K : Int64 → Dm Int64} (hc : CO s σ) : L_X5_digest_6 FU h (iN 0) K σ = K (foI (cnS s (σ 73 2)) h 13) σ := by
  refine lp (fun n k (x : Int64) => L_X5_digest_6 n x (iN k) K σ) (fun k => foI (cnS s (σ 73 2)) h k) (i0 := 0) (N := 13) (by omega) (by unfold FU; omega) ?_ ?_
  · intro n k h1 h2
    have fc := f_count (k := k) hc h2
    simp only [L_X5_digest_6]
    rw [fo_s]
    simp (disch := omega) only [↓ite_ap, if_true, if_false, if_pos, if_neg, retM_ap, retZ_ap0, retZ_ap1, gM_np, sM_ap, jM_np, bI_ap, bL_ap, bD_ap, rdM_ap, wrM_ap, thrM_ap, nl_0, nl_1, nl_2, nl_3, nl_4, nl_5, nl_6, nl_7, nl_8, nl_9, nl_10, nl_11, nl_12, nl_13, nl_25, nl_33, nl_35, nl_45, nl_48, nl_49, nl_50, nl_52, nl_53, nl_57, nl_59, nl_60, nl_61, nl_77, nl_94, nl_97, nl_100, nl_101, nl_119, nl_125, nl_126, nl_137, nl_262, nl_387, nl_500, nl_512, nl_637, nl_999, nl_1022, nl_1137, nl_5685, nm_1b, iN_mI, mI_iN, iN_add, iN_mul, iN_sub, iN_div, iN_rem, iN_lt, iN_le, iN_eq, iN_nat, inB_iN, ↓invM_l fc, ↓b_mix]
  · intro n
    simp only [L_X5_digest_6]
    simp (disch := omega) only [↓ite_ap, if_true, if_false, if_pos, if_neg, retM_ap, retZ_ap0, retZ_ap1, gM_np, sM_ap, jM_np, bI_ap, bL_ap, bD_ap, rdM_ap, wrM_ap, thrM_ap, nl_0, nl_1, nl_2, nl_3, nl_4, nl_5, nl_6, nl_7, nl_8, nl_9, nl_10, nl_11, nl_12, nl_13, nl_25, nl_33, nl_35, nl_45, nl_48, nl_49, nl_50, nl_52, nl_53, nl_57, nl_59, nl_60, nl_61, nl_77, nl_94, nl_97, nl_100, nl_101, nl_119, nl_125, nl_126, nl_137, nl_262, nl_387, nl_500, nl_512, nl_637, nl_999, nl_1022, nl_1137, nl_5685, nm_1b, iN_mI, mI_iN, iN_add, iN_mul, iN_sub, iN_div, iN_rem, iN_lt, iN_le, iN_eq, iN_nat, inB_iN]
theorem f_mixSquare {s : Sv} {σ : Mm} {h : Int64} {q : Nat} (hc : CO s σ) (hq : isOf s q) : F_X5_mixSquare h (iN q) σ = some (.inl (sqH s q h), σ) := by
  obtain ⟨hw, hr, hL⟩ := hc
  have l1 := isOf_lt hw hq
  have f6 : ∀ K : Int64 → Dm Int64, L_X5_mixSquare_6 (iN q) FU h (iN 0) K σ = K (foI (cpS s q) h 12) σ := fun K => by
    refine lp (fun n k (x : Int64) => L_X5_mixSquare_6 (iN q) n x (iN k) K σ) (fun k => foI (cpS s q) h k) (i0 := 0) (N := 12) (by omega) (by unfold FU; omega) ?_ ?_
    · intro n k h1 h2
      have fc := f_cellProperty (q := q) (k := k) ⟨hw, hr, hL⟩ hq.1 h2
      simp only [L_X5_mixSquare_6]
      rw [fo_s]
      simp (disch := omega) only [↓ite_ap, if_true, if_false, if_pos, if_neg, retM_ap, retZ_ap0, retZ_ap1, gM_np, sM_ap, jM_np, bI_ap, bL_ap, bD_ap, rdM_ap, wrM_ap, thrM_ap, nl_0, nl_1, nl_2, nl_3, nl_4, nl_5, nl_6, nl_7, nl_8, nl_9, nl_10, nl_11, nl_12, nl_13, nl_25, nl_33, nl_35, nl_45, nl_48, nl_49, nl_50, nl_52, nl_53, nl_57, nl_59, nl_60, nl_61, nl_77, nl_94, nl_97, nl_100, nl_101, nl_119, nl_125, nl_126, nl_137, nl_262, nl_387, nl_500, nl_512, nl_637, nl_999, nl_1022, nl_1137, nl_5685, nm_1b, iN_mI, mI_iN, iN_add, iN_mul, iN_sub, iN_div, iN_rem, iN_lt, iN_le, iN_eq, iN_nat, inB_iN, ↓invM_l fc, ↓b_mix]
    · intro n
      simp only [L_X5_mixSquare_6]
      simp (disch := omega) only [↓ite_ap, if_true, if_false, if_pos, if_neg, retM_ap, retZ_ap0, retZ_ap1, gM_np, sM_ap, jM_np, bI_ap, bL_ap, bD_ap, rdM_ap, wrM_ap, thrM_ap, nl_0, nl_1, nl_2, nl_3, nl_4, nl_5, nl_6, nl_7, nl_8, nl_9, nl_10, nl_11, nl_12, nl_13, nl_25, nl_33, nl_35, nl_45, nl_48, nl_49, nl_50, nl_52, nl_53, nl_57, nl_59, nl_60, nl_61, nl_77, nl_94, nl_97, nl_100, nl_101, nl_119, nl_125, nl_126, nl_137, nl_262, nl_387, nl_500, nl_512, nl_637, nl_999, nl_1022, nl_1137, nl_5685, nm_1b, iN_mI, mI_iN, iN_add, iN_mul, iN_sub, iN_div, iN_rem, iN_lt, iN_le, iN_eq, iN_nat, inB_iN]
  have f37 : ∀ (h' : Int64) (K : Int64 → Dm Int64), L_X5_mixSquare_37 (iN q) FU h' (iN 0) K σ = K (foI (fun i => iN (eL s (q * 4 + i))) h' 4) σ := fun h' K => by
    refine lp (fun n k (x : Int64) => L_X5_mixSquare_37 (iN q) n x (iN k) K σ) (fun k => foI (fun i => iN (eL s (q * 4 + i))) h' k) (i0 := 0) (N := 4) (by omega) (by unfold FU; omega) ?_ ?_
    · intro n k h1 h2
      have fc : σ 28 (q * 4 + k) = iN (eL s (q * 4 + k)) := (hL _ hq.1).2.2.2.2.2.1 q k rfl h2
      simp only [L_X5_mixSquare_37]
      rw [fo_s]
      simp (disch := omega) only [↓ite_ap, if_true, if_false, if_pos, if_neg, retM_ap, retZ_ap0, retZ_ap1, gM_np, sM_ap, jM_np, bI_ap, bL_ap, bD_ap, rdM_ap, wrM_ap, thrM_ap, nl_0, nl_1, nl_2, nl_3, nl_4, nl_5, nl_6, nl_7, nl_8, nl_9, nl_10, nl_11, nl_12, nl_13, nl_25, nl_33, nl_35, nl_45, nl_48, nl_49, nl_50, nl_52, nl_53, nl_57, nl_59, nl_60, nl_61, nl_77, nl_94, nl_97, nl_100, nl_101, nl_119, nl_125, nl_126, nl_137, nl_262, nl_387, nl_500, nl_512, nl_637, nl_999, nl_1022, nl_1137, nl_5685, nm_1b, iN_mI, mI_iN, iN_add, iN_mul, iN_sub, iN_div, iN_rem, iN_lt, iN_le, iN_eq, iN_nat, inB_iN, ↓b_at, ↓b_store, ↓b_place1, ↓b_place0, ↓b_tableOf, ↓b_sqEnd, ↓b_isCell, Nat.reduceAdd, fc, ↓b_mix]
    · intro n
      simp only [L_X5_mixSquare_37]
      simp (disch := omega) only [↓ite_ap, if_true, if_false, if_pos, if_neg, retM_ap, retZ_ap0, retZ_ap1, gM_np, sM_ap, jM_np, bI_ap, bL_ap, bD_ap, rdM_ap, wrM_ap, thrM_ap, nl_0, nl_1, nl_2, nl_3, nl_4, nl_5, nl_6, nl_7, nl_8, nl_9, nl_10, nl_11, nl_12, nl_13, nl_25, nl_33, nl_35, nl_45, nl_48, nl_49, nl_50, nl_52, nl_53, nl_57, nl_59, nl_60, nl_61, nl_77, nl_94, nl_97, nl_100, nl_101, nl_119, nl_125, nl_126, nl_137, nl_262, nl_387, nl_500, nl_512, nl_637, nl_999, nl_1022, nl_1137, nl_5685, nm_1b, iN_mI, mI_iN, iN_add, iN_mul, iN_sub, iN_div, iN_rem, iN_lt, iN_le, iN_eq, iN_nat, inB_iN]
  have fs := f_countingSums (c := q) hw hr hq.1 (fun q' h1 h2 => (hL _ h1.1.1).2.2.2.1 q' rfl h1 h2)
  unfold F_X5_mixSquare sqH
  rw [nl_0, f6, f37, invM_l fs, b_mix]
  rfl
theorem fq_skip {s : Sv} {t : Nat} {h : Int64} : ∀ {k k' : Nat}, k ≤ k' → (∀ j, k ≤ j → j < k' → ofB s (25 * t + j) = false) → fqS s t h k' = fqS s t h k
  | k, 0, h1, _ => by
    obtain rfl : k = 0 := by omega
    rfl
  | k, k' + 1, h1, h2 => by
    by_cases e : k = k' + 1
    · rw [e]
    · rw [fqS, h2 k' (by omega) (by omega)]
      exact fq_skip (by omega) (fun j a b => h2 j a (by omega))
theorem f_mixTable {s : Sv} {σ : Mm} {h : Int64} {t : Nat} (hc : CO s σ) (ht : t < tbS s) : F_X5_mixTable h (iN t) σ = some (.inl (tbH s t h), σ) := by
  obtain ⟨hw, hr, hL⟩ := hc
  have t5 := hw.1.2.2
  have w := hw.2.2.1 t ht
  have wR := w.2.2.1
  have wC := w.2.2.2.2.2
  have wR1 := w.2.1
  have wC1 := w.2.2.2.2.1
  have ln1 := (rel_lines hw hr ht (w := 1) (by omega)).1
  have ln0 := (rel_lines hw hr ht (w := 0) (by omega)).1
  have ln1' : σ 4 (2 * t + 1) = iN (roS s t) := ln1
  have ln0' : σ 4 (2 * t + 0) = iN (coS s t) := ln0
  have f6 : ∀ K : Int64 → Dm Int64, L_X5_mixTable_6 (iN t) FU h (iN 0) K σ = K (foI (tpS s t) h 8) σ := fun K => by
    refine lp (fun n k (x : Int64) => L_X5_mixTable_6 (iN t) n x (iN k) K σ) (fun k => foI (tpS s t) h k) (i0 := 0) (N := 8) (by omega) (by unfold FU; omega) ?_ ?_
    · intro n k h1 h2
      have fc := f_tableProperty (t := t) (k := k) ⟨hw, hr, hL⟩ ht h2
      simp only [L_X5_mixTable_6]
      rw [fo_s]
      simp (disch := omega) only [↓ite_ap, if_true, if_false, if_pos, if_neg, retM_ap, retZ_ap0, retZ_ap1, gM_np, sM_ap, jM_np, bI_ap, bL_ap, bD_ap, rdM_ap, wrM_ap, thrM_ap, nl_0, nl_1, nl_2, nl_3, nl_4, nl_5, nl_6, nl_7, nl_8, nl_9, nl_10, nl_11, nl_12, nl_13, nl_25, nl_33, nl_35, nl_45, nl_48, nl_49, nl_50, nl_52, nl_53, nl_57, nl_59, nl_60, nl_61, nl_77, nl_94, nl_97, nl_100, nl_101, nl_119, nl_125, nl_126, nl_137, nl_262, nl_387, nl_500, nl_512, nl_637, nl_999, nl_1022, nl_1137, nl_5685, nm_1b, iN_mI, mI_iN, iN_add, iN_mul, iN_sub, iN_div, iN_rem, iN_lt, iN_le, iN_eq, iN_nat, inB_iN, ↓invM_l fc, ↓b_mix]
    · intro n
      simp only [L_X5_mixTable_6]
      simp (disch := omega) only [↓ite_ap, if_true, if_false, if_pos, if_neg, retM_ap, retZ_ap0, retZ_ap1, gM_np, sM_ap, jM_np, bI_ap, bL_ap, bD_ap, rdM_ap, wrM_ap, thrM_ap, nl_0, nl_1, nl_2, nl_3, nl_4, nl_5, nl_6, nl_7, nl_8, nl_9, nl_10, nl_11, nl_12, nl_13, nl_25, nl_33, nl_35, nl_45, nl_48, nl_49, nl_50, nl_52, nl_53, nl_57, nl_59, nl_60, nl_61, nl_77, nl_94, nl_97, nl_100, nl_101, nl_119, nl_125, nl_126, nl_137, nl_262, nl_387, nl_500, nl_512, nl_637, nl_999, nl_1022, nl_1137, nl_5685, nm_1b, iN_mI, mI_iN, iN_add, iN_mul, iN_sub, iN_div, iN_rem, iN_lt, iN_le, iN_eq, iN_nat, inB_iN]
  have f46 : ∀ (w' N : Nat) (h' : Int64) (K : Int64 → Dm Int64), w' < 2 → N ≤ 5 → σ 4 (2 * t + w') = iN N → (∀ l, l < 5 → σ 30 ((2 * t + w') * 5 + l) = iN (szL s t w' l)) → L_X5_mixTable_46 (iN t) (iN w') FU h' (iN 0) K σ = K (foI (fun l => iN (szL s t w' l)) h' N) σ := fun w' N h' K hw2 hN hln hsz => by
    refine lp (fun n k (x : Int64) => L_X5_mixTable_46 (iN t) (iN w') n x (iN k) K σ) (fun k => foI (fun l => iN (szL s t w' l)) h' k) (i0 := 0) (N := N) (by omega) (by unfold FU; omega) ?_ ?_
    · intro n k h1 h2
      have f1 := f_linesOf (b := 2) (t := t) (w := w') (σ := σ) (by omega) hw2
      rw [hln] at f1
      have f2 := f_sizeOf (b := 1) (t := t) (w := w') (l := k) (σ := σ) (by omega) hw2 (by omega)
      rw [show 1 + 29 = 30 from rfl, hsz k (by omega)] at f2
      simp only [L_X5_mixTable_46]
      rw [fo_s]
      simp (disch := omega) only [↓ite_ap, if_true, if_false, if_pos, if_neg, retM_ap, retZ_ap0, retZ_ap1, gM_np, sM_ap, jM_np, bI_ap, bL_ap, bD_ap, rdM_ap, wrM_ap, thrM_ap, nl_0, nl_1, nl_2, nl_3, nl_4, nl_5, nl_6, nl_7, nl_8, nl_9, nl_10, nl_11, nl_12, nl_13, nl_25, nl_33, nl_35, nl_45, nl_48, nl_49, nl_50, nl_52, nl_53, nl_57, nl_59, nl_60, nl_61, nl_77, nl_94, nl_97, nl_100, nl_101, nl_119, nl_125, nl_126, nl_137, nl_262, nl_387, nl_500, nl_512, nl_637, nl_999, nl_1022, nl_1137, nl_5685, nm_1b, iN_mI, mI_iN, iN_add, iN_mul, iN_sub, iN_div, iN_rem, iN_lt, iN_le, iN_eq, iN_nat, inB_iN, ↓invM_l f1, ↓invM_l f2, ↓b_mix]
    · intro n
      have f1 := f_linesOf (b := 2) (t := t) (w := w') (σ := σ) (by omega) hw2
      rw [hln] at f1
      simp only [L_X5_mixTable_46]
      simp (disch := omega) only [↓ite_ap, if_true, if_false, if_pos, if_neg, retM_ap, retZ_ap0, retZ_ap1, gM_np, sM_ap, jM_np, bI_ap, bL_ap, bD_ap, rdM_ap, wrM_ap, thrM_ap, nl_0, nl_1, nl_2, nl_3, nl_4, nl_5, nl_6, nl_7, nl_8, nl_9, nl_10, nl_11, nl_12, nl_13, nl_25, nl_33, nl_35, nl_45, nl_48, nl_49, nl_50, nl_52, nl_53, nl_57, nl_59, nl_60, nl_61, nl_77, nl_94, nl_97, nl_100, nl_101, nl_119, nl_125, nl_126, nl_137, nl_262, nl_387, nl_500, nl_512, nl_637, nl_999, nl_1022, nl_1137, nl_5685, nm_1b, iN_mI, mI_iN, iN_add, iN_mul, iN_sub, iN_div, iN_rem, iN_lt, iN_le, iN_eq, iN_nat, inB_iN, ↓invM_l f1]
  have f37 : ∀ (h' : Int64) (K : Int64 → Dm Int64), L_X5_mixTable_37 (iN t) FU h' (iN 0) K σ = K (foI (fun l => iN (szL s t 1 l)) (foI (fun l => iN (szL s t 0 l)) h' (coS s t)) (roS s t)) σ := fun h' K => by
    obtain ⟨n, hn⟩ : ∃ n, FU = n + 3 := ⟨FU - 3, by unfold FU; omega⟩
    have g0 := fun K' => f46 0 (coS s t) h' K' (by omega) wC ln0' (hL t ht).2.2.2.2.2.2.1.2.1
    have g1 := fun K' => f46 1 (roS s t) (foI (fun l => iN (szL s t 0 l)) h' (coS s t)) K' (by omega) wR ln1' (hL t ht).2.2.2.2.2.2.2.2.1
    have st0 : ∀ n, L_X5_mixTable_37 (iN t) (n + 1) h' (iN 0) K σ = L_X5_mixTable_37 (iN t) n (foI (fun l => iN (szL s t 0 l)) h' (coS s t)) (iN 1) K σ := fun n => by
      simp only [L_X5_mixTable_37]
      simp (disch := omega) only [↓ite_ap, if_true, if_false, if_pos, if_neg, retM_ap, retZ_ap0, retZ_ap1, gM_np, sM_ap, jM_np, bI_ap, bL_ap, bD_ap, rdM_ap, wrM_ap, thrM_ap, nl_0, nl_1, nl_2, nl_3, nl_4, nl_5, nl_6, nl_7, nl_8, nl_9, nl_10, nl_11, nl_12, nl_13, nl_25, nl_33, nl_35, nl_45, nl_48, nl_49, nl_50, nl_52, nl_53, nl_57, nl_59, nl_60, nl_61, nl_77, nl_94, nl_97, nl_100, nl_101, nl_119, nl_125, nl_126, nl_137, nl_262, nl_387, nl_500, nl_512, nl_637, nl_999, nl_1022, nl_1137, nl_5685, nm_1b, iN_mI, mI_iN, iN_add, iN_mul, iN_sub, iN_div, iN_rem, iN_lt, iN_le, iN_eq, iN_nat, inB_iN, g0]
    have st1 : ∀ n, L_X5_mixTable_37 (iN t) (n + 1) (foI (fun l => iN (szL s t 0 l)) h' (coS s t)) (iN 1) K σ = L_X5_mixTable_37 (iN t) n (foI (fun l => iN (szL s t 1 l)) (foI (fun l => iN (szL s t 0 l)) h' (coS s t)) (roS s t)) (iN 2) K σ := fun n => by
      simp only [L_X5_mixTable_37]
      simp (disch := omega) only [↓ite_ap, if_true, if_false, if_pos, if_neg, retM_ap, retZ_ap0, retZ_ap1, gM_np, sM_ap, jM_np, bI_ap, bL_ap, bD_ap, rdM_ap, wrM_ap, thrM_ap, nl_0, nl_1, nl_2, nl_3, nl_4, nl_5, nl_6, nl_7, nl_8, nl_9, nl_10, nl_11, nl_12, nl_13, nl_25, nl_33, nl_35, nl_45, nl_48, nl_49, nl_50, nl_52, nl_53, nl_57, nl_59, nl_60, nl_61, nl_77, nl_94, nl_97, nl_100, nl_101, nl_119, nl_125, nl_126, nl_137, nl_262, nl_387, nl_500, nl_512, nl_637, nl_999, nl_1022, nl_1137, nl_5685, nm_1b, iN_mI, mI_iN, iN_add, iN_mul, iN_sub, iN_div, iN_rem, iN_lt, iN_le, iN_eq, iN_nat, inB_iN, g1]
    rw [hn, st0, st1]
    simp only [L_X5_mixTable_37]
    simp (disch := omega) only [↓ite_ap, if_true, if_false, if_pos, if_neg, retM_ap, retZ_ap0, retZ_ap1, gM_np, sM_ap, jM_np, bI_ap, bL_ap, bD_ap, rdM_ap, wrM_ap, thrM_ap, nl_0, nl_1, nl_2, nl_3, nl_4, nl_5, nl_6, nl_7, nl_8, nl_9, nl_10, nl_11, nl_12, nl_13, nl_25, nl_33, nl_35, nl_45, nl_48, nl_49, nl_50, nl_52, nl_53, nl_57, nl_59, nl_60, nl_61, nl_77, nl_94, nl_97, nl_100, nl_101, nl_119, nl_125, nl_126, nl_137, nl_262, nl_387, nl_500, nl_512, nl_637, nl_999, nl_1022, nl_1137, nl_5685, nm_1b, iN_mI, mI_iN, iN_add, iN_mul, iN_sub, iN_div, iN_rem, iN_lt, iN_le, iN_eq, iN_nat, inB_iN]
  have f113 : ∀ (h' : Int64) (r : Nat) (K : Int64 → Dm Int64), r < roS s t → L_X5_mixTable_113 (iN t) (iN r) FU (fqS s t h' (5 * r)) (iN 0) K σ = K (fqS s t h' (5 * r + coS s t)) σ := fun h' r K hr5 => by
    refine lp (fun n k (x : Int64) => L_X5_mixTable_113 (iN t) (iN r) n x (iN k) K σ) (fun k => fqS s t h' (5 * r + k)) (i0 := 0) (N := coS s t) (by omega) (by unfold FU; omega) ?_ ?_
    · intro n k h1 h2
      have f1 := f_linesOf (b := 2) (t := t) (w := 0) (σ := σ) (by omega) (by omega)
      rw [ln0'] at f1
      have f2 := f_squareAt (b := 2) (p0 := iN t) (p1 := iN r) (p2 := iN k) hw hr
      rw [sqI_iN ht t5 (by omega) (by omega), if_pos ⟨hr5, h2⟩] at f2
      have e : t * 25 + r * 5 + k = 25 * t + (5 * r + k) := by omega
      rw [e] at f2
      have hof : isOf s (25 * t + (5 * r + k)) := by
        have e1 : (25 * t + (5 * r + k)) / 25 = t := by omega
        exact ⟨by omega, by rw [e1]; omega, by rw [e1]; omega⟩
      have f3 := f_mixSquare (h := fqS s t h' (5 * r + k)) ⟨hw, hr, hL⟩ hof
      simp only [L_X5_mixTable_113]
      rw [← Nat.add_assoc (5 * r), fqS, if_pos (ofB_iff.mpr hof)]
      simp (disch := omega) only [↓ite_ap, if_true, if_false, if_pos, if_neg, retM_ap, retZ_ap0, retZ_ap1, gM_np, sM_ap, jM_np, bI_ap, bL_ap, bD_ap, rdM_ap, wrM_ap, thrM_ap, nl_0, nl_1, nl_2, nl_3, nl_4, nl_5, nl_6, nl_7, nl_8, nl_9, nl_10, nl_11, nl_12, nl_13, nl_25, nl_33, nl_35, nl_45, nl_48, nl_49, nl_50, nl_52, nl_53, nl_57, nl_59, nl_60, nl_61, nl_77, nl_94, nl_97, nl_100, nl_101, nl_119, nl_125, nl_126, nl_137, nl_262, nl_387, nl_500, nl_512, nl_637, nl_999, nl_1022, nl_1137, nl_5685, nm_1b, iN_mI, mI_iN, iN_add, iN_mul, iN_sub, iN_div, iN_rem, iN_lt, iN_le, iN_eq, iN_nat, inB_iN, ↓invM_l f1, ↓invM_l f2, ↓invM_l f3]
    · intro n
      have f1 := f_linesOf (b := 2) (t := t) (w := 0) (σ := σ) (by omega) (by omega)
      rw [ln0'] at f1
      simp only [L_X5_mixTable_113]
      simp (disch := omega) only [↓ite_ap, if_true, if_false, if_pos, if_neg, retM_ap, retZ_ap0, retZ_ap1, gM_np, sM_ap, jM_np, bI_ap, bL_ap, bD_ap, rdM_ap, wrM_ap, thrM_ap, nl_0, nl_1, nl_2, nl_3, nl_4, nl_5, nl_6, nl_7, nl_8, nl_9, nl_10, nl_11, nl_12, nl_13, nl_25, nl_33, nl_35, nl_45, nl_48, nl_49, nl_50, nl_52, nl_53, nl_57, nl_59, nl_60, nl_61, nl_77, nl_94, nl_97, nl_100, nl_101, nl_119, nl_125, nl_126, nl_137, nl_262, nl_387, nl_500, nl_512, nl_637, nl_999, nl_1022, nl_1137, nl_5685, nm_1b, iN_mI, mI_iN, iN_add, iN_mul, iN_sub, iN_div, iN_rem, iN_lt, iN_le, iN_eq, iN_nat, inB_iN, ↓invM_l f1]
  have rowEnd : ∀ (h' : Int64) (r : Nat), r < roS s t → fqS s t h' (5 * r + coS s t) = fqS s t h' (5 * (r + 1)) := fun h' r hr5 => (fq_skip (by omega) (fun j a b => ofB_not (fun g => by
    have e1 : (25 * t + j) / 25 = t := by omega
    have g2 := g.2.2
    rw [e1] at g2
    omega))).symm
  have f96 : ∀ h' : Int64, L_X5_mixTable_96 (iN t) FU h' (iN 0) σ = some (.inl (fqS s t h' 25), σ) := fun h' => by
    have e25 : fqS s t h' 25 = fqS s t h' (5 * roS s t) := fq_skip (by omega) (fun j a b => ofB_not (fun g => by
      have e1 : (25 * t + j) / 25 = t := by omega
      have g2 := g.2.1
      rw [e1] at g2
      omega))
    rw [e25]
    refine lp (fun n k (x : Int64) => L_X5_mixTable_96 (iN t) n x (iN k) σ) (fun k => fqS s t h' (5 * k)) (i0 := 0) (N := roS s t) (by omega) (by unfold FU; omega) ?_ ?_
    · intro n k h1 h2
      have f1 := f_linesOf (b := 2) (t := t) (w := 1) (σ := σ) (by omega) (by omega)
      rw [ln1'] at f1
      have f2 := fun K => f113 h' k K h2
      rw [rowEnd h' k h2] at f2
      simp only [L_X5_mixTable_96]
      simp (disch := omega) only [↓ite_ap, if_true, if_false, if_pos, if_neg, retM_ap, retZ_ap0, retZ_ap1, gM_np, sM_ap, jM_np, bI_ap, bL_ap, bD_ap, rdM_ap, wrM_ap, thrM_ap, nl_0, nl_1, nl_2, nl_3, nl_4, nl_5, nl_6, nl_7, nl_8, nl_9, nl_10, nl_11, nl_12, nl_13, nl_25, nl_33, nl_35, nl_45, nl_48, nl_49, nl_50, nl_52, nl_53, nl_57, nl_59, nl_60, nl_61, nl_77, nl_94, nl_97, nl_100, nl_101, nl_119, nl_125, nl_126, nl_137, nl_262, nl_387, nl_500, nl_512, nl_637, nl_999, nl_1022, nl_1137, nl_5685, nm_1b, iN_mI, mI_iN, iN_add, iN_mul, iN_sub, iN_div, iN_rem, iN_lt, iN_le, iN_eq, iN_nat, inB_iN, ↓invM_l f1, f2]
    · intro n
      have f1 := f_linesOf (b := 2) (t := t) (w := 1) (σ := σ) (by omega) (by omega)
      rw [ln1'] at f1
      simp only [L_X5_mixTable_96]
      simp (disch := omega) only [↓ite_ap, if_true, if_false, if_pos, if_neg, retM_ap, retZ_ap0, retZ_ap1, gM_np, sM_ap, jM_np, bI_ap, bL_ap, bD_ap, rdM_ap, wrM_ap, thrM_ap, nl_0, nl_1, nl_2, nl_3, nl_4, nl_5, nl_6, nl_7, nl_8, nl_9, nl_10, nl_11, nl_12, nl_13, nl_25, nl_33, nl_35, nl_45, nl_48, nl_49, nl_50, nl_52, nl_53, nl_57, nl_59, nl_60, nl_61, nl_77, nl_94, nl_97, nl_100, nl_101, nl_119, nl_125, nl_126, nl_137, nl_262, nl_387, nl_500, nl_512, nl_637, nl_999, nl_1022, nl_1137, nl_5685, nm_1b, iN_mI, mI_iN, iN_add, iN_mul, iN_sub, iN_div, iN_rem, iN_lt, iN_le, iN_eq, iN_nat, inB_iN, ↓invM_l f1]
  unfold F_X5_mixTable tbH
  rw [nl_0, f6, f37, f96]
theorem f_digest {s : Sv} {σ : Mm} {L : Nat} (hc : CO s σ) (hL : L ≤ 60) (e1 : σ 165 1 = iN L) : ∃ σ1, F_X5_digest σ = some (.inl (digS s (σ 73 2) L (σ 167)), σ1) ∧ ∀ k, ¬ (37 ≤ k ∧ k ≤ 72) → σ1 k = σ k := by
  have hw := hc.1
  have hr := hc.2.1
  have t5 := hw.1.2.2
  have t1 := hw.1.2.1
  have w0 := hw.2.2.1 0 (by omega)
  have w0R := w0.2.2.1
  have e0 : σ 2 1 = iN (tbS s) := hr.1.trans hw.1.1
  have ln1 := (rel_lines hw hr (t := 0) (w := 1) (by omega) (by omega)).1
  have ln1' : σ 4 1 = iN (roS s 0) := ln1
  have f44 : ∀ (h : Int64) (K : Int64 → Dm Int64), L_X5_digest_44 FU h (iN 0) K σ = K (tbsH s h (tbS s)) σ := fun h K => by
    refine lp (fun n k (x : Int64) => L_X5_digest_44 n x (iN k) K σ) (fun k => tbsH s h k) (i0 := 0) (N := tbS s) (by omega) (by unfold FU; omega) ?_ ?_
    · intro n k h1 h2
      have fc := f_mixTable (h := tbsH s h k) hc h2
      simp only [L_X5_digest_44]
      simp (disch := omega) only [↓ite_ap, if_true, if_false, if_pos, if_neg, retM_ap, retZ_ap0, retZ_ap1, gM_np, sM_ap, jM_np, bI_ap, bL_ap, bD_ap, rdM_ap, wrM_ap, thrM_ap, nl_0, nl_1, nl_2, nl_3, nl_4, nl_5, nl_6, nl_7, nl_8, nl_9, nl_10, nl_11, nl_12, nl_13, nl_25, nl_33, nl_35, nl_45, nl_48, nl_49, nl_50, nl_52, nl_53, nl_57, nl_59, nl_60, nl_61, nl_77, nl_94, nl_97, nl_100, nl_101, nl_119, nl_125, nl_126, nl_137, nl_262, nl_387, nl_500, nl_512, nl_637, nl_999, nl_1022, nl_1137, nl_5685, nm_1b, iN_mI, mI_iN, iN_add, iN_mul, iN_sub, iN_div, iN_rem, iN_lt, iN_le, iN_eq, iN_nat, inB_iN, e0, ↓invM_l fc]
      rfl
    · intro n
      simp only [L_X5_digest_44]
      simp (disch := omega) only [↓ite_ap, if_true, if_false, if_pos, if_neg, retM_ap, retZ_ap0, retZ_ap1, gM_np, sM_ap, jM_np, bI_ap, bL_ap, bD_ap, rdM_ap, wrM_ap, thrM_ap, nl_0, nl_1, nl_2, nl_3, nl_4, nl_5, nl_6, nl_7, nl_8, nl_9, nl_10, nl_11, nl_12, nl_13, nl_25, nl_33, nl_35, nl_45, nl_48, nl_49, nl_50, nl_52, nl_53, nl_57, nl_59, nl_60, nl_61, nl_77, nl_94, nl_97, nl_100, nl_101, nl_119, nl_125, nl_126, nl_137, nl_262, nl_387, nl_500, nl_512, nl_637, nl_999, nl_1022, nl_1137, nl_5685, nm_1b, iN_mI, mI_iN, iN_add, iN_mul, iN_sub, iN_div, iN_rem, iN_lt, iN_le, iN_eq, iN_nat, inB_iN, e0]
  have f70 : ∀ (h : Int64) (K : Int64 → Dm Int64), L_X5_digest_70 FU h (iN 0) K σ = K (foI (fun r => iN (pgS s (szL s 0 1) (nv (s 1)) (r + 1)).1) h (roS s 0)) σ := fun h K => by
    refine lp (fun n k (x : Int64) => L_X5_digest_70 n x (iN k) K σ) (fun k => foI (fun r => iN (pgS s (szL s 0 1) (nv (s 1)) (r + 1)).1) h k) (i0 := 0) (N := roS s 0) (by omega) (by unfold FU; omega) ?_ ?_
    · intro n k h1 h2
      have fc := f_page hc h2
      have f1 := f_linesOf (b := 2) (t := 0) (w := 1) (σ := σ) (by omega) (by omega)
      rw [show 2 * 0 + 1 = 1 from rfl, show 2 + 2 = 4 from rfl, ln1'] at f1
      simp only [L_X5_digest_70]
      rw [fo_s]
      simp (disch := omega) only [↓ite_ap, if_true, if_false, if_pos, if_neg, retM_ap, retZ_ap0, retZ_ap1, gM_np, sM_ap, jM_np, bI_ap, bL_ap, bD_ap, rdM_ap, wrM_ap, thrM_ap, nl_0, nl_1, nl_2, nl_3, nl_4, nl_5, nl_6, nl_7, nl_8, nl_9, nl_10, nl_11, nl_12, nl_13, nl_25, nl_33, nl_35, nl_45, nl_48, nl_49, nl_50, nl_52, nl_53, nl_57, nl_59, nl_60, nl_61, nl_77, nl_94, nl_97, nl_100, nl_101, nl_119, nl_125, nl_126, nl_137, nl_262, nl_387, nl_500, nl_512, nl_637, nl_999, nl_1022, nl_1137, nl_5685, nm_1b, iN_mI, mI_iN, iN_add, iN_mul, iN_sub, iN_div, iN_rem, iN_lt, iN_le, iN_eq, iN_nat, inB_iN, ↓invM_l f1, ↓invM_l fc, ↓b_mix]
    · intro n
      have f1 := f_linesOf (b := 2) (t := 0) (w := 1) (σ := σ) (by omega) (by omega)
      rw [show 2 * 0 + 1 = 1 from rfl, show 2 + 2 = 4 from rfl, ln1'] at f1
      simp only [L_X5_digest_70]
      simp (disch := omega) only [↓ite_ap, if_true, if_false, if_pos, if_neg, retM_ap, retZ_ap0, retZ_ap1, gM_np, sM_ap, jM_np, bI_ap, bL_ap, bD_ap, rdM_ap, wrM_ap, thrM_ap, nl_0, nl_1, nl_2, nl_3, nl_4, nl_5, nl_6, nl_7, nl_8, nl_9, nl_10, nl_11, nl_12, nl_13, nl_25, nl_33, nl_35, nl_45, nl_48, nl_49, nl_50, nl_52, nl_53, nl_57, nl_59, nl_60, nl_61, nl_77, nl_94, nl_97, nl_100, nl_101, nl_119, nl_125, nl_126, nl_137, nl_262, nl_387, nl_500, nl_512, nl_637, nl_999, nl_1022, nl_1137, nl_5685, nm_1b, iN_mI, mI_iN, iN_add, iN_mul, iN_sub, iN_div, iN_rem, iN_lt, iN_le, iN_eq, iN_nat, inB_iN, ↓invM_l f1]
  have ho : isOf s 0 := ⟨(show 0 < tbS s by omega), (show 0 < roS s 0 by omega), (show 0 < coS s 0 by have := w0.2.2.2.2.1; omega)⟩
  have h77 : -999 ≤ (iN 77).toInt ∧ (iN 77).toInt ≤ 999 := by
    rw [iN_int (by omega)]
    omega
  obtain ⟨σ1, x19, g1, g2, g3⟩ : ∃ (σ1 : Mm) (x19 : Nat), F_X5_tryNumber (iN 0) (iN 77) σ = some (.inl (iN x19), σ1) ∧ (∀ k, ¬ (37 ≤ k ∧ k ≤ 72) → σ1 k = σ k) ∧ ∀ (h : Int64) (K : Int64 → Dm Int64), L_X5_digest_111 (iN x19) FU h (iN 0) K σ1 = K (foI (fun k => bpS s 0 (iN 77) k) h 3) σ1 := by
    cases hb : tryB s 0
    · have f1 := f_tryNot (num := iN 77) hc ho hb
      refine ⟨σ, 0, f1, fun _ _ => rfl, fun h K => ?_⟩
      refine lp (fun n k (x : Int64) => L_X5_digest_111 (iN 0) n x (iN k) K σ) (fun k => foI (fun k => bpS s 0 (iN 77) k) h k) (i0 := 0) (N := 3) (by omega) (by unfold FU; omega) ?_ ?_
      · intro n k h1 h2
        have eb : bpS s 0 (iN 77) k = mI := by unfold bpS; rw [hb]; rfl
        have em : mI.toInt64 = (-1 : Int64) := by decide
        simp only [L_X5_digest_111]
        rw [fo_s, eb, em]
        simp (disch := omega) only [↓ite_ap, if_true, if_false, if_pos, if_neg, retM_ap, retZ_ap0, retZ_ap1, gM_np, sM_ap, jM_np, bI_ap, bL_ap, bD_ap, rdM_ap, wrM_ap, thrM_ap, nl_0, nl_1, nl_2, nl_3, nl_4, nl_5, nl_6, nl_7, nl_8, nl_9, nl_10, nl_11, nl_12, nl_13, nl_25, nl_33, nl_35, nl_45, nl_48, nl_49, nl_50, nl_52, nl_53, nl_57, nl_59, nl_60, nl_61, nl_77, nl_94, nl_97, nl_100, nl_101, nl_119, nl_125, nl_126, nl_137, nl_262, nl_387, nl_500, nl_512, nl_637, nl_999, nl_1022, nl_1137, nl_5685, nm_1b, iN_mI, mI_iN, iN_add, iN_mul, iN_sub, iN_div, iN_rem, iN_lt, iN_le, iN_eq, iN_nat, inB_iN, ↓b_mix]
      · intro n
        simp only [L_X5_digest_111]
        simp (disch := omega) only [↓ite_ap, if_true, if_false, if_pos, if_neg, retM_ap, retZ_ap0, retZ_ap1, gM_np, sM_ap, jM_np, bI_ap, bL_ap, bD_ap, rdM_ap, wrM_ap, thrM_ap, nl_0, nl_1, nl_2, nl_3, nl_4, nl_5, nl_6, nl_7, nl_8, nl_9, nl_10, nl_11, nl_12, nl_13, nl_25, nl_33, nl_35, nl_45, nl_48, nl_49, nl_50, nl_52, nl_53, nl_57, nl_59, nl_60, nl_61, nl_77, nl_94, nl_97, nl_100, nl_101, nl_119, nl_125, nl_126, nl_137, nl_262, nl_387, nl_500, nl_512, nl_637, nl_999, nl_1022, nl_1137, nl_5685, nm_1b, iN_mI, mI_iN, iN_add, iN_mul, iN_sub, iN_div, iN_rem, iN_lt, iN_le, iN_eq, iN_nat, inB_iN]
    · obtain ⟨m, d1, d2, d3⟩ := f_tryNumber (num := iN 77) hc ho hb h77
      have hcm : CO s m := hc.fr (fun k hk => d3 k (by omega))
      refine ⟨m, 1, d1, d3, fun h K => ?_⟩
      refine lp (fun n k (x : Int64) => L_X5_digest_111 (iN 1) n x (iN k) K m) (fun k => foI (fun k => bpS s 0 (iN 77) k) h k) (i0 := 0) (N := 3) (by omega) (by unfold FU; omega) ?_ ?_
      · intro n k h1 h2
        have f2 := f_trialAnswer (num := iN 77) hcm ho hb d2 h2
        have eb : bpS s 0 (iN 77) k = anS s 0 (iN 77) k := by unfold bpS; rw [hb]; rfl
        simp only [L_X5_digest_111]
        rw [fo_s, eb]
        simp (disch := omega) only [↓ite_ap, if_true, if_false, if_pos, if_neg, retM_ap, retZ_ap0, retZ_ap1, gM_np, sM_ap, jM_np, bI_ap, bL_ap, bD_ap, rdM_ap, wrM_ap, thrM_ap, nl_0, nl_1, nl_2, nl_3, nl_4, nl_5, nl_6, nl_7, nl_8, nl_9, nl_10, nl_11, nl_12, nl_13, nl_25, nl_33, nl_35, nl_45, nl_48, nl_49, nl_50, nl_52, nl_53, nl_57, nl_59, nl_60, nl_61, nl_77, nl_94, nl_97, nl_100, nl_101, nl_119, nl_125, nl_126, nl_137, nl_262, nl_387, nl_500, nl_512, nl_637, nl_999, nl_1022, nl_1137, nl_5685, nm_1b, iN_mI, mI_iN, iN_add, iN_mul, iN_sub, iN_div, iN_rem, iN_lt, iN_le, iN_eq, iN_nat, inB_iN, ↓invM_l f2, ↓b_mix]
      · intro n
        simp only [L_X5_digest_111]
        simp (disch := omega) only [↓ite_ap, if_true, if_false, if_pos, if_neg, retM_ap, retZ_ap0, retZ_ap1, gM_np, sM_ap, jM_np, bI_ap, bL_ap, bD_ap, rdM_ap, wrM_ap, thrM_ap, nl_0, nl_1, nl_2, nl_3, nl_4, nl_5, nl_6, nl_7, nl_8, nl_9, nl_10, nl_11, nl_12, nl_13, nl_25, nl_33, nl_35, nl_45, nl_48, nl_49, nl_50, nl_52, nl_53, nl_57, nl_59, nl_60, nl_61, nl_77, nl_94, nl_97, nl_100, nl_101, nl_119, nl_125, nl_126, nl_137, nl_262, nl_387, nl_500, nl_512, nl_637, nl_999, nl_1022, nl_1137, nl_5685, nm_1b, iN_mI, mI_iN, iN_add, iN_mul, iN_sub, iN_div, iN_rem, iN_lt, iN_le, iN_eq, iN_nat, inB_iN]
  have hc1 : CO s σ1 := hc.fr (fun k hk => g2 k (by omega))
  have fh : ∀ p, 1 ≤ p → p ≤ 5 → F_X5_heightFor (iN p) σ1 = some (.inl (hfL (fun x => decide (pgN s x ≤ p)) 60 1), σ1) := fun p p1 p5 => by
    have fb := f_requireBetween (p := iN p) (lo := iN 1) (hi := iN 5) (σ := σ1)
    rw [btw_iN (by omega) (by omega) (by omega), if_pos (decide_eq_true ⟨p1, p5⟩)] at fb
    unfold F_X5_heightFor
    refine (invM_l fb).trans ?_
    exact f_heightFor_l hc1 (by omega) 60 FU 1 (by omega) (by unfold FU; omega)
  have fsh := f_filledShare hw hc1.2.1
  have hb := cells_b hw
  have fbt : F_X5_bitsOf (shr s) σ1 = some (.inl (shr s).toInt64, σ1) := f_bitsOf hb.1 hb.2.1 (Nat.sub_le _ _)
  have e1' : σ1 165 1 = iN L := by rw [g2 165 (by omega)]; exact e1
  have f196 : ∀ h : Int64, L_X5_digest_196 FU h (iN 0) σ1 = some (.inl (foI (σ 167) h L), σ1) := fun h => by
    refine lp (fun n k (x : Int64) => L_X5_digest_196 n x (iN k) σ1) (fun k => foI (σ 167) h k) (i0 := 0) (N := L) (by omega) (by unfold FU; omega) ?_ ?_
    · intro n k h1 h2
      have fa : σ1 167 k = σ 167 k := by rw [g2 167 (by omega)]
      simp only [L_X5_digest_196]
      rw [fo_s]
      simp (disch := omega) only [↓ite_ap, if_true, if_false, if_pos, if_neg, retM_ap, retZ_ap0, retZ_ap1, gM_np, sM_ap, jM_np, bI_ap, bL_ap, bD_ap, rdM_ap, wrM_ap, thrM_ap, nl_0, nl_1, nl_2, nl_3, nl_4, nl_5, nl_6, nl_7, nl_8, nl_9, nl_10, nl_11, nl_12, nl_13, nl_25, nl_33, nl_35, nl_45, nl_48, nl_49, nl_50, nl_52, nl_53, nl_57, nl_59, nl_60, nl_61, nl_77, nl_94, nl_97, nl_100, nl_101, nl_119, nl_125, nl_126, nl_137, nl_262, nl_387, nl_500, nl_512, nl_637, nl_999, nl_1022, nl_1137, nl_5685, nm_1b, iN_mI, mI_iN, iN_add, iN_mul, iN_sub, iN_div, iN_rem, iN_lt, iN_le, iN_eq, iN_nat, inB_iN, ↓b_at, ↓b_store, ↓b_place1, ↓b_place0, ↓b_tableOf, ↓b_sqEnd, ↓b_isCell, Nat.reduceAdd, e1', fa, ↓b_mix]
    · intro n
      simp only [L_X5_digest_196]
      simp (disch := omega) only [↓ite_ap, if_true, if_false, if_pos, if_neg, retM_ap, retZ_ap0, retZ_ap1, gM_np, sM_ap, jM_np, bI_ap, bL_ap, bD_ap, rdM_ap, wrM_ap, thrM_ap, nl_0, nl_1, nl_2, nl_3, nl_4, nl_5, nl_6, nl_7, nl_8, nl_9, nl_10, nl_11, nl_12, nl_13, nl_25, nl_33, nl_35, nl_45, nl_48, nl_49, nl_50, nl_52, nl_53, nl_57, nl_59, nl_60, nl_61, nl_77, nl_94, nl_97, nl_100, nl_101, nl_119, nl_125, nl_126, nl_137, nl_262, nl_387, nl_500, nl_512, nl_637, nl_999, nl_1022, nl_1137, nl_5685, nm_1b, iN_mI, mI_iN, iN_add, iN_mul, iN_sub, iN_div, iN_rem, iN_lt, iN_le, iN_eq, iN_nat, inB_iN, e1']
  have es1 : σ 2 0 = s 1 := hr.2.1
  refine ⟨σ1, ?_, g2⟩
  unfold F_X5_digest digS
  rw [nl_0, nl_1, nl_2, nl_77, f_dig6 hc, gM_ap, es1, b_mix, f44, f70, invM_l g1, g3, invM_l (fh 1 (by omega) (by omega)), b_mix, invM_l (fh 2 (by omega) (by omega)), b_mix, invM_l fsh, invM_l fbt, b_mix, gM_ap, e1', b_mix, f196]
