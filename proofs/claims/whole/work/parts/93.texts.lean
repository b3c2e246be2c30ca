/-! TEXTS: THE CLASS'S AUTOMATON -/
def rgA (c lo hi e : Nat) : Option Nat := if lo ≤ c ∧ c ≤ hi then some e else none
def fdA (c : Nat) : Option Nat := if c = 48 then some 10 else rgA c 49 57 7
def ctA (c : Nat) : Option Nat := if c = 33 then some 10 else if c = 35 then some 10 else if c = 60 then some 10 else if c = 61 then some 4 else if c = 94 then some 10 else if c = 119 then some 6 else none
def exB (e c : Nat) : Option Nat := if e = 0 then rgA c 48 52 1 else if e = 1 then rgA c 97 101 2 else if e = 2 then rgA c 49 53 3 else if e = 3 then ctA c else if e = 4 then (if c = 45 then some 5 else fdA c) else if e = 5 then fdA c else if e = 6 then (if c = 49 then some 9 else rgA c 50 57 10) else if e = 7 then rgA c 48 57 8 else if e = 8 then rgA c 48 57 10 else if e = 9 then rgA c 48 50 10 else none
def exA (e c : Nat) : Option Nat := if 7 ≤ e ∧ c = 59 then some 0 else exB e c
def oI : Option Nat → Int32
  | some e => iN e
  | none => mI
theorem rgA_le {c lo hi e e' : Nat} (h : rgA c lo hi e = some e') : e' = e := by
  unfold rgA at h
  by_cases g : lo ≤ c ∧ c ≤ hi
  · rw [if_pos g] at h
    injection h with h
    exact h.symm
  · rw [if_neg g] at h
    cases h
theorem fdA_le {c e' : Nat} (h : fdA c = some e') : e' ≤ 10 := by
  unfold fdA at h
  by_cases g : c = 48
  · rw [if_pos g] at h
    injection h with h
    omega
  · rw [if_neg g] at h
    have := rgA_le h
    omega
theorem ctA_le {c e' : Nat} (h : ctA c = some e') : e' ≤ 10 := by
  unfold ctA at h
  by_cases g1 : c = 33
  · rw [if_pos g1] at h; injection h with h; omega
  · rw [if_neg g1] at h
    by_cases g2 : c = 35
    · rw [if_pos g2] at h; injection h with h; omega
    · rw [if_neg g2] at h
      by_cases g3 : c = 60
      · rw [if_pos g3] at h; injection h with h; omega
      · rw [if_neg g3] at h
        by_cases g4 : c = 61
        · rw [if_pos g4] at h; injection h with h; omega
        · rw [if_neg g4] at h
          by_cases g5 : c = 94
          · rw [if_pos g5] at h; injection h with h; omega
          · rw [if_neg g5] at h
            by_cases g6 : c = 119
            · rw [if_pos g6] at h; injection h with h; omega
            · rw [if_neg g6] at h; cases h
theorem exA_le {e c e' : Nat} (h : exA e c = some e') : e' ≤ 10 := by
  unfold exA at h
  by_cases g : 7 ≤ e ∧ c = 59
  · rw [if_pos g] at h
    injection h with h
    omega
  · rw [if_neg g] at h
    unfold exB at h
    by_cases h0 : e = 0
    · rw [if_pos h0] at h; have := rgA_le h; omega
    · rw [if_neg h0] at h
      by_cases h1 : e = 1
      · rw [if_pos h1] at h; have := rgA_le h; omega
      · rw [if_neg h1] at h
        by_cases h2 : e = 2
        · rw [if_pos h2] at h; have := rgA_le h; omega
        · rw [if_neg h2] at h
          by_cases h3 : e = 3
          · rw [if_pos h3] at h; exact ctA_le h
          · rw [if_neg h3] at h
            by_cases h4 : e = 4
            · rw [if_pos h4] at h
              by_cases g4 : c = 45
              · rw [if_pos g4] at h; injection h with h; omega
              · rw [if_neg g4] at h; exact fdA_le h
            · rw [if_neg h4] at h
              by_cases h5 : e = 5
              · rw [if_pos h5] at h; exact fdA_le h
              · rw [if_neg h5] at h
                by_cases h6 : e = 6
                · rw [if_pos h6] at h
                  by_cases g6 : c = 49
                  · rw [if_pos g6] at h; injection h with h; omega
                  · rw [if_neg g6] at h; have := rgA_le h; omega
                · rw [if_neg h6] at h
                  by_cases h7 : e = 7
                  · rw [if_pos h7] at h; have := rgA_le h; omega
                  · rw [if_neg h7] at h
                    by_cases h8 : e = 8
                    · rw [if_pos h8] at h; have := rgA_le h; omega
                    · rw [if_neg h8] at h
                      by_cases h9 : e = 9
                      · rw [if_pos h9] at h; have := rgA_le h; omega
                      · rw [if_neg h9] at h; cases h
/-- a range, as the class asks for it -/
theorem f_rg {c lo hi e : Nat} {K : Int32 → Dm Int32} {σ : Mm} (hc : c < 1000) (hl : lo < 1000) (hh : hi < 1000) (hK0 : K (iN 0) σ = some (.inl mI, σ)) (hK1 : K (iN 1) σ = some (.inl (iN e), σ)) : invM (F_X5_isBetween (iN c) (iN lo) (iN hi)) K σ = some (.inl (oI (rgA c lo hi e)), σ) := by
  rw [b_isBetween (by omega) (by omega) (by omega)]
  unfold rgA
  by_cases g : lo ≤ c ∧ c ≤ hi
  · rw [if_pos g, if_pos g]
    exact hK1
  · rw [if_neg g, if_neg g]
    exact hK0
theorem f_fd {c : Nat} {σ : Mm} (hc : c < 1000) : F_X3_afterFirstDigit (iN c) σ = some (.inl (oI (fdA c)), σ) := by
  unfold F_X3_afterFirstDigit fdA
  by_cases g : c = 48
  · rw [if_pos g]
    simp (disch := omega) only [↓ite_ap, if_true, if_false, if_pos, if_neg, retM_ap, retZ_ap0, retZ_ap1, gM_np, sM_ap, jM_np, bI_ap, bL_ap, bD_ap, rdM_ap, wrM_ap, thrM_ap, nl_48, nl_10, iN_eq]
    rfl
  · rw [if_neg g]
    simp (disch := omega) only [↓ite_ap, if_true, if_false, if_pos, if_neg, retM_ap, retZ_ap0, retZ_ap1, gM_np, sM_ap, jM_np, bI_ap, bL_ap, bD_ap, rdM_ap, wrM_ap, thrM_ap, nl_48, nl_49, nl_57, iN_eq]
    exact f_rg hc (by omega) (by omega) rfl rfl
theorem f_ct {c : Nat} {σ : Mm} (hc : c < 1000) : F_X3_afterContent (iN c) σ = some (.inl (oI (ctA c)), σ) := by
  unfold F_X3_afterContent ctA
  rw [nl_33, nl_35, nl_60, nl_61, nl_94, nl_119]
  by_cases g1 : c = 33
  · rw [if_pos g1, if_pos (by rw [g1])]; rfl
  · rw [if_neg g1, if_neg (by rw [iN_eq (by omega) (by omega)]; exact g1)]
    by_cases g2 : c = 35
    · rw [if_pos g2, if_pos (by rw [g2])]; rfl
    · rw [if_neg g2, if_neg (by rw [iN_eq (by omega) (by omega)]; exact g2)]
      by_cases g3 : c = 60
      · rw [if_pos g3, if_pos (by rw [g3])]; rfl
      · rw [if_neg g3, if_neg (by rw [iN_eq (by omega) (by omega)]; exact g3)]
        by_cases g4 : c = 61
        · rw [if_pos g4, if_pos (by rw [g4])]; rfl
        · rw [if_neg g4, if_neg (by rw [iN_eq (by omega) (by omega)]; exact g4)]
          by_cases g5 : c = 94
          · rw [if_pos g5, if_pos (by rw [g5])]; rfl
          · rw [if_neg g5, if_neg (by rw [iN_eq (by omega) (by omega)]; exact g5)]
            by_cases g6 : c = 119
            · rw [if_pos g6, if_pos (by rw [g6])]; rfl
            · rw [if_neg g6, if_neg (by rw [iN_eq (by omega) (by omega)]; exact g6)]; rfl
theorem f_expected {e c : Nat} {σ : Mm} (he : e ≤ 10) (hc : c < 1000) : F_X3_expectedAfter (iN e) (iN c) σ = some (.inl (oI (exA e c)), σ) := by
  unfold F_X3_expectedAfter
  rw [jM_np]
  have body : ∀ (B : Dm Int32), B σ = some (.inl (oI (exB e c)), σ) → (if iN e < (7 : Int32) then B else (if iN c = (59 : Int32) then retM (0 : Int32) else B)) σ = some (.inl (oI (exA e c)), σ) := by
    intro B hB
    unfold exA
    rw [nl_7, nl_59]
    by_cases h7 : e < 7
    · rw [if_pos (by rw [iN_lt (by omega) (by omega)]; exact h7), if_neg (show ¬ (7 ≤ e ∧ c = 59) by omega)]
      exact hB
    · rw [if_neg (by rw [iN_lt (by omega) (by omega)]; exact h7)]
      by_cases h9 : c = 59
      · rw [if_pos (by rw [h9]), if_pos (show 7 ≤ e ∧ c = 59 by omega)]
        rfl
      · rw [if_neg (by rw [iN_eq (by omega) (by omega)]; exact h9), if_neg (show ¬ (7 ≤ e ∧ c = 59) by omega)]
        exact hB
  refine body _ ?_
  unfold exB
  have n : ∀ k, k ≤ 10 → ¬ e = k → ¬ iN e = iN k := fun k hk g => by rw [iN_eq (by omega) (by omega)]; exact g
  rw [nl_0, nl_1, nl_2, nl_3, nl_4, nl_5, nl_6, nl_7, nl_8, nl_9]
  by_cases h0 : e = 0
  · rw [if_pos h0, if_pos (by rw [h0]), nl_48, nl_52]
    exact f_rg hc (by omega) (by omega) rfl rfl
  · rw [if_neg h0, if_neg (n 0 (by omega) h0)]
    by_cases h1 : e = 1
    · rw [if_pos h1, if_pos (by rw [h1]), nl_97, nl_101]
      exact f_rg hc (by omega) (by omega) rfl rfl
    · rw [if_neg h1, if_neg (n 1 (by omega) h1)]
      by_cases h2 : e = 2
      · rw [if_pos h2, if_pos (by rw [h2]), nl_49, nl_53]
        exact f_rg hc (by omega) (by omega) rfl rfl
      · rw [if_neg h2, if_neg (n 2 (by omega) h2)]
        by_cases h3 : e = 3
        · rw [if_pos h3, if_pos (by rw [h3])]
          exact invM_l (f_ct hc)
        · rw [if_neg h3, if_neg (n 3 (by omega) h3)]
          by_cases h4 : e = 4
          · rw [if_pos h4, if_pos (by rw [h4]), nl_45]
            by_cases g4 : c = 45
            · rw [if_pos g4, if_pos (by rw [g4])]
              rfl
            · rw [if_neg g4, if_neg (by rw [iN_eq (by omega) (by omega)]; exact g4)]
              exact invM_l (f_fd hc)
          · rw [if_neg h4, if_neg (n 4 (by omega) h4)]
            by_cases h5 : e = 5
            · rw [if_pos h5, if_pos (by rw [h5])]
              exact invM_l (f_fd hc)
            · rw [if_neg h5, if_neg (n 5 (by omega) h5)]
              by_cases h6 : e = 6
              · rw [if_pos h6, if_pos (by rw [h6]), nl_49]
                by_cases g6 : c = 49
                · rw [if_pos g6, if_pos (by rw [g6])]
                  rfl
                · rw [if_neg g6, if_neg (by rw [iN_eq (by omega) (by omega)]; exact g6), nl_50, nl_57]
                  exact f_rg hc (by omega) (by omega) rfl rfl
              · rw [if_neg h6, if_neg (n 6 (by omega) h6)]
                by_cases h7 : e = 7
                · rw [if_pos h7, if_pos (by rw [h7]), nl_48, nl_57]
                  exact f_rg hc (by omega) (by omega) rfl rfl
                · rw [if_neg h7, if_neg (n 7 (by omega) h7)]
                  by_cases h8 : e = 8
                  · rw [if_pos h8, if_pos (by rw [h8]), nl_48, nl_57]
                    exact f_rg hc (by omega) (by omega) rfl rfl
                  · rw [if_neg h8, if_neg (n 8 (by omega) h8)]
                    by_cases h9 : e = 9
                    · rw [if_pos h9, if_pos (by rw [h9]), nl_48, nl_50]
                      exact f_rg hc (by omega) (by omega) rfl rfl
                    · rw [if_neg h9, if_neg (n 9 (by omega) h9)]
                      rfl
/-- where the text goes wrong; the state behind it -/
def fltA (C : Nat → Nat) : Nat → Nat → Nat → Nat
  | 0, _, p => p
  | d + 1, e, p => match exA e (C p) with
    | none => p
    | some e' => fltA C d e' (p + 1)
def stA (C : Nat → Nat) : Nat → Nat → Nat → Option Nat
  | 0, e, _ => some e
  | d + 1, e, p => match exA e (C p) with
    | none => none
    | some e' => stA C d e' (p + 1)
theorem flt_none {C : Nat → Nat} {d e p : Nat} (h : exA e (C p) = none) : fltA C (d + 1) e p = p ∧ stA C (d + 1) e p = none := by
  unfold fltA stA
  rw [h]
  exact ⟨rfl, rfl⟩
theorem flt_some {C : Nat → Nat} {d e e' p : Nat} (h : exA e (C p) = some e') : fltA C (d + 1) e p = fltA C d e' (p + 1) ∧ stA C (d + 1) e p = stA C d e' (p + 1) := by
  constructor
  · rw [fltA, h]
  · rw [stA, h]
theorem st_flt {C : Nat → Nat} : ∀ {d e p e' : Nat}, stA C d e p = some e' → fltA C d e p = p + d
  | 0, e, p, e', _ => rfl
  | d + 1, e, p, e', h => by
    cases g : exA e (C p) with
    | none => rw [(flt_none g).2] at h; cases h
    | some e1 =>
      rw [(flt_some g).2] at h
      rw [(flt_some g).1, st_flt h]
      omega
theorem flt_le {C : Nat → Nat} : ∀ {d e p : Nat}, fltA C d e p ≤ p + d
  | 0, e, p => Nat.le_refl _
  | d + 1, e, p => by
    cases g : exA e (C p) with
    | none => rw [(flt_none g).1]; omega
    | some e1 =>
      rw [(flt_some g).1]
      have := flt_le (C := C) (d := d) (e := e1) (p := p + 1)
      omega
theorem f_fault_l {C : Nat → Nat} {L : Nat} {σ : Mm} (hL : L ≤ 60) (e1 : σ 165 1 = iN L) (hC : ∀ j, j < L → σ 167 j = iN (C j) ∧ C j < 1000) : ∀ d e p n, p + d = L → d < n → e ≤ 10 → L_X3_firstFault_4 n (iN e) (iN p) σ = some (.inl (iN (fltA C d e p)), σ)
  | 0, e, p, n, h1, h2, h3 => by
    obtain ⟨n, rfl⟩ : ∃ x, n = x + 1 := ⟨n - 1, by omega⟩
    obtain rfl : p = L := by omega
    simp only [L_X3_firstFault_4]
    simp (disch := omega) only [↓ite_ap, if_true, if_false, if_pos, if_neg, retM_ap, retZ_ap0, retZ_ap1, gM_np, sM_ap, jM_np, bI_ap, bL_ap, bD_ap, rdM_ap, wrM_ap, thrM_ap, nl_0, nl_1, nl_2, nl_3, nl_4, nl_5, nl_6, nl_7, nl_8, nl_9, nl_10, nl_11, nl_12, nl_13, nl_25, nl_33, nl_35, nl_45, nl_48, nl_49, nl_50, nl_52, nl_53, nl_57, nl_59, nl_60, nl_61, nl_77, nl_94, nl_97, nl_100, nl_101, nl_119, nl_125, nl_126, nl_137, nl_262, nl_387, nl_500, nl_512, nl_637, nl_999, nl_1022, nl_1137, nl_5685, nm_1b, iN_mI, mI_iN, iN_add, iN_mul, iN_sub, iN_div, iN_rem, iN_lt, iN_le, iN_eq, iN_nat, inB_iN, e1]
    rfl
  | d + 1, e, p, n, h1, h2, h3 => by
    obtain ⟨n, rfl⟩ : ∃ x, n = x + 1 := ⟨n - 1, by omega⟩
    have hc := hC p (by omega)
    have fe := f_expected (c := C p) (σ := σ) h3 hc.2
    simp only [L_X3_firstFault_4]
    cases g : exA e (C p) with
    | none =>
      rw [g] at fe
      have fe : F_X3_expectedAfter (iN e) (iN (C p)) σ = some (.inl mI, σ) := fe
      rw [(flt_none g).1]
      simp (disch := omega) only [↓ite_ap, if_true, if_false, if_pos, if_neg, retM_ap, retZ_ap0, retZ_ap1, gM_np, sM_ap, jM_np, bI_ap, bL_ap, bD_ap, rdM_ap, wrM_ap, thrM_ap, nl_0, nl_1, nl_2, nl_3, nl_4, nl_5, nl_6, nl_7, nl_8, nl_9, nl_10, nl_11, nl_12, nl_13, nl_25, nl_33, nl_35, nl_45, nl_48, nl_49, nl_50, nl_52, nl_53, nl_57, nl_59, nl_60, nl_61, nl_77, nl_94, nl_97, nl_100, nl_101, nl_119, nl_125, nl_126, nl_137, nl_262, nl_387, nl_500, nl_512, nl_637, nl_999, nl_1022, nl_1137, nl_5685, nm_1b, iN_mI, mI_iN, iN_add, iN_mul, iN_sub, iN_div, iN_rem, iN_lt, iN_le, iN_eq, iN_nat, inB_iN, ↓b_at, ↓b_store, ↓b_place1, ↓b_place0, ↓b_tableOf, ↓b_sqEnd, ↓b_isCell, Nat.reduceAdd, e1, hc.1, ↓invM_l fe]
    | some e' =>
      have le := exA_le g
      rw [g] at fe
      have fe : F_X3_expectedAfter (iN e) (iN (C p)) σ = some (.inl (iN e'), σ) := fe
      have ih := f_fault_l hL e1 hC d e' (p + 1) n (by omega) (by omega) le
      rw [(flt_some g).1]
      simp (disch := omega) only [↓ite_ap, if_true, if_false, if_pos, if_neg, retM_ap, retZ_ap0, retZ_ap1, gM_np, sM_ap, jM_np, bI_ap, bL_ap, bD_ap, rdM_ap, wrM_ap, thrM_ap, nl_0, nl_1, nl_2, nl_3, nl_4, nl_5, nl_6, nl_7, nl_8, nl_9, nl_10, nl_11, nl_12, nl_13, nl_25, nl_33, nl_35, nl_45, nl_48, nl_49, nl_50, nl_52, nl_53, nl_57, nl_59, nl_60, nl_61, nl_77, nl_94, nl_97, nl_100, nl_101, nl_119, nl_125, nl_126, nl_137, nl_262, nl_387, nl_500, nl_512, nl_637, nl_999, nl_1022, nl_1137, nl_5685, nm_1b, iN_mI, mI_iN, iN_add, iN_mul, iN_sub, iN_div, iN_rem, iN_lt, iN_le, iN_eq, iN_nat, inB_iN, ↓b_at, ↓b_store, ↓b_place1, ↓b_place0, ↓b_tableOf, ↓b_sqEnd, ↓b_isCell, Nat.reduceAdd, e1, hc.1, ↓invM_l fe, ih]
theorem f_orders_l {C : Nat → Nat} {L : Nat} {σ : Mm} {K : Int32 → Dm Int32} (hL : L ≤ 60) (e1 : σ 165 1 = iN L) (hC : ∀ j, j < L → σ 167 j = iN (C j) ∧ C j < 1000) : ∀ d e p n, p + d = L → d + 1 < n → e ≤ 10 → L_X3_isOrders_4 n (iN e) (iN p) K σ = K (oI (stA C d e p)) σ
  | 0, e, p, n, h1, h2, h3 => by
    obtain ⟨n, rfl⟩ : ∃ x, n = x + 1 := ⟨n - 1, by omega⟩
    obtain rfl : p = L := by omega
    simp only [L_X3_isOrders_4]
    simp (disch := omega) only [↓ite_ap, if_true, if_false, if_pos, if_neg, retM_ap, retZ_ap0, retZ_ap1, gM_np, sM_ap, jM_np, bI_ap, bL_ap, bD_ap, rdM_ap, wrM_ap, thrM_ap, nl_0, nl_1, nl_2, nl_3, nl_4, nl_5, nl_6, nl_7, nl_8, nl_9, nl_10, nl_11, nl_12, nl_13, nl_25, nl_33, nl_35, nl_45, nl_48, nl_49, nl_50, nl_52, nl_53, nl_57, nl_59, nl_60, nl_61, nl_77, nl_94, nl_97, nl_100, nl_101, nl_119, nl_125, nl_126, nl_137, nl_262, nl_387, nl_500, nl_512, nl_637, nl_999, nl_1022, nl_1137, nl_5685, nm_1b, iN_mI, mI_iN, iN_add, iN_mul, iN_sub, iN_div, iN_rem, iN_lt, iN_le, iN_eq, iN_nat, inB_iN, e1]
    rfl
  | d + 1, e, p, n, h1, h2, h3 => by
    obtain ⟨n, rfl⟩ : ∃ x, n = x + 1 := ⟨n - 1, by omega⟩
    have hc := hC p (by omega)
    have fe := f_expected (c := C p) (σ := σ) h3 hc.2
    simp only [L_X3_isOrders_4]
    cases g : exA e (C p) with
    | none =>
      rw [g] at fe
      have fe : F_X3_expectedAfter (iN e) (iN (C p)) σ = some (.inl mI, σ) := fe
      rw [(flt_none g).2]
      have stop : L_X3_isOrders_4 n mI (iN (p + 1)) K σ = K mI σ := by
        obtain ⟨n, rfl⟩ : ∃ x, n = x + 1 := ⟨n - 1, by omega⟩
        simp only [L_X3_isOrders_4]
        by_cases gl : L ≤ p + 1
        · simp (disch := omega) only [↓ite_ap, if_true, if_false, if_pos, if_neg, retM_ap, retZ_ap0, retZ_ap1, gM_np, sM_ap, jM_np, bI_ap, bL_ap, bD_ap, rdM_ap, wrM_ap, thrM_ap, nl_0, nl_1, nl_2, nl_3, nl_4, nl_5, nl_6, nl_7, nl_8, nl_9, nl_10, nl_11, nl_12, nl_13, nl_25, nl_33, nl_35, nl_45, nl_48, nl_49, nl_50, nl_52, nl_53, nl_57, nl_59, nl_60, nl_61, nl_77, nl_94, nl_97, nl_100, nl_101, nl_119, nl_125, nl_126, nl_137, nl_262, nl_387, nl_500, nl_512, nl_637, nl_999, nl_1022, nl_1137, nl_5685, nm_1b, iN_mI, mI_iN, iN_add, iN_mul, iN_sub, iN_div, iN_rem, iN_lt, iN_le, iN_eq, iN_nat, inB_iN, e1]
        · simp (disch := omega) only [↓ite_ap, if_true, if_false, if_pos, if_neg, retM_ap, retZ_ap0, retZ_ap1, gM_np, sM_ap, jM_np, bI_ap, bL_ap, bD_ap, rdM_ap, wrM_ap, thrM_ap, nl_0, nl_1, nl_2, nl_3, nl_4, nl_5, nl_6, nl_7, nl_8, nl_9, nl_10, nl_11, nl_12, nl_13, nl_25, nl_33, nl_35, nl_45, nl_48, nl_49, nl_50, nl_52, nl_53, nl_57, nl_59, nl_60, nl_61, nl_77, nl_94, nl_97, nl_100, nl_101, nl_119, nl_125, nl_126, nl_137, nl_262, nl_387, nl_500, nl_512, nl_637, nl_999, nl_1022, nl_1137, nl_5685, nm_1b, iN_mI, mI_iN, iN_add, iN_mul, iN_sub, iN_div, iN_rem, iN_lt, iN_le, iN_eq, iN_nat, inB_iN, e1]
      simp (disch := omega) only [↓ite_ap, if_true, if_false, if_pos, if_neg, retM_ap, retZ_ap0, retZ_ap1, gM_np, sM_ap, jM_np, bI_ap, bL_ap, bD_ap, rdM_ap, wrM_ap, thrM_ap, nl_0, nl_1, nl_2, nl_3, nl_4, nl_5, nl_6, nl_7, nl_8, nl_9, nl_10, nl_11, nl_12, nl_13, nl_25, nl_33, nl_35, nl_45, nl_48, nl_49, nl_50, nl_52, nl_53, nl_57, nl_59, nl_60, nl_61, nl_77, nl_94, nl_97, nl_100, nl_101, nl_119, nl_125, nl_126, nl_137, nl_262, nl_387, nl_500, nl_512, nl_637, nl_999, nl_1022, nl_1137, nl_5685, nm_1b, iN_mI, mI_iN, iN_add, iN_mul, iN_sub, iN_div, iN_rem, iN_lt, iN_le, iN_eq, iN_nat, inB_iN, ↓b_at, ↓b_store, ↓b_place1, ↓b_place0, ↓b_tableOf, ↓b_sqEnd, ↓b_isCell, Nat.reduceAdd, e1, hc.1, ↓invM_l fe, stop]
      rfl
    | some e' =>
      have le := exA_le g
      rw [g] at fe
      have fe : F_X3_expectedAfter (iN e) (iN (C p)) σ = some (.inl (iN e'), σ) := fe
      have ih := f_orders_l (K := K) hL e1 hC d e' (p + 1) n (by omega) (by omega) le
      rw [(flt_some g).2]
      simp (disch := omega) only [↓ite_ap, if_true, if_false, if_pos, if_neg, retM_ap, retZ_ap0, retZ_ap1, gM_np, sM_ap, jM_np, bI_ap, bL_ap, bD_ap, rdM_ap, wrM_ap, thrM_ap, nl_0, nl_1, nl_2, nl_3, nl_4, nl_5, nl_6, nl_7, nl_8, nl_9, nl_10, nl_11, nl_12, nl_13, nl_25, nl_33, nl_35, nl_45, nl_48, nl_49, nl_50, nl_52, nl_53, nl_57, nl_59, nl_60, nl_61, nl_77, nl_94, nl_97, nl_100, nl_101, nl_119, nl_125, nl_126, nl_137, nl_262, nl_387, nl_500, nl_512, nl_637, nl_999, nl_1022, nl_1137, nl_5685, nm_1b, iN_mI, mI_iN, iN_add, iN_mul, iN_sub, iN_div, iN_rem, iN_lt, iN_le, iN_eq, iN_nat, inB_iN, ↓b_at, ↓b_store, ↓b_place1, ↓b_place0, ↓b_tableOf, ↓b_sqEnd, ↓b_isCell, Nat.reduceAdd, e1, hc.1, ↓invM_l fe, ih]
