/-! SAVING AND TAKING BACK -/
theorem f_copyN {α : Type} {b o nb : Nat} {σ : Mm} {K : Unit → Dm α} (hn : nb < 1000) : invM (F_X2_copyFrom b nb o nb) K σ = K () (setR σ (b + 1) (va_cpy (σ (o + 1)) (σ (b + 1)) 0 0 nb)) := by
  have h0 : ¬ (iN 0 < iN 0) := by rw [iN_lt (by omega) (by omega)]; omega
  have h1 : ¬ (iN nb < iN 0) := by rw [iN_lt (by omega) (by omega)]; omega
  have hm : iMin (iN nb) (iN nb) = iN nb := by
    unfold iMin
    by_cases h : iN nb < iN nb
    · rw [if_pos h]
    · rw [if_neg h]
  refine invM_l ?_
  unfold F_X2_copyFrom
  rw [show Int32.ofNat nb = iN nb from rfl, hm, nl_0]
  unfold cpM
  rw [if_pos ⟨h0, h0, h1, by rw [iN_nat (by omega), iN_nat (by omega)]; omega, by rw [iN_nat (by omega), iN_nat (by omega)]; omega⟩, iN_nat (show 0 < 2147483648 by omega), iN_nat (show nb < 2147483648 by omega)]
  rfl
theorem setR_o {σ : Mm} {k k' : Nat} {g : Nat → Int32} (h : k' ≠ k) : setR σ k g k' = σ k' := by
  unfold setR
  rw [if_neg h]
theorem setR_at {σ : Mm} {k : Nat} {g : Nat → Int32} : setR σ k g k = g := by
  unfold setR
  rw [if_pos rfl]
theorem setR_cpy {σ : Mm} {k nb j : Nat} {f g : Nat → Int32} (h : j < nb) : setR σ k (va_cpy f g 0 0 nb) k j = f j := by
  rw [setR_at, pk_cpy_in (Nat.zero_le _) (by omega), Nat.zero_add, Nat.sub_zero]
theorem f_copySheet {b o : Nat} {s : Sv} {σ : Mm} (hw : WF s) (hr : Rel o s σ) (hbo : b + 14 < o ∨ o + 14 < b) : ∃ σ1, F_X4_copyFrom b o σ = some (.inl (), σ1) ∧ Rel b s σ1 ∧ ∀ k, ¬ (b ≤ k ∧ k ≤ b + 14) → σ1 k = σ k := by
  have t5 := hw.1.2.2
  obtain ⟨m0, e0⟩ : ∃ m, m = upM (upM σ b 0 (σ o 0)) b 1 (upM σ b 0 (σ o 0) o 1) := ⟨_, rfl⟩
  obtain ⟨m1, e1⟩ : ∃ m, m = setR m0 (b + 1 + 1) (va_cpy (m0 (o + 1 + 1)) (m0 (b + 1 + 1)) 0 0 10) := ⟨_, rfl⟩
  obtain ⟨m2, e2⟩ : ∃ m, m = setR m1 (b + 3 + 1) (va_cpy (m1 (o + 3 + 1)) (m1 (b + 3 + 1)) 0 0 5) := ⟨_, rfl⟩
  obtain ⟨m3, e3⟩ : ∃ m, m = setR m2 (b + 5 + 1) (va_cpy (m2 (o + 5 + 1)) (m2 (b + 5 + 1)) 0 0 125) := ⟨_, rfl⟩
  obtain ⟨m4, e4⟩ : ∃ m, m = setR m3 (b + 7 + 1) (va_cpy (m3 (o + 7 + 1)) (m3 (b + 7 + 1)) 0 0 125) := ⟨_, rfl⟩
  obtain ⟨m5, e5⟩ : ∃ m, m = setR m4 (b + 9 + 1) (va_cpy (m4 (o + 9 + 1)) (m4 (b + 9 + 1)) 0 0 125) := ⟨_, rfl⟩
  obtain ⟨m6, e6⟩ : ∃ m, m = setR m5 (b + 11 + 1) (va_cpy (m5 (o + 11 + 1)) (m5 (b + 11 + 1)) 0 0 250) := ⟨_, rfl⟩
  obtain ⟨m7, e7⟩ : ∃ m, m = setR m6 (b + 13 + 1) (va_cpy (m6 (o + 13 + 1)) (m6 (b + 13 + 1)) 0 0 500) := ⟨_, rfl⟩
  have g1 : m7 b 1 = σ o 1 := by
    rw [e7, setR_o (by omega), e6, setR_o (by omega), e5, setR_o (by omega), e4, setR_o (by omega), e3, setR_o (by omega), e2, setR_o (by omega), e1, setR_o (by omega), e0, upM_at, upM_o (by omega)]
  have g0 : m7 b 0 = σ o 0 := by
    rw [e7, setR_o (by omega), e6, setR_o (by omega), e5, setR_o (by omega), e4, setR_o (by omega), e3, setR_o (by omega), e2, setR_o (by omega), e1, setR_o (by omega), e0, upM_ni (by omega), upM_at]
  have a1 : ∀ j, j < 10 → m7 (b + 2) j = σ (o + 2) j := fun j hj => by
    rw [e7, setR_o (by omega), e6, setR_o (by omega), e5, setR_o (by omega), e4, setR_o (by omega), e3, setR_o (by omega), e2, setR_o (by omega), e1, show b + 2 = b + 1 + 1 by omega, setR_cpy hj, e0, upM_o (by omega), upM_o (by omega)]
  have a2 : ∀ j, j < 5 → m7 (b + 4) j = σ (o + 4) j := fun j hj => by
    rw [e7, setR_o (by omega), e6, setR_o (by omega), e5, setR_o (by omega), e4, setR_o (by omega), e3, setR_o (by omega), e2, show b + 4 = b + 3 + 1 by omega, setR_cpy hj, e1, setR_o (by omega), e0, upM_o (by omega), upM_o (by omega)]
  have a3 : ∀ j, j < 125 → m7 (b + 6) j = σ (o + 6) j := fun j hj => by
    rw [e7, setR_o (by omega), e6, setR_o (by omega), e5, setR_o (by omega), e4, setR_o (by omega), e3, show b + 6 = b + 5 + 1 by omega, setR_cpy hj, e2, setR_o (by omega), e1, setR_o (by omega), e0, upM_o (by omega), upM_o (by omega)]
  have a4 : ∀ j, j < 125 → m7 (b + 8) j = σ (o + 8) j := fun j hj => by
    rw [e7, setR_o (by omega), e6, setR_o (by omega), e5, setR_o (by omega), e4, show b + 8 = b + 7 + 1 by omega, setR_cpy hj, e3, setR_o (by omega), e2, setR_o (by omega), e1, setR_o (by omega), e0, upM_o (by omega), upM_o (by omega)]
  have a5 : ∀ j, j < 125 → m7 (b + 10) j = σ (o + 10) j := fun j hj => by
    rw [e7, setR_o (by omega), e6, setR_o (by omega), e5, show b + 10 = b + 9 + 1 by omega, setR_cpy hj, e4, setR_o (by omega), e3, setR_o (by omega), e2, setR_o (by omega), e1, setR_o (by omega), e0, upM_o (by omega), upM_o (by omega)]
  have a6 : ∀ j, j < 250 → m7 (b + 12) j = σ (o + 12) j := fun j hj => by
    rw [e7, setR_o (by omega), e6, show b + 12 = b + 11 + 1 by omega, setR_cpy hj, e5, setR_o (by omega), e4, setR_o (by omega), e3, setR_o (by omega), e2, setR_o (by omega), e1, setR_o (by omega), e0, upM_o (by omega), upM_o (by omega)]
  have a7 : ∀ j, j < 500 → m7 (b + 14) j = σ (o + 14) j := fun j hj => by
    rw [e7, show b + 14 = b + 13 + 1 by omega, setR_cpy hj, e6, setR_o (by omega), e5, setR_o (by omega), e4, setR_o (by omega), e3, setR_o (by omega), e2, setR_o (by omega), e1, setR_o (by omega), e0, upM_o (by omega), upM_o (by omega)]
  refine ⟨m7, ?_, ⟨?_, ?_, fun t ht => ?_, fun q hq hn => ?_, fun q hq => ?_, fun q hq hn => ?_, ?_, fun q hc h3 => ?_⟩, fun k hk => ?_⟩
  · unfold F_X4_copyFrom
    simp (disch := omega) only [↓ite_ap, if_true, if_false, if_pos, if_neg, retM_ap, retZ_ap0, retZ_ap1, gM_ap, sM_ap, jM_ap, bI_ap, bL_ap, bD_ap, rdM_ap, wrM_ap, thrM_ap, ↓f_copyN, ← e0, ← e1, ← e2, ← e3, ← e4, ← e5, ← e6, ← e7]
  · rw [g1]; exact hr.1
  · rw [g0]; exact hr.2.1
  · rw [a1 _ (by omega), a1 _ (by omega)]; exact hr.2.2.1 t ht
  · rw [a3 _ (by omega)]; exact hr.2.2.2.1 q hq hn
  · have l1 := isOf_lt hw hq
    have r1 := hr.2.2.2.2.1 q hq
    refine ⟨by rw [a3 _ l1]; exact r1.1, by rw [a4 _ l1]; exact r1.2.1, by rw [a5 _ l1]; exact r1.2.2.1, by rw [a6 _ (by omega)]; exact r1.2.2.2.1, by rw [a6 _ (by omega)]; exact r1.2.2.2.2.1, fun i hi => by rw [a7 _ (by omega)]; exact r1.2.2.2.2.2 i hi⟩
  · have r1 := hr.2.2.2.2.2.1 q hq hn
    exact ⟨by rw [a4 _ (by omega)]; exact r1.1, fun i hi => by rw [a7 _ (by omega)]; exact r1.2 i hi⟩
  · rw [a2 _ (by omega)]; exact hr.2.2.2.2.2.2.1
  · have w7 := (hw.2.2.2.2.2.2.1 q hc).2.2 h3
    rw [a2 _ (by omega)]
    exact hr.2.2.2.2.2.2.2 q hc h3
  · rw [e7, setR_o (by omega), e6, setR_o (by omega), e5, setR_o (by omega), e4, setR_o (by omega), e3, setR_o (by omega), e2, setR_o (by omega), e1, setR_o (by omega), e0, upM_o (by omega), upM_o (by omega)]
/-- the class's saved states are P 0 .. P (n - 1) -/
def HIc (σ : Mm) (n o : Nat) (P : Nat → Sv) : Prop := σ 73 2 = iN n ∧ σ 73 1 = iN o ∧ ∀ i, i < n → WF (P i) ∧ Rel (75 + 15 * ((o + i) % 6)) (P i) σ
theorem HIc.fr {σ σ1 : Mm} {n o : Nat} {P : Nat → Sv} (h : HIc σ n o P) (hf : ∀ k, 73 ≤ k → k ≤ 164 → σ1 k = σ k) : HIc σ1 n o P :=
  ⟨by rw [hf _ (by omega) (by omega)]; exact h.1, by rw [hf _ (by omega) (by omega)]; exact h.2.1, fun i hi => ⟨(h.2.2 i hi).1, (h.2.2 i hi).2.fr (fun k h1 h2 => hf k (by omega) (by omega))⟩⟩
def svN (n : Nat) : Nat := if n < 6 then n + 1 else 6
def svP (n : Nat) (P : Nat → Sv) (s : Sv) (i : Nat) : Sv := if n < 6 then (if i = n then s else P i) else (if i = 5 then s else P (i + 1))
theorem f_sheetAt {o i : Nat} {σ : Mm} (ho : σ 73 1 = iN o) (h6 : o < 6) (hi : i < 100) : F_X0_sheetAt (iN i) σ = some (.inl (75 + 15 * ((o + i) % 6)), σ) := by
  have hl : (o + i) % 6 < 6 := Nat.mod_lt _ (by omega)
  have hb : inB (iN ((o + i) % 6)) 6 = true := (inB_iN (by omega)).mpr hl
  unfold F_X0_sheetAt
  rw [show Int32.ofNat 6 = iN 6 from rfl]
  simp (disch := omega) only [↓ite_ap, if_true, if_false, if_pos, if_neg, retM_ap, retZ_ap0, retZ_ap1, gM_ap, sM_ap, jM_ap, bI_ap, bL_ap, bD_ap, rdM_ap, wrM_ap, thrM_ap, nl_0, nl_1, nl_2, nl_3, nl_4, nl_5, nl_6, nl_7, nl_8, nl_9, nl_10, nl_11, nl_12, nl_13, nl_25, nl_33, nl_35, nl_45, nl_48, nl_49, nl_50, nl_52, nl_53, nl_57, nl_59, nl_60, nl_61, nl_77, nl_94, nl_97, nl_100, nl_101, nl_119, nl_125, nl_126, nl_137, nl_262, nl_387, nl_500, nl_512, nl_637, nl_999, nl_1022, nl_1137, nl_5685, nm_1b, iN_mI, mI_iN, iN_add, iN_mul, iN_sub, iN_div, iN_rem, iN_lt, iN_le, iN_eq, iN_nat, inB_iN, ho]
  unfold qaM
  rw [if_pos hb, iN_nat (by omega)]
  rfl
theorem ckM_t {α : Type} {c : Prop} {inst : Decidable c} {X : Dm α} {σ : Mm} (h : c) : @ckM α c inst X σ = X σ := by
  unfold ckM
  rw [if_pos h]
theorem hB_mem {i : Nat} (h : i < 6) : 75 + 15 * i ∈ hB := by
  have e : i = 0 ∨ i = 1 ∨ i = 2 ∨ i = 3 ∨ i = 4 ∨ i = 5 := by omega
  unfold hB
  rcases e with e | e | e | e | e | e <;> subst e <;> decide
theorem f_save {n o : Nat} {P : Nat → Sv} {s : Sv} {σ : Mm} (hw : WF s) (hr : Rel 2 s σ) (hn : n ≤ 6) (ho : o < 6) (hc : HIc σ n o P) : ∃ σ1 o', F_X0_save 2 σ = some (.inl (), σ1) ∧ o' < 6 ∧ HIc σ1 (svN n) o' (svP n P s) ∧ ∀ k, (k < 73 ∨ 165 ≤ k) → σ1 k = σ k := by
  obtain ⟨c1, c2, c3⟩ := hc
  by_cases h6 : n < 6
  · have fa := f_sheetAt (i := n) c2 ho (by omega)
    obtain ⟨m, d1, d2, d3⟩ := f_copySheet (b := 75 + 15 * ((o + n) % 6)) (o := 2) hw hr (by omega)
    have d73 : m 73 = σ 73 := d3 73 (by omega)
    refine ⟨upM m 73 2 (iN (n + 1)), o, ?_, ho, ⟨?_, ?_, fun i hi => ?_⟩, fun k hk => ?_⟩
    · unfold F_X0_save
      simp (disch := omega) only [↓ite_ap, if_true, if_false, if_pos, if_neg, retM_ap, retZ_ap0, retZ_ap1, gM_ap, sM_ap, jM_ap, bI_ap, bL_ap, bD_ap, rdM_ap, wrM_ap, thrM_ap, nl_0, nl_1, nl_2, nl_3, nl_4, nl_5, nl_6, nl_7, nl_8, nl_9, nl_10, nl_11, nl_12, nl_13, nl_25, nl_33, nl_35, nl_45, nl_48, nl_49, nl_50, nl_52, nl_53, nl_57, nl_59, nl_60, nl_61, nl_77, nl_94, nl_97, nl_100, nl_101, nl_119, nl_125, nl_126, nl_137, nl_262, nl_387, nl_500, nl_512, nl_637, nl_999, nl_1022, nl_1137, nl_5685, nm_1b, iN_mI, mI_iN, iN_add, iN_mul, iN_sub, iN_div, iN_rem, iN_lt, iN_le, iN_eq, iN_nat, inB_iN, c1, ↓invM_l fa, ckM_t (hB_mem (Nat.mod_lt (o + n) (show 0 < 6 by omega))), ↓invM_l d1, d73]
    · unfold svN
      rw [if_pos h6, upM_at]
    · rw [upM_ni (by omega), d73]
      exact c2
    · unfold svN at hi
      rw [if_pos h6] at hi
      unfold svP
      rw [if_pos h6]
      by_cases e : i = n
      · rw [if_pos e, e]
        exact ⟨hw, d2.up (by omega)⟩
      · rw [if_neg e]
        refine ⟨(c3 i (by omega)).1, Rel.up (((c3 i (by omega)).2).fr (fun k h1 h2 => d3 k (by omega))) (by omega)⟩
    · rw [upM_o (by omega), d3 k (by omega)]
  · obtain rfl : n = 6 := by omega
    obtain ⟨m0, e0⟩ : ∃ m, m = upM (upM σ 73 1 (iN ((o + 1) % 6))) 73 2 (iN 5) := ⟨_, rfl⟩
    have b1 : m0 73 1 = iN ((o + 1) % 6) := by rw [e0, upM_ni (by omega), upM_at]
    have b2 : m0 73 2 = iN 5 := by rw [e0, upM_at]
    have bo : ∀ k, k ≠ 73 → m0 k = σ k := fun k hk => by rw [e0, upM_o hk, upM_o hk]
    have fa := f_sheetAt (i := 5) b1 (Nat.mod_lt _ (by omega)) (by omega)
    have r0 : Rel 2 s m0 := hr.fr (fun k h1 h2 => bo k (by omega))
    obtain ⟨m, d1, d2, d3⟩ := f_copySheet (b := 75 + 15 * (((o + 1) % 6 + 5) % 6)) (o := 2) hw r0 (by omega)
    have d73 : m 73 = m0 73 := d3 73 (by omega)
    refine ⟨upM m 73 2 (iN 6), (o + 1) % 6, ?_, Nat.mod_lt _ (by omega), ⟨?_, ?_, fun i hi => ?_⟩, fun k hk => ?_⟩
    · unfold F_X0_save
      have e00 : upM (upM σ 73 1 (iN ((o + 1) % 6))) 73 2 (iN 5) = m0 := e0.symm
      simp (disch := omega) only [↓ite_ap, if_true, if_false, if_pos, if_neg, retM_ap, retZ_ap0, retZ_ap1, gM_ap, sM_ap, jM_ap, bI_ap, bL_ap, bD_ap, rdM_ap, wrM_ap, thrM_ap, nl_0, nl_1, nl_2, nl_3, nl_4, nl_5, nl_6, nl_7, nl_8, nl_9, nl_10, nl_11, nl_12, nl_13, nl_25, nl_33, nl_35, nl_45, nl_48, nl_49, nl_50, nl_52, nl_53, nl_57, nl_59, nl_60, nl_61, nl_77, nl_94, nl_97, nl_100, nl_101, nl_119, nl_125, nl_126, nl_137, nl_262, nl_387, nl_500, nl_512, nl_637, nl_999, nl_1022, nl_1137, nl_5685, nm_1b, iN_mI, mI_iN, iN_add, iN_mul, iN_sub, iN_div, iN_rem, iN_lt, iN_le, iN_eq, iN_nat, inB_iN, c1, c2, e00, b2, ↓invM_l fa, ckM_t (hB_mem (Nat.mod_lt ((o + 1) % 6 + 5) (show 0 < 6 by omega))), ↓invM_l d1, d73, Nat.reduceAdd]
    · unfold svN
      rw [if_neg h6, upM_at]
    · rw [upM_ni (by omega), d73]
      exact b1
    · unfold svN at hi
      rw [if_neg h6] at hi
      unfold svP
      rw [if_neg h6]
      by_cases e : i = 5
      · rw [if_pos e, e]
        exact ⟨hw, d2.up (by omega)⟩
      · rw [if_neg e]
        have e1 : (o + (i + 1)) % 6 = ((o + 1) % 6 + i) % 6 := by omega
        have c4 := c3 (i + 1) (by omega)
        rw [e1] at c4
        refine ⟨c4.1, Rel.up (c4.2.fr (fun k h1 h2 => by rw [d3 k (by omega), bo k (by omega)])) (by omega)⟩
    · rw [upM_o (by omega), d3 k (by omega), bo k (by omega)]
theorem f_takeBack {n o : Nat} {P : Nat → Sv} {σ : Mm} (hn : n < 6) (ho : o < 6) (hc : HIc σ (n + 1) o P) : ∃ σ1, F_X0_takeBack 2 σ = some (.inl (), σ1) ∧ HIc σ1 n o P ∧ Rel 2 (P n) σ1 ∧ ∀ k, ¬ (2 ≤ k ∧ k ≤ 16) → k ≠ 73 → σ1 k = σ k := by
  obtain ⟨c1, c2, c3⟩ := hc
  obtain ⟨m0, e0⟩ : ∃ m, m = upM σ 73 2 (iN n) := ⟨_, rfl⟩
  have b1 : m0 73 1 = iN o := by rw [e0, upM_ni (by omega)]; exact c2
  have b2 : m0 73 2 = iN n := by rw [e0, upM_at]
  have bo : ∀ k, k ≠ 73 → m0 k = σ k := fun k hk => by rw [e0, upM_o hk]
  have fa := f_sheetAt (i := n) b1 ho (by omega)
  have r0 : Rel (75 + 15 * ((o + n) % 6)) (P n) m0 := (c3 n (by omega)).2.fr (fun k h1 h2 => bo k (by omega))
  obtain ⟨m, d1, d2, d3⟩ := f_copySheet (b := 2) (o := 75 + 15 * ((o + n) % 6)) (c3 n (by omega)).1 r0 (by omega)
  refine ⟨m, ?_, ⟨?_, ?_, fun i hi => ?_⟩, d2, fun k h1 h2 => ?_⟩
  · unfold F_X0_takeBack
    have e00 : upM σ 73 2 (iN n) = m0 := e0.symm
    simp (disch := omega) only [↓ite_ap, if_true, if_false, if_pos, if_neg, retM_ap, retZ_ap0, retZ_ap1, gM_ap, sM_ap, jM_ap, bI_ap, bL_ap, bD_ap, rdM_ap, wrM_ap, thrM_ap, nl_0, nl_1, nl_2, nl_3, nl_4, nl_5, nl_6, nl_7, nl_8, nl_9, nl_10, nl_11, nl_12, nl_13, nl_25, nl_33, nl_35, nl_45, nl_48, nl_49, nl_50, nl_52, nl_53, nl_57, nl_59, nl_60, nl_61, nl_77, nl_94, nl_97, nl_100, nl_101, nl_119, nl_125, nl_126, nl_137, nl_262, nl_387, nl_500, nl_512, nl_637, nl_999, nl_1022, nl_1137, nl_5685, nm_1b, iN_mI, mI_iN, iN_add, iN_mul, iN_sub, iN_div, iN_rem, iN_lt, iN_le, iN_eq, iN_nat, inB_iN, c1, Nat.add_sub_cancel, e00, b2, ↓invM_l fa, ckM_t (hB_mem (Nat.mod_lt (o + n) (show 0 < 6 by omega))), ↓invM_l d1]
  · rw [d3 73 (by omega)]
    exact b2
  · rw [d3 73 (by omega)]
    exact b1
  · exact ⟨(c3 i (by omega)).1, (c3 i (by omega)).2.fr (fun k h1 h2 => by rw [d3 k (by omega), bo k (by omega)])⟩
  · rw [d3 k (by omega), bo k h2]
