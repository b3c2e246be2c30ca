/-! A TABLE'S LAYOUT -/
/-- what the class's memory holds of a table's layout -/
def LM (b : Nat) (s : Sv) (σ : Mm) (t : Nat) : Prop :=
  σ (b + 35) t = vaL s t ∧
  (∀ q, q / 25 = t → σ (b + 17) q = vS s (vaL s) q) ∧
  (∀ q, q / 25 = t → σ (b + 19) q = shL s q) ∧
  (∀ q, q / 25 = t → isCl s q → 4 ≤ kiS s q → σ (b + 21) q = iN (frS s q)) ∧
  (∀ q i, q / 25 = t → i < 4 → σ (b + 25) (q * 4 + i) = iN (rlL s (q * 4 + i))) ∧
  (∀ q i, q / 25 = t → i < 4 → σ (b + 27) (q * 4 + i) = iN (eL s (q * 4 + i))) ∧
  LW b s σ t 0 ∧ LW b s σ t 1
def PT (b t k j : Nat) : Prop := ((k = b + 17 ∨ k = b + 19 ∨ k = b + 21) ∧ j / 25 = t) ∨ ((k = b + 25 ∨ k = b + 27) ∧ j / 100 = t) ∨ (k = b + 23 ∧ j / 50 = t) ∨ (k = b + 29 ∧ j / 10 = t) ∨ ((k = b + 31 ∨ k = b + 33) ∧ j / 2 = t) ∨ (k = b + 35 ∧ j = t)
theorem LW.fr {b t w : Nat} {s : Sv} {σ σ1 : Mm} (h : LW b s σ t w) (h2 : w < 2) (hf : ∀ k j, PT b t k j → σ1 k j = σ k j) : LW b s σ1 t w := by
  unfold PT at hf
  refine ⟨fun q hq => ?_, fun l hl => ?_, ?_, ?_⟩
  · rw [hf _ _ (by omega)]; exact h.1 q hq
  · rw [hf _ _ (by omega)]; exact h.2.1 l hl
  · rw [hf _ _ (by omega)]; exact h.2.2.1
  · rw [hf _ _ (by omega)]; exact h.2.2.2
theorem LM.fr {b t : Nat} {s : Sv} {σ σ1 : Mm} (h : LM b s σ t) (hf : ∀ k j, PT b t k j → σ1 k j = σ k j) : LM b s σ1 t := by
  obtain ⟨a1, a2, a3, a4, a5, a6, a7, a8⟩ := h
  have p := hf
  unfold PT at hf
  refine ⟨?_, fun q hq => ?_, fun q hq => ?_, fun q hq hc hk => ?_, fun q i hq hi => ?_, fun q i hq hi => ?_, a7.fr (by omega) p, a8.fr (by omega) p⟩
  · rw [hf _ _ (by omega)]; exact a1
  · rw [hf _ _ (by omega)]; exact a2 q hq
  · rw [hf _ _ (by omega)]; exact a3 q hq
  · rw [hf _ _ (by omega)]; exact a4 q hq hc hk
  · rw [hf _ _ (by omega)]; exact a5 q i hq hi
  · rw [hf _ _ (by omega)]; exact a6 q i hq hi
/-- the values, shown numbers, rules and edges of a table -/
theorem vaC_vS {b q : Nat} {s : Sv} {σ : Mm} (hw : WF s) (hr : Rel (b + 1) s σ) (hq : q / 25 < tbS s) (hva : ∀ t', q / 25 < t' → t' < tbS s → σ (b + 35) t' = vaL s t') : vS s (vaL s) q = if σ (b + 1 + 6) q = iN q then vaC b σ q else iN 0 := by
  have t5 := hw.1.2.2
  have hi : (σ (b + 1 + 6) q = iN q) = isCl s q := rel_isCell hw hr hq
  unfold vS vaC
  by_cases hc : isCl s q
  · rw [if_pos (clB_iff.mpr hc), if_pos (hi.mpr hc)]
    have r1 := hr.2.2.2.2.1 q hc.1
    have w3 := hw.2.2.2.2.2.1 q hc.1
    have kb := w3.2.1
    have k1 : σ (b + 1 + 8) q = iN (kiS s q) := r1.2.1.trans w3.1
    have k2 : σ (b + 1 + 10) q = nuS s q := r1.2.2.1
    rw [k1, k2]
    by_cases h1 : kiS s q = 1
    · rw [if_pos h1, h1, if_pos rfl]
    · have n1 : ¬ iN (kiS s q) = iN 1 := by rw [iN_eq (by omega) (by omega)]; exact h1
      rw [if_neg h1, if_neg n1]
      by_cases h3 : kiS s q = 3
      · have w7 := (hw.2.2.2.2.2.2.1 q hc).2.2 h3
        rw [if_pos h3, h3, if_pos rfl, ← hva _ w7.2.1 w7.2.2]
        rfl
      · have n3 : ¬ iN (kiS s q) = iN 3 := by rw [iN_eq (by omega) (by omega)]; exact h3
        rw [if_neg h3, if_neg n3]
  · rw [if_neg (by rw [clB_not hc]; decide), if_neg (fun g => hc (hi.mp g))]
theorem f_measA {b t : Nat} {s : Sv} {σ : Mm} (hw : WF s) (hr : Rel (b + 1) s σ) (ht : t < tbS s) (hva : ∀ t', t < t' → t' < tbS s → σ (b + 35) t' = vaL s t') : ∃ σ1, (∀ R : Dm Unit, invM (F_X1_valueCells b (iN t)) (fun _ => invM (F_X1_showNumbers b (iN t)) (fun _ => R)) σ = R σ1) ∧ Rel (b + 1) s σ1 ∧ σ1 (b + 35) t = vaL s t ∧ (∀ q, q / 25 = t → σ1 (b + 17) q = vS s (vaL s) q) ∧ (∀ q, q / 25 = t → σ1 (b + 19) q = shL s q) ∧ (∀ q, q / 25 = t → isCl s q → 4 ≤ kiS s q → σ1 (b + 21) q = iN (frS s q)) ∧ ∀ k j, ¬ (((k = b + 17 ∨ k = b + 19 ∨ k = b + 21) ∧ j / 25 = t) ∨ (k = b + 35 ∧ j = t)) → σ1 k j = σ k j := by
  have t5 := hw.1.2.2
  have f1 := f_valueCells (b := b) (t := t) (σ := σ) (by omega) (fun q hq h1 h3 => by
    have hc : isCl s q := (rel_isCell hw hr (by omega)).mp (by rw [show b + 1 + 6 = b + 6 + 1 by omega]; exact h1)
    have r1 := hr.2.2.2.2.1 q hc.1
    have w3 := hw.2.2.2.2.2.1 q hc.1
    have kb := w3.2.1
    have k1 : σ (b + 1 + 8) q = iN (kiS s q) := r1.2.1.trans w3.1
    rw [k1, iN_eq (by omega) (by omega)] at h3
    have w7 := (hw.2.2.2.2.2.2.1 q hc).2.2 h3
    exact ⟨_, by omega, r1.2.2.1.trans w7.1⟩) (vS s (vaL s)) (fun q hq => vaC_vS hw hr (by omega) (fun t' h1 h2 => hva t' (by omega) h2))
  obtain ⟨m1, e1⟩ : ∃ m, m = upM (setS σ (b + 17) (t * 25) ((t + 1) * 25) (vS s (vaL s))) (b + 35) t (smI (vS s (vaL s)) (t * 25) ((t + 1) * 25)) := ⟨_, rfl⟩
  rw [← e1] at f1
  have r1 : Rel (b + 1) s m1 := by rw [e1]; exact (hr.st (by omega)).up (by omega)
  have v1 : ∀ q, q / 25 = t → m1 (b + 17) q = vS s (vaL s) q := fun q hq => by rw [e1, upM_o (by omega), setS_in (by omega) (by omega)]
  have f2 := f_showNumbers hw r1 ht (fun q hq hc => by
    rw [v1 q hq]
    unfold vS
    rw [if_neg (by rw [clB_not hc]; decide)]) (fun q => if (clB s q && decide (4 ≤ kiS s q)) = true then iN (frS s q) else m1 (b + 21) q) (shL s) (fun q _ => rfl) (fun q hq => by
    unfold shL shS
    rw [v1 q hq, suS_congr (v := vS s (vaL s)) (v' := m1 (b + 17)) (fun j hj => (v1 j (by omega)).symm)])
  refine ⟨_, fun R => (invM_l f1).trans (invM_l f2), ?_, ?_, fun q hq => ?_, fun q hq => ?_, fun q hq hc hk => ?_, fun k j hk => ?_⟩
  · exact (r1.st (by omega)).st (by omega)
  · rw [setS_o (by omega), setS_o (by omega), e1, upM_at, ← vaL_eq hw]
  · rw [setS_o (by omega), setS_o (by omega)]
    exact v1 q hq
  · rw [setS_in (by omega) (by omega)]
  · rw [setS_o (by omega), setS_in (by omega) (by omega), clB_iff.mpr hc]
    simp only [Bool.true_and]
    rw [if_pos (decide_eq_true hk)]
  · have v : ∀ {m : Mm} {k' : Nat} {F : Nat → Int32}, ¬ (k = k' ∧ j / 25 = t) → setS m k' (t * 25) ((t + 1) * 25) F k j = m k j := fun {m k' F} h => by
      by_cases hkk : k = k'
      · subst hkk
        exact setS_out (by omega)
      · rw [setS_o hkk]
    rw [v (by omega), v (by omega), e1]
    by_cases hkk : k = b + 35
    · subst hkk
      rw [upM_ni (by omega), setS_o (by omega)]
    · rw [upM_o hkk, v (by omega)]
theorem edS_edN {s : Sv} {ru : Nat → Int32} {rl : Nat → Nat} {q i : Nat} (hw : WF s) (h4 : i < 4) (hq : isOf s q) (hrl : ∀ j, rl j < 1000) (h : ∀ q' i', q' / 25 = q / 25 → i' < 4 → ru (q' * 4 + i') = iN (rl (q' * 4 + i'))) : edS s ru q i = iN (edN s rl q i) := by
  have o : ∀ z, isOf s z → z / 25 = q / 25 → owS s z / 25 = q / 25 := fun z h1 h2 => by
    have := (hw.2.2.2.1 z h1).2.2.1
    omega
  have o1 := o q hq rfl
  unfold edS edN
  split
  · rename_i e
    rw [e]
    show _ = iN (rl (owS s q * 4 + i))
    rw [Nat.mul_comm 4, h _ i o1 h4]
  · rename_i q' e
    rw [e]
    have b1 := bsS_of hw hq e
    have o2 := o q' b1.1 b1.2
    show (if _ then _ else _) = iN (if _ then _ else _)
    by_cases he : owS s q' = owS s q
    · rw [if_pos he, if_pos he]
    · rw [if_neg he, if_neg he, Nat.mul_comm 4, h _ i o1 h4, Nat.mul_comm 4, h _ _ o2 (by omega)]
      have l1 := hrl (owS s q * 4 + i)
      have l2 := hrl (owS s q' * 4 + (i + 2) % 4)
      exact iMax_iN (by omega) (by omega)
theorem f_measB {b t : Nat} {s : Sv} {σ : Mm} (hw : WF s) (hr : Rel (b + 1) s σ) (ht : t < tbS s) (hE : ∀ q i, t < q / 25 → q / 25 < tbS s → i < 4 → σ (b + 27) (q * 4 + i) = iN (eL s (q * 4 + i))) : ∃ σ1, (∀ R : Dm Unit, invM (F_X1_ruleCells b (iN t)) (fun _ => invM (F_X1_ruleEdges b (iN t)) (fun _ => R)) σ = R σ1) ∧ Rel (b + 1) s σ1 ∧ (∀ q i, q / 25 = t → i < 4 → σ1 (b + 25) (q * 4 + i) = iN (rlL s (q * 4 + i))) ∧ (∀ q i, q / 25 = t → i < 4 → σ1 (b + 27) (q * 4 + i) = iN (eL s (q * 4 + i))) ∧ ∀ k j, ¬ ((k = b + 25 ∨ k = b + 27) ∧ j / 100 = t) → σ1 k j = σ k j := by
  have f1 := f_ruleCells hw hr ht (eL_lt hw) hE (fun j => iN (rlL s j)) (fun q i _ hi => by rw [rlL_eq hi])
  obtain ⟨m1, e1⟩ : ∃ m, m = setS σ (b + 25) (t * 25 * 4) ((t + 1) * 25 * 4) (fun j => iN (rlL s j)) := ⟨_, rfl⟩
  rw [← e1] at f1
  have r1 : Rel (b + 1) s m1 := by rw [e1]; exact hr.st (by omega)
  have v1 : ∀ q i, q / 25 = t → i < 4 → m1 (b + 25) (q * 4 + i) = iN (rlL s (q * 4 + i)) := fun q i hq hi => by rw [e1, setS_in (by omega) (by omega)]
  have f2 := f_ruleEdges hw r1 ht (fun j => iN (eL s j)) (fun q i hq hi => by
    show iN (eL s (q * 4 + i)) = _
    rw [eL_eq hw hi]
    by_cases hc : ofB s q = true
    · rw [if_pos hc, if_pos hc, edS_edN (rl := rlL s) hw hi (ofB_iff.mp hc) (fun j => Nat.lt_of_le_of_lt (rlL_le3 hw j) (by omega)) (fun q' i' h1 h2 => v1 q' i' (by omega) h2)]
    · rw [if_neg hc, if_neg hc])
  refine ⟨_, fun R => (invM_l f1).trans (invM_l f2), r1.st (by omega), fun q i hq hi => ?_, fun q i hq hi => ?_, fun k j hk => ?_⟩
  · rw [setS_o (by omega)]
    exact v1 q i hq hi
  · rw [setS_in (by omega) (by omega)]
  · have v : ∀ {m : Mm} {k' : Nat} {F : Nat → Int32}, ¬ (k = k' ∧ j / 100 = t) → setS m k' (t * 25 * 4) ((t + 1) * 25 * 4) F k j = m k j := fun {m k' F} h => by
      by_cases hkk : k = k'
      · subst hkk
        exact setS_out (by omega)
      · rw [setS_o hkk]
    rw [v (by omega), e1, v (by omega)]

