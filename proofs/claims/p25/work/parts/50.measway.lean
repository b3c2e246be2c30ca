/-! A TABLE'S SIZES BY ONE WAY -/
theorem waS_sh {s : Sv} {sh sh' : Nat → Int32} {ts : Nat → Nat} {q w : Nat} (h : sh q = sh' q) : waS s sh ts q w = waS s sh' ts q w := by
  unfold waS
  rw [h]
/-- what the class's memory holds of a table's sizes by a way -/
def LW (b : Nat) (s : Sv) (σ : Mm) (t w : Nat) : Prop := (∀ q, q / 25 = t → σ (b + 23) (2 * q + w) = iN (waL s (2 * q + w))) ∧ (∀ l, l < 5 → σ (b + 29) ((2 * t + w) * 5 + l) = iN (szL s t w l)) ∧ σ (b + 31) (2 * t + w) = iN (drL s t w) ∧ σ (b + 33) (2 * t + w) = iN (tsL s (2 * t + w))
def PW (b t w k j : Nat) : Prop := (k = b + 23 ∧ j % 2 = w ∧ j / 50 = t) ∨ (k = b + 29 ∧ j / 5 = 2 * t + w) ∨ ((k = b + 31 ∨ k = b + 33) ∧ j = 2 * t + w)
theorem f_measWay {b t w : Nat} {s : Sv} {σ : Mm} (hw : WF s) (hr : Rel (b + 1) s σ) (ht : t < tbS s) (h2 : w < 2) (hsh : ∀ q, q / 25 = t → σ (b + 19) q = shL s q) (hts : ∀ t', t < t' → t' < tbS s → σ (b + 33) (2 * t' + w) = iN (tsL s (2 * t' + w))) (hE : ∀ q i, q / 25 = t → i < 4 → σ (b + 27) (q * 4 + i) = iN (eL s (q * 4 + i))) (h0 : ∀ l, l < 5 → σ (b + 29) ((2 * t + w) * 5 + l) = iN 0) : ∃ σ1, (∀ R : Dm Unit, invM (F_X1_wantSizes b (iN t) (iN w)) (fun _ => invM (F_X1_sizeSingles b (iN t) (iN w)) (fun _ => invM (F_X1_sizeSpans b (iN t) (iN w)) (fun _ => invM (F_X1_sizeTable b (iN t) (iN w)) (fun _ => R)))) σ = R σ1) ∧ LW b s σ1 t w ∧ ∀ k j, ¬ PW b t w k j → σ1 k j = σ k j := by
  have t5 := hw.1.2.2
  obtain ⟨m1, e1⟩ : ∃ m, m = setB σ (b + 23) (fun j => decide (j % 2 = w ∧ t * 25 ≤ j / 2 ∧ j / 2 < (t + 1) * 25)) (fun j => iN (waL s j)) := ⟨_, rfl⟩
  have f1 : F_X1_wantSizes b (iN t) (iN w) σ = some (.inl (), m1) := by
    rw [e1]
    refine f_wantSizes hw hr ht h2 (ts := tsL s) hts _ (fun q hq => ?_)
    show iN (waL s (2 * q + w)) = _
    rw [waL_eq h2, waS_sh (hsh q hq).symm]
  have r1 : Rel (b + 1) s m1 := by rw [e1]; exact hr.sb (by omega)
  have hW : ∀ q, q / 25 = t → m1 (b + 23) (2 * q + w) = iN (waL s (2 * q + w)) := fun q hq => by
    rw [e1, setB_in (decide_eq_true (by omega))]
  have hWT : ∀ q, q / 25 = t → m1 (b + 23) (2 * q + w) = iN (waT s t w q) := fun q hq => by
    rw [hW q hq]
    unfold waT
    rw [if_pos hq]
  have o1 : ∀ k, k ≠ b + 23 → m1 k = σ k := fun k hk => by rw [e1, setB_o hk]
  have f2 := f_sizeSingles (wa := waT s t w) hw r1 ht h2 (fun q => Nat.lt_of_le_of_lt ((tsL_max hw h2 ht).1 q) (by omega)) hWT (fun l hl => by rw [o1 _ (by omega)]; exact h0 l hl)
  obtain ⟨m2, e2⟩ : ∃ m, m = setS m1 (b + 29) ((2 * t + w) * 5) ((2 * t + w) * 5 + 5) (fun j => iN (sgS s (waT s t w) t w (j - (2 * t + w) * 5) ((t + 1) * 25))) := ⟨_, rfl⟩
  rw [← e2] at f2
  have o2 : ∀ k, k ≠ b + 29 → m2 k = m1 k := fun k hk => by rw [e2, setS_o hk]
  have r2 : Rel (b + 1) s m2 := by rw [e2]; exact r1.st (by omega)
  have f3 := f_sizeSpans (wa := waT s t w) (z0 := fun l => sgS s (waT s t w) t w l ((t + 1) * 25)) hw r2 ht h2 (Nat.le_refl 10000000) (tsL_max hw h2 ht).1 (smN_leB (fun l => sgS_le (tsL_max hw h2 ht).1)) (fun q hq => by rw [o2 _ (by omega)]; exact hWT q hq) (fun l hl => by rw [e2, setS_in (by omega) (by omega), Nat.add_sub_cancel_left])
  obtain ⟨m3, e3⟩ : ∃ m, m = setS m2 (b + 29) ((2 * t + w) * 5) ((2 * t + w) * 5 + 5) (fun j => iN (szL s t w (j - (2 * t + w) * 5))) := ⟨_, rfl⟩
  have f3' : F_X1_sizeSpans b (iN t) (iN w) m2 = some (.inl (), m3) := by rw [e3]; exact f3
  have o3 : ∀ k, k ≠ b + 29 → m3 k = m2 k := fun k hk => by rw [e3, setS_o hk]
  have r3 : Rel (b + 1) s m3 := by rw [e3]; exact r2.st (by omega)
  have hz : ∀ l, l < 5 → m3 (b + 29) ((2 * t + w) * 5 + l) = iN (szL s t w l) := fun l hl => by
    rw [e3, setS_in (by omega) (by omega), Nat.add_sub_cancel_left]
  have f4 := f_sizeTable (e := eL s) (z := szL s t w) hw r3 ht h2 (eL_lt hw) (fun q i hq hi => by rw [o3 _ (by omega), o2 _ (by omega), o1 _ (by omega)]; exact hE q i hq hi) hz
  obtain ⟨m4, e4⟩ : ∃ m, m = upM (upM m3 (b + 31) (2 * t + w) (iN (lnS (eL s) t w (liS s w t)))) (b + 33) (2 * t + w) (iN (lnS (eL s) t w (liS s w t) + smN (szL s t w) 0 (liS s w t))) := ⟨_, rfl⟩
  rw [← e4] at f4
  refine ⟨m4, fun R => ?_, ⟨fun q hq => ?_, fun l hl => ?_, ?_, ?_⟩, fun k j hk => ?_⟩
  · rw [invM_l f1, invM_l f2, invM_l f3', invM_l f4]
  · rw [e4, upM_o (by omega), upM_o (by omega), o3 _ (by omega), o2 _ (by omega)]
    exact hW q hq
  · rw [e4, upM_o (by omega), upM_o (by omega)]
    exact hz l hl
  · rw [e4, upM_o (by omega), upM_at]
    rfl
  · rw [e4, upM_at, tsL_eq hw h2]
    rfl
  · unfold PW at hk
    have u : ∀ {m : Mm} {k' i : Nat} {v : Int32}, ¬ (k = k' ∧ j = i) → upM m k' i v k j = m k j := fun {m k' i v} h => by
      by_cases hkk : k = k'
      · subst hkk
        exact upM_ni (fun g => h ⟨rfl, g⟩)
      · exact upM_ne hkk
    have v : ∀ {m : Mm} {F : Nat → Int32}, setS m (b + 29) ((2 * t + w) * 5) ((2 * t + w) * 5 + 5) F k j = m k j := fun {m F} => by
      by_cases hkk : k = b + 29
      · subst hkk
        exact setS_out (by omega)
      · rw [setS_o hkk]
    rw [e4, u (by omega), u (by omega), e3, v, e2, v, e1]
    by_cases hkk : k = b + 23
    · subst hkk
      exact setB_out (decide_eq_false (by omega))
    · rw [setB_o hkk]

