/-! HOW GREAT A SHOWN NUMBER CAN BE -/
theorem abN_add {x y : Int32} (h : abN x + abN y < 2147483648) : abN (x + y) ≤ abN x + abN y := by
  unfold abN at h ⊢
  rw [Int32.toInt_add, Int.bmod_eq_of_le (by omega) (by omega)]
  omega
def wvT : Nat → Nat
  | 0 => 399600
  | 1 => 199800
  | 2 => 99900
  | 3 => 49950
  | _ => 24975
def gT (s : Sv) (t i : Nat) (t' : Nat) : Nat := if t < t' ∧ t * 25 ≤ hoS s t' ∧ hoS s t' < i then wvT t' else 0
theorem smN_5 {g : Nat → Nat} : smN g 0 5 = g 0 + g 1 + g 2 + g 3 + g 4 := by
  rw [smN_s (by omega), smN_s (by omega), smN_s (by omega), smN_s (by omega), smN_s (by omega), smN_0, Nat.zero_add]
theorem gT_mono {s : Sv} {t i t' : Nat} : gT s t i t' ≤ gT s t (i + 1) t' := by
  unfold gT
  by_cases h : t < t' ∧ t * 25 ≤ hoS s t' ∧ hoS s t' < i
  · rw [if_pos h, if_pos ⟨h.1, h.2.1, by omega⟩]
    exact Nat.le_refl _
  · rw [if_neg h]
    exact Nat.zero_le _
theorem gT_le {s : Sv} {t i t' : Nat} : gT s t i t' ≤ if t < t' then wvT t' else 0 := by
  unfold gT
  by_cases h : t < t' ∧ t * 25 ≤ hoS s t' ∧ hoS s t' < i
  · rw [if_pos h, if_pos h.1]
    exact Nat.le_refl _
  · rw [if_neg h]
    exact Nat.zero_le _
theorem gT_sum {s : Sv} {t i : Nat} (ht : t < 5) : smN (gT s t i) 0 5 + 24975 ≤ wvT t := by
  rw [smN_5]
  have h0 := gT_le (s := s) (t := t) (i := i) (t' := 0)
  have h1 := gT_le (s := s) (t := t) (i := i) (t' := 1)
  have h2 := gT_le (s := s) (t := t) (i := i) (t' := 2)
  have h3 := gT_le (s := s) (t := t) (i := i) (t' := 3)
  have h4 := gT_le (s := s) (t := t) (i := i) (t' := 4)
  have e : t = 0 ∨ t = 1 ∨ t = 2 ∨ t = 3 ∨ t = 4 := by omega
  rcases e with e | e | e | e | e
  · subst e
    simp only [wvT, Nat.reduceLT, if_true, if_false] at h0 h1 h2 h3 h4 ⊢
    omega
  · subst e
    simp only [wvT, Nat.reduceLT, if_true, if_false] at h0 h1 h2 h3 h4 ⊢
    omega
  · subst e
    simp only [wvT, Nat.reduceLT, if_true, if_false] at h0 h1 h2 h3 h4 ⊢
    omega
  · subst e
    simp only [wvT, Nat.reduceLT, if_true, if_false] at h0 h1 h2 h3 h4 ⊢
    omega
  · subst e
    simp only [wvT, Nat.reduceLT, if_true, if_false] at h0 h1 h2 h3 h4 ⊢
    omega
/-- a square's share: 999, or that of the table in it -/
theorem vS_abs {s : Sv} (hw : WF s) {q : Nat} (hv : ∀ t', q / 25 < t' → t' < tbS s → abN (vaL s t') ≤ wvT t') : abN (vS s (vaL s) q) ≤ 999 ∨ (isCl s q ∧ kiS s q = 3 ∧ abN (vS s (vaL s) q) ≤ wvT (nv (nuS s q))) := by
  unfold vS
  by_cases hc : clB s q = true
  · rw [if_pos hc]
    have w7 := hw.2.2.2.2.2.2.1 q (clB_iff.mp hc)
    by_cases h1 : kiS s q = 1
    · rw [if_pos h1]
      have := w7.1 h1
      refine .inl ?_
      unfold abN
      omega
    · rw [if_neg h1]
      by_cases h3 : kiS s q = 3
      · rw [if_pos h3]
        have w8 := w7.2.2 h3
        exact .inr ⟨clB_iff.mp hc, h3, hv _ w8.2.1 w8.2.2⟩
      · rw [if_neg h3]
        exact .inl (Nat.zero_le _)
  · rw [if_neg hc]
    exact .inl (Nat.zero_le _)
theorem smI_abs {s : Sv} (hw : WF s) {t : Nat} (ht : t < 5) (hv : ∀ t', t < t' → t' < tbS s → abN (vaL s t') ≤ wvT t') (p : Nat → Bool) : ∀ k, k ≤ 25 → abN (smI (fun q => if p q = true then vS s (vaL s) q else iN 0) (t * 25) (t * 25 + k)) ≤ 999 * k + smN (gT s t (t * 25 + k)) 0 5
  | 0, _ => by
    rw [Nat.add_zero, smI_0]
    exact Nat.zero_le _
  | k + 1, hk => by
    have ih := smI_abs hw ht hv p k (by omega)
    have hs := gT_sum (s := s) (i := t * 25 + k) ht
    have hw5 : wvT t ≤ 399600 := by
      have e : t = 0 ∨ t = 1 ∨ t = 2 ∨ t = 3 ∨ t = 4 := by omega
      rcases e with e | e | e | e | e <;> subst e <;> exact Nat.le_of_ble_eq_true rfl
    have t5 := hw.1.2.2
    rw [show t * 25 + (k + 1) = t * 25 + k + 1 by omega, smI_s (by omega)]
    have m0 := gT_mono (s := s) (t := t) (i := t * 25 + k) (t' := 0)
    have m1 := gT_mono (s := s) (t := t) (i := t * 25 + k) (t' := 1)
    have m2 := gT_mono (s := s) (t := t) (i := t * 25 + k) (t' := 2)
    have m3 := gT_mono (s := s) (t := t) (i := t * 25 + k) (t' := 3)
    have m4 := gT_mono (s := s) (t := t) (i := t * 25 + k) (t' := 4)
    obtain ⟨q, hq⟩ : ∃ q, q = t * 25 + k := ⟨_, rfl⟩
    rw [← hq] at ih hs m0 m1 m2 m3 m4 ⊢
    have small : abN (if p q = true then vS s (vaL s) q else iN 0) ≤ 999 → abN (smI (fun q => if p q = true then vS s (vaL s) q else iN 0) (t * 25) q + (if p q = true then vS s (vaL s) q else iN 0)) ≤ 999 * (k + 1) + smN (gT s t (q + 1)) 0 5 := fun h => by
      have h2 := abN_add (x := smI (fun q => if p q = true then vS s (vaL s) q else iN 0) (t * 25) q) (y := if p q = true then vS s (vaL s) q else iN 0) (by omega)
      rw [smN_5] at ih ⊢
      omega
    show abN (smI (fun q => if p q = true then vS s (vaL s) q else iN 0) (t * 25) q + (if p q = true then vS s (vaL s) q else iN 0)) ≤ _
    by_cases hp : p q = true
    · rcases vS_abs hw (q := q) (fun t' h1 h2 => hv t' (by omega) h2) with h | ⟨h1, h2, h3⟩
      · exact small (by rw [if_pos hp]; exact h)
      · have w7 := (hw.2.2.2.2.2.2.1 q h1).2.2 h2
        have eh := hoS_eq hw h1 h2
        obtain ⟨t', ht'⟩ : ∃ t', t' = nv (nuS s q) := ⟨_, rfl⟩
        rw [← ht'] at w7 eh h3
        have a1 : gT s t q t' = 0 := by unfold gT; rw [if_neg (by omega)]
        have a2 : gT s t (q + 1) t' = wvT t' := by unfold gT; rw [if_pos ⟨by omega, by omega, by omega⟩]
        rw [if_pos hp]
        have b1 : wvT t' ≤ 399600 := by
          have e : t' = 0 ∨ t' = 1 ∨ t' = 2 ∨ t' = 3 ∨ t' = 4 := by omega
          rcases e with e | e | e | e | e <;> subst e <;> exact Nat.le_of_ble_eq_true rfl
        have hadd := abN_add (x := smI (fun q => if p q = true then vS s (vaL s) q else iN 0) (t * 25) q) (y := vS s (vaL s) q) (by omega)
        rw [smN_5] at ih ⊢
        have e : t' = 1 ∨ t' = 2 ∨ t' = 3 ∨ t' = 4 := by omega
        rcases e with e | e | e | e <;> subst e <;> omega
    · exact small (by rw [if_neg hp]; exact Nat.zero_le _)
theorem smI_abs25 {s : Sv} (hw : WF s) {t : Nat} (ht : t < 5) (hv : ∀ t', t < t' → t' < tbS s → abN (vaL s t') ≤ wvT t') (p : Nat → Bool) : abN (smI (fun q => if p q = true then vS s (vaL s) q else iN 0) (t * 25) ((t + 1) * 25)) ≤ wvT t := by
  have h := smI_abs hw ht hv p 25 (Nat.le_refl _)
  have hs := gT_sum (s := s) (i := t * 25 + 25) ht
  rw [show (t + 1) * 25 = t * 25 + 25 by omega]
  omega
theorem vaL_abs {s : Sv} (hw : WF s) : ∀ n t, tbS s ≤ t + n → t < 5 → t < tbS s → abN (vaL s t) ≤ wvT t
  | 0, t, h, h5, ht => by omega
  | n + 1, t, h, h5, ht => by
    have hh := smI_abs25 hw h5 (fun t' h1 h2 => vaL_abs hw n t' (by omega) (by have := hw.1.2.2; omega) h2) (fun _ => true)
    rw [vaL_eq hw]
    exact hh
theorem shL_abs {s : Sv} (hw : WF s) {q : Nat} (hq : q / 25 < tbS s) : abN (shL s q) ≤ 399600 := by
  have t5 := hw.1.2.2
  have hv : ∀ t', t' < tbS s → abN (vaL s t') ≤ wvT t' := fun t' h => vaL_abs hw (tbS s) t' (by omega) (by omega) h
  have b : ∀ t', t' < 5 → wvT t' ≤ 399600 := fun t' h => by
    have e : t' = 0 ∨ t' = 1 ∨ t' = 2 ∨ t' = 3 ∨ t' = 4 := by omega
    rcases e with e | e | e | e | e <;> subst e <;> exact Nat.le_of_ble_eq_true rfl
  unfold shL shS
  by_cases hc : (clB s q && decide (4 ≤ kiS s q)) = true
  · rw [if_pos hc]
    unfold suS
    exact Nat.le_trans (smI_abs25 hw (by omega) (fun t' _ h => hv t' h) _) (b _ (by omega))
  · rw [if_neg hc]
    rcases vS_abs hw (q := q) (fun t' _ h2 => hv t' h2) with h | ⟨h1, h2, h3⟩
    · omega
    · have w7 := (hw.2.2.2.2.2.2.1 q h1).2.2 h2
      exact Nat.le_trans h3 (b _ (by omega))
