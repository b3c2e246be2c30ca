/-! MEASURE -/
theorem f_clear {b nb : Nat} {σ : Mm} (hn : nb < 1000) : F_X2_clear b nb σ = some (.inl (), setS σ (b + 1) 0 nb (fun _ => iN 0)) := by
  have h := lp (fun n i (a : Mm) => L_J7_fill_53178_5 (b + 1) nb (iN 0) (iN nb) n (iN i) a) (fun i => setS σ (b + 1) 0 i (fun _ => iN 0)) (i0 := 0) (N := nb) (r := some (.inl (), setS σ (b + 1) 0 nb (fun _ => iN 0))) (by omega) (by unfold FU; omega) ?_ ?_
  · simp only [setS_0] at h
    unfold F_X2_clear F_J7_fill_53178
    rw [show Int32.ofNat nb = iN nb from rfl]
    simp (disch := omega) only [↓ite_ap, if_true, if_false, if_pos, if_neg, retM_ap, retZ_ap0, retZ_ap1, gM_ap, sM_ap, jM_ap, bI_ap, bL_ap, bD_ap, rdM_ap, wrM_ap, thrM_ap, nl_0, nl_1, nl_2, nl_3, nl_4, nl_5, nl_6, nl_7, nl_8, nl_9, nl_10, nl_11, nl_12, nl_13, nl_25, nl_33, nl_35, nl_45, nl_48, nl_49, nl_50, nl_52, nl_53, nl_57, nl_59, nl_60, nl_61, nl_77, nl_94, nl_97, nl_100, nl_101, nl_119, nl_125, nl_126, nl_137, nl_262, nl_387, nl_500, nl_512, nl_637, nl_999, nl_1022, nl_1137, nl_5685, nm_1b, iN_mI, mI_iN, iN_add, iN_mul, iN_sub, iN_div, iN_rem, iN_lt, iN_le, iN_eq, iN_nat, inB_iN]
    rw [invM_l h]
    rfl
  · intro n i h1 h2
    simp only [L_J7_fill_53178_5]
    simp (disch := omega) only [↓ite_ap, if_true, if_false, if_pos, if_neg, retM_ap, retZ_ap0, retZ_ap1, gM_ap, sM_ap, jM_ap, bI_ap, bL_ap, bD_ap, rdM_ap, wrM_ap, thrM_ap, nl_0, nl_1, nl_2, nl_3, nl_4, nl_5, nl_6, nl_7, nl_8, nl_9, nl_10, nl_11, nl_12, nl_13, nl_25, nl_33, nl_35, nl_45, nl_48, nl_49, nl_50, nl_52, nl_53, nl_57, nl_59, nl_60, nl_61, nl_77, nl_94, nl_97, nl_100, nl_101, nl_119, nl_125, nl_126, nl_137, nl_262, nl_387, nl_500, nl_512, nl_637, nl_999, nl_1022, nl_1137, nl_5685, nm_1b, iN_mI, mI_iN, iN_add, iN_mul, iN_sub, iN_div, iN_rem, iN_lt, iN_le, iN_eq, iN_nat, inB_iN, setS_up (σ := σ) (k := b + 1) (F := fun _ => iN 0) h1 rfl]
  · intro n
    simp only [L_J7_fill_53178_5]
    simp (disch := omega) only [↓ite_ap, if_true, if_false, if_pos, if_neg, retM_ap, retZ_ap0, retZ_ap1, gM_ap, sM_ap, jM_ap, bI_ap, bL_ap, bD_ap, rdM_ap, wrM_ap, thrM_ap, nl_0, nl_1, nl_2, nl_3, nl_4, nl_5, nl_6, nl_7, nl_8, nl_9, nl_10, nl_11, nl_12, nl_13, nl_25, nl_33, nl_35, nl_45, nl_48, nl_49, nl_50, nl_52, nl_53, nl_57, nl_59, nl_60, nl_61, nl_77, nl_94, nl_97, nl_100, nl_101, nl_119, nl_125, nl_126, nl_137, nl_262, nl_387, nl_500, nl_512, nl_637, nl_999, nl_1022, nl_1137, nl_5685, nm_1b, iN_mI, mI_iN, iN_add, iN_mul, iN_sub, iN_div, iN_rem, iN_lt, iN_le, iN_eq, iN_nat, inB_iN]
theorem f_meas43 {b t : Nat} {s : Sv} {σ : Mm} (hw : WF s) (hr : Rel (b + 1) s σ) (ht : t < tbS s) (hsh : ∀ q, q / 25 = t → σ (b + 19) q = shL s q) (hts : ∀ t' w, t < t' → t' < tbS s → w < 2 → σ (b + 33) (2 * t' + w) = iN (tsL s (2 * t' + w))) (hE : ∀ q i, q / 25 = t → i < 4 → σ (b + 27) (q * 4 + i) = iN (eL s (q * 4 + i))) (h0 : ∀ w l, w < 2 → l < 5 → σ (b + 29) ((2 * t + w) * 5 + l) = iN 0) : ∃ σ1, (∀ R : Dm Unit, L_X1_measure_43 b (iN t) FU (iN 0) (fun _ => R) σ = R σ1) ∧ LW b s σ1 t 0 ∧ LW b s σ1 t 1 ∧ ∀ k j, ¬ (PW b t 0 k j ∨ PW b t 1 k j) → σ1 k j = σ k j := by
  obtain ⟨m1, a1, a2, a3⟩ := f_measWay (w := 0) hw hr ht (by omega) hsh (fun t' h1 h2 => hts t' 0 h1 h2 (by omega)) hE (fun l hl => h0 0 l (by omega) hl)
  have p3 := a3
  unfold PW at a3
  have r1 : Rel (b + 1) s m1 := hr.fr (fun k h1 h2 => funext (fun j => a3 k j (by omega)))
  obtain ⟨m2, c1, c2, c3⟩ := f_measWay (w := 1) hw r1 ht (by omega) (fun q hq => by rw [a3 _ _ (by omega)]; exact hsh q hq) (fun t' h1 h2 => by rw [a3 _ _ (by omega)]; exact hts t' 1 h1 h2 (by omega)) (fun q i hq hi => by rw [a3 _ _ (by omega)]; exact hE q i hq hi) (fun l hl => by rw [a3 _ _ (by omega)]; exact h0 1 l (by omega) hl)
  have q3 := c3
  unfold PW at c3
  refine ⟨m2, fun R => ?_, ⟨fun q hq => ?_, fun l hl => ?_, ?_, ?_⟩, c2, fun k j hk => ?_⟩
  · obtain ⟨n, hn⟩ : ∃ n, FU = n + 3 := ⟨FU - 3, by unfold FU; omega⟩
    rw [hn]
    simp only [L_X1_measure_43]
    simp (disch := omega) only [↓ite_ap, if_true, if_false, if_pos, if_neg, retM_ap, retZ_ap0, retZ_ap1, gM_ap, sM_ap, jM_ap, bI_ap, bL_ap, bD_ap, rdM_ap, wrM_ap, thrM_ap, nl_0, nl_1, nl_2, nl_3, nl_4, nl_5, nl_6, nl_7, nl_8, nl_9, nl_10, nl_11, nl_12, nl_13, nl_25, nl_33, nl_35, nl_45, nl_48, nl_49, nl_50, nl_52, nl_53, nl_57, nl_59, nl_60, nl_61, nl_77, nl_94, nl_97, nl_100, nl_101, nl_119, nl_125, nl_126, nl_137, nl_262, nl_387, nl_500, nl_512, nl_637, nl_999, nl_1022, nl_1137, nl_5685, nm_1b, iN_mI, mI_iN, iN_add, iN_mul, iN_sub, iN_div, iN_rem, iN_lt, iN_le, iN_eq, iN_nat, inB_iN, a1, c1]
  · rw [c3 _ _ (by omega)]; exact a2.1 q hq
  · rw [c3 _ _ (by omega)]; exact a2.2.1 l hl
  · rw [c3 _ _ (by omega)]; exact a2.2.2.1
  · rw [c3 _ _ (by omega)]; exact a2.2.2.2
  · rw [q3 k j (fun g => hk (.inr g)), p3 k j (fun g => hk (.inl g))]
theorem f_measTable {b t : Nat} {s : Sv} {σ : Mm} (hw : WF s) (hr : Rel (b + 1) s σ) (ht : t < tbS s) (hLM : ∀ t', t < t' → t' < tbS s → LM b s σ t') (h0 : ∀ w l, w < 2 → l < 5 → σ (b + 29) ((2 * t + w) * 5 + l) = iN 0) : ∃ σ1, (∀ R : Dm Unit, invM (F_X1_valueCells b (iN t)) (fun _ => invM (F_X1_showNumbers b (iN t)) (fun _ => invM (F_X1_ruleCells b (iN t)) (fun _ => invM (F_X1_ruleEdges b (iN t)) (fun _ => L_X1_measure_43 b (iN t) FU (iN 0) (fun _ => R))))) σ = R σ1) ∧ LM b s σ1 t ∧ ∀ k j, ¬ PT b t k j → σ1 k j = σ k j := by
  obtain ⟨m1, a1, r1, a2, a3, a4, a5, a6⟩ := f_measA hw hr ht (fun t' h1 h2 => (hLM t' h1 h2).1)
  obtain ⟨m2, c1, r2, c2, c3, c6⟩ := f_measB hw r1 ht (fun q i h1 h2 h3 => by rw [a6 _ _ (by omega)]; exact (hLM _ h1 h2).2.2.2.2.2.1 q i rfl h3)
  obtain ⟨m3, d1, d2, d3, d6⟩ := f_meas43 hw r2 ht (fun q hq => by rw [c6 _ _ (by omega)]; exact a4 q hq) (fun t' w h1 h2 h3 => by
    rw [c6 _ _ (by omega), a6 _ _ (by omega)]
    have hh := hLM t' h1 h2
    have h3' : w = 0 ∨ w = 1 := by omega
    rcases h3' with h | h
    · subst h
      exact hh.2.2.2.2.2.2.1.2.2.2
    · subst h
      exact hh.2.2.2.2.2.2.2.2.2.2) c3 (fun w l h1 h2 => by rw [c6 _ _ (by omega), a6 _ _ (by omega)]; exact h0 w l h1 h2)
  unfold PW at d6
  refine ⟨m3, fun R => ?_, ⟨?_, fun q hq => ?_, fun q hq => ?_, fun q hq hc hk => ?_, fun q i hq hi => ?_, fun q i hq hi => ?_, d2, d3⟩, fun k j hk => ?_⟩
  · rw [a1, c1, d1]
  · rw [d6 _ _ (by omega), c6 _ _ (by omega)]; exact a2
  · rw [d6 _ _ (by omega), c6 _ _ (by omega)]; exact a3 q hq
  · rw [d6 _ _ (by omega), c6 _ _ (by omega)]; exact a4 q hq
  · rw [d6 _ _ (by omega), c6 _ _ (by omega)]; exact a5 q hq hc hk
  · rw [d6 _ _ (by omega)]; exact c2 q i hq hi
  · rw [d6 _ _ (by omega)]; exact c3 q i hq hi
  · unfold PT at hk
    rw [d6 _ _ (by omega), c6 _ _ (by omega), a6 _ _ (by omega)]
theorem f_meas17 {b : Nat} {s : Sv} (hw : WF s) : ∀ (T n : Nat) (x : Int32) (σ : Mm), T ≤ tbS s → T < n → (T = 0 → x = mI) → (∀ t, T = t + 1 → x = iN t) → Rel (b + 1) s σ → (∀ t, T ≤ t → t < tbS s → LM b s σ t) → (∀ t w l, t < T → w < 2 → l < 5 → σ (b + 29) ((2 * t + w) * 5 + l) = iN 0) → ∃ σ1, L_X1_measure_17 b n x σ = some (.inl (), σ1) ∧ (∀ t, t < tbS s → LM b s σ1 t) ∧ ∀ k j, ¬ (b + 17 ≤ k ∧ k ≤ b + 35) → σ1 k j = σ k j := by
  have t5 := hw.1.2.2
  intro T
  induction T with
  | zero =>
    intro n x σ _ hn hx _ hr hLM _
    obtain ⟨n, rfl⟩ : ∃ m, n = m + 1 := ⟨n - 1, by omega⟩
    rw [hx rfl]
    refine ⟨σ, ?_, fun t h => hLM t (by omega) h, fun k j _ => rfl⟩
    simp only [L_X1_measure_17]
    have hm : (mI < 0) = True := mI_lt (a := 0) (by omega)
    simp only [↓ite_ap, if_true, if_false, if_pos, if_neg, retM_ap, retZ_ap0, retZ_ap1, gM_ap, sM_ap, jM_ap, bI_ap, bL_ap, bD_ap, rdM_ap, wrM_ap, thrM_ap, hm]
  | succ T ih =>
    intro n x σ hT hn _ hx hr hLM h0
    obtain ⟨n, rfl⟩ : ∃ m, n = m + 1 := ⟨n - 1, by omega⟩
    rw [hx T rfl]
    obtain ⟨m1, a1, a2, a3⟩ := f_measTable hw hr (show T < tbS s by omega) (fun t' h1 h2 => hLM t' (by omega) h2) (fun w l h1 h2 => h0 T w l (by omega) h1 h2)
    have p3 := a3
    unfold PT at a3
    have r1 : Rel (b + 1) s m1 := hr.fr (fun k h1 h2 => funext (fun j => a3 k j (by omega)))
    obtain ⟨σ1, c1, c2, c3⟩ := ih n (iN T + mI) m1 (by omega) (by omega) (fun h => by subst h; rfl) (fun t ht => by subst ht; rw [show mI = iN 0 - iN 1 from sub01.symm, Int32.sub_eq_add_neg, ← Int32.add_assoc, addN0, ← Int32.sub_eq_add_neg, iN_sub (by omega)]; rfl) r1 (fun t h1 h2 => by
      by_cases h : t = T
      · subst h
        exact a2
      · refine (hLM t (by omega) h2).fr (fun k j hk => p3 k j ?_)
        unfold PT at hk ⊢
        omega) (fun t w l h1 h2 h3 => by rw [a3 _ _ (by omega)]; exact h0 t w l (by omega) h2 h3)
    refine ⟨σ1, ?_, c2, fun k j hk => by rw [c3 k j hk, a3 k j (by omega)]⟩
    simp only [L_X1_measure_17]
    have hm : (iN T < 0) = False := by rw [show (iN T < 0) = (T < 0) from iN_lt (b := 0) (by omega) (by omega)]; exact propext ⟨fun h => by omega, fun h => h.elim⟩
    simp only [↓ite_ap, if_true, if_false, if_pos, if_neg, retM_ap, retZ_ap0, retZ_ap1, gM_ap, sM_ap, jM_ap, bI_ap, bL_ap, bD_ap, rdM_ap, wrM_ap, thrM_ap, hm]
    exact (a1 _).trans c1
theorem f_measure {b : Nat} {s : Sv} {σ : Mm} (hw : WF s) (hr : Rel (b + 1) s σ) : ∃ σ1, F_X1_measure b σ = some (.inl (), σ1) ∧ Rel (b + 1) s σ1 ∧ (∀ t, t < tbS s → LM b s σ1 t) ∧ ∀ k j, ¬ (b + 17 ≤ k ∧ k ≤ b + 35) → σ1 k j = σ k j := by
  have t5 := hw.1.2.2
  have t1 := hw.1.2.1
  have f1 : F_X2_clear (b + 28) 50 σ = _ := f_clear (by omega)
  obtain ⟨m, em⟩ : ∃ m, m = setS σ (b + 28 + 1) 0 50 (fun _ => iN 0) := ⟨_, rfl⟩
  rw [← em] at f1
  have r1 : Rel (b + 1) s m := by rw [em]; exact hr.st (by omega)
  obtain ⟨σ1, c1, c2, c3⟩ := f_meas17 (b := b) hw (tbS s) FU (iN (tbS s - 1)) m (by omega) (by unfold FU; omega) (fun h => by omega) (fun t h => by rw [h]; rfl) r1 (fun t h1 h2 => by omega) (fun t w l h1 h2 h3 => by rw [em, setS_in (by omega) (by omega)])
  refine ⟨σ1, ?_, r1.fr (fun k h1 h2 => funext (fun j => c3 k j (by omega))), c2, fun k j hk => ?_⟩
  · unfold F_X1_measure
    rw [invM_l f1, gM_ap]
    have e1 : m (b + 1) 1 = iN (tbS s) := r1.1.trans hw.1.1
    rw [e1, bI_ap]
    rw [show iN (tbS s) - 1 = iN (tbS s) - iN 1 from rfl, iN_sub (by omega)]
    exact c1
  · rw [c3 k j hk, em, setS_o (by omega)]

