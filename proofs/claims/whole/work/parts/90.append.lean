/-! APPEND, CLEARBUFFER, AND THE START -/
theorem LD.fr2 {σ σ1 : Mm} (h : LD σ) (h9 : σ1 169 = σ 169) (h12 : σ1 168 12 = σ 168 12) (hf : ∀ k j, 174 ≤ k → k ≤ 183 → σ1 k j = σ k j) : LD σ1 := by
  unfold LD
  rw [now_fr h9, h12]
  rcases h with g | ⟨g1, g2⟩
  · exact .inl g
  · exact .inr ⟨g1, fun t ht => (g2 t ht).fr (fun k j hk => hf k j (by unfold PM at hk; omega) (by unfold PM at hk; omega))⟩
/-- a change of the buffers alone -/
theorem II_tx {σ σ1 : Mm} (h : II σ) (hf : ∀ k j, (k ≤ 36 ∨ (73 ≤ k ∧ k ≤ 164) ∨ (k = 168 ∧ (j = 3 ∨ j = 12)) ∨ k = 169 ∨ k = 171 ∨ (174 ≤ k ∧ k ≤ 183)) → σ1 k j = σ k j) (ht : TX σ1) : II σ1 := by
  have h9 : σ1 169 = σ 169 := funext (fun j => hf 169 j (by omega))
  obtain ⟨n, o, P, hn, ho, hc, hir⟩ := HI_cr h.2.1
  refine ⟨?_, HI_of hn ho (hc.fr (fun k h1 h2 => funext (fun j => hf k j (by omega)))) (hir.fr (hf _ _ (by omega)) (funext (fun j => hf _ _ (by omega)))), ht, h.2.2.2.fr2 h9 (hf _ _ (by omega)) (fun k j h1 h2 => hf k j (by omega))⟩
  rw [now_fr h9]
  exact h.1.fr (fun k hk => funext (fun j => hf k j (by omega)))
theorem st_append (p0 : Int32) : StW II cs_append (F_X5_append p0) (F_X6_append p0) := by
  intro σ h
  obtain ⟨L, hL, e1, e2, e3⟩ := h.2.2.1
  unfold F_X6_append
  have fb := f_requireBetween (p := p0) (lo := iN 33) (hi := iN 126) (σ := σ)
  have fi := r_in (p := p0) (lo := iN 33) (hi := iN 126) (σ := upM σ 168 6 (iN 0))
  cases eb : btw p0 (iN 33) (iN 126)
  · rw [eb, if_neg (by decide)] at fb fi
    refine st_er (e := 2) (c := 1) h ?_ ?_ rfl
    · unfold F_X5_append
      exact invM_r fb
    · simp (disch := omega) only [↓ite_ap, if_true, if_false, if_pos, if_neg, retM_ap, retZ_ap0, retZ_ap1, gM_ap, sM_ap, jM_ap, bI_ap, bL_ap, bD_ap, rdM_ap, wrM_ap, thrM_ap, nl_0, nl_1, nl_33, nl_126, iN_eq, ↓invM_l fi, b_fails]
  · rw [eb, if_pos rfl] at fb fi
    obtain ⟨c, ec, hc1, hc2⟩ := btw_nat (by omega) (by omega) eb
    by_cases h60 : L < 60
    · obtain ⟨σ1, h1⟩ : ∃ σ1, σ1 = upM (upM σ 167 L p0) 165 1 (iN (L + 1)) := ⟨_, rfl⟩
      have e51 : upM σ 167 L p0 165 1 = iN L := by rw [upM_o (by omega)]; exact e1
      have e52 : σ1 165 1 = iN (L + 1) := by rw [h1, upM_at]
      have e65 : mO σ1 (iN (L + 1)) 168 5 = iN L := by rw [mO_q (by omega), h1, upM_o (by omega), upM_o (by omega)]; exact e2
      have e66 : upM (mO σ1 (iN (L + 1))) 172 L p0 168 5 = iN L := by rw [upM_o (by omega)]; exact e65
      obtain ⟨m, hm⟩ : ∃ m, m = upM (upM (mO σ1 (iN (L + 1))) 172 L p0) 168 5 (iN (L + 1)) := ⟨_, rfl⟩
      have fi7 := r_in (p := p0) (lo := iN 33) (hi := iN 126) (σ := mO σ1 (iN (L + 1)))
      rw [eb, if_pos rfl] at fi7
      have e67 : m 168 5 = iN (L + 1) := by rw [hm, upM_at]
      refine st_ok (r := iN (L + 1)) (σ1 := σ1) (σ3 := m) ?_ ?_ (II_tx h (fun k j g => ?_) ⟨L + 1, by omega, ?_, ?_, fun j hj => ?_⟩) ?_ ?_
      · unfold F_X5_append
        refine (invM_l fb).trans ?_
        unfold F_X3_add
        have fst : F_X2_store 166 60 (iN L) p0 σ = some (.inl (), upM σ 167 L p0) := f_store h60 (by omega)
        have fadd : (gM (fun σ => σ 165 1) fun x1 => invM (F_X2_store 166 60 x1 p0) fun _ => gM (fun σ => σ 165 1) fun x2 => sM 165 1 (x2 + (1 : Int32)) <| retM () : Dm Unit) σ = some (.inl (), σ1) := by
          simp (disch := omega) only [↓ite_ap, if_true, if_false, if_pos, if_neg, retM_ap, retZ_ap0, retZ_ap1, gM_np, sM_ap, jM_np, bI_ap, bL_ap, bD_ap, rdM_ap, wrM_ap, thrM_ap, nl_0, nl_1, nl_2, nl_3, nl_4, nl_5, nl_6, nl_7, nl_8, nl_9, nl_10, nl_11, nl_12, nl_13, nl_25, nl_33, nl_35, nl_45, nl_48, nl_49, nl_50, nl_52, nl_53, nl_57, nl_59, nl_60, nl_61, nl_77, nl_94, nl_97, nl_100, nl_101, nl_119, nl_125, nl_126, nl_137, nl_262, nl_387, nl_500, nl_512, nl_637, nl_999, nl_1022, nl_1137, nl_5685, nm_1b, iN_mI, mI_iN, iN_add, iN_mul, iN_sub, iN_div, iN_rem, iN_lt, iN_le, iN_eq, iN_nat, inB_iN, e1, ↓invM_l fst, e51, ← h1]
        simp (disch := omega) only [↓ite_ap, if_true, if_false, if_pos, if_neg, retM_ap, retZ_ap0, retZ_ap1, gM_np, sM_ap, jM_np, bI_ap, bL_ap, bD_ap, rdM_ap, wrM_ap, thrM_ap, nl_60, iN_lt, e1, ↓invM_l fadd, e52]
      · show (invM (F_X6_in p0 33 126) _) (mO σ1 (iN (L + 1))) = _
        refine (invM_l fi7).trans ?_
        simp (disch := omega) only [↓ite_ap, if_true, if_false, if_pos, if_neg, retM_ap, retZ_ap0, retZ_ap1, gM_np, sM_ap, jM_np, bI_ap, bL_ap, bD_ap, rdM_ap, wrM_ap, thrM_ap, nl_0, nl_1, nl_2, nl_3, nl_4, nl_5, nl_6, nl_7, nl_8, nl_9, nl_10, nl_11, nl_12, nl_13, nl_25, nl_33, nl_35, nl_45, nl_48, nl_49, nl_50, nl_52, nl_53, nl_57, nl_59, nl_60, nl_61, nl_77, nl_94, nl_97, nl_100, nl_101, nl_119, nl_125, nl_126, nl_137, nl_262, nl_387, nl_500, nl_512, nl_637, nl_999, nl_1022, nl_1137, nl_5685, nm_1b, iN_mI, mI_iN, iN_add, iN_mul, iN_sub, iN_div, iN_rem, iN_lt, iN_le, iN_eq, iN_nat, inB_iN, e65, e66, ← hm, e67]
      · rw [hm, upM_q (by omega), upM_q (by omega), mO_q (by omega), h1, upM_q (by omega), upM_q (by omega)]
      · rw [hm, upM_q (by omega), upM_q (by omega), mO_q (by omega)]
        exact e52
      · exact e67
      · have a1 : m 172 j = if j = L then p0 else σ 172 j := by
          rw [hm, upM_q (by omega)]
          by_cases e : j = L
          · rw [if_pos e, e, upM_at]
          · rw [if_neg e, upM_ni e, mO_q (by omega), h1, upM_q (by omega), upM_q (by omega)]
        have a2 : m 167 j = if j = L then p0 else σ 167 j := by
          rw [hm, upM_q (by omega), upM_q (by omega), mO_q (by omega), h1, upM_q (by omega)]
          by_cases e : j = L
          · rw [if_pos e, e, upM_at]
          · rw [if_neg e, upM_ni e]
        rw [a1, a2]
        by_cases e : j = L
        · rw [if_pos e, if_pos e]
          exact ⟨rfl, c, ec, hc1, hc2⟩
        · rw [if_neg e, if_neg e]
          exact e3 j (by omega)
      · rw [hm, upM_q (by omega), upM_q (by omega)]
        exact mO_6
      · rw [hm, upM_q (by omega), upM_q (by omega)]
        exact mO_r
    · have eL : L = 60 := by omega
      have e25 : upM σ 168 6 (iN 0) 168 5 = iN 60 := by rw [upM_ni (by omega), e2, eL]
      rw [eL] at e1
      refine st_er (e := 3) (c := 2) h ?_ ?_ rfl
      · unfold F_X5_append
        refine (invM_l fb).trans ?_
        simp (disch := omega) only [↓ite_ap, if_true, if_false, if_pos, if_neg, retM_ap, retZ_ap0, retZ_ap1, gM_np, sM_ap, jM_np, bI_ap, bL_ap, bD_ap, rdM_ap, wrM_ap, thrM_ap, nl_60, iN_lt, e1]
      · simp (disch := omega) only [↓ite_ap, if_true, if_false, if_pos, if_neg, retM_ap, retZ_ap0, retZ_ap1, gM_np, sM_ap, jM_np, bI_ap, bL_ap, bD_ap, rdM_ap, wrM_ap, thrM_ap, nl_0, nl_1, nl_2, nl_33, nl_60, nl_126, iN_eq, ↓invM_l fi, e25, b_fails]
theorem st_clear : StP (fun _ => True) II F_X5_clearBuffer F_X6_clearBuffer := by
  intro σ h
  obtain ⟨L, hL, e1, e2, e3⟩ := h.2.2.1
  refine ⟨iN L, upM σ 165 1 (iN 0), ?_, upM (upM (upM σ 165 1 (iN 0)) 168 6 (iN 0)) 168 5 (iN 0), ?_, II_tx h (fun k j g => by rw [upM_q (by omega), upM_q (by omega), upM_q (by omega)]) ⟨0, by omega, by rw [upM_q (by omega), upM_q (by omega), upM_at], upM_at, fun j hj => by omega⟩, trivial⟩
  · unfold F_X5_clearBuffer
    simp (disch := omega) only [↓ite_ap, if_true, if_false, if_pos, if_neg, retM_ap, retZ_ap0, retZ_ap1, gM_np, sM_ap, jM_np, bI_ap, bL_ap, bD_ap, rdM_ap, wrM_ap, thrM_ap, nl_0, e1]
  · have e25 : upM (upM σ 165 1 (iN 0)) 168 6 (iN 0) 168 5 = iN L := by rw [upM_q (by omega), upM_q (by omega)]; exact e2
    unfold F_X6_clearBuffer
    simp (disch := omega) only [↓ite_ap, if_true, if_false, if_pos, if_neg, retM_ap, retZ_ap0, retZ_ap1, gM_np, sM_ap, jM_np, bI_ap, bL_ap, bD_ap, rdM_ap, wrM_ap, thrM_ap, nl_0, e25]
/-- the start -/
theorem law_init : LawInit II := by
  obtain ⟨m0, e0⟩ : ∃ m0 : Mm, m0 = upM (upM (upM (upM (upM (upM (upM (upM (fun _ _ => 0) 2 0 (10 : Int32)) 38 0 (10 : Int32)) 75 0 (10 : Int32)) 90 0 (10 : Int32)) 105 0 (10 : Int32)) 120 0 (10 : Int32)) 135 0 (10 : Int32)) 150 0 (10 : Int32) := ⟨_, rfl⟩
  obtain ⟨s, hs⟩ : ∃ s : Sv, s = upS (fun _ => iN 0) 1 (iN 10) := ⟨_, rfl⟩
  have s1 : s 1 = iN 10 := by rw [hs, up_at]
  have e20 : m0 2 0 = s 1 := by
    rw [s1, e0, upM_o (by omega), upM_o (by omega), upM_o (by omega), upM_o (by omega), upM_o (by omega), upM_o (by omega), upM_o (by omega), upM_at]
    rfl
  have z : ∀ k, 76 ≤ k → k ≠ 90 → k ≠ 105 → k ≠ 120 → k ≠ 135 → k ≠ 150 → m0 k = fun _ => iN 0 := fun k h1 h2 h3 h4 h5 h6 => by
    rw [e0, upM_o (by omega), upM_o (by omega), upM_o (by omega), upM_o (by omega), upM_o (by omega), upM_o (by omega), upM_o (by omega), upM_o (by omega)]
    rfl
  have z73 : m0 73 = fun _ => iN 0 := by
    rw [e0, upM_o (by omega), upM_o (by omega), upM_o (by omega), upM_o (by omega), upM_o (by omega), upM_o (by omega), upM_o (by omega), upM_o (by omega)]
    rfl
  have hh : ∃ h, s 1 = iN h ∧ 1 ≤ h ∧ h ≤ 60 := ⟨10, s1, by omega, by omega⟩
  obtain ⟨σa, a1, a2, a3⟩ := f_startAnew (b := 2) (hi := 3) (br := 3) hh e20 (by omega) (by omega) (by omega) (by omega)
  have hw := bg_WF (hi := 3) (br := 3) hh (by omega) (by omega) (by omega) (by omega)
  obtain ⟨σb, b1, b2, b3, b4⟩ := f_measure (b := 1) hw a2
  have fb : ∀ k, 37 ≤ k → σb k = m0 k := fun k hk => by
    rw [show σb k = σa k from funext (fun j => b4 k j (by omega)), a3 k (by omega)]
  have zb : ∀ k, 168 ≤ k → σb k = fun _ => iN 0 := fun k hk => by rw [fb k (by omega), z k (by omega) (by omega) (by omega) (by omega) (by omega) (by omega)]
  obtain ⟨m1, e1⟩ : ∃ m1, m1 = upM σb 169 1 (iN 10) := ⟨_, rfl⟩
  have c1 := r_begins (σ := m1) (hi := 3) (br := 3)
  obtain ⟨σc, e2⟩ : ∃ σc, σc = setR m1 169 (bgS (m1 169) 3 3) := ⟨_, rfl⟩
  rw [← e2] at c1
  have m169 : ∀ j, j < 1137 → m1 169 j = s j := fun j _ => by
    rw [hs]
    by_cases e : j = 1
    · rw [e, e1, upM_at, up_at]
    · rw [e1, upM_ni e, zb 169 (by omega), up_o e]
  have hv : Vw 169 (bgS s 3 3) σc := by rw [e2]; exact setR_vw (bg_congr m169)
  have hz : ∀ j, 1137 ≤ j → bgS s 3 3 j = iN 0 := fun j hj => nw_z (by omega) (fun j hj => by rw [up_o (by omega), hs, up_o (by omega)]) hj
  have ev : nowS σc = bgS s 3 3 := now_eq hv hz
  have fc : ∀ k, k ≠ 169 → σc k = σb k := fun k hk => by rw [e2, setR_o hk, e1, upM_o hk]
  refine ⟨σa, σb, σc, ?_, b1, ?_, ?_, ?_, ?_, ?_, ?_, ?_⟩
  · rw [← e0]
    exact a1
  · intro k hk
    rw [zb k hk]
    rfl
  · rw [show (Int32.toNatClampNeg (1 : Int32)) = 1 from rfl, show (10 : Int32) = iN 10 from nl_10, ← e1]
    exact c1
  · rw [fc 185 (by omega), zb 185 (by omega)]
    rfl
  · rw [ev]
    exact CO.fr ⟨hw, b2, b3⟩ (fun k hk => fc k (by omega))
  · refine ⟨0, 0, by omega, by omega, ?_, ?_, ?_, fun i hi => by omega⟩
    · rw [fc 73 (by omega), fb 73 (by omega), z73]
    · rw [fc 73 (by omega), fb 73 (by omega), z73]
    · rw [fc 168 (by omega), zb 168 (by omega)]
  · refine ⟨0, by omega, ?_, ?_, fun j hj => by omega⟩
    · rw [fc 165 (by omega), fb 165 (by omega), z 165 (by omega) (by omega) (by omega) (by omega) (by omega) (by omega)]
    · rw [fc 168 (by omega), zb 168 (by omega)]
  · exact .inl (by rw [fc 168 (by omega), zb 168 (by omega)])
