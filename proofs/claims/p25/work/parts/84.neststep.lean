/-! NEST, AS A STEP -/
theorem f_addTable {b q hi br : Nat} {s : Sv} {σ : Mm} (hw : WF s) (hr : Rel b s σ) (hq : isCl s q) (h0 : kiS s q = 0) (ht : tbS s < 5) (a1 : 1 ≤ hi) (a5 : hi ≤ 5) (a2 : 1 ≤ br) (a6 : br ≤ 5) : ∃ σ1, F_X4_addTable b (iN q) (iN hi) (iN br) σ = some (.inl (iN (tbS s)), σ1) ∧ Rel b (nwS (neS s q) (tbS s) hi br) σ1 ∧ ∀ k, ¬ (b ≤ k ∧ k ≤ b + 14) → σ1 k = σ k := by
  have hq5 := isOf_lt hw hq.1
  have t1 := hw.1.2.1
  have e1 : σ b 1 = iN (tbS s) := hr.1.trans hw.1.1
  have hb := ne_b hw hq h0 ht
  obtain ⟨m0, e0⟩ : ∃ m, m = upM (upM σ (b + 8) q (iN 3)) (b + 10) q (iN (tbS s)) := ⟨_, rfl⟩
  have hR : RelT b (neS s q) (tbS s) m0 := by rw [e0]; exact ne_R hw hr hq h0
  obtain ⟨σ1, c1, c2, c3⟩ := f_layOut (x := iN q) hb hR a1 a5 a2 a6 (fun g => by omega) (fun _ => ⟨q, rfl, (ne_cl hw hq5).mpr hq, by rw [ne_ki hq5, if_pos rfl], by rw [ne_nu hq5, if_pos rfl, nv_iN (by omega)]⟩)
  refine ⟨σ1, ?_, c2, fun k hk => by rw [c3 k hk, e0, upM_o (by omega), upM_o (by omega)]⟩
  unfold F_X4_addTable
  simp (disch := omega) only [↓ite_ap, if_true, if_false, if_pos, if_neg, retM_ap, retZ_ap0, retZ_ap1, gM_np, sM_ap, jM_np, bI_ap, bL_ap, bD_ap, rdM_ap, wrM_ap, thrM_ap, nl_0, nl_1, nl_2, nl_3, nl_4, nl_5, nl_6, nl_7, nl_8, nl_9, nl_10, nl_11, nl_12, nl_13, nl_25, nl_33, nl_35, nl_45, nl_48, nl_49, nl_50, nl_52, nl_53, nl_57, nl_59, nl_60, nl_61, nl_77, nl_94, nl_97, nl_100, nl_101, nl_119, nl_125, nl_126, nl_137, nl_262, nl_387, nl_500, nl_512, nl_637, nl_999, nl_1022, nl_1137, nl_5685, nm_1b, iN_mI, mI_iN, iN_add, iN_mul, iN_sub, iN_div, iN_rem, iN_lt, iN_le, iN_eq, iN_nat, inB_iN, ↓b_at, ↓b_store, ↓b_place1, ↓b_place0, ↓b_tableOf, ↓b_sqEnd, ↓b_isCell, Nat.add_assoc, Nat.reduceAdd, e1, ← e0, ↓invM_l c1]
/-! undo -/
