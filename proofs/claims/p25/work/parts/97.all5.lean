/-! ALL THAT THE LAW ASKS -/
theorem law_steps5 : LawSteps I5 := by
  refine ⟨fun σ h => ?_, fun σ h => ?_, fun σ h => ?_, fun σ h => s5_undo h, fun x y σ h => s5_begin h (low_btw x nl_5 rfl (by omega) (by omega)) (low_btw y nl_5 rfl (by omega) (by omega)), fun x σ h => s5_set h (low_btw x nl_60 rfl (by omega) (by omega)), fun a b c d σ h => s5_act h a b c d⟩
  · obtain ⟨s, hco, _⟩ := h
    have t1 := hco.1.1.2.1
    exact ⟨⟨_, f_count (k := 12) hco (by omega)⟩, ⟨_, f_count (k := 1) hco (by omega)⟩, ⟨_, g_table hco (t := 0) (k := 2) (by omega) (by omega)⟩⟩
  · obtain ⟨s, hco, _⟩ := h
    exact l_pages hco
  · obtain ⟨s, hco, _⟩ := h
    exact l_tables hco
