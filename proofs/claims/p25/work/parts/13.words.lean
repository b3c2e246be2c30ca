theorem fl_X2_13 : FL RX2 13 2 0 := ⟨RX2, TX2, 1, rfl, by decide, inGW_2, Or.inl gw_45⟩
theorem fl_X4_42 : FL RX4 42 4 1 := ⟨RX4, TX4, 9, rfl, by decide, inGW_4, Or.inl gw_52⟩
theorem fl_X4_27 : FL RX4 27 4 4 := ⟨RX4, TX4, 9, rfl, by decide, inGW_4, Or.inl gw_58⟩
theorem fl_X4_30 : FL RX4 30 4 5 := ⟨RX4, TX4, 9, rfl, by decide, inGW_4, Or.inl gw_60⟩
theorem fl_X4_33 : FL RX4 33 4 6 := ⟨RX4, TX4, 9, rfl, by decide, inGW_4, Or.inl gw_63⟩
theorem fl_X4_36 : FL RX4 36 4 7 := ⟨RX4, TX4, 9, rfl, by decide, inGW_4, Or.inl gw_65⟩
theorem fl_X4_39 : FL RX4 39 4 8 := ⟨RX4, TX4, 9, rfl, by decide, inGW_4, Or.inl gw_67⟩
theorem fw_X4_42 : FW RX4 42 4 1 .int := ⟨RX4, TX4, 9, tyX4, rfl, by decide, inGW_4, Or.inl gw_52, tyX4_ok, nmX4, rfl, tyX4_ok 1 (by decide)⟩
theorem fl_X4_20 : FL RX4 20 4 2 := ⟨RX4, TX4, 9, rfl, by decide, inGW_4, Or.inl gw_55⟩
theorem fl_X4_24 : FL RX4 24 4 3 := ⟨RX4, TX4, 9, rfl, by decide, inGW_4, Or.inl gw_56⟩
theorem nm_X4_64 : (RX4, 64, yX5_placeOf, "NestedSums") ∈ nestM := List.mem_of_getElem? (i := 4) rfl
theorem fl_X1_12 : FL RX1 12 1 0 := ⟨RX1, TX1, 11, rfl, by decide, inGW_1, Or.inl gw_91⟩
theorem fl_X1_107 : FL RX1 107 4 5 := ⟨RX4, TX4, 9, rfl, by decide, inGW_4, Or.inr ⟨"NestedSums", List.mem_of_getElem? (i := 6) rfl⟩⟩
theorem fl_X1_110 : FL RX1 110 4 6 := ⟨RX4, TX4, 9, rfl, by decide, inGW_4, Or.inr ⟨"NestedSums", List.mem_of_getElem? (i := 7) rfl⟩⟩
theorem fl_X1_51 : FL RX1 51 1 10 := ⟨RX1, TX1, 11, rfl, by decide, inGW_1, Or.inl gw_109⟩
theorem fl_X1_23 : FL RX1 23 1 1 := ⟨RX1, TX1, 11, rfl, by decide, inGW_1, Or.inl gw_93⟩
theorem nm_X1_129 : (RX1, 129, yX5_placeOf, "NestedSums") ∈ nestM := List.mem_of_getElem? (i := 7) rfl
theorem fl_X1_30 : FL RX1 30 1 3 := ⟨RX1, TX1, 11, rfl, by decide, inGW_1, Or.inl gw_97⟩
theorem fl_X1_138 : FL RX1 138 4 7 := ⟨RX4, TX4, 9, rfl, by decide, inGW_4, Or.inr ⟨"NestedSums", List.mem_of_getElem? (i := 8) rfl⟩⟩
theorem nm_X1_122 : (RX1, 122, yX5_tableOf, "NestedSums") ∈ nestM := List.mem_of_getElem? (i := 6) rfl
theorem fl_X1_27 : FL RX1 27 1 2 := ⟨RX1, TX1, 11, rfl, by decide, inGW_1, Or.inl gw_95⟩
theorem nm_X1_113 : (RX1, 113, yX5_isSum, "NestedSums") ∈ nestM := List.mem_of_getElem? (i := 5) rfl
theorem fl_X1_39 : FL RX1 39 1 6 := ⟨RX1, TX1, 11, rfl, by decide, inGW_1, Or.inl gw_102⟩
theorem fl_X1_36 : FL RX1 36 1 5 := ⟨RX1, TX1, 11, rfl, by decide, inGW_1, Or.inl gw_100⟩
theorem fl_X1_147 : FL RX1 147 4 8 := ⟨RX4, TX4, 9, rfl, by decide, inGW_4, Or.inr ⟨"NestedSums", List.mem_of_getElem? (i := 10) rfl⟩⟩
theorem nm_X4_79 : (RX4, 79, yX5_isBetween, "NestedSums") ∈ nestM := List.mem_of_getElem? (i := 8) rfl
theorem nm_X4_83 : (RX4, 83, yX5_tableOf, "NestedSums") ∈ nestM := List.mem_of_getElem? (i := 9) rfl
theorem fl_X1_158 : FL RX1 158 4 4 := ⟨RX4, TX4, 9, rfl, by decide, inGW_4, Or.inr ⟨"NestedSums", List.mem_of_getElem? (i := 4) rfl⟩⟩
theorem nm_X1_167 : (RX1, 167, yX5_signsOf, "NestedSums") ∈ nestM := List.mem_of_getElem? (i := 10) rfl
theorem fl_X1_48 : FL RX1 48 1 9 := ⟨RX1, TX1, 11, rfl, by decide, inGW_1, Or.inl gw_107⟩
theorem fl_X1_33 : FL RX1 33 1 4 := ⟨RX1, TX1, 11, rfl, by decide, inGW_1, Or.inl gw_98⟩
theorem fl_X1_42 : FL RX1 42 1 7 := ⟨RX1, TX1, 11, rfl, by decide, inGW_1, Or.inl gw_104⟩
theorem fl_X1_45 : FL RX1 45 1 8 := ⟨RX1, TX1, 11, rfl, by decide, inGW_1, Or.inl gw_105⟩
theorem fl_X1_65 : FL RX1 65 4 1 := ⟨RX4, TX4, 9, rfl, by decide, inGW_4, Or.inr ⟨"NestedSums", List.mem_of_getElem? (i := 2) rfl⟩⟩
theorem at_X5_88 : ∀ w ∈ vx_at0 RX5 88 "java/lang/IllegalArgumentException" ["java/lang/RuntimeException", "java/lang/Exception"], w ∈ GW ∨ w ∈ xwL := by
  have h1 : ∀ w ∈ vx_at0 RX5 88 "java/lang/IllegalArgumentException" ["java/lang/RuntimeException", "java/lang/Exception"], (w ∈ tables_1 ∧ goodWord w = true) ∨ (w ∈ lw_tbl ∧ goodWord w = true) ∨ w ∈ xwL := by decide +kernel
  intro w hw
  rcases h1 w hw with h | h | h
  · exact Or.inl (List.mem_filter.mpr ⟨List.mem_append_right _ h.1, h.2⟩)
  · exact Or.inl (List.mem_filter.mpr h)
  · exact Or.inr h
theorem fl_X0_22 : FL RX0 22 0 1 := ⟨RX0, TX0, 3, rfl, by decide, inGW_0, Or.inl gw_144⟩
theorem fl_X0_11 : FL RX0 11 0 0 := ⟨RX0, TX0, 3, rfl, by decide, inGW_0, Or.inl gw_143⟩
theorem fl_X4_9 : FL RX4 9 4 0 := ⟨RX4, TX4, 9, rfl, by decide, inGW_4, Or.inl gw_50⟩
theorem fw_X4_9 : FW RX4 9 4 0 .int := ⟨RX4, TX4, 9, tyX4, rfl, by decide, inGW_4, Or.inl gw_50, tyX4_ok, nmX4, rfl, tyX4_ok 0 (by decide)⟩
theorem fl_X0_18 : FL RX0 18 0 2 := ⟨RX0, TX0, 3, rfl, by decide, inGW_0, Or.inl gw_145⟩
theorem fw_X0_18 : FW RX0 18 0 2 .int := ⟨RX0, TX0, 3, tyX0, rfl, by decide, inGW_0, Or.inl gw_145, tyX0_ok, nmX0, rfl, tyX0_ok 2 (by decide)⟩
theorem fw_X0_22 : FW RX0 22 0 1 .int := ⟨RX0, TX0, 3, tyX0, rfl, by decide, inGW_0, Or.inl gw_144, tyX0_ok, nmX0, rfl, tyX0_ok 1 (by decide)⟩
theorem fl_X5_27 : FL RX5 27 5 3 := ⟨RX5, TX5, 5, rfl, by decide, inGW_5, Or.inl gw_324⟩
theorem fl_X5_20 : FL RX5 20 5 1 := ⟨RX5, TX5, 5, rfl, by decide, inGW_5, Or.inl gw_322⟩
theorem fl_X5_12 : FL RX5 12 5 0 := ⟨RX5, TX5, 5, rfl, by decide, inGW_5, Or.inl gw_321⟩
theorem at_X5_104 : ∀ w ∈ vx_at0 RX5 104 "java/lang/IndexOutOfBoundsException" ["java/lang/RuntimeException", "java/lang/Exception"], w ∈ GW ∨ w ∈ xwL := by
  have h1 : ∀ w ∈ vx_at0 RX5 104 "java/lang/IndexOutOfBoundsException" ["java/lang/RuntimeException", "java/lang/Exception"], (w ∈ tables_1 ∧ goodWord w = true) ∨ (w ∈ lw_tbl ∧ goodWord w = true) ∨ w ∈ xwL := by decide +kernel
  intro w hw
  rcases h1 w hw with h | h | h
  · exact Or.inl (List.mem_filter.mpr ⟨List.mem_append_right _ h.1, h.2⟩)
  · exact Or.inl (List.mem_filter.mpr h)
  · exact Or.inr h
theorem at_X5_78 : ∀ w ∈ vx_at0 RX5 78 "java/lang/IllegalStateException" ["java/lang/RuntimeException", "java/lang/Exception"], w ∈ GW ∨ w ∈ xwL := by
  have h1 : ∀ w ∈ vx_at0 RX5 78 "java/lang/IllegalStateException" ["java/lang/RuntimeException", "java/lang/Exception"], (w ∈ tables_1 ∧ goodWord w = true) ∨ (w ∈ lw_tbl ∧ goodWord w = true) ∨ w ∈ xwL := by decide +kernel
  intro w hw
  rcases h1 w hw with h | h | h
  · exact Or.inl (List.mem_filter.mpr ⟨List.mem_append_right _ h.1, h.2⟩)
  · exact Or.inl (List.mem_filter.mpr h)
  · exact Or.inr h
theorem fl_X5_62 : FL RX5 62 4 5 := ⟨RX4, TX4, 9, rfl, by decide, inGW_4, Or.inr ⟨"NestedSums", List.mem_of_getElem? (i := 5) rfl⟩⟩
theorem fl_X5_72 : FL RX5 72 4 1 := ⟨RX4, TX4, 9, rfl, by decide, inGW_4, Or.inr ⟨"NestedSums", List.mem_of_getElem? (i := 1) rfl⟩⟩
theorem fl_X5_115 : FL RX5 115 4 8 := ⟨RX4, TX4, 9, rfl, by decide, inGW_4, Or.inr ⟨"NestedSums", List.mem_of_getElem? (i := 9) rfl⟩⟩
theorem fl_X5_121 : FL RX5 121 4 0 := ⟨RX4, TX4, 9, rfl, by decide, inGW_4, Or.inr ⟨"NestedSums", List.mem_of_getElem? (i := 0) rfl⟩⟩
theorem fw_X5_121 : FW RX5 121 4 0 .int := ⟨RX4, TX4, 9, tyX4, rfl, by decide, inGW_4, Or.inr ⟨"NestedSums", List.mem_of_getElem? (i := 0) rfl⟩, tyX4_ok, nmX4, rfl, tyX4_ok 0 (by decide)⟩
theorem fl_X5_145 : FL RX5 145 0 2 := ⟨RX0, TX0, 3, rfl, by decide, inGW_0, Or.inr ⟨"NestedSums", List.mem_of_getElem? (i := 20) rfl⟩⟩
theorem fl_X5_250 : FL RX5 250 1 1 := ⟨RX1, TX1, 11, rfl, by decide, inGW_1, Or.inr ⟨"NestedSums", List.mem_of_getElem? (i := 12) rfl⟩⟩
theorem fl_X5_253 : FL RX5 253 1 2 := ⟨RX1, TX1, 11, rfl, by decide, inGW_1, Or.inr ⟨"NestedSums", List.mem_of_getElem? (i := 13) rfl⟩⟩
theorem fl_X5_259 : FL RX5 259 1 4 := ⟨RX1, TX1, 11, rfl, by decide, inGW_1, Or.inr ⟨"NestedSums", List.mem_of_getElem? (i := 14) rfl⟩⟩
theorem fl_X5_265 : FL RX5 265 1 5 := ⟨RX1, TX1, 11, rfl, by decide, inGW_1, Or.inr ⟨"NestedSums", List.mem_of_getElem? (i := 15) rfl⟩⟩
theorem fl_X5_155 : FL RX5 155 1 6 := ⟨RX1, TX1, 11, rfl, by decide, inGW_1, Or.inr ⟨"NestedSums", List.mem_of_getElem? (i := 16) rfl⟩⟩
theorem fl_X5_266 : FL RX5 266 1 10 := ⟨RX1, TX1, 11, rfl, by decide, inGW_1, Or.inr ⟨"NestedSums", List.mem_of_getElem? (i := 19) rfl⟩⟩
theorem fl_X5_269 : FL RX5 269 1 9 := ⟨RX1, TX1, 11, rfl, by decide, inGW_1, Or.inr ⟨"NestedSums", List.mem_of_getElem? (i := 18) rfl⟩⟩
theorem fl_X5_272 : FL RX5 272 1 8 := ⟨RX1, TX1, 11, rfl, by decide, inGW_1, Or.inr ⟨"NestedSums", List.mem_of_getElem? (i := 17) rfl⟩⟩
theorem fl_X5_275 : FL RX5 275 4 3 := ⟨RX4, TX4, 9, rfl, by decide, inGW_4, Or.inr ⟨"NestedSums", List.mem_of_getElem? (i := 3) rfl⟩⟩
theorem k_X2_store : Cal yX2_store cX2_store 3 none 2 ∧ Cond.instanceMethod yX2_store ∈ GW ∧ Cond.selects yX2_store.cls yX2_store yX2_store ∈ GW ∧ 3 ≤ 25 := ⟨⟨gw_179, gw_4, ⟨by decide, by decide⟩, by decide +kernel, by decide +kernel⟩, gw_177, gw_178, by decide⟩
theorem k_X4_squaresEnd : Cal yX4_squaresEnd cX4_squaresEnd 1 (some .int) 0 ∧ Cond.instanceMethod yX4_squaresEnd ∈ GW ∧ Cond.selects yX4_squaresEnd.cls yX4_squaresEnd yX4_squaresEnd ∈ GW ∧ 1 ≤ 25 := ⟨⟨gw_183, gw_3, ⟨by decide, by decide⟩, by decide +kernel, by decide +kernel⟩, gw_181, gw_182, by decide⟩
theorem k_X4_makeEmpty : Cal yX4_makeEmpty cX4_makeEmpty 3 none 1 ∧ Cond.instanceMethod yX4_makeEmpty ∈ GW ∧ Cond.selects yX4_makeEmpty.cls yX4_makeEmpty yX4_makeEmpty ∈ GW ∧ 3 ≤ 25 := ⟨⟨gw_187, gw_3, ⟨by decide, by decide⟩, by decide +kernel, by decide +kernel⟩, gw_186, gwp_1, by decide⟩
theorem k_X5_placeOf : Cal yX5_placeOf cX5_placeOf 2 (some .int) 2 ∧ Cond.static yX5_placeOf ∈ GW ∧ 2 ≤ 25 := ⟨⟨gw_190, gw_1, ⟨by decide, by decide⟩, by decide +kernel, by decide +kernel⟩, gw_189, by decide⟩
theorem k_X4_layOut : Cal yX4_layOut cX4_layOut 6 none 3 ∧ Cond.instanceMethod yX4_layOut ∈ GW ∧ Cond.selects yX4_layOut.cls yX4_layOut yX4_layOut ∈ GW ∧ 6 ≤ 25 := ⟨⟨gw_175, gw_3, ⟨by decide, by decide⟩, by decide +kernel, by decide +kernel⟩, gw_174, gwp_0, by decide⟩
theorem k_X4_startAnew : Cal yX4_startAnew cX4_startAnew 3 none 2 ∧ Cond.instanceMethod yX4_startAnew ∈ GW ∧ Cond.selects yX4_startAnew.cls yX4_startAnew yX4_startAnew ∈ GW ∧ 3 ≤ 25 := ⟨⟨gw_171, gw_3, ⟨by decide, by decide⟩, by decide +kernel, by decide +kernel⟩, gw_169, gw_170, by decide⟩
theorem k_J7_fill_53178 : Cal yJ7_fill_53178 cJ7_fill_53178 4 none 2 ∧ Cond.static yJ7_fill_53178 ∈ GW ∧ 4 ≤ 25 := ⟨⟨gw_201, gw_8, ⟨by decide, by decide⟩, by decide +kernel, by decide +kernel⟩, gw_200, by decide⟩
theorem k_X2_clear : Cal yX2_clear cX2_clear 1 none 0 ∧ Cond.instanceMethod yX2_clear ∈ GW ∧ Cond.selects yX2_clear.cls yX2_clear yX2_clear ∈ GW ∧ 1 ≤ 25 := ⟨⟨gw_198, gw_4, ⟨by decide, by decide⟩, by decide +kernel, by decide +kernel⟩, gw_196, gw_197, by decide⟩
theorem k_X1_squaresEndOf : Cal yX1_squaresEndOf cX1_squaresEndOf 1 (some .int) 1 ∧ Cond.static yX1_squaresEndOf ∈ GW ∧ 1 ≤ 25 := ⟨⟨gw_208, gw_2, ⟨by decide, by decide⟩, by decide +kernel, by decide +kernel⟩, gw_207, by decide⟩
theorem k_X2_at : Cal yX2_at cX2_at 2 (some .int) 1 ∧ Cond.instanceMethod yX2_at ∈ GW ∧ Cond.selects yX2_at.cls yX2_at yX2_at ∈ GW ∧ 2 ≤ 25 := ⟨⟨gw_216, gw_4, ⟨by decide, by decide⟩, by decide +kernel, by decide +kernel⟩, gw_214, gw_215, by decide⟩
theorem k_X4_isCell : Cal yX4_isCell cX4_isCell 2 (some .boolean) 1 ∧ Cond.instanceMethod yX4_isCell ∈ GW ∧ Cond.selects yX4_isCell.cls yX4_isCell yX4_isCell ∈ GW ∧ 2 ≤ 25 := ⟨⟨gw_212, gw_3, ⟨by decide, by decide⟩, by decide +kernel, by decide +kernel⟩, gw_210, gw_211, by decide⟩
theorem k_X1_valueOf : Cal yX1_valueOf cX1_valueOf 2 (some .int) 1 ∧ Cond.instanceMethod yX1_valueOf ∈ GW ∧ Cond.selects yX1_valueOf.cls yX1_valueOf yX1_valueOf ∈ GW ∧ 2 ≤ 25 := ⟨⟨gw_220, gw_2, ⟨by decide, by decide⟩, by decide +kernel, by decide +kernel⟩, gw_219, gwp_3, by decide⟩
theorem k_X1_valueCells : Cal yX1_valueCells cX1_valueCells 5 none 1 ∧ Cond.instanceMethod yX1_valueCells ∈ GW ∧ Cond.selects yX1_valueCells.cls yX1_valueCells yX1_valueCells ∈ GW ∧ 5 ≤ 25 := ⟨⟨gw_205, gw_2, ⟨by decide, by decide⟩, by decide +kernel, by decide +kernel⟩, gw_204, gwp_2, by decide⟩
theorem k_X5_isSum : Cal yX5_isSum cX5_isSum 1 (some .boolean) 1 ∧ Cond.static yX5_isSum ∈ GW ∧ 1 ≤ 25 := ⟨⟨gw_229, gw_1, ⟨by decide, by decide⟩, by decide +kernel, by decide +kernel⟩, gw_228, by decide⟩
theorem k_X5_tableOf : Cal yX5_tableOf cX5_tableOf 1 (some .int) 1 ∧ Cond.static yX5_tableOf ∈ GW ∧ 1 ≤ 25 := ⟨⟨gw_236, gw_1, ⟨by decide, by decide⟩, by decide +kernel, by decide +kernel⟩, gw_235, by decide⟩
theorem k_X1_isCounted : Cal yX1_isCounted cX1_isCounted 9 (some .boolean) 2 ∧ Cond.instanceMethod yX1_isCounted ∈ GW ∧ Cond.selects yX1_isCounted.cls yX1_isCounted yX1_isCounted ∈ GW ∧ 9 ≤ 25 := ⟨⟨gw_240, gw_2, ⟨by decide, by decide⟩, by decide +kernel, by decide +kernel⟩, gw_239, gwp_6, by decide⟩
theorem k_X1_startSum : Cal yX1_startSum cX1_startSum 6 none 1 ∧ Cond.instanceMethod yX1_startSum ∈ GW ∧ Cond.selects yX1_startSum.cls yX1_startSum yX1_startSum ∈ GW ∧ 6 ≤ 25 := ⟨⟨gw_233, gw_2, ⟨by decide, by decide⟩, by decide +kernel, by decide +kernel⟩, gw_232, gwp_5, by decide⟩
theorem k_X1_sumOf : Cal yX1_sumOf cX1_sumOf 5 (some .int) 1 ∧ Cond.instanceMethod yX1_sumOf ∈ GW ∧ Cond.selects yX1_sumOf.cls yX1_sumOf yX1_sumOf ∈ GW ∧ 5 ≤ 25 := ⟨⟨gw_246, gw_2, ⟨by decide, by decide⟩, by decide +kernel, by decide +kernel⟩, gw_245, gwp_7, by decide⟩
theorem k_X1_showNumbers : Cal yX1_showNumbers cX1_showNumbers 4 none 1 ∧ Cond.instanceMethod yX1_showNumbers ∈ GW ∧ Cond.selects yX1_showNumbers.cls yX1_showNumbers yX1_showNumbers ∈ GW ∧ 4 ≤ 25 := ⟨⟨gw_226, gw_2, ⟨by decide, by decide⟩, by decide +kernel, by decide +kernel⟩, gw_225, gwp_4, by decide⟩
theorem k_X4_tableWithin : Cal yX4_tableWithin cX4_tableWithin 2 (some .int) 1 ∧ Cond.instanceMethod yX4_tableWithin ∈ GW ∧ Cond.selects yX4_tableWithin.cls yX4_tableWithin yX4_tableWithin ∈ GW ∧ 2 ≤ 25 := ⟨⟨gw_254, gw_3, ⟨by decide, by decide⟩, by decide +kernel, by decide +kernel⟩, gw_252, gw_253, by decide⟩
theorem k_X4_linesOf : Cal yX4_linesOf cX4_linesOf 3 (some .int) 2 ∧ Cond.instanceMethod yX4_linesOf ∈ GW ∧ Cond.selects yX4_linesOf.cls yX4_linesOf yX4_linesOf ∈ GW ∧ 3 ≤ 25 := ⟨⟨gw_262, gw_3, ⟨by decide, by decide⟩, by decide +kernel, by decide +kernel⟩, gw_260, gw_261, by decide⟩
theorem k_X1_greatestRule : Cal yX1_greatestRule cX1_greatestRule 7 (some .int) 4 ∧ Cond.instanceMethod yX1_greatestRule ∈ GW ∧ Cond.selects yX1_greatestRule.cls yX1_greatestRule yX1_greatestRule ∈ GW ∧ 7 ≤ 25 := ⟨⟨gw_266, gw_2, ⟨by decide, by decide⟩, by decide +kernel, by decide +kernel⟩, gw_265, gwp_10, by decide⟩
theorem k_X1_borderRule : Cal yX1_borderRule cX1_borderRule 5 (some .int) 2 ∧ Cond.instanceMethod yX1_borderRule ∈ GW ∧ Cond.selects yX1_borderRule.cls yX1_borderRule yX1_borderRule ∈ GW ∧ 5 ≤ 25 := ⟨⟨gw_258, gw_2, ⟨by decide, by decide⟩, by decide +kernel, by decide +kernel⟩, gw_257, gwp_9, by decide⟩
theorem k_X1_ruleCells : Cal yX1_ruleCells cX1_ruleCells 7 none 1 ∧ Cond.instanceMethod yX1_ruleCells ∈ GW ∧ Cond.selects yX1_ruleCells.cls yX1_ruleCells yX1_ruleCells ∈ GW ∧ 7 ≤ 25 := ⟨⟨gw_250, gw_2, ⟨by decide, by decide⟩, by decide +kernel, by decide +kernel⟩, gw_249, gwp_8, by decide⟩
theorem k_X5_isBetween : Cal yX5_isBetween cX5_isBetween 3 (some .boolean) 3 ∧ Cond.static yX5_isBetween ∈ GW ∧ 3 ≤ 25 := ⟨⟨gw_281, gw_1, ⟨by decide, by decide⟩, by decide +kernel, by decide +kernel⟩, gw_280, by decide⟩
theorem k_X4_ownerBeside : Cal yX4_ownerBeside cX4_ownerBeside 7 (some .int) 2 ∧ Cond.instanceMethod yX4_ownerBeside ∈ GW ∧ Cond.selects yX4_ownerBeside.cls yX4_ownerBeside yX4_ownerBeside ∈ GW ∧ 7 ≤ 25 := ⟨⟨gw_278, gw_3, ⟨by decide, by decide⟩, by decide +kernel, by decide +kernel⟩, gw_276, gw_277, by decide⟩
theorem k_X1_edgeRule : Cal yX1_edgeRule cX1_edgeRule 7 (some .int) 2 ∧ Cond.instanceMethod yX1_edgeRule ∈ GW ∧ Cond.selects yX1_edgeRule.cls yX1_edgeRule yX1_edgeRule ∈ GW ∧ 7 ≤ 25 := ⟨⟨gw_274, gw_2, ⟨by decide, by decide⟩, by decide +kernel, by decide +kernel⟩, gw_273, gwp_12, by decide⟩
theorem k_X1_ruleEdges : Cal yX1_ruleEdges cX1_ruleEdges 4 none 1 ∧ Cond.instanceMethod yX1_ruleEdges ∈ GW ∧ Cond.selects yX1_ruleEdges.cls yX1_ruleEdges yX1_ruleEdges ∈ GW ∧ 4 ≤ 25 := ⟨⟨gw_270, gw_2, ⟨by decide, by decide⟩, by decide +kernel, by decide +kernel⟩, gw_269, gwp_11, by decide⟩
theorem k_X5_signsOf : Cal yX5_signsOf cX5_signsOf 4 (some .int) 1 ∧ Cond.static yX5_signsOf ∈ GW ∧ 4 ≤ 25 := ⟨⟨gw_293, gw_1, ⟨by decide, by decide⟩, by decide +kernel, by decide +kernel⟩, gw_292, by decide⟩
theorem k_X1_wantOf : Cal yX1_wantOf cX1_wantOf 4 (some .int) 2 ∧ Cond.instanceMethod yX1_wantOf ∈ GW ∧ Cond.selects yX1_wantOf.cls yX1_wantOf yX1_wantOf ∈ GW ∧ 4 ≤ 25 := ⟨⟨gw_290, gw_2, ⟨by decide, by decide⟩, by decide +kernel, by decide +kernel⟩, gw_289, gwp_14, by decide⟩
theorem k_X1_wantSizes : Cal yX1_wantSizes cX1_wantSizes 4 none 2 ∧ Cond.instanceMethod yX1_wantSizes ∈ GW ∧ Cond.selects yX1_wantSizes.cls yX1_wantSizes yX1_wantSizes ∈ GW ∧ 4 ≤ 25 := ⟨⟨gw_286, gw_2, ⟨by decide, by decide⟩, by decide +kernel, by decide +kernel⟩, gw_285, gwp_13, by decide⟩
theorem k_X4_spanOf : Cal yX4_spanOf cX4_spanOf 3 (some .int) 2 ∧ Cond.instanceMethod yX4_spanOf ∈ GW ∧ Cond.selects yX4_spanOf.cls yX4_spanOf yX4_spanOf ∈ GW ∧ 3 ≤ 25 := ⟨⟨gw_301, gw_3, ⟨by decide, by decide⟩, by decide +kernel, by decide +kernel⟩, gw_299, gw_300, by decide⟩
theorem k_X1_sizePlace : Cal yX1_sizePlace cX1_sizePlace 3 (some .int) 3 ∧ Cond.static yX1_sizePlace ∈ GW ∧ 3 ≤ 25 := ⟨⟨gw_304, gw_2, ⟨by decide, by decide⟩, by decide +kernel, by decide +kernel⟩, gw_303, by decide⟩
theorem k_X1_sizeSingles : Cal yX1_sizeSingles cX1_sizeSingles 5 none 2 ∧ Cond.instanceMethod yX1_sizeSingles ∈ GW ∧ Cond.selects yX1_sizeSingles.cls yX1_sizeSingles yX1_sizeSingles ∈ GW ∧ 5 ≤ 25 := ⟨⟨gw_297, gw_2, ⟨by decide, by decide⟩, by decide +kernel, by decide +kernel⟩, gw_296, gwp_15, by decide⟩
theorem k_X1_sizeOf : Cal yX1_sizeOf cX1_sizeOf 4 (some .int) 3 ∧ Cond.instanceMethod yX1_sizeOf ∈ GW ∧ Cond.selects yX1_sizeOf.cls yX1_sizeOf yX1_sizeOf ∈ GW ∧ 4 ≤ 25 := ⟨⟨gw_316, gw_2, ⟨by decide, by decide⟩, by decide +kernel, by decide +kernel⟩, gw_314, gw_315, by decide⟩
theorem k_X1_sizeTogether : Cal yX1_sizeTogether cX1_sizeTogether 7 (some .int) 4 ∧ Cond.instanceMethod yX1_sizeTogether ∈ GW ∧ Cond.selects yX1_sizeTogether.cls yX1_sizeTogether yX1_sizeTogether ∈ GW ∧ 7 ≤ 25 := ⟨⟨gw_312, gw_2, ⟨by decide, by decide⟩, by decide +kernel, by decide +kernel⟩, gw_311, gwp_17, by decide⟩
theorem k_X1_sizeSpans : Cal yX1_sizeSpans cX1_sizeSpans 8 none 2 ∧ Cond.instanceMethod yX1_sizeSpans ∈ GW ∧ Cond.selects yX1_sizeSpans.cls yX1_sizeSpans yX1_sizeSpans ∈ GW ∧ 8 ≤ 25 := ⟨⟨gw_308, gw_2, ⟨by decide, by decide⟩, by decide +kernel, by decide +kernel⟩, gw_307, gwp_16, by decide⟩
theorem k_X1_sizeTable : Cal yX1_sizeTable cX1_sizeTable 8 none 2 ∧ Cond.instanceMethod yX1_sizeTable ∈ GW ∧ Cond.selects yX1_sizeTable.cls yX1_sizeTable yX1_sizeTable ∈ GW ∧ 8 ≤ 25 := ⟨⟨gw_320, gw_2, ⟨by decide, by decide⟩, by decide +kernel, by decide +kernel⟩, gw_319, gwp_18, by decide⟩
theorem k_X1_measure : Cal yX1_measure cX1_measure 3 none 0 ∧ Cond.instanceMethod yX1_measure ∈ GW ∧ Cond.selects yX1_measure.cls yX1_measure yX1_measure ∈ GW ∧ 3 ≤ 25 := ⟨⟨gw_194, gw_2, ⟨by decide, by decide⟩, by decide +kernel, by decide +kernel⟩, gw_192, gw_193, by decide⟩
theorem k_X5_requireBetween : Cal yX5_requireBetween cX5_requireBetween 3 none 3 ∧ Cond.static yX5_requireBetween ∈ GW ∧ 3 ≤ 25 := ⟨⟨gw_346, gw_1, ⟨by decide, by decide⟩, by decide +kernel, by decide +kernel⟩, gw_345, by decide⟩
theorem k_X5_requireLines : Cal yX5_requireLines cX5_requireLines 2 none 2 ∧ Cond.static yX5_requireLines ∈ GW ∧ 2 ≤ 25 := ⟨⟨gw_343, gw_1, ⟨by decide, by decide⟩, by decide +kernel, by decide +kernel⟩, gw_342, by decide⟩
theorem k_X0_sheetAt : Cal yX0_sheetAt cX0_sheetAt 3 (some (.object "NestedSums$Sheet")) 1 ∧ Cond.instanceMethod yX0_sheetAt ∈ GW ∧ Cond.selects yX0_sheetAt.cls yX0_sheetAt yX0_sheetAt ∈ GW ∧ 3 ≤ 25 := ⟨⟨gw_418, gw_6, ⟨by decide, by decide⟩, by decide +kernel, by decide +kernel⟩, gw_417, gwp_20, by decide⟩
theorem k_X2_copyFrom : Cal yX2_copyFrom cX2_copyFrom 2 none 1 ∧ Cond.instanceMethod yX2_copyFrom ∈ GW ∧ Cond.selects yX2_copyFrom.cls yX2_copyFrom yX2_copyFrom ∈ GW ∧ 2 ≤ 25 := ⟨⟨gw_426, gw_4, ⟨by decide, by decide⟩, by decide +kernel, by decide +kernel⟩, gw_424, gw_425, by decide⟩
theorem k_X4_copyFrom : Cal yX4_copyFrom cX4_copyFrom 2 none 1 ∧ Cond.instanceMethod yX4_copyFrom ∈ GW ∧ Cond.selects yX4_copyFrom.cls yX4_copyFrom yX4_copyFrom ∈ GW ∧ 2 ≤ 25 := ⟨⟨gw_422, gw_3, ⟨by decide, by decide⟩, by decide +kernel, by decide +kernel⟩, gw_420, gw_421, by decide⟩
theorem k_X0_save : Cal yX0_save cX0_save 3 none 1 ∧ Cond.instanceMethod yX0_save ∈ GW ∧ Cond.selects yX0_save.cls yX0_save yX0_save ∈ GW ∧ 3 ≤ 25 := ⟨⟨gw_414, gw_6, ⟨by decide, by decide⟩, by decide +kernel, by decide +kernel⟩, gw_412, gw_413, by decide⟩
theorem k_X5_begin : Cal yX5_begin cX5_begin 3 (some .int) 2 ∧ Cond.instanceMethod yX5_begin ∈ GW ∧ Cond.selects yX5_begin.cls yX5_begin yX5_begin ∈ GW ∧ 3 ≤ 25 := ⟨⟨gw_340, gw_1, ⟨by decide, by decide⟩, by decide +kernel, by decide +kernel⟩, gw_338, gw_339, by decide⟩
theorem k_X4_hasTable : Cal yX4_hasTable cX4_hasTable 2 (some .boolean) 1 ∧ Cond.instanceMethod yX4_hasTable ∈ GW ∧ Cond.selects yX4_hasTable.cls yX4_hasTable yX4_hasTable ∈ GW ∧ 2 ≤ 25 := ⟨⟨gw_448, gw_3, ⟨by decide, by decide⟩, by decide +kernel, by decide +kernel⟩, gw_446, gw_447, by decide⟩
theorem k_X4_squareAt : Cal yX4_squareAt cX4_squareAt 5 (some .int) 3 ∧ Cond.instanceMethod yX4_squareAt ∈ GW ∧ Cond.selects yX4_squareAt.cls yX4_squareAt yX4_squareAt ∈ GW ∧ 5 ≤ 25 := ⟨⟨gw_533, gw_3, ⟨by decide, by decide⟩, by decide +kernel, by decide +kernel⟩, gw_531, gw_532, by decide⟩
theorem k_X5_requireSquare : Cal yX5_requireSquare cX5_requireSquare 5 (some .int) 3 ∧ Cond.instanceMethod yX5_requireSquare ∈ GW ∧ Cond.selects yX5_requireSquare.cls yX5_requireSquare yX5_requireSquare ∈ GW ∧ 5 ≤ 25 := ⟨⟨gw_529, gw_1, ⟨by decide, by decide⟩, by decide +kernel, by decide +kernel⟩, gw_528, gwp_24, by decide⟩
theorem k_X4_addTable : Cal yX4_addTable cX4_addTable 5 (some .int) 3 ∧ Cond.instanceMethod yX4_addTable ∈ GW ∧ Cond.selects yX4_addTable.cls yX4_addTable yX4_addTable ∈ GW ∧ 5 ≤ 25 := ⟨⟨gw_597, gw_3, ⟨by decide, by decide⟩, by decide +kernel, by decide +kernel⟩, gw_595, gw_596, by decide⟩
theorem k_X5_nest : Cal yX5_nest cX5_nest 8 (some .int) 5 ∧ Cond.instanceMethod yX5_nest ∈ GW ∧ Cond.selects yX5_nest.cls yX5_nest yX5_nest ∈ GW ∧ 8 ≤ 25 := ⟨⟨gw_593, gw_1, ⟨by decide, by decide⟩, by decide +kernel, by decide +kernel⟩, gw_591, gw_592, by decide⟩
theorem k_X5_isContent : Cal yX5_isContent cX5_isContent 2 (some .boolean) 2 ∧ Cond.static yX5_isContent ∈ GW ∧ 2 ≤ 25 := ⟨⟨gw_537, gw_1, ⟨by decide, by decide⟩, by decide +kernel, by decide +kernel⟩, gw_536, by decide⟩
theorem k_X4_canFill : Cal yX4_canFill cX4_canFill 2 (some .boolean) 1 ∧ Cond.instanceMethod yX4_canFill ∈ GW ∧ Cond.selects yX4_canFill.cls yX4_canFill yX4_canFill ∈ GW ∧ 2 ≤ 25 := ⟨⟨gw_542, gw_3, ⟨by decide, by decide⟩, by decide +kernel, by decide +kernel⟩, gw_540, gw_541, by decide⟩
theorem k_X4_fill : Cal yX4_fill cX4_fill 5 (some .int) 3 ∧ Cond.instanceMethod yX4_fill ∈ GW ∧ Cond.selects yX4_fill.cls yX4_fill yX4_fill ∈ GW ∧ 5 ≤ 25 := ⟨⟨gw_561, gw_3, ⟨by decide, by decide⟩, by decide +kernel, by decide +kernel⟩, gw_559, gw_560, by decide⟩
theorem k_X5_put : Cal yX5_put cX5_put 8 (some .int) 5 ∧ Cond.instanceMethod yX5_put ∈ GW ∧ Cond.selects yX5_put.cls yX5_put yX5_put ∈ GW ∧ 8 ≤ 25 := ⟨⟨gw_525, gw_1, ⟨by decide, by decide⟩, by decide +kernel, by decide +kernel⟩, gw_523, gw_524, by decide⟩
theorem k_X4_isSingleEmpty : Cal yX4_isSingleEmpty cX4_isSingleEmpty 2 (some .boolean) 1 ∧ Cond.instanceMethod yX4_isSingleEmpty ∈ GW ∧ Cond.selects yX4_isSingleEmpty.cls yX4_isSingleEmpty yX4_isSingleEmpty ∈ GW ∧ 2 ≤ 25 := ⟨⟨gw_577, gw_3, ⟨by decide, by decide⟩, by decide +kernel, by decide +kernel⟩, gw_576, gwp_25, by decide⟩
theorem k_X4_canCover : Cal yX4_canCover cX4_canCover 7 (some .boolean) 3 ∧ Cond.instanceMethod yX4_canCover ∈ GW ∧ Cond.selects yX4_canCover.cls yX4_canCover yX4_canCover ∈ GW ∧ 7 ≤ 25 := ⟨⟨gw_573, gw_3, ⟨by decide, by decide⟩, by decide +kernel, by decide +kernel⟩, gw_571, gw_572, by decide⟩
theorem k_X4_giveSquares : Cal yX4_giveSquares cX4_giveSquares 8 none 4 ∧ Cond.instanceMethod yX4_giveSquares ∈ GW ∧ Cond.selects yX4_giveSquares.cls yX4_giveSquares yX4_giveSquares ∈ GW ∧ 8 ≤ 25 := ⟨⟨gw_586, gw_3, ⟨by decide, by decide⟩, by decide +kernel, by decide +kernel⟩, gw_585, gwp_26, by decide⟩
theorem k_X4_cover : Cal yX4_cover cX4_cover 4 none 3 ∧ Cond.instanceMethod yX4_cover ∈ GW ∧ Cond.selects yX4_cover.cls yX4_cover yX4_cover ∈ GW ∧ 4 ≤ 25 := ⟨⟨gw_582, gw_3, ⟨by decide, by decide⟩, by decide +kernel, by decide +kernel⟩, gw_580, gw_581, by decide⟩
theorem k_X5_span : Cal yX5_span cX5_span 8 (some .int) 5 ∧ Cond.instanceMethod yX5_span ∈ GW ∧ Cond.selects yX5_span.cls yX5_span yX5_span ∈ GW ∧ 8 ≤ 25 := ⟨⟨gw_568, gw_1, ⟨by decide, by decide⟩, by decide +kernel, by decide +kernel⟩, gw_566, gw_567, by decide⟩
theorem k_X5_rule : Cal yX5_rule cX5_rule 9 (some .int) 5 ∧ Cond.instanceMethod yX5_rule ∈ GW ∧ Cond.selects yX5_rule.cls yX5_rule yX5_rule ∈ GW ∧ 9 ≤ 25 := ⟨⟨gw_604, gw_1, ⟨by decide, by decide⟩, by decide +kernel, by decide +kernel⟩, gw_602, gw_603, by decide⟩
theorem k_X5_set : Cal yX5_set cX5_set 3 (some .int) 1 ∧ Cond.instanceMethod yX5_set ∈ GW ∧ Cond.selects yX5_set.cls yX5_set yX5_set ∈ GW ∧ 3 ≤ 25 := ⟨⟨gw_436, gw_1, ⟨by decide, by decide⟩, by decide +kernel, by decide +kernel⟩, gw_434, gw_435, by decide⟩
theorem k_X0_takeBack : Cal yX0_takeBack cX0_takeBack 3 none 1 ∧ Cond.instanceMethod yX0_takeBack ∈ GW ∧ Cond.selects yX0_takeBack.cls yX0_takeBack yX0_takeBack ∈ GW ∧ 3 ≤ 25 := ⟨⟨gw_616, gw_6, ⟨by decide, by decide⟩, by decide +kernel, by decide +kernel⟩, gw_614, gw_615, by decide⟩
theorem k_X5_undo : Cal yX5_undo cX5_undo 1 (some .int) 0 ∧ Cond.instanceMethod yX5_undo ∈ GW ∧ Cond.selects yX5_undo.cls yX5_undo yX5_undo ∈ GW ∧ 1 ≤ 25 := ⟨⟨gw_612, gw_1, ⟨by decide, by decide⟩, by decide +kernel, by decide +kernel⟩, gw_610, gw_611, by decide⟩
theorem k_X5_cellProperty : Cal yX5_cellProperty cX5_cellProperty 3 (some .int) 2 ∧ Cond.instanceMethod yX5_cellProperty ∈ GW ∧ Cond.selects yX5_cellProperty.cls yX5_cellProperty yX5_cellProperty ∈ GW ∧ 3 ≤ 25 := ⟨⟨gw_627, gw_1, ⟨by decide, by decide⟩, by decide +kernel, by decide +kernel⟩, gw_626, gwp_27, by decide⟩
theorem k_X5_cell : Cal yX5_cell cX5_cell 6 (some .int) 4 ∧ Cond.instanceMethod yX5_cell ∈ GW ∧ Cond.selects yX5_cell.cls yX5_cell yX5_cell ∈ GW ∧ 6 ≤ 25 := ⟨⟨gw_623, gw_1, ⟨by decide, by decide⟩, by decide +kernel, by decide +kernel⟩, gw_621, gw_622, by decide⟩
theorem k_X5_edge : Cal yX5_edge cX5_edge 6 (some .int) 4 ∧ Cond.instanceMethod yX5_edge ∈ GW ∧ Cond.selects yX5_edge.cls yX5_edge yX5_edge ∈ GW ∧ 6 ≤ 25 := ⟨⟨gw_653, gw_1, ⟨by decide, by decide⟩, by decide +kernel, by decide +kernel⟩, gw_651, gw_652, by decide⟩
theorem k_X5_requireTable : Cal yX5_requireTable cX5_requireTable 2 none 1 ∧ Cond.instanceMethod yX5_requireTable ∈ GW ∧ Cond.selects yX5_requireTable.cls yX5_requireTable yX5_requireTable ∈ GW ∧ 2 ≤ 25 := ⟨⟨gw_444, gw_1, ⟨by decide, by decide⟩, by decide +kernel, by decide +kernel⟩, gw_443, gwp_21, by decide⟩
theorem k_X5_tableProperty : Cal yX5_tableProperty cX5_tableProperty 3 (some .int) 2 ∧ Cond.instanceMethod yX5_tableProperty ∈ GW ∧ Cond.selects yX5_tableProperty.cls yX5_tableProperty yX5_tableProperty ∈ GW ∧ 3 ≤ 25 := ⟨⟨gw_467, gw_1, ⟨by decide, by decide⟩, by decide +kernel, by decide +kernel⟩, gw_466, gwp_22, by decide⟩
theorem k_X5_table : Cal yX5_table cX5_table 3 (some .int) 2 ∧ Cond.instanceMethod yX5_table ∈ GW ∧ Cond.selects yX5_table.cls yX5_table yX5_table ∈ GW ∧ 3 ≤ 25 := ⟨⟨gw_440, gw_1, ⟨by decide, by decide⟩, by decide +kernel, by decide +kernel⟩, gw_438, gw_439, by decide⟩
theorem k_X5_size : Cal yX5_size cX5_size 5 (some .int) 3 ∧ Cond.instanceMethod yX5_size ∈ GW ∧ Cond.selects yX5_size.cls yX5_size yX5_size ∈ GW ∧ 5 ≤ 25 := ⟨⟨gw_648, gw_1, ⟨by decide, by decide⟩, by decide +kernel, by decide +kernel⟩, gw_646, gw_647, by decide⟩
theorem k_X1_isJoined : Cal yX1_isJoined cX1_isJoined 4 (some .boolean) 1 ∧ Cond.instanceMethod yX1_isJoined ∈ GW ∧ Cond.selects yX1_isJoined.cls yX1_isJoined yX1_isJoined ∈ GW ∧ 4 ≤ 25 := ⟨⟨gw_491, gw_2, ⟨by decide, by decide⟩, by decide +kernel, by decide +kernel⟩, gw_490, gwp_23, by decide⟩
theorem k_X1_pageOf : Cal yX1_pageOf cX1_pageOf 8 (some .int) 2 ∧ Cond.instanceMethod yX1_pageOf ∈ GW ∧ Cond.selects yX1_pageOf.cls yX1_pageOf yX1_pageOf ∈ GW ∧ 8 ≤ 25 := ⟨⟨gw_487, gw_2, ⟨by decide, by decide⟩, by decide +kernel, by decide +kernel⟩, gw_485, gw_486, by decide⟩
theorem k_X5_page : Cal yX5_page cX5_page 2 (some .int) 1 ∧ Cond.instanceMethod yX5_page ∈ GW ∧ Cond.selects yX5_page.cls yX5_page yX5_page ∈ GW ∧ 2 ≤ 25 := ⟨⟨gw_664, gw_1, ⟨by decide, by decide⟩, by decide +kernel, by decide +kernel⟩, gw_662, gw_663, by decide⟩
theorem k_X4_countCells : Cal yX4_countCells cX4_countCells 3 (some .int) 0 ∧ Cond.instanceMethod yX4_countCells ∈ GW ∧ Cond.selects yX4_countCells.cls yX4_countCells yX4_countCells ∈ GW ∧ 3 ≤ 25 := ⟨⟨gw_478, gw_3, ⟨by decide, by decide⟩, by decide +kernel, by decide +kernel⟩, gw_476, gw_477, by decide⟩
theorem k_X1_countPages : Cal yX1_countPages cX1_countPages 2 (some .int) 1 ∧ Cond.instanceMethod yX1_countPages ∈ GW ∧ Cond.selects yX1_countPages.cls yX1_countPages yX1_countPages ∈ GW ∧ 2 ≤ 25 := ⟨⟨gw_483, gw_2, ⟨by decide, by decide⟩, by decide +kernel, by decide +kernel⟩, gw_481, gw_482, by decide⟩
theorem k_X1_countEdges : Cal yX1_countEdges cX1_countEdges 5 (some .int) 0 ∧ Cond.instanceMethod yX1_countEdges ∈ GW ∧ Cond.selects yX1_countEdges.cls yX1_countEdges yX1_countEdges ∈ GW ∧ 5 ≤ 25 := ⟨⟨gw_495, gw_2, ⟨by decide, by decide⟩, by decide +kernel, by decide +kernel⟩, gw_493, gw_494, by decide⟩
theorem k_X4_countSquares : Cal yX4_countSquares cX4_countSquares 3 (some .int) 0 ∧ Cond.instanceMethod yX4_countSquares ∈ GW ∧ Cond.selects yX4_countSquares.cls yX4_countSquares yX4_countSquares ∈ GW ∧ 3 ≤ 25 := ⟨⟨gw_500, gw_3, ⟨by decide, by decide⟩, by decide +kernel, by decide +kernel⟩, gw_498, gw_499, by decide⟩
theorem k_X4_countKind : Cal yX4_countKind cX4_countKind 4 (some .int) 1 ∧ Cond.instanceMethod yX4_countKind ∈ GW ∧ Cond.selects yX4_countKind.cls yX4_countKind yX4_countKind ∈ GW ∧ 4 ≤ 25 := ⟨⟨gw_505, gw_3, ⟨by decide, by decide⟩, by decide +kernel, by decide +kernel⟩, gw_503, gw_504, by decide⟩
theorem k_X5_count : Cal yX5_count cX5_count 2 (some .int) 1 ∧ Cond.instanceMethod yX5_count ∈ GW ∧ Cond.selects yX5_count.cls yX5_count yX5_count ∈ GW ∧ 2 ≤ 25 := ⟨⟨gw_474, gw_1, ⟨by decide, by decide⟩, by decide +kernel, by decide +kernel⟩, gw_472, gw_473, by decide⟩
theorem k_X1_countSumsOf : Cal yX1_countSumsOf cX1_countSumsOf 5 (some .int) 1 ∧ Cond.instanceMethod yX1_countSumsOf ∈ GW ∧ Cond.selects yX1_countSumsOf.cls yX1_countSumsOf yX1_countSumsOf ∈ GW ∧ 5 ≤ 25 := ⟨⟨gw_641, gw_2, ⟨by decide, by decide⟩, by decide +kernel, by decide +kernel⟩, gw_639, gw_640, by decide⟩
theorem k_X5_countingSums : Cal yX5_countingSums cX5_countingSums 5 (some .int) 1 ∧ Cond.instanceMethod yX5_countingSums ∈ GW ∧ Cond.selects yX5_countingSums.cls yX5_countingSums yX5_countingSums ∈ GW ∧ 5 ≤ 25 := ⟨⟨gw_637, gw_1, ⟨by decide, by decide⟩, by decide +kernel, by decide +kernel⟩, gw_636, gwp_28, by decide⟩
theorem k_X5_countedBy : Cal yX5_countedBy cX5_countedBy 5 (some .int) 3 ∧ Cond.instanceMethod yX5_countedBy ∈ GW ∧ Cond.selects yX5_countedBy.cls yX5_countedBy yX5_countedBy ∈ GW ∧ 5 ≤ 25 := ⟨⟨gw_633, gw_1, ⟨by decide, by decide⟩, by decide +kernel, by decide +kernel⟩, gw_631, gw_632, by decide⟩
theorem k_X5_heightFor : Cal yX5_heightFor cX5_heightFor 3 (some .int) 1 ∧ Cond.instanceMethod yX5_heightFor ∈ GW ∧ Cond.selects yX5_heightFor.cls yX5_heightFor yX5_heightFor ∈ GW ∧ 3 ≤ 25 := ⟨⟨gw_669, gw_1, ⟨by decide, by decide⟩, by decide +kernel, by decide +kernel⟩, gw_667, gw_668, by decide⟩
theorem k_X5_filledShare : Cal yX5_filledShare cX5_filledShare 3 (some .double) 0 ∧ Cond.instanceMethod yX5_filledShare ∈ GW ∧ Cond.selects yX5_filledShare.cls yX5_filledShare yX5_filledShare ∈ GW ∧ 3 ≤ 25 := ⟨⟨gw_657, gw_1, ⟨by decide, by decide⟩, by decide +kernel, by decide +kernel⟩, gw_655, gw_656, by decide⟩
theorem k_L_low : Cal yL_low cL_low 2 (some .int) 2 ∧ Cond.static yL_low ∈ GW ∧ 2 ≤ 25 := ⟨⟨gw_508, gw_0, ⟨by decide, by decide⟩, by decide +kernel, by decide +kernel⟩, gw_507, by decide⟩
theorem k_L_wide : Cal yL_wide cL_wide 8 (some .boolean) 4 ∧ Cond.static yL_wide ∈ GW ∧ 8 ≤ 25 := ⟨⟨gw_644, gw_0, ⟨by decide, by decide⟩, by decide +kernel, by decide +kernel⟩, gw_643, by decide⟩
theorem k_L_tables : Cal yL_tables cL_tables 11 (some .boolean) 1 ∧ Cond.static yL_tables ∈ GW ∧ 11 ≤ 25 := ⟨⟨gw_619, gw_0, ⟨by decide, by decide⟩, by decide +kernel, by decide +kernel⟩, gw_618, by decide⟩
theorem k_L_pages : Cal yL_pages cL_pages 4 (some .boolean) 1 ∧ Cond.static yL_pages ∈ GW ∧ 4 ≤ 25 := ⟨⟨gw_660, gw_0, ⟨by decide, by decide⟩, by decide +kernel, by decide +kernel⟩, gw_659, by decide⟩
