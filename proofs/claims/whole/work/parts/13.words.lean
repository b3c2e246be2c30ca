theorem gw_48 : Cond.fieldLink RX2 13 "NestedSums$Numbers" "values" "[I" ∈ GW := List.mem_filter.mpr ⟨List.mem_append_right _ (List.mem_of_getElem? (i := 48) (by decide +kernel)), by decide +kernel⟩
theorem inGW_2 : ∀ w ∈ u_ws RX2 TX2 1, w ∈ GW := by
  have h1 : ∀ w ∈ u_ws RX2 TX2 1, w ∈ tables_1 := by decide +kernel
  have h2 : ∀ w ∈ u_ws RX2 TX2 1, goodWord w = true := by decide +kernel
  exact fun w hw => List.mem_filter.mpr ⟨List.mem_append_right _ (h1 w hw), h2 w hw⟩
theorem fl_X2_13 : FL RX2 13 2 0 := ⟨RX2, TX2, 1, rfl, by decide, inGW_2, Or.inl gw_48⟩
theorem gw_185 : Cond.code yX2_store cX2_store 3 none ∈ GW := List.mem_filter.mpr ⟨List.mem_append_right _ (List.mem_of_getElem? (i := 185) (by decide +kernel)), by decide +kernel⟩
theorem gw_4 : Cond.initialized RX2 ∈ GW := List.mem_filter.mpr ⟨List.mem_append_right _ (List.mem_of_getElem? (i := 4) (by decide +kernel)), by decide +kernel⟩
theorem gw_183 : Cond.instanceMethod yX2_store ∈ GW := List.mem_filter.mpr ⟨List.mem_append_right _ (List.mem_of_getElem? (i := 183) (by decide +kernel)), by decide +kernel⟩
theorem gw_184 : Cond.selects RX2 yX2_store yX2_store ∈ GW := List.mem_filter.mpr ⟨List.mem_append_right _ (List.mem_of_getElem? (i := 184) (by decide +kernel)), by decide +kernel⟩
theorem gw_55 : Cond.fieldLink RX4 42 "NestedSums$Sheet" "tables" "I" ∈ GW := List.mem_filter.mpr ⟨List.mem_append_right _ (List.mem_of_getElem? (i := 55) (by decide +kernel)), by decide +kernel⟩
theorem inGW_4 : ∀ w ∈ u_ws RX4 TX4 9, w ∈ GW := by
  have h1 : ∀ w ∈ u_ws RX4 TX4 9, w ∈ tables_1 := by decide +kernel
  have h2 : ∀ w ∈ u_ws RX4 TX4 9, goodWord w = true := by decide +kernel
  exact fun w hw => List.mem_filter.mpr ⟨List.mem_append_right _ (h1 w hw), h2 w hw⟩
theorem fl_X4_42 : FL RX4 42 4 1 := ⟨RX4, TX4, 9, rfl, by decide, inGW_4, Or.inl gw_55⟩
theorem gw_189 : Cond.code yX4_squaresEnd cX4_squaresEnd 1 (some .int) ∈ GW := List.mem_filter.mpr ⟨List.mem_append_right _ (List.mem_of_getElem? (i := 189) (by decide +kernel)), by decide +kernel⟩
theorem gw_3 : Cond.initialized RX4 ∈ GW := List.mem_filter.mpr ⟨List.mem_append_right _ (List.mem_of_getElem? (i := 3) (by decide +kernel)), by decide +kernel⟩
theorem gw_187 : Cond.instanceMethod yX4_squaresEnd ∈ GW := List.mem_filter.mpr ⟨List.mem_append_right _ (List.mem_of_getElem? (i := 187) (by decide +kernel)), by decide +kernel⟩
theorem gw_188 : Cond.selects RX4 yX4_squaresEnd yX4_squaresEnd ∈ GW := List.mem_filter.mpr ⟨List.mem_append_right _ (List.mem_of_getElem? (i := 188) (by decide +kernel)), by decide +kernel⟩
theorem gw_61 : Cond.fieldLink RX4 27 "NestedSums$Sheet" "owners" "LNestedSums$Numbers;" ∈ GW := List.mem_filter.mpr ⟨List.mem_append_right _ (List.mem_of_getElem? (i := 61) (by decide +kernel)), by decide +kernel⟩
theorem fl_X4_27 : FL RX4 27 4 4 := ⟨RX4, TX4, 9, rfl, by decide, inGW_4, Or.inl gw_61⟩
theorem gw_182 : Cond.methodLink RX4 53 yX2_store ∈ GW := List.mem_filter.mpr ⟨List.mem_append_right _ (List.mem_of_getElem? (i := 182) (by decide +kernel)), by decide +kernel⟩
theorem gw_63 : Cond.fieldLink RX4 30 "NestedSums$Sheet" "kinds" "LNestedSums$Numbers;" ∈ GW := List.mem_filter.mpr ⟨List.mem_append_right _ (List.mem_of_getElem? (i := 63) (by decide +kernel)), by decide +kernel⟩
theorem fl_X4_30 : FL RX4 30 4 5 := ⟨RX4, TX4, 9, rfl, by decide, inGW_4, Or.inl gw_63⟩
theorem gw_66 : Cond.fieldLink RX4 33 "NestedSums$Sheet" "contents" "LNestedSums$Numbers;" ∈ GW := List.mem_filter.mpr ⟨List.mem_append_right _ (List.mem_of_getElem? (i := 66) (by decide +kernel)), by decide +kernel⟩
theorem fl_X4_33 : FL RX4 33 4 6 := ⟨RX4, TX4, 9, rfl, by decide, inGW_4, Or.inl gw_66⟩
theorem gw_68 : Cond.fieldLink RX4 36 "NestedSums$Sheet" "spans" "LNestedSums$Numbers;" ∈ GW := List.mem_filter.mpr ⟨List.mem_append_right _ (List.mem_of_getElem? (i := 68) (by decide +kernel)), by decide +kernel⟩
theorem fl_X4_36 : FL RX4 36 4 7 := ⟨RX4, TX4, 9, rfl, by decide, inGW_4, Or.inl gw_68⟩
theorem gw_70 : Cond.fieldLink RX4 39 "NestedSums$Sheet" "rules" "LNestedSums$Numbers;" ∈ GW := List.mem_filter.mpr ⟨List.mem_append_right _ (List.mem_of_getElem? (i := 70) (by decide +kernel)), by decide +kernel⟩
theorem fl_X4_39 : FL RX4 39 4 8 := ⟨RX4, TX4, 9, rfl, by decide, inGW_4, Or.inl gw_70⟩
theorem gw_193 : Cond.code yX4_makeEmpty cX4_makeEmpty 3 none ∈ GW := List.mem_filter.mpr ⟨List.mem_append_right _ (List.mem_of_getElem? (i := 193) (by decide +kernel)), by decide +kernel⟩
theorem gw_192 : Cond.instanceMethod yX4_makeEmpty ∈ GW := List.mem_filter.mpr ⟨List.mem_append_right _ (List.mem_of_getElem? (i := 192) (by decide +kernel)), by decide +kernel⟩
theorem gwp_1 : Cond.selects RX4 yX4_makeEmpty yX4_makeEmpty ∈ GW := List.mem_filter.mpr ⟨List.mem_append_left _ (List.mem_of_getElem? (i := 1) (by decide +kernel)), by decide +kernel⟩
theorem gw_196 : Cond.code yX5_placeOf cX5_placeOf 2 (some .int) ∈ GW := List.mem_filter.mpr ⟨List.mem_append_right _ (List.mem_of_getElem? (i := 196) (by decide +kernel)), by decide +kernel⟩
theorem gw_1 : Cond.initialized RX5 ∈ GW := List.mem_filter.mpr ⟨List.mem_append_right _ (List.mem_of_getElem? (i := 1) (by decide +kernel)), by decide +kernel⟩
theorem gw_195 : Cond.static yX5_placeOf ∈ GW := List.mem_filter.mpr ⟨List.mem_append_right _ (List.mem_of_getElem? (i := 195) (by decide +kernel)), by decide +kernel⟩
theorem fw_X4_42 : FW RX4 42 4 1 .int := ⟨RX4, TX4, 9, tyX4, rfl, by decide, inGW_4, Or.inl gw_55, tyX4_ok, nmX4, rfl, tyX4_ok 1 (by decide)⟩
theorem gw_58 : Cond.fieldLink RX4 20 "NestedSums$Sheet" "lines" "LNestedSums$Numbers;" ∈ GW := List.mem_filter.mpr ⟨List.mem_append_right _ (List.mem_of_getElem? (i := 58) (by decide +kernel)), by decide +kernel⟩
theorem fl_X4_20 : FL RX4 20 4 2 := ⟨RX4, TX4, 9, rfl, by decide, inGW_4, Or.inl gw_58⟩
theorem gw_59 : Cond.fieldLink RX4 24 "NestedSums$Sheet" "homes" "LNestedSums$Numbers;" ∈ GW := List.mem_filter.mpr ⟨List.mem_append_right _ (List.mem_of_getElem? (i := 59) (by decide +kernel)), by decide +kernel⟩
theorem fl_X4_24 : FL RX4 24 4 3 := ⟨RX4, TX4, 9, rfl, by decide, inGW_4, Or.inl gw_59⟩
theorem gw_186 : Cond.methodLink RX4 57 yX4_squaresEnd ∈ GW := List.mem_filter.mpr ⟨List.mem_append_right _ (List.mem_of_getElem? (i := 186) (by decide +kernel)), by decide +kernel⟩
theorem gw_190 : Cond.methodLink RX4 61 yX4_makeEmpty ∈ GW := List.mem_filter.mpr ⟨List.mem_append_right _ (List.mem_of_getElem? (i := 190) (by decide +kernel)), by decide +kernel⟩
theorem nm_X4_64 : (RX4, 64, yX5_placeOf, "NestedSums") ∈ nestM := List.mem_of_getElem? (i := 4) rfl
theorem gw_181 : Cond.code yX4_layOut cX4_layOut 6 none ∈ GW := List.mem_filter.mpr ⟨List.mem_append_right _ (List.mem_of_getElem? (i := 181) (by decide +kernel)), by decide +kernel⟩
theorem gw_180 : Cond.instanceMethod yX4_layOut ∈ GW := List.mem_filter.mpr ⟨List.mem_append_right _ (List.mem_of_getElem? (i := 180) (by decide +kernel)), by decide +kernel⟩
theorem gwp_0 : Cond.selects RX4 yX4_layOut yX4_layOut ∈ GW := List.mem_filter.mpr ⟨List.mem_append_left _ (List.mem_of_getElem? (i := 0) (by decide +kernel)), by decide +kernel⟩
theorem gw_178 : Cond.methodLink RX4 49 yX4_layOut ∈ GW := List.mem_filter.mpr ⟨List.mem_append_right _ (List.mem_of_getElem? (i := 178) (by decide +kernel)), by decide +kernel⟩
theorem gw_177 : Cond.code yX4_startAnew cX4_startAnew 3 none ∈ GW := List.mem_filter.mpr ⟨List.mem_append_right _ (List.mem_of_getElem? (i := 177) (by decide +kernel)), by decide +kernel⟩
theorem gw_175 : Cond.instanceMethod yX4_startAnew ∈ GW := List.mem_filter.mpr ⟨List.mem_append_right _ (List.mem_of_getElem? (i := 175) (by decide +kernel)), by decide +kernel⟩
theorem gw_176 : Cond.selects RX4 yX4_startAnew yX4_startAnew ∈ GW := List.mem_filter.mpr ⟨List.mem_append_right _ (List.mem_of_getElem? (i := 176) (by decide +kernel)), by decide +kernel⟩
theorem gw_207 : Cond.code yJ7_fill_53178 cJ7_fill_53178 4 none ∈ GW := List.mem_filter.mpr ⟨List.mem_append_right _ (List.mem_of_getElem? (i := 207) (by decide +kernel)), by decide +kernel⟩
theorem gw_8 : Cond.initialized RJ7 ∈ GW := List.mem_filter.mpr ⟨List.mem_append_right _ (List.mem_of_getElem? (i := 8) (by decide +kernel)), by decide +kernel⟩
theorem gw_206 : Cond.static yJ7_fill_53178 ∈ GW := List.mem_filter.mpr ⟨List.mem_append_right _ (List.mem_of_getElem? (i := 206) (by decide +kernel)), by decide +kernel⟩
theorem gw_205 : Cond.methodLink RX2 28 yJ7_fill_53178 ∈ GW := List.mem_filter.mpr ⟨List.mem_append_right _ (List.mem_of_getElem? (i := 205) (by decide +kernel)), by decide +kernel⟩
theorem gw_204 : Cond.code yX2_clear cX2_clear 1 none ∈ GW := List.mem_filter.mpr ⟨List.mem_append_right _ (List.mem_of_getElem? (i := 204) (by decide +kernel)), by decide +kernel⟩
theorem gw_202 : Cond.instanceMethod yX2_clear ∈ GW := List.mem_filter.mpr ⟨List.mem_append_right _ (List.mem_of_getElem? (i := 202) (by decide +kernel)), by decide +kernel⟩
theorem gw_203 : Cond.selects RX2 yX2_clear yX2_clear ∈ GW := List.mem_filter.mpr ⟨List.mem_append_right _ (List.mem_of_getElem? (i := 203) (by decide +kernel)), by decide +kernel⟩
theorem gw_214 : Cond.code yX1_squaresEndOf cX1_squaresEndOf 1 (some .int) ∈ GW := List.mem_filter.mpr ⟨List.mem_append_right _ (List.mem_of_getElem? (i := 214) (by decide +kernel)), by decide +kernel⟩
theorem gw_2 : Cond.initialized RX1 ∈ GW := List.mem_filter.mpr ⟨List.mem_append_right _ (List.mem_of_getElem? (i := 2) (by decide +kernel)), by decide +kernel⟩
theorem gw_213 : Cond.static yX1_squaresEndOf ∈ GW := List.mem_filter.mpr ⟨List.mem_append_right _ (List.mem_of_getElem? (i := 213) (by decide +kernel)), by decide +kernel⟩
theorem gw_222 : Cond.code yX2_at cX2_at 2 (some .int) ∈ GW := List.mem_filter.mpr ⟨List.mem_append_right _ (List.mem_of_getElem? (i := 222) (by decide +kernel)), by decide +kernel⟩
theorem gw_220 : Cond.instanceMethod yX2_at ∈ GW := List.mem_filter.mpr ⟨List.mem_append_right _ (List.mem_of_getElem? (i := 220) (by decide +kernel)), by decide +kernel⟩
theorem gw_221 : Cond.selects RX2 yX2_at yX2_at ∈ GW := List.mem_filter.mpr ⟨List.mem_append_right _ (List.mem_of_getElem? (i := 221) (by decide +kernel)), by decide +kernel⟩
theorem gw_219 : Cond.methodLink RX4 75 yX2_at ∈ GW := List.mem_filter.mpr ⟨List.mem_append_right _ (List.mem_of_getElem? (i := 219) (by decide +kernel)), by decide +kernel⟩
theorem gw_218 : Cond.code yX4_isCell cX4_isCell 2 (some .boolean) ∈ GW := List.mem_filter.mpr ⟨List.mem_append_right _ (List.mem_of_getElem? (i := 218) (by decide +kernel)), by decide +kernel⟩
theorem gw_216 : Cond.instanceMethod yX4_isCell ∈ GW := List.mem_filter.mpr ⟨List.mem_append_right _ (List.mem_of_getElem? (i := 216) (by decide +kernel)), by decide +kernel⟩
theorem gw_217 : Cond.selects RX4 yX4_isCell yX4_isCell ∈ GW := List.mem_filter.mpr ⟨List.mem_append_right _ (List.mem_of_getElem? (i := 217) (by decide +kernel)), by decide +kernel⟩
theorem gw_94 : Cond.fieldLink RX1 12 "NestedSums$Layout" "sheet" "LNestedSums$Sheet;" ∈ GW := List.mem_filter.mpr ⟨List.mem_append_right _ (List.mem_of_getElem? (i := 94) (by decide +kernel)), by decide +kernel⟩
theorem inGW_1 : ∀ w ∈ u_ws RX1 TX1 11, w ∈ GW := by
  have h1 : ∀ w ∈ u_ws RX1 TX1 11, w ∈ tables_1 := by decide +kernel
  have h2 : ∀ w ∈ u_ws RX1 TX1 11, goodWord w = true := by decide +kernel
  exact fun w hw => List.mem_filter.mpr ⟨List.mem_append_right _ (h1 w hw), h2 w hw⟩
theorem fl_X1_12 : FL RX1 12 1 0 := ⟨RX1, TX1, 11, rfl, by decide, inGW_1, Or.inl gw_94⟩
theorem fl_X1_107 : FL RX1 107 4 5 := ⟨RX4, TX4, 9, rfl, by decide, inGW_4, Or.inr ⟨"NestedSums", List.mem_of_getElem? (i := 6) rfl⟩⟩
theorem gw_227 : Cond.methodLink RX1 58 yX2_at ∈ GW := List.mem_filter.mpr ⟨List.mem_append_right _ (List.mem_of_getElem? (i := 227) (by decide +kernel)), by decide +kernel⟩
theorem fl_X1_110 : FL RX1 110 4 6 := ⟨RX4, TX4, 9, rfl, by decide, inGW_4, Or.inr ⟨"NestedSums", List.mem_of_getElem? (i := 7) rfl⟩⟩
theorem gw_112 : Cond.fieldLink RX1 51 "NestedSums$Layout" "tableValues" "LNestedSums$Numbers;" ∈ GW := List.mem_filter.mpr ⟨List.mem_append_right _ (List.mem_of_getElem? (i := 112) (by decide +kernel)), by decide +kernel⟩
theorem fl_X1_51 : FL RX1 51 1 10 := ⟨RX1, TX1, 11, rfl, by decide, inGW_1, Or.inl gw_112⟩
theorem gw_226 : Cond.code yX1_valueOf cX1_valueOf 2 (some .int) ∈ GW := List.mem_filter.mpr ⟨List.mem_append_right _ (List.mem_of_getElem? (i := 226) (by decide +kernel)), by decide +kernel⟩
theorem gw_225 : Cond.instanceMethod yX1_valueOf ∈ GW := List.mem_filter.mpr ⟨List.mem_append_right _ (List.mem_of_getElem? (i := 225) (by decide +kernel)), by decide +kernel⟩
theorem gwp_3 : Cond.selects RX1 yX1_valueOf yX1_valueOf ∈ GW := List.mem_filter.mpr ⟨List.mem_append_left _ (List.mem_of_getElem? (i := 3) (by decide +kernel)), by decide +kernel⟩
theorem gw_212 : Cond.methodLink RX1 94 yX1_squaresEndOf ∈ GW := List.mem_filter.mpr ⟨List.mem_append_right _ (List.mem_of_getElem? (i := 212) (by decide +kernel)), by decide +kernel⟩
theorem gw_228 : Cond.methodLink RX1 104 yX2_store ∈ GW := List.mem_filter.mpr ⟨List.mem_append_right _ (List.mem_of_getElem? (i := 228) (by decide +kernel)), by decide +kernel⟩
theorem gw_215 : Cond.methodLink RX1 97 yX4_isCell ∈ GW := List.mem_filter.mpr ⟨List.mem_append_right _ (List.mem_of_getElem? (i := 215) (by decide +kernel)), by decide +kernel⟩
theorem gw_96 : Cond.fieldLink RX1 23 "NestedSums$Layout" "values" "LNestedSums$Numbers;" ∈ GW := List.mem_filter.mpr ⟨List.mem_append_right _ (List.mem_of_getElem? (i := 96) (by decide +kernel)), by decide +kernel⟩
theorem fl_X1_23 : FL RX1 23 1 1 := ⟨RX1, TX1, 11, rfl, by decide, inGW_1, Or.inl gw_96⟩
theorem gw_223 : Cond.methodLink RX1 101 yX1_valueOf ∈ GW := List.mem_filter.mpr ⟨List.mem_append_right _ (List.mem_of_getElem? (i := 223) (by decide +kernel)), by decide +kernel⟩
theorem gw_211 : Cond.code yX1_valueCells cX1_valueCells 5 none ∈ GW := List.mem_filter.mpr ⟨List.mem_append_right _ (List.mem_of_getElem? (i := 211) (by decide +kernel)), by decide +kernel⟩
theorem gw_210 : Cond.instanceMethod yX1_valueCells ∈ GW := List.mem_filter.mpr ⟨List.mem_append_right _ (List.mem_of_getElem? (i := 210) (by decide +kernel)), by decide +kernel⟩
theorem gwp_2 : Cond.selects RX1 yX1_valueCells yX1_valueCells ∈ GW := List.mem_filter.mpr ⟨List.mem_append_left _ (List.mem_of_getElem? (i := 2) (by decide +kernel)), by decide +kernel⟩
theorem gw_235 : Cond.code yX5_isSum cX5_isSum 1 (some .boolean) ∈ GW := List.mem_filter.mpr ⟨List.mem_append_right _ (List.mem_of_getElem? (i := 235) (by decide +kernel)), by decide +kernel⟩
theorem gw_234 : Cond.static yX5_isSum ∈ GW := List.mem_filter.mpr ⟨List.mem_append_right _ (List.mem_of_getElem? (i := 234) (by decide +kernel)), by decide +kernel⟩
theorem gw_242 : Cond.code yX5_tableOf cX5_tableOf 1 (some .int) ∈ GW := List.mem_filter.mpr ⟨List.mem_append_right _ (List.mem_of_getElem? (i := 242) (by decide +kernel)), by decide +kernel⟩
theorem gw_241 : Cond.static yX5_tableOf ∈ GW := List.mem_filter.mpr ⟨List.mem_append_right _ (List.mem_of_getElem? (i := 241) (by decide +kernel)), by decide +kernel⟩
theorem nm_X1_129 : (RX1, 129, yX5_placeOf, "NestedSums") ∈ nestM := List.mem_of_getElem? (i := 7) rfl
theorem gw_100 : Cond.fieldLink RX1 30 "NestedSums$Layout" "starts" "LNestedSums$Numbers;" ∈ GW := List.mem_filter.mpr ⟨List.mem_append_right _ (List.mem_of_getElem? (i := 100) (by decide +kernel)), by decide +kernel⟩
theorem fl_X1_30 : FL RX1 30 1 3 := ⟨RX1, TX1, 11, rfl, by decide, inGW_1, Or.inl gw_100⟩
theorem fl_X1_138 : FL RX1 138 4 7 := ⟨RX4, TX4, 9, rfl, by decide, inGW_4, Or.inr ⟨"NestedSums", List.mem_of_getElem? (i := 8) rfl⟩⟩
theorem gw_246 : Cond.code yX1_isCounted cX1_isCounted 9 (some .boolean) ∈ GW := List.mem_filter.mpr ⟨List.mem_append_right _ (List.mem_of_getElem? (i := 246) (by decide +kernel)), by decide +kernel⟩
theorem gw_245 : Cond.instanceMethod yX1_isCounted ∈ GW := List.mem_filter.mpr ⟨List.mem_append_right _ (List.mem_of_getElem? (i := 245) (by decide +kernel)), by decide +kernel⟩
theorem gwp_6 : Cond.selects RX1 yX1_isCounted yX1_isCounted ∈ GW := List.mem_filter.mpr ⟨List.mem_append_left _ (List.mem_of_getElem? (i := 6) (by decide +kernel)), by decide +kernel⟩
theorem nm_X1_122 : (RX1, 122, yX5_tableOf, "NestedSums") ∈ nestM := List.mem_of_getElem? (i := 6) rfl
theorem gw_243 : Cond.methodLink RX1 125 yX1_isCounted ∈ GW := List.mem_filter.mpr ⟨List.mem_append_right _ (List.mem_of_getElem? (i := 243) (by decide +kernel)), by decide +kernel⟩
theorem gw_248 : Cond.methodLink RX1 133 Lib.Math.max.name ∈ GW := List.mem_filter.mpr ⟨List.mem_append_right _ (List.mem_of_getElem? (i := 248) (by decide +kernel)), by decide +kernel⟩
theorem gw_46 : Cond.static Lib.Math.max.name ∈ GW := List.mem_filter.mpr ⟨List.mem_append_right _ (List.mem_of_getElem? (i := 46) (by decide +kernel)), by decide +kernel⟩
theorem gw_5 : Cond.initialized RJ9 ∈ GW := List.mem_filter.mpr ⟨List.mem_append_right _ (List.mem_of_getElem? (i := 5) (by decide +kernel)), by decide +kernel⟩
theorem gw_47 : Cond.code Lib.Math.max.name Lib.Math.max.code 2 (some .int) ∈ GW := List.mem_filter.mpr ⟨List.mem_append_right _ (List.mem_of_getElem? (i := 47) (by decide +kernel)), by decide +kernel⟩
theorem gw_239 : Cond.code yX1_startSum cX1_startSum 6 none ∈ GW := List.mem_filter.mpr ⟨List.mem_append_right _ (List.mem_of_getElem? (i := 239) (by decide +kernel)), by decide +kernel⟩
theorem gw_238 : Cond.instanceMethod yX1_startSum ∈ GW := List.mem_filter.mpr ⟨List.mem_append_right _ (List.mem_of_getElem? (i := 238) (by decide +kernel)), by decide +kernel⟩
theorem gwp_5 : Cond.selects RX1 yX1_startSum yX1_startSum ∈ GW := List.mem_filter.mpr ⟨List.mem_append_left _ (List.mem_of_getElem? (i := 5) (by decide +kernel)), by decide +kernel⟩
theorem gw_252 : Cond.code yX1_sumOf cX1_sumOf 5 (some .int) ∈ GW := List.mem_filter.mpr ⟨List.mem_append_right _ (List.mem_of_getElem? (i := 252) (by decide +kernel)), by decide +kernel⟩
theorem gw_251 : Cond.instanceMethod yX1_sumOf ∈ GW := List.mem_filter.mpr ⟨List.mem_append_right _ (List.mem_of_getElem? (i := 251) (by decide +kernel)), by decide +kernel⟩
theorem gwp_7 : Cond.selects RX1 yX1_sumOf yX1_sumOf ∈ GW := List.mem_filter.mpr ⟨List.mem_append_left _ (List.mem_of_getElem? (i := 7) (by decide +kernel)), by decide +kernel⟩
theorem gw_98 : Cond.fieldLink RX1 27 "NestedSums$Layout" "shown" "LNestedSums$Numbers;" ∈ GW := List.mem_filter.mpr ⟨List.mem_append_right _ (List.mem_of_getElem? (i := 98) (by decide +kernel)), by decide +kernel⟩
theorem fl_X1_27 : FL RX1 27 1 2 := ⟨RX1, TX1, 11, rfl, by decide, inGW_1, Or.inl gw_98⟩
theorem nm_X1_113 : (RX1, 113, yX5_isSum, "NestedSums") ∈ nestM := List.mem_of_getElem? (i := 5) rfl
theorem gw_236 : Cond.methodLink RX1 116 yX1_startSum ∈ GW := List.mem_filter.mpr ⟨List.mem_append_right _ (List.mem_of_getElem? (i := 236) (by decide +kernel)), by decide +kernel⟩
theorem gw_249 : Cond.methodLink RX1 119 yX1_sumOf ∈ GW := List.mem_filter.mpr ⟨List.mem_append_right _ (List.mem_of_getElem? (i := 249) (by decide +kernel)), by decide +kernel⟩
theorem gw_232 : Cond.code yX1_showNumbers cX1_showNumbers 4 none ∈ GW := List.mem_filter.mpr ⟨List.mem_append_right _ (List.mem_of_getElem? (i := 232) (by decide +kernel)), by decide +kernel⟩
theorem gw_231 : Cond.instanceMethod yX1_showNumbers ∈ GW := List.mem_filter.mpr ⟨List.mem_append_right _ (List.mem_of_getElem? (i := 231) (by decide +kernel)), by decide +kernel⟩
theorem gwp_4 : Cond.selects RX1 yX1_showNumbers yX1_showNumbers ∈ GW := List.mem_filter.mpr ⟨List.mem_append_left _ (List.mem_of_getElem? (i := 4) (by decide +kernel)), by decide +kernel⟩
theorem gw_260 : Cond.code yX4_tableWithin cX4_tableWithin 2 (some .int) ∈ GW := List.mem_filter.mpr ⟨List.mem_append_right _ (List.mem_of_getElem? (i := 260) (by decide +kernel)), by decide +kernel⟩
theorem gw_258 : Cond.instanceMethod yX4_tableWithin ∈ GW := List.mem_filter.mpr ⟨List.mem_append_right _ (List.mem_of_getElem? (i := 258) (by decide +kernel)), by decide +kernel⟩
theorem gw_259 : Cond.selects RX4 yX4_tableWithin yX4_tableWithin ∈ GW := List.mem_filter.mpr ⟨List.mem_append_right _ (List.mem_of_getElem? (i := 259) (by decide +kernel)), by decide +kernel⟩
theorem gw_268 : Cond.code yX4_linesOf cX4_linesOf 3 (some .int) ∈ GW := List.mem_filter.mpr ⟨List.mem_append_right _ (List.mem_of_getElem? (i := 268) (by decide +kernel)), by decide +kernel⟩
theorem gw_266 : Cond.instanceMethod yX4_linesOf ∈ GW := List.mem_filter.mpr ⟨List.mem_append_right _ (List.mem_of_getElem? (i := 266) (by decide +kernel)), by decide +kernel⟩
theorem gw_267 : Cond.selects RX4 yX4_linesOf yX4_linesOf ∈ GW := List.mem_filter.mpr ⟨List.mem_append_right _ (List.mem_of_getElem? (i := 267) (by decide +kernel)), by decide +kernel⟩
theorem gw_105 : Cond.fieldLink RX1 39 "NestedSums$Layout" "edges" "LNestedSums$Numbers;" ∈ GW := List.mem_filter.mpr ⟨List.mem_append_right _ (List.mem_of_getElem? (i := 105) (by decide +kernel)), by decide +kernel⟩
theorem fl_X1_39 : FL RX1 39 1 6 := ⟨RX1, TX1, 11, rfl, by decide, inGW_1, Or.inl gw_105⟩
theorem gw_272 : Cond.code yX1_greatestRule cX1_greatestRule 7 (some .int) ∈ GW := List.mem_filter.mpr ⟨List.mem_append_right _ (List.mem_of_getElem? (i := 272) (by decide +kernel)), by decide +kernel⟩
theorem gw_271 : Cond.instanceMethod yX1_greatestRule ∈ GW := List.mem_filter.mpr ⟨List.mem_append_right _ (List.mem_of_getElem? (i := 271) (by decide +kernel)), by decide +kernel⟩
theorem gwp_10 : Cond.selects RX1 yX1_greatestRule yX1_greatestRule ∈ GW := List.mem_filter.mpr ⟨List.mem_append_left _ (List.mem_of_getElem? (i := 10) (by decide +kernel)), by decide +kernel⟩
theorem gw_269 : Cond.methodLink RX1 151 yX1_greatestRule ∈ GW := List.mem_filter.mpr ⟨List.mem_append_right _ (List.mem_of_getElem? (i := 269) (by decide +kernel)), by decide +kernel⟩
theorem gw_265 : Cond.methodLink RX1 148 yX4_linesOf ∈ GW := List.mem_filter.mpr ⟨List.mem_append_right _ (List.mem_of_getElem? (i := 265) (by decide +kernel)), by decide +kernel⟩
theorem gw_264 : Cond.code yX1_borderRule cX1_borderRule 5 (some .int) ∈ GW := List.mem_filter.mpr ⟨List.mem_append_right _ (List.mem_of_getElem? (i := 264) (by decide +kernel)), by decide +kernel⟩
theorem gw_263 : Cond.instanceMethod yX1_borderRule ∈ GW := List.mem_filter.mpr ⟨List.mem_append_right _ (List.mem_of_getElem? (i := 263) (by decide +kernel)), by decide +kernel⟩
theorem gwp_9 : Cond.selects RX1 yX1_borderRule yX1_borderRule ∈ GW := List.mem_filter.mpr ⟨List.mem_append_left _ (List.mem_of_getElem? (i := 9) (by decide +kernel)), by decide +kernel⟩
theorem gw_103 : Cond.fieldLink RX1 36 "NestedSums$Layout" "rules" "LNestedSums$Numbers;" ∈ GW := List.mem_filter.mpr ⟨List.mem_append_right _ (List.mem_of_getElem? (i := 103) (by decide +kernel)), by decide +kernel⟩
theorem fl_X1_36 : FL RX1 36 1 5 := ⟨RX1, TX1, 11, rfl, by decide, inGW_1, Or.inl gw_103⟩
theorem fl_X1_147 : FL RX1 147 4 8 := ⟨RX4, TX4, 9, rfl, by decide, inGW_4, Or.inr ⟨"NestedSums", List.mem_of_getElem? (i := 10) rfl⟩⟩
theorem gw_261 : Cond.methodLink RX1 144 yX1_borderRule ∈ GW := List.mem_filter.mpr ⟨List.mem_append_right _ (List.mem_of_getElem? (i := 261) (by decide +kernel)), by decide +kernel⟩
theorem gw_257 : Cond.methodLink RX1 141 yX4_tableWithin ∈ GW := List.mem_filter.mpr ⟨List.mem_append_right _ (List.mem_of_getElem? (i := 257) (by decide +kernel)), by decide +kernel⟩
theorem gw_256 : Cond.code yX1_ruleCells cX1_ruleCells 7 none ∈ GW := List.mem_filter.mpr ⟨List.mem_append_right _ (List.mem_of_getElem? (i := 256) (by decide +kernel)), by decide +kernel⟩
theorem gw_255 : Cond.instanceMethod yX1_ruleCells ∈ GW := List.mem_filter.mpr ⟨List.mem_append_right _ (List.mem_of_getElem? (i := 255) (by decide +kernel)), by decide +kernel⟩
theorem gwp_8 : Cond.selects RX1 yX1_ruleCells yX1_ruleCells ∈ GW := List.mem_filter.mpr ⟨List.mem_append_left _ (List.mem_of_getElem? (i := 8) (by decide +kernel)), by decide +kernel⟩
theorem gw_287 : Cond.code yX5_isBetween cX5_isBetween 3 (some .boolean) ∈ GW := List.mem_filter.mpr ⟨List.mem_append_right _ (List.mem_of_getElem? (i := 287) (by decide +kernel)), by decide +kernel⟩
theorem gw_286 : Cond.static yX5_isBetween ∈ GW := List.mem_filter.mpr ⟨List.mem_append_right _ (List.mem_of_getElem? (i := 286) (by decide +kernel)), by decide +kernel⟩
theorem nm_X4_79 : (RX4, 79, yX5_isBetween, "NestedSums") ∈ nestM := List.mem_of_getElem? (i := 8) rfl
theorem nm_X4_83 : (RX4, 83, yX5_tableOf, "NestedSums") ∈ nestM := List.mem_of_getElem? (i := 9) rfl
theorem gw_284 : Cond.code yX4_ownerBeside cX4_ownerBeside 7 (some .int) ∈ GW := List.mem_filter.mpr ⟨List.mem_append_right _ (List.mem_of_getElem? (i := 284) (by decide +kernel)), by decide +kernel⟩
theorem gw_282 : Cond.instanceMethod yX4_ownerBeside ∈ GW := List.mem_filter.mpr ⟨List.mem_append_right _ (List.mem_of_getElem? (i := 282) (by decide +kernel)), by decide +kernel⟩
theorem gw_283 : Cond.selects RX4 yX4_ownerBeside yX4_ownerBeside ∈ GW := List.mem_filter.mpr ⟨List.mem_append_right _ (List.mem_of_getElem? (i := 283) (by decide +kernel)), by decide +kernel⟩
theorem fl_X1_158 : FL RX1 158 4 4 := ⟨RX4, TX4, 9, rfl, by decide, inGW_4, Or.inr ⟨"NestedSums", List.mem_of_getElem? (i := 4) rfl⟩⟩
theorem gw_281 : Cond.methodLink RX1 161 yX4_ownerBeside ∈ GW := List.mem_filter.mpr ⟨List.mem_append_right _ (List.mem_of_getElem? (i := 281) (by decide +kernel)), by decide +kernel⟩
theorem gw_280 : Cond.code yX1_edgeRule cX1_edgeRule 7 (some .int) ∈ GW := List.mem_filter.mpr ⟨List.mem_append_right _ (List.mem_of_getElem? (i := 280) (by decide +kernel)), by decide +kernel⟩
theorem gw_279 : Cond.instanceMethod yX1_edgeRule ∈ GW := List.mem_filter.mpr ⟨List.mem_append_right _ (List.mem_of_getElem? (i := 279) (by decide +kernel)), by decide +kernel⟩
theorem gwp_12 : Cond.selects RX1 yX1_edgeRule yX1_edgeRule ∈ GW := List.mem_filter.mpr ⟨List.mem_append_left _ (List.mem_of_getElem? (i := 12) (by decide +kernel)), by decide +kernel⟩
theorem gw_277 : Cond.methodLink RX1 155 yX1_edgeRule ∈ GW := List.mem_filter.mpr ⟨List.mem_append_right _ (List.mem_of_getElem? (i := 277) (by decide +kernel)), by decide +kernel⟩
theorem gw_276 : Cond.code yX1_ruleEdges cX1_ruleEdges 4 none ∈ GW := List.mem_filter.mpr ⟨List.mem_append_right _ (List.mem_of_getElem? (i := 276) (by decide +kernel)), by decide +kernel⟩
theorem gw_275 : Cond.instanceMethod yX1_ruleEdges ∈ GW := List.mem_filter.mpr ⟨List.mem_append_right _ (List.mem_of_getElem? (i := 275) (by decide +kernel)), by decide +kernel⟩
theorem gwp_11 : Cond.selects RX1 yX1_ruleEdges yX1_ruleEdges ∈ GW := List.mem_filter.mpr ⟨List.mem_append_left _ (List.mem_of_getElem? (i := 11) (by decide +kernel)), by decide +kernel⟩
theorem gw_299 : Cond.code yX5_signsOf cX5_signsOf 4 (some .int) ∈ GW := List.mem_filter.mpr ⟨List.mem_append_right _ (List.mem_of_getElem? (i := 299) (by decide +kernel)), by decide +kernel⟩
theorem gw_298 : Cond.static yX5_signsOf ∈ GW := List.mem_filter.mpr ⟨List.mem_append_right _ (List.mem_of_getElem? (i := 298) (by decide +kernel)), by decide +kernel⟩
theorem nm_X1_167 : (RX1, 167, yX5_signsOf, "NestedSums") ∈ nestM := List.mem_of_getElem? (i := 10) rfl
theorem gw_110 : Cond.fieldLink RX1 48 "NestedSums$Layout" "tableSizes" "LNestedSums$Numbers;" ∈ GW := List.mem_filter.mpr ⟨List.mem_append_right _ (List.mem_of_getElem? (i := 110) (by decide +kernel)), by decide +kernel⟩
theorem fl_X1_48 : FL RX1 48 1 9 := ⟨RX1, TX1, 11, rfl, by decide, inGW_1, Or.inl gw_110⟩
theorem gw_296 : Cond.code yX1_wantOf cX1_wantOf 4 (some .int) ∈ GW := List.mem_filter.mpr ⟨List.mem_append_right _ (List.mem_of_getElem? (i := 296) (by decide +kernel)), by decide +kernel⟩
theorem gw_295 : Cond.instanceMethod yX1_wantOf ∈ GW := List.mem_filter.mpr ⟨List.mem_append_right _ (List.mem_of_getElem? (i := 295) (by decide +kernel)), by decide +kernel⟩
theorem gwp_14 : Cond.selects RX1 yX1_wantOf yX1_wantOf ∈ GW := List.mem_filter.mpr ⟨List.mem_append_left _ (List.mem_of_getElem? (i := 14) (by decide +kernel)), by decide +kernel⟩
theorem gw_101 : Cond.fieldLink RX1 33 "NestedSums$Layout" "wants" "LNestedSums$Numbers;" ∈ GW := List.mem_filter.mpr ⟨List.mem_append_right _ (List.mem_of_getElem? (i := 101) (by decide +kernel)), by decide +kernel⟩
theorem fl_X1_33 : FL RX1 33 1 4 := ⟨RX1, TX1, 11, rfl, by decide, inGW_1, Or.inl gw_101⟩
theorem gw_293 : Cond.methodLink RX1 164 yX1_wantOf ∈ GW := List.mem_filter.mpr ⟨List.mem_append_right _ (List.mem_of_getElem? (i := 293) (by decide +kernel)), by decide +kernel⟩
theorem gw_292 : Cond.code yX1_wantSizes cX1_wantSizes 4 none ∈ GW := List.mem_filter.mpr ⟨List.mem_append_right _ (List.mem_of_getElem? (i := 292) (by decide +kernel)), by decide +kernel⟩
theorem gw_291 : Cond.instanceMethod yX1_wantSizes ∈ GW := List.mem_filter.mpr ⟨List.mem_append_right _ (List.mem_of_getElem? (i := 291) (by decide +kernel)), by decide +kernel⟩
theorem gwp_13 : Cond.selects RX1 yX1_wantSizes yX1_wantSizes ∈ GW := List.mem_filter.mpr ⟨List.mem_append_left _ (List.mem_of_getElem? (i := 13) (by decide +kernel)), by decide +kernel⟩
theorem gw_307 : Cond.code yX4_spanOf cX4_spanOf 3 (some .int) ∈ GW := List.mem_filter.mpr ⟨List.mem_append_right _ (List.mem_of_getElem? (i := 307) (by decide +kernel)), by decide +kernel⟩
theorem gw_305 : Cond.instanceMethod yX4_spanOf ∈ GW := List.mem_filter.mpr ⟨List.mem_append_right _ (List.mem_of_getElem? (i := 305) (by decide +kernel)), by decide +kernel⟩
theorem gw_306 : Cond.selects RX4 yX4_spanOf yX4_spanOf ∈ GW := List.mem_filter.mpr ⟨List.mem_append_right _ (List.mem_of_getElem? (i := 306) (by decide +kernel)), by decide +kernel⟩
theorem gw_310 : Cond.code yX1_sizePlace cX1_sizePlace 3 (some .int) ∈ GW := List.mem_filter.mpr ⟨List.mem_append_right _ (List.mem_of_getElem? (i := 310) (by decide +kernel)), by decide +kernel⟩
theorem gw_309 : Cond.static yX1_sizePlace ∈ GW := List.mem_filter.mpr ⟨List.mem_append_right _ (List.mem_of_getElem? (i := 309) (by decide +kernel)), by decide +kernel⟩
theorem gw_304 : Cond.methodLink RX1 170 yX4_spanOf ∈ GW := List.mem_filter.mpr ⟨List.mem_append_right _ (List.mem_of_getElem? (i := 304) (by decide +kernel)), by decide +kernel⟩
theorem gw_308 : Cond.methodLink RX1 54 yX1_sizePlace ∈ GW := List.mem_filter.mpr ⟨List.mem_append_right _ (List.mem_of_getElem? (i := 308) (by decide +kernel)), by decide +kernel⟩
theorem gw_107 : Cond.fieldLink RX1 42 "NestedSums$Layout" "sizes" "LNestedSums$Numbers;" ∈ GW := List.mem_filter.mpr ⟨List.mem_append_right _ (List.mem_of_getElem? (i := 107) (by decide +kernel)), by decide +kernel⟩
theorem fl_X1_42 : FL RX1 42 1 7 := ⟨RX1, TX1, 11, rfl, by decide, inGW_1, Or.inl gw_107⟩
theorem gw_303 : Cond.code yX1_sizeSingles cX1_sizeSingles 5 none ∈ GW := List.mem_filter.mpr ⟨List.mem_append_right _ (List.mem_of_getElem? (i := 303) (by decide +kernel)), by decide +kernel⟩
theorem gw_302 : Cond.instanceMethod yX1_sizeSingles ∈ GW := List.mem_filter.mpr ⟨List.mem_append_right _ (List.mem_of_getElem? (i := 302) (by decide +kernel)), by decide +kernel⟩
theorem gwp_15 : Cond.selects RX1 yX1_sizeSingles yX1_sizeSingles ∈ GW := List.mem_filter.mpr ⟨List.mem_append_left _ (List.mem_of_getElem? (i := 15) (by decide +kernel)), by decide +kernel⟩
theorem gw_322 : Cond.code yX1_sizeOf cX1_sizeOf 4 (some .int) ∈ GW := List.mem_filter.mpr ⟨List.mem_append_right _ (List.mem_of_getElem? (i := 322) (by decide +kernel)), by decide +kernel⟩
theorem gw_320 : Cond.instanceMethod yX1_sizeOf ∈ GW := List.mem_filter.mpr ⟨List.mem_append_right _ (List.mem_of_getElem? (i := 320) (by decide +kernel)), by decide +kernel⟩
theorem gw_321 : Cond.selects RX1 yX1_sizeOf yX1_sizeOf ∈ GW := List.mem_filter.mpr ⟨List.mem_append_right _ (List.mem_of_getElem? (i := 321) (by decide +kernel)), by decide +kernel⟩
theorem gw_319 : Cond.methodLink RX1 176 yX1_sizeOf ∈ GW := List.mem_filter.mpr ⟨List.mem_append_right _ (List.mem_of_getElem? (i := 319) (by decide +kernel)), by decide +kernel⟩
theorem gw_318 : Cond.code yX1_sizeTogether cX1_sizeTogether 7 (some .int) ∈ GW := List.mem_filter.mpr ⟨List.mem_append_right _ (List.mem_of_getElem? (i := 318) (by decide +kernel)), by decide +kernel⟩
theorem gw_317 : Cond.instanceMethod yX1_sizeTogether ∈ GW := List.mem_filter.mpr ⟨List.mem_append_right _ (List.mem_of_getElem? (i := 317) (by decide +kernel)), by decide +kernel⟩
theorem gwp_17 : Cond.selects RX1 yX1_sizeTogether yX1_sizeTogether ∈ GW := List.mem_filter.mpr ⟨List.mem_append_left _ (List.mem_of_getElem? (i := 17) (by decide +kernel)), by decide +kernel⟩
theorem gw_315 : Cond.methodLink RX1 173 yX1_sizeTogether ∈ GW := List.mem_filter.mpr ⟨List.mem_append_right _ (List.mem_of_getElem? (i := 315) (by decide +kernel)), by decide +kernel⟩
theorem gw_314 : Cond.code yX1_sizeSpans cX1_sizeSpans 8 none ∈ GW := List.mem_filter.mpr ⟨List.mem_append_right _ (List.mem_of_getElem? (i := 314) (by decide +kernel)), by decide +kernel⟩
theorem gw_313 : Cond.instanceMethod yX1_sizeSpans ∈ GW := List.mem_filter.mpr ⟨List.mem_append_right _ (List.mem_of_getElem? (i := 313) (by decide +kernel)), by decide +kernel⟩
theorem gwp_16 : Cond.selects RX1 yX1_sizeSpans yX1_sizeSpans ∈ GW := List.mem_filter.mpr ⟨List.mem_append_left _ (List.mem_of_getElem? (i := 16) (by decide +kernel)), by decide +kernel⟩
theorem gw_108 : Cond.fieldLink RX1 45 "NestedSums$Layout" "drawn" "LNestedSums$Numbers;" ∈ GW := List.mem_filter.mpr ⟨List.mem_append_right _ (List.mem_of_getElem? (i := 108) (by decide +kernel)), by decide +kernel⟩
theorem fl_X1_45 : FL RX1 45 1 8 := ⟨RX1, TX1, 11, rfl, by decide, inGW_1, Or.inl gw_108⟩
theorem gw_326 : Cond.code yX1_sizeTable cX1_sizeTable 8 none ∈ GW := List.mem_filter.mpr ⟨List.mem_append_right _ (List.mem_of_getElem? (i := 326) (by decide +kernel)), by decide +kernel⟩
theorem gw_325 : Cond.instanceMethod yX1_sizeTable ∈ GW := List.mem_filter.mpr ⟨List.mem_append_right _ (List.mem_of_getElem? (i := 325) (by decide +kernel)), by decide +kernel⟩
theorem gwp_18 : Cond.selects RX1 yX1_sizeTable yX1_sizeTable ∈ GW := List.mem_filter.mpr ⟨List.mem_append_left _ (List.mem_of_getElem? (i := 18) (by decide +kernel)), by decide +kernel⟩
theorem gw_201 : Cond.methodLink RX1 62 yX2_clear ∈ GW := List.mem_filter.mpr ⟨List.mem_append_right _ (List.mem_of_getElem? (i := 201) (by decide +kernel)), by decide +kernel⟩
theorem fl_X1_65 : FL RX1 65 4 1 := ⟨RX4, TX4, 9, rfl, by decide, inGW_4, Or.inr ⟨"NestedSums", List.mem_of_getElem? (i := 2) rfl⟩⟩
theorem gw_208 : Cond.methodLink RX1 69 yX1_valueCells ∈ GW := List.mem_filter.mpr ⟨List.mem_append_right _ (List.mem_of_getElem? (i := 208) (by decide +kernel)), by decide +kernel⟩
theorem gw_229 : Cond.methodLink RX1 72 yX1_showNumbers ∈ GW := List.mem_filter.mpr ⟨List.mem_append_right _ (List.mem_of_getElem? (i := 229) (by decide +kernel)), by decide +kernel⟩
theorem gw_253 : Cond.methodLink RX1 75 yX1_ruleCells ∈ GW := List.mem_filter.mpr ⟨List.mem_append_right _ (List.mem_of_getElem? (i := 253) (by decide +kernel)), by decide +kernel⟩
theorem gw_273 : Cond.methodLink RX1 78 yX1_ruleEdges ∈ GW := List.mem_filter.mpr ⟨List.mem_append_right _ (List.mem_of_getElem? (i := 273) (by decide +kernel)), by decide +kernel⟩
theorem gw_289 : Cond.methodLink RX1 81 yX1_wantSizes ∈ GW := List.mem_filter.mpr ⟨List.mem_append_right _ (List.mem_of_getElem? (i := 289) (by decide +kernel)), by decide +kernel⟩
theorem gw_300 : Cond.methodLink RX1 85 yX1_sizeSingles ∈ GW := List.mem_filter.mpr ⟨List.mem_append_right _ (List.mem_of_getElem? (i := 300) (by decide +kernel)), by decide +kernel⟩
theorem gw_311 : Cond.methodLink RX1 88 yX1_sizeSpans ∈ GW := List.mem_filter.mpr ⟨List.mem_append_right _ (List.mem_of_getElem? (i := 311) (by decide +kernel)), by decide +kernel⟩
theorem gw_323 : Cond.methodLink RX1 91 yX1_sizeTable ∈ GW := List.mem_filter.mpr ⟨List.mem_append_right _ (List.mem_of_getElem? (i := 323) (by decide +kernel)), by decide +kernel⟩
theorem gw_200 : Cond.code yX1_measure cX1_measure 3 none ∈ GW := List.mem_filter.mpr ⟨List.mem_append_right _ (List.mem_of_getElem? (i := 200) (by decide +kernel)), by decide +kernel⟩
theorem gw_198 : Cond.instanceMethod yX1_measure ∈ GW := List.mem_filter.mpr ⟨List.mem_append_right _ (List.mem_of_getElem? (i := 198) (by decide +kernel)), by decide +kernel⟩
theorem gw_199 : Cond.selects RX1 yX1_measure yX1_measure ∈ GW := List.mem_filter.mpr ⟨List.mem_append_right _ (List.mem_of_getElem? (i := 199) (by decide +kernel)), by decide +kernel⟩
theorem gw_391 : Cond.methodLink RX5 95 yX5_isBetween ∈ GW := List.mem_filter.mpr ⟨List.mem_append_right _ (List.mem_of_getElem? (i := 391) (by decide +kernel)), by decide +kernel⟩
theorem gw_13 : Cond.initialized "java/lang/IllegalArgumentException" ∈ GW := List.mem_filter.mpr ⟨List.mem_append_right _ (List.mem_of_getElem? (i := 13) (by decide +kernel)), by decide +kernel⟩
theorem gw_392 : Cond.classLink RX5 86 "java/lang/IllegalArgumentException" ∈ GW := List.mem_filter.mpr ⟨List.mem_append_right _ (List.mem_of_getElem? (i := 392) (by decide +kernel)), by decide +kernel⟩
theorem at_X5_88 : ∀ w ∈ vx_at0 RX5 88 "java/lang/IllegalArgumentException" ["java/lang/RuntimeException", "java/lang/Exception"], w ∈ GW ∨ w ∈ xwL := by
  have h1 : ∀ w ∈ vx_at0 RX5 88 "java/lang/IllegalArgumentException" ["java/lang/RuntimeException", "java/lang/Exception"], (w ∈ tables_1 ∧ goodWord w = true) ∨ (w ∈ lw_tbl ∧ goodWord w = true) ∨ w ∈ xwL := by decide +kernel
  intro w hw
  rcases h1 w hw with h | h | h
  · exact Or.inl (List.mem_filter.mpr ⟨List.mem_append_right _ h.1, h.2⟩)
  · exact Or.inl (List.mem_filter.mpr h)
  · exact Or.inr h
theorem gw_390 : Cond.code yX5_requireBetween cX5_requireBetween 3 none ∈ GW := List.mem_filter.mpr ⟨List.mem_append_right _ (List.mem_of_getElem? (i := 390) (by decide +kernel)), by decide +kernel⟩
theorem gw_389 : Cond.static yX5_requireBetween ∈ GW := List.mem_filter.mpr ⟨List.mem_append_right _ (List.mem_of_getElem? (i := 389) (by decide +kernel)), by decide +kernel⟩
theorem gw_388 : Cond.methodLink RX5 112 yX5_requireBetween ∈ GW := List.mem_filter.mpr ⟨List.mem_append_right _ (List.mem_of_getElem? (i := 388) (by decide +kernel)), by decide +kernel⟩
theorem gw_594 : Cond.code yX5_requireLines cX5_requireLines 2 none ∈ GW := List.mem_filter.mpr ⟨List.mem_append_right _ (List.mem_of_getElem? (i := 594) (by decide +kernel)), by decide +kernel⟩
theorem gw_593 : Cond.static yX5_requireLines ∈ GW := List.mem_filter.mpr ⟨List.mem_append_right _ (List.mem_of_getElem? (i := 593) (by decide +kernel)), by decide +kernel⟩
theorem gw_147 : Cond.fieldLink RX0 22 "NestedSums$History" "oldest" "I" ∈ GW := List.mem_filter.mpr ⟨List.mem_append_right _ (List.mem_of_getElem? (i := 147) (by decide +kernel)), by decide +kernel⟩
theorem inGW_0 : ∀ w ∈ u_ws RX0 TX0 3, w ∈ GW := by
  have h1 : ∀ w ∈ u_ws RX0 TX0 3, w ∈ tables_1 := by decide +kernel
  have h2 : ∀ w ∈ u_ws RX0 TX0 3, goodWord w = true := by decide +kernel
  exact fun w hw => List.mem_filter.mpr ⟨List.mem_append_right _ (h1 w hw), h2 w hw⟩
theorem fl_X0_22 : FL RX0 22 0 1 := ⟨RX0, TX0, 3, rfl, by decide, inGW_0, Or.inl gw_147⟩
theorem gw_146 : Cond.fieldLink RX0 11 "NestedSums$History" "sheets" "[LNestedSums$Sheet;" ∈ GW := List.mem_filter.mpr ⟨List.mem_append_right _ (List.mem_of_getElem? (i := 146) (by decide +kernel)), by decide +kernel⟩
theorem fl_X0_11 : FL RX0 11 0 0 := ⟨RX0, TX0, 3, rfl, by decide, inGW_0, Or.inl gw_146⟩
theorem gw_602 : Cond.code yX0_sheetAt cX0_sheetAt 3 (some (.object "NestedSums$Sheet")) ∈ GW := List.mem_filter.mpr ⟨List.mem_append_right _ (List.mem_of_getElem? (i := 602) (by decide +kernel)), by decide +kernel⟩
theorem gw_6 : Cond.initialized RX0 ∈ GW := List.mem_filter.mpr ⟨List.mem_append_right _ (List.mem_of_getElem? (i := 6) (by decide +kernel)), by decide +kernel⟩
theorem gw_601 : Cond.instanceMethod yX0_sheetAt ∈ GW := List.mem_filter.mpr ⟨List.mem_append_right _ (List.mem_of_getElem? (i := 601) (by decide +kernel)), by decide +kernel⟩
theorem gwp_29 : Cond.selects RX0 yX0_sheetAt yX0_sheetAt ∈ GW := List.mem_filter.mpr ⟨List.mem_append_left _ (List.mem_of_getElem? (i := 29) (by decide +kernel)), by decide +kernel⟩
theorem gw_553 : Cond.methodLink RX2 19 Lib.Math.min.name ∈ GW := List.mem_filter.mpr ⟨List.mem_append_right _ (List.mem_of_getElem? (i := 553) (by decide +kernel)), by decide +kernel⟩
theorem gw_554 : Cond.static Lib.Math.min.name ∈ GW := List.mem_filter.mpr ⟨List.mem_append_right _ (List.mem_of_getElem? (i := 554) (by decide +kernel)), by decide +kernel⟩
theorem gw_555 : Cond.code Lib.Math.min.name Lib.Math.min.code 2 (some .int) ∈ GW := List.mem_filter.mpr ⟨List.mem_append_right _ (List.mem_of_getElem? (i := 555) (by decide +kernel)), by decide +kernel⟩
theorem gw_556 : Cond.methodLink RX2 22 arraycopyName ∈ GW := List.mem_filter.mpr ⟨List.mem_append_right _ (List.mem_of_getElem? (i := 556) (by decide +kernel)), by decide +kernel⟩
theorem gw_558 : Cond.native arraycopyName ∈ GW := List.mem_filter.mpr ⟨List.mem_append_right _ (List.mem_of_getElem? (i := 558) (by decide +kernel)), by decide +kernel⟩
theorem gw_557 : Cond.static arraycopyName ∈ GW := List.mem_filter.mpr ⟨List.mem_append_right _ (List.mem_of_getElem? (i := 557) (by decide +kernel)), by decide +kernel⟩
theorem gw_14 : Cond.initialized RJ10 ∈ GW := List.mem_filter.mpr ⟨List.mem_append_right _ (List.mem_of_getElem? (i := 14) (by decide +kernel)), by decide +kernel⟩
theorem gw_552 : Cond.code yX2_copyFrom cX2_copyFrom 2 none ∈ GW := List.mem_filter.mpr ⟨List.mem_append_right _ (List.mem_of_getElem? (i := 552) (by decide +kernel)), by decide +kernel⟩
theorem gw_550 : Cond.instanceMethod yX2_copyFrom ∈ GW := List.mem_filter.mpr ⟨List.mem_append_right _ (List.mem_of_getElem? (i := 550) (by decide +kernel)), by decide +kernel⟩
theorem gw_551 : Cond.selects RX2 yX2_copyFrom yX2_copyFrom ∈ GW := List.mem_filter.mpr ⟨List.mem_append_right _ (List.mem_of_getElem? (i := 551) (by decide +kernel)), by decide +kernel⟩
theorem gw_53 : Cond.fieldLink RX4 9 "NestedSums$Sheet" "pageHeight" "I" ∈ GW := List.mem_filter.mpr ⟨List.mem_append_right _ (List.mem_of_getElem? (i := 53) (by decide +kernel)), by decide +kernel⟩
theorem fl_X4_9 : FL RX4 9 4 0 := ⟨RX4, TX4, 9, rfl, by decide, inGW_4, Or.inl gw_53⟩
theorem fw_X4_9 : FW RX4 9 4 0 .int := ⟨RX4, TX4, 9, tyX4, rfl, by decide, inGW_4, Or.inl gw_53, tyX4_ok, nmX4, rfl, tyX4_ok 0 (by decide)⟩
theorem gw_549 : Cond.methodLink RX4 45 yX2_copyFrom ∈ GW := List.mem_filter.mpr ⟨List.mem_append_right _ (List.mem_of_getElem? (i := 549) (by decide +kernel)), by decide +kernel⟩
theorem gw_548 : Cond.code yX4_copyFrom cX4_copyFrom 2 none ∈ GW := List.mem_filter.mpr ⟨List.mem_append_right _ (List.mem_of_getElem? (i := 548) (by decide +kernel)), by decide +kernel⟩
theorem gw_546 : Cond.instanceMethod yX4_copyFrom ∈ GW := List.mem_filter.mpr ⟨List.mem_append_right _ (List.mem_of_getElem? (i := 546) (by decide +kernel)), by decide +kernel⟩
theorem gw_547 : Cond.selects RX4 yX4_copyFrom yX4_copyFrom ∈ GW := List.mem_filter.mpr ⟨List.mem_append_right _ (List.mem_of_getElem? (i := 547) (by decide +kernel)), by decide +kernel⟩
theorem gw_148 : Cond.fieldLink RX0 18 "NestedSums$History" "saved" "I" ∈ GW := List.mem_filter.mpr ⟨List.mem_append_right _ (List.mem_of_getElem? (i := 148) (by decide +kernel)), by decide +kernel⟩
theorem fl_X0_18 : FL RX0 18 0 2 := ⟨RX0, TX0, 3, rfl, by decide, inGW_0, Or.inl gw_148⟩
theorem gw_599 : Cond.methodLink RX0 25 yX0_sheetAt ∈ GW := List.mem_filter.mpr ⟨List.mem_append_right _ (List.mem_of_getElem? (i := 599) (by decide +kernel)), by decide +kernel⟩
theorem gw_603 : Cond.methodLink RX0 29 yX4_copyFrom ∈ GW := List.mem_filter.mpr ⟨List.mem_append_right _ (List.mem_of_getElem? (i := 603) (by decide +kernel)), by decide +kernel⟩
theorem fw_X0_18 : FW RX0 18 0 2 .int := ⟨RX0, TX0, 3, tyX0, rfl, by decide, inGW_0, Or.inl gw_148, tyX0_ok, nmX0, rfl, tyX0_ok 2 (by decide)⟩
theorem fw_X0_22 : FW RX0 22 0 1 .int := ⟨RX0, TX0, 3, tyX0, rfl, by decide, inGW_0, Or.inl gw_147, tyX0_ok, nmX0, rfl, tyX0_ok 1 (by decide)⟩
theorem gw_598 : Cond.code yX0_save cX0_save 3 none ∈ GW := List.mem_filter.mpr ⟨List.mem_append_right _ (List.mem_of_getElem? (i := 598) (by decide +kernel)), by decide +kernel⟩
theorem gw_596 : Cond.instanceMethod yX0_save ∈ GW := List.mem_filter.mpr ⟨List.mem_append_right _ (List.mem_of_getElem? (i := 596) (by decide +kernel)), by decide +kernel⟩
theorem gw_597 : Cond.selects RX0 yX0_save yX0_save ∈ GW := List.mem_filter.mpr ⟨List.mem_append_right _ (List.mem_of_getElem? (i := 597) (by decide +kernel)), by decide +kernel⟩
theorem gw_592 : Cond.methodLink RX5 47 yX5_requireLines ∈ GW := List.mem_filter.mpr ⟨List.mem_append_right _ (List.mem_of_getElem? (i := 592) (by decide +kernel)), by decide +kernel⟩
theorem gw_330 : Cond.fieldLink RX5 27 "NestedSums" "history" "LNestedSums$History;" ∈ GW := List.mem_filter.mpr ⟨List.mem_append_right _ (List.mem_of_getElem? (i := 330) (by decide +kernel)), by decide +kernel⟩
theorem inGW_5 : ∀ w ∈ u_ws RX5 TX5 5, w ∈ GW := by
  have h1 : ∀ w ∈ u_ws RX5 TX5 5, w ∈ tables_1 := by decide +kernel
  have h2 : ∀ w ∈ u_ws RX5 TX5 5, goodWord w = true := by decide +kernel
  exact fun w hw => List.mem_filter.mpr ⟨List.mem_append_right _ (h1 w hw), h2 w hw⟩
theorem fl_X5_27 : FL RX5 27 5 3 := ⟨RX5, TX5, 5, rfl, by decide, inGW_5, Or.inl gw_330⟩
theorem gw_328 : Cond.fieldLink RX5 20 "NestedSums" "sheet" "LNestedSums$Sheet;" ∈ GW := List.mem_filter.mpr ⟨List.mem_append_right _ (List.mem_of_getElem? (i := 328) (by decide +kernel)), by decide +kernel⟩
theorem fl_X5_20 : FL RX5 20 5 1 := ⟨RX5, TX5, 5, rfl, by decide, inGW_5, Or.inl gw_328⟩
theorem gw_595 : Cond.methodLink RX5 50 yX0_save ∈ GW := List.mem_filter.mpr ⟨List.mem_append_right _ (List.mem_of_getElem? (i := 595) (by decide +kernel)), by decide +kernel⟩
theorem gw_174 : Cond.methodLink RX5 38 yX4_startAnew ∈ GW := List.mem_filter.mpr ⟨List.mem_append_right _ (List.mem_of_getElem? (i := 174) (by decide +kernel)), by decide +kernel⟩
theorem gw_327 : Cond.fieldLink RX5 12 "NestedSums" "layout" "LNestedSums$Layout;" ∈ GW := List.mem_filter.mpr ⟨List.mem_append_right _ (List.mem_of_getElem? (i := 327) (by decide +kernel)), by decide +kernel⟩
theorem fl_X5_12 : FL RX5 12 5 0 := ⟨RX5, TX5, 5, rfl, by decide, inGW_5, Or.inl gw_327⟩
theorem gw_197 : Cond.methodLink RX5 44 yX1_measure ∈ GW := List.mem_filter.mpr ⟨List.mem_append_right _ (List.mem_of_getElem? (i := 197) (by decide +kernel)), by decide +kernel⟩
theorem gw_591 : Cond.code yX5_begin cX5_begin 3 (some .int) ∈ GW := List.mem_filter.mpr ⟨List.mem_append_right _ (List.mem_of_getElem? (i := 591) (by decide +kernel)), by decide +kernel⟩
theorem gw_589 : Cond.instanceMethod yX5_begin ∈ GW := List.mem_filter.mpr ⟨List.mem_append_right _ (List.mem_of_getElem? (i := 589) (by decide +kernel)), by decide +kernel⟩
theorem gw_590 : Cond.selects RX5 yX5_begin yX5_begin ∈ GW := List.mem_filter.mpr ⟨List.mem_append_right _ (List.mem_of_getElem? (i := 590) (by decide +kernel)), by decide +kernel⟩
theorem gw_500 : Cond.code yX4_hasTable cX4_hasTable 2 (some .boolean) ∈ GW := List.mem_filter.mpr ⟨List.mem_append_right _ (List.mem_of_getElem? (i := 500) (by decide +kernel)), by decide +kernel⟩
theorem gw_498 : Cond.instanceMethod yX4_hasTable ∈ GW := List.mem_filter.mpr ⟨List.mem_append_right _ (List.mem_of_getElem? (i := 498) (by decide +kernel)), by decide +kernel⟩
theorem gw_499 : Cond.selects RX4 yX4_hasTable yX4_hasTable ∈ GW := List.mem_filter.mpr ⟨List.mem_append_right _ (List.mem_of_getElem? (i := 499) (by decide +kernel)), by decide +kernel⟩
theorem gw_497 : Cond.methodLink RX4 68 yX4_hasTable ∈ GW := List.mem_filter.mpr ⟨List.mem_append_right _ (List.mem_of_getElem? (i := 497) (by decide +kernel)), by decide +kernel⟩
theorem gw_476 : Cond.methodLink RX4 72 yX4_linesOf ∈ GW := List.mem_filter.mpr ⟨List.mem_append_right _ (List.mem_of_getElem? (i := 476) (by decide +kernel)), by decide +kernel⟩
theorem gw_496 : Cond.code yX4_squareAt cX4_squareAt 5 (some .int) ∈ GW := List.mem_filter.mpr ⟨List.mem_append_right _ (List.mem_of_getElem? (i := 496) (by decide +kernel)), by decide +kernel⟩
theorem gw_494 : Cond.instanceMethod yX4_squareAt ∈ GW := List.mem_filter.mpr ⟨List.mem_append_right _ (List.mem_of_getElem? (i := 494) (by decide +kernel)), by decide +kernel⟩
theorem gw_495 : Cond.selects RX4 yX4_squareAt yX4_squareAt ∈ GW := List.mem_filter.mpr ⟨List.mem_append_right _ (List.mem_of_getElem? (i := 495) (by decide +kernel)), by decide +kernel⟩
theorem gw_493 : Cond.methodLink RX5 99 yX4_squareAt ∈ GW := List.mem_filter.mpr ⟨List.mem_append_right _ (List.mem_of_getElem? (i := 493) (by decide +kernel)), by decide +kernel⟩
theorem gw_15 : Cond.initialized "java/lang/IndexOutOfBoundsException" ∈ GW := List.mem_filter.mpr ⟨List.mem_append_right _ (List.mem_of_getElem? (i := 15) (by decide +kernel)), by decide +kernel⟩
theorem gw_525 : Cond.classLink RX5 102 "java/lang/IndexOutOfBoundsException" ∈ GW := List.mem_filter.mpr ⟨List.mem_append_right _ (List.mem_of_getElem? (i := 525) (by decide +kernel)), by decide +kernel⟩
theorem at_X5_104 : ∀ w ∈ vx_at0 RX5 104 "java/lang/IndexOutOfBoundsException" ["java/lang/RuntimeException", "java/lang/Exception"], w ∈ GW ∨ w ∈ xwL := by
  have h1 : ∀ w ∈ vx_at0 RX5 104 "java/lang/IndexOutOfBoundsException" ["java/lang/RuntimeException", "java/lang/Exception"], (w ∈ tables_1 ∧ goodWord w = true) ∨ (w ∈ lw_tbl ∧ goodWord w = true) ∨ w ∈ xwL := by decide +kernel
  intro w hw
  rcases h1 w hw with h | h | h
  · exact Or.inl (List.mem_filter.mpr ⟨List.mem_append_right _ h.1, h.2⟩)
  · exact Or.inl (List.mem_filter.mpr h)
  · exact Or.inr h
theorem gw_616 : Cond.code yX5_requireSquare cX5_requireSquare 5 (some .int) ∈ GW := List.mem_filter.mpr ⟨List.mem_append_right _ (List.mem_of_getElem? (i := 616) (by decide +kernel)), by decide +kernel⟩
theorem gw_615 : Cond.instanceMethod yX5_requireSquare ∈ GW := List.mem_filter.mpr ⟨List.mem_append_right _ (List.mem_of_getElem? (i := 615) (by decide +kernel)), by decide +kernel⟩
theorem gwp_30 : Cond.selects RX5 yX5_requireSquare yX5_requireSquare ∈ GW := List.mem_filter.mpr ⟨List.mem_append_left _ (List.mem_of_getElem? (i := 30) (by decide +kernel)), by decide +kernel⟩
theorem gw_635 : Cond.code yX4_addTable cX4_addTable 5 (some .int) ∈ GW := List.mem_filter.mpr ⟨List.mem_append_right _ (List.mem_of_getElem? (i := 635) (by decide +kernel)), by decide +kernel⟩
theorem gw_633 : Cond.instanceMethod yX4_addTable ∈ GW := List.mem_filter.mpr ⟨List.mem_append_right _ (List.mem_of_getElem? (i := 633) (by decide +kernel)), by decide +kernel⟩
theorem gw_634 : Cond.selects RX4 yX4_addTable yX4_addTable ∈ GW := List.mem_filter.mpr ⟨List.mem_append_right _ (List.mem_of_getElem? (i := 634) (by decide +kernel)), by decide +kernel⟩
theorem gw_613 : Cond.methodLink RX5 54 yX5_requireSquare ∈ GW := List.mem_filter.mpr ⟨List.mem_append_right _ (List.mem_of_getElem? (i := 613) (by decide +kernel)), by decide +kernel⟩
theorem gw_509 : Cond.methodLink RX5 58 yX4_isCell ∈ GW := List.mem_filter.mpr ⟨List.mem_append_right _ (List.mem_of_getElem? (i := 509) (by decide +kernel)), by decide +kernel⟩
theorem gw_16 : Cond.initialized "java/lang/IllegalStateException" ∈ GW := List.mem_filter.mpr ⟨List.mem_append_right _ (List.mem_of_getElem? (i := 16) (by decide +kernel)), by decide +kernel⟩
theorem gw_617 : Cond.classLink RX5 76 "java/lang/IllegalStateException" ∈ GW := List.mem_filter.mpr ⟨List.mem_append_right _ (List.mem_of_getElem? (i := 617) (by decide +kernel)), by decide +kernel⟩
theorem at_X5_78 : ∀ w ∈ vx_at0 RX5 78 "java/lang/IllegalStateException" ["java/lang/RuntimeException", "java/lang/Exception"], w ∈ GW ∨ w ∈ xwL := by
  have h1 : ∀ w ∈ vx_at0 RX5 78 "java/lang/IllegalStateException" ["java/lang/RuntimeException", "java/lang/Exception"], (w ∈ tables_1 ∧ goodWord w = true) ∨ (w ∈ lw_tbl ∧ goodWord w = true) ∨ w ∈ xwL := by decide +kernel
  intro w hw
  rcases h1 w hw with h | h | h
  · exact Or.inl (List.mem_filter.mpr ⟨List.mem_append_right _ h.1, h.2⟩)
  · exact Or.inl (List.mem_filter.mpr h)
  · exact Or.inr h
theorem fl_X5_62 : FL RX5 62 4 5 := ⟨RX4, TX4, 9, rfl, by decide, inGW_4, Or.inr ⟨"NestedSums", List.mem_of_getElem? (i := 5) rfl⟩⟩
theorem gw_490 : Cond.methodLink RX5 66 yX2_at ∈ GW := List.mem_filter.mpr ⟨List.mem_append_right _ (List.mem_of_getElem? (i := 490) (by decide +kernel)), by decide +kernel⟩
theorem fl_X5_72 : FL RX5 72 4 1 := ⟨RX4, TX4, 9, rfl, by decide, inGW_4, Or.inr ⟨"NestedSums", List.mem_of_getElem? (i := 1) rfl⟩⟩
theorem gw_632 : Cond.methodLink RX5 79 yX4_addTable ∈ GW := List.mem_filter.mpr ⟨List.mem_append_right _ (List.mem_of_getElem? (i := 632) (by decide +kernel)), by decide +kernel⟩
theorem gw_612 : Cond.code yX5_nest cX5_nest 8 (some .int) ∈ GW := List.mem_filter.mpr ⟨List.mem_append_right _ (List.mem_of_getElem? (i := 612) (by decide +kernel)), by decide +kernel⟩
theorem gw_610 : Cond.instanceMethod yX5_nest ∈ GW := List.mem_filter.mpr ⟨List.mem_append_right _ (List.mem_of_getElem? (i := 610) (by decide +kernel)), by decide +kernel⟩
theorem gw_611 : Cond.selects RX5 yX5_nest yX5_nest ∈ GW := List.mem_filter.mpr ⟨List.mem_append_right _ (List.mem_of_getElem? (i := 611) (by decide +kernel)), by decide +kernel⟩
theorem gw_516 : Cond.methodLink RX5 232 yX5_isSum ∈ GW := List.mem_filter.mpr ⟨List.mem_append_right _ (List.mem_of_getElem? (i := 516) (by decide +kernel)), by decide +kernel⟩
theorem gw_645 : Cond.code yX5_isContent cX5_isContent 2 (some .boolean) ∈ GW := List.mem_filter.mpr ⟨List.mem_append_right _ (List.mem_of_getElem? (i := 645) (by decide +kernel)), by decide +kernel⟩
theorem gw_644 : Cond.static yX5_isContent ∈ GW := List.mem_filter.mpr ⟨List.mem_append_right _ (List.mem_of_getElem? (i := 644) (by decide +kernel)), by decide +kernel⟩
theorem gw_374 : Cond.methodLink RX4 86 yX4_isCell ∈ GW := List.mem_filter.mpr ⟨List.mem_append_right _ (List.mem_of_getElem? (i := 374) (by decide +kernel)), by decide +kernel⟩
theorem gw_649 : Cond.code yX4_canFill cX4_canFill 2 (some .boolean) ∈ GW := List.mem_filter.mpr ⟨List.mem_append_right _ (List.mem_of_getElem? (i := 649) (by decide +kernel)), by decide +kernel⟩
theorem gw_647 : Cond.instanceMethod yX4_canFill ∈ GW := List.mem_filter.mpr ⟨List.mem_append_right _ (List.mem_of_getElem? (i := 647) (by decide +kernel)), by decide +kernel⟩
theorem gw_648 : Cond.selects RX4 yX4_canFill yX4_canFill ∈ GW := List.mem_filter.mpr ⟨List.mem_append_right _ (List.mem_of_getElem? (i := 648) (by decide +kernel)), by decide +kernel⟩
theorem gw_562 : Cond.code yX4_fill cX4_fill 5 (some .int) ∈ GW := List.mem_filter.mpr ⟨List.mem_append_right _ (List.mem_of_getElem? (i := 562) (by decide +kernel)), by decide +kernel⟩
theorem gw_560 : Cond.instanceMethod yX4_fill ∈ GW := List.mem_filter.mpr ⟨List.mem_append_right _ (List.mem_of_getElem? (i := 560) (by decide +kernel)), by decide +kernel⟩
theorem gw_561 : Cond.selects RX4 yX4_fill yX4_fill ∈ GW := List.mem_filter.mpr ⟨List.mem_append_right _ (List.mem_of_getElem? (i := 561) (by decide +kernel)), by decide +kernel⟩
theorem gw_643 : Cond.methodLink RX5 82 yX5_isContent ∈ GW := List.mem_filter.mpr ⟨List.mem_append_right _ (List.mem_of_getElem? (i := 643) (by decide +kernel)), by decide +kernel⟩
theorem gw_646 : Cond.methodLink RX5 89 yX4_canFill ∈ GW := List.mem_filter.mpr ⟨List.mem_append_right _ (List.mem_of_getElem? (i := 646) (by decide +kernel)), by decide +kernel⟩
theorem gw_559 : Cond.methodLink RX5 92 yX4_fill ∈ GW := List.mem_filter.mpr ⟨List.mem_append_right _ (List.mem_of_getElem? (i := 559) (by decide +kernel)), by decide +kernel⟩
theorem gw_642 : Cond.code yX5_put cX5_put 8 (some .int) ∈ GW := List.mem_filter.mpr ⟨List.mem_append_right _ (List.mem_of_getElem? (i := 642) (by decide +kernel)), by decide +kernel⟩
theorem gw_640 : Cond.instanceMethod yX5_put ∈ GW := List.mem_filter.mpr ⟨List.mem_append_right _ (List.mem_of_getElem? (i := 640) (by decide +kernel)), by decide +kernel⟩
theorem gw_641 : Cond.selects RX5 yX5_put yX5_put ∈ GW := List.mem_filter.mpr ⟨List.mem_append_right _ (List.mem_of_getElem? (i := 641) (by decide +kernel)), by decide +kernel⟩
theorem gw_665 : Cond.methodLink RX4 92 yX4_spanOf ∈ GW := List.mem_filter.mpr ⟨List.mem_append_right _ (List.mem_of_getElem? (i := 665) (by decide +kernel)), by decide +kernel⟩
theorem gw_664 : Cond.code yX4_isSingleEmpty cX4_isSingleEmpty 2 (some .boolean) ∈ GW := List.mem_filter.mpr ⟨List.mem_append_right _ (List.mem_of_getElem? (i := 664) (by decide +kernel)), by decide +kernel⟩
theorem gw_663 : Cond.instanceMethod yX4_isSingleEmpty ∈ GW := List.mem_filter.mpr ⟨List.mem_append_right _ (List.mem_of_getElem? (i := 663) (by decide +kernel)), by decide +kernel⟩
theorem gwp_31 : Cond.selects RX4 yX4_isSingleEmpty yX4_isSingleEmpty ∈ GW := List.mem_filter.mpr ⟨List.mem_append_left _ (List.mem_of_getElem? (i := 31) (by decide +kernel)), by decide +kernel⟩
theorem gw_661 : Cond.methodLink RX4 89 yX4_isSingleEmpty ∈ GW := List.mem_filter.mpr ⟨List.mem_append_right _ (List.mem_of_getElem? (i := 661) (by decide +kernel)), by decide +kernel⟩
theorem gw_660 : Cond.code yX4_canCover cX4_canCover 7 (some .boolean) ∈ GW := List.mem_filter.mpr ⟨List.mem_append_right _ (List.mem_of_getElem? (i := 660) (by decide +kernel)), by decide +kernel⟩
theorem gw_658 : Cond.instanceMethod yX4_canCover ∈ GW := List.mem_filter.mpr ⟨List.mem_append_right _ (List.mem_of_getElem? (i := 658) (by decide +kernel)), by decide +kernel⟩
theorem gw_659 : Cond.selects RX4 yX4_canCover yX4_canCover ∈ GW := List.mem_filter.mpr ⟨List.mem_append_right _ (List.mem_of_getElem? (i := 659) (by decide +kernel)), by decide +kernel⟩
theorem gw_673 : Cond.code yX4_giveSquares cX4_giveSquares 8 none ∈ GW := List.mem_filter.mpr ⟨List.mem_append_right _ (List.mem_of_getElem? (i := 673) (by decide +kernel)), by decide +kernel⟩
theorem gw_672 : Cond.instanceMethod yX4_giveSquares ∈ GW := List.mem_filter.mpr ⟨List.mem_append_right _ (List.mem_of_getElem? (i := 672) (by decide +kernel)), by decide +kernel⟩
theorem gwp_32 : Cond.selects RX4 yX4_giveSquares yX4_giveSquares ∈ GW := List.mem_filter.mpr ⟨List.mem_append_left _ (List.mem_of_getElem? (i := 32) (by decide +kernel)), by decide +kernel⟩
theorem gw_670 : Cond.methodLink RX4 95 yX4_giveSquares ∈ GW := List.mem_filter.mpr ⟨List.mem_append_right _ (List.mem_of_getElem? (i := 670) (by decide +kernel)), by decide +kernel⟩
theorem gw_669 : Cond.code yX4_cover cX4_cover 4 none ∈ GW := List.mem_filter.mpr ⟨List.mem_append_right _ (List.mem_of_getElem? (i := 669) (by decide +kernel)), by decide +kernel⟩
theorem gw_667 : Cond.instanceMethod yX4_cover ∈ GW := List.mem_filter.mpr ⟨List.mem_append_right _ (List.mem_of_getElem? (i := 667) (by decide +kernel)), by decide +kernel⟩
theorem gw_668 : Cond.selects RX4 yX4_cover yX4_cover ∈ GW := List.mem_filter.mpr ⟨List.mem_append_right _ (List.mem_of_getElem? (i := 668) (by decide +kernel)), by decide +kernel⟩
theorem gw_657 : Cond.methodLink RX5 105 yX4_canCover ∈ GW := List.mem_filter.mpr ⟨List.mem_append_right _ (List.mem_of_getElem? (i := 657) (by decide +kernel)), by decide +kernel⟩
theorem gw_666 : Cond.methodLink RX5 108 yX4_cover ∈ GW := List.mem_filter.mpr ⟨List.mem_append_right _ (List.mem_of_getElem? (i := 666) (by decide +kernel)), by decide +kernel⟩
theorem gw_656 : Cond.code yX5_span cX5_span 8 (some .int) ∈ GW := List.mem_filter.mpr ⟨List.mem_append_right _ (List.mem_of_getElem? (i := 656) (by decide +kernel)), by decide +kernel⟩
theorem gw_654 : Cond.instanceMethod yX5_span ∈ GW := List.mem_filter.mpr ⟨List.mem_append_right _ (List.mem_of_getElem? (i := 654) (by decide +kernel)), by decide +kernel⟩
theorem gw_655 : Cond.selects RX5 yX5_span yX5_span ∈ GW := List.mem_filter.mpr ⟨List.mem_append_right _ (List.mem_of_getElem? (i := 655) (by decide +kernel)), by decide +kernel⟩
theorem fl_X5_115 : FL RX5 115 4 8 := ⟨RX4, TX4, 9, rfl, by decide, inGW_4, Or.inr ⟨"NestedSums", List.mem_of_getElem? (i := 9) rfl⟩⟩
theorem gw_681 : Cond.methodLink RX5 118 yX2_store ∈ GW := List.mem_filter.mpr ⟨List.mem_append_right _ (List.mem_of_getElem? (i := 681) (by decide +kernel)), by decide +kernel⟩
theorem gw_680 : Cond.code yX5_rule cX5_rule 9 (some .int) ∈ GW := List.mem_filter.mpr ⟨List.mem_append_right _ (List.mem_of_getElem? (i := 680) (by decide +kernel)), by decide +kernel⟩
theorem gw_678 : Cond.instanceMethod yX5_rule ∈ GW := List.mem_filter.mpr ⟨List.mem_append_right _ (List.mem_of_getElem? (i := 678) (by decide +kernel)), by decide +kernel⟩
theorem gw_679 : Cond.selects RX5 yX5_rule yX5_rule ∈ GW := List.mem_filter.mpr ⟨List.mem_append_right _ (List.mem_of_getElem? (i := 679) (by decide +kernel)), by decide +kernel⟩
theorem fl_X5_121 : FL RX5 121 4 0 := ⟨RX4, TX4, 9, rfl, by decide, inGW_4, Or.inr ⟨"NestedSums", List.mem_of_getElem? (i := 0) rfl⟩⟩
theorem fw_X5_121 : FW RX5 121 4 0 .int := ⟨RX4, TX4, 9, tyX4, rfl, by decide, inGW_4, Or.inr ⟨"NestedSums", List.mem_of_getElem? (i := 0) rfl⟩, tyX4_ok, nmX4, rfl, tyX4_ok 0 (by decide)⟩
theorem gw_688 : Cond.code yX5_set cX5_set 3 (some .int) ∈ GW := List.mem_filter.mpr ⟨List.mem_append_right _ (List.mem_of_getElem? (i := 688) (by decide +kernel)), by decide +kernel⟩
theorem gw_686 : Cond.instanceMethod yX5_set ∈ GW := List.mem_filter.mpr ⟨List.mem_append_right _ (List.mem_of_getElem? (i := 686) (by decide +kernel)), by decide +kernel⟩
theorem gw_687 : Cond.selects RX5 yX5_set yX5_set ∈ GW := List.mem_filter.mpr ⟨List.mem_append_right _ (List.mem_of_getElem? (i := 687) (by decide +kernel)), by decide +kernel⟩
theorem gw_165 : Cond.fieldLink RX3 14 "NestedSums$OrderText" "codes" "LNestedSums$Numbers;" ∈ GW := List.mem_filter.mpr ⟨List.mem_append_right _ (List.mem_of_getElem? (i := 165) (by decide +kernel)), by decide +kernel⟩
theorem inGW_3 : ∀ w ∈ u_ws RX3 TX3 2, w ∈ GW := by
  have h1 : ∀ w ∈ u_ws RX3 TX3 2, w ∈ tables_1 := by decide +kernel
  have h2 : ∀ w ∈ u_ws RX3 TX3 2, goodWord w = true := by decide +kernel
  exact fun w hw => List.mem_filter.mpr ⟨List.mem_append_right _ (h1 w hw), h2 w hw⟩
theorem fl_X3_14 : FL RX3 14 3 0 := ⟨RX3, TX3, 2, rfl, by decide, inGW_3, Or.inl gw_165⟩
theorem gw_167 : Cond.fieldLink RX3 20 "NestedSums$OrderText" "length" "I" ∈ GW := List.mem_filter.mpr ⟨List.mem_append_right _ (List.mem_of_getElem? (i := 167) (by decide +kernel)), by decide +kernel⟩
theorem fl_X3_20 : FL RX3 20 3 1 := ⟨RX3, TX3, 2, rfl, by decide, inGW_3, Or.inl gw_167⟩
theorem gw_700 : Cond.methodLink RX3 24 yX2_store ∈ GW := List.mem_filter.mpr ⟨List.mem_append_right _ (List.mem_of_getElem? (i := 700) (by decide +kernel)), by decide +kernel⟩
theorem fw_X3_20 : FW RX3 20 3 1 .int := ⟨RX3, TX3, 2, tyX3, rfl, by decide, inGW_3, Or.inl gw_167, tyX3_ok, nmX3, rfl, tyX3_ok 1 (by decide)⟩
theorem gw_699 : Cond.code yX3_add cX3_add 2 none ∈ GW := List.mem_filter.mpr ⟨List.mem_append_right _ (List.mem_of_getElem? (i := 699) (by decide +kernel)), by decide +kernel⟩
theorem gw_7 : Cond.initialized RX3 ∈ GW := List.mem_filter.mpr ⟨List.mem_append_right _ (List.mem_of_getElem? (i := 7) (by decide +kernel)), by decide +kernel⟩
theorem gw_697 : Cond.instanceMethod yX3_add ∈ GW := List.mem_filter.mpr ⟨List.mem_append_right _ (List.mem_of_getElem? (i := 697) (by decide +kernel)), by decide +kernel⟩
theorem gw_698 : Cond.selects RX3 yX3_add yX3_add ∈ GW := List.mem_filter.mpr ⟨List.mem_append_right _ (List.mem_of_getElem? (i := 698) (by decide +kernel)), by decide +kernel⟩
theorem gw_331 : Cond.fieldLink RX5 34 "NestedSums" "buffer" "LNestedSums$OrderText;" ∈ GW := List.mem_filter.mpr ⟨List.mem_append_right _ (List.mem_of_getElem? (i := 331) (by decide +kernel)), by decide +kernel⟩
theorem fl_X5_34 : FL RX5 34 5 4 := ⟨RX5, TX5, 5, rfl, by decide, inGW_5, Or.inl gw_331⟩
theorem fl_X5_124 : FL RX5 124 3 1 := ⟨RX3, TX3, 2, rfl, by decide, inGW_3, Or.inr ⟨"NestedSums", List.mem_of_getElem? (i := 22) rfl⟩⟩
theorem gw_696 : Cond.methodLink RX5 127 yX3_add ∈ GW := List.mem_filter.mpr ⟨List.mem_append_right _ (List.mem_of_getElem? (i := 696) (by decide +kernel)), by decide +kernel⟩
theorem gw_695 : Cond.code yX5_append cX5_append 2 (some .int) ∈ GW := List.mem_filter.mpr ⟨List.mem_append_right _ (List.mem_of_getElem? (i := 695) (by decide +kernel)), by decide +kernel⟩
theorem gw_693 : Cond.instanceMethod yX5_append ∈ GW := List.mem_filter.mpr ⟨List.mem_append_right _ (List.mem_of_getElem? (i := 693) (by decide +kernel)), by decide +kernel⟩
theorem gw_694 : Cond.selects RX5 yX5_append yX5_append ∈ GW := List.mem_filter.mpr ⟨List.mem_append_right _ (List.mem_of_getElem? (i := 694) (by decide +kernel)), by decide +kernel⟩
theorem fw_X5_124 : FW RX5 124 3 1 .int := ⟨RX3, TX3, 2, tyX3, rfl, by decide, inGW_3, Or.inr ⟨"NestedSums", List.mem_of_getElem? (i := 22) rfl⟩, tyX3_ok, nmX3, rfl, tyX3_ok 1 (by decide)⟩
theorem gw_346 : Cond.code yX5_clearBuffer cX5_clearBuffer 2 (some .int) ∈ GW := List.mem_filter.mpr ⟨List.mem_append_right _ (List.mem_of_getElem? (i := 346) (by decide +kernel)), by decide +kernel⟩
theorem gw_344 : Cond.instanceMethod yX5_clearBuffer ∈ GW := List.mem_filter.mpr ⟨List.mem_append_right _ (List.mem_of_getElem? (i := 344) (by decide +kernel)), by decide +kernel⟩
theorem gw_345 : Cond.selects RX5 yX5_clearBuffer yX5_clearBuffer ∈ GW := List.mem_filter.mpr ⟨List.mem_append_right _ (List.mem_of_getElem? (i := 345) (by decide +kernel)), by decide +kernel⟩
theorem gw_362 : Cond.code yX3_afterContent cX3_afterContent 1 (some .int) ∈ GW := List.mem_filter.mpr ⟨List.mem_append_right _ (List.mem_of_getElem? (i := 362) (by decide +kernel)), by decide +kernel⟩
theorem gw_361 : Cond.static yX3_afterContent ∈ GW := List.mem_filter.mpr ⟨List.mem_append_right _ (List.mem_of_getElem? (i := 361) (by decide +kernel)), by decide +kernel⟩
theorem nm_X3_36 : (RX3, 36, yX5_isBetween, "NestedSums") ∈ nestM := List.mem_of_getElem? (i := 11) rfl
theorem gw_365 : Cond.code yX3_afterFirstDigit cX3_afterFirstDigit 1 (some .int) ∈ GW := List.mem_filter.mpr ⟨List.mem_append_right _ (List.mem_of_getElem? (i := 365) (by decide +kernel)), by decide +kernel⟩
theorem gw_364 : Cond.static yX3_afterFirstDigit ∈ GW := List.mem_filter.mpr ⟨List.mem_append_right _ (List.mem_of_getElem? (i := 364) (by decide +kernel)), by decide +kernel⟩
theorem gw_360 : Cond.methodLink RX3 40 yX3_afterContent ∈ GW := List.mem_filter.mpr ⟨List.mem_append_right _ (List.mem_of_getElem? (i := 360) (by decide +kernel)), by decide +kernel⟩
theorem gw_363 : Cond.methodLink RX3 43 yX3_afterFirstDigit ∈ GW := List.mem_filter.mpr ⟨List.mem_append_right _ (List.mem_of_getElem? (i := 363) (by decide +kernel)), by decide +kernel⟩
theorem gw_358 : Cond.code yX3_expectedAfter cX3_expectedAfter 2 (some .int) ∈ GW := List.mem_filter.mpr ⟨List.mem_append_right _ (List.mem_of_getElem? (i := 358) (by decide +kernel)), by decide +kernel⟩
theorem gw_357 : Cond.static yX3_expectedAfter ∈ GW := List.mem_filter.mpr ⟨List.mem_append_right _ (List.mem_of_getElem? (i := 357) (by decide +kernel)), by decide +kernel⟩
theorem gw_355 : Cond.methodLink RX3 28 yX2_at ∈ GW := List.mem_filter.mpr ⟨List.mem_append_right _ (List.mem_of_getElem? (i := 355) (by decide +kernel)), by decide +kernel⟩
theorem gw_356 : Cond.methodLink RX3 32 yX3_expectedAfter ∈ GW := List.mem_filter.mpr ⟨List.mem_append_right _ (List.mem_of_getElem? (i := 356) (by decide +kernel)), by decide +kernel⟩
theorem gw_354 : Cond.code yX3_firstFault cX3_firstFault 3 (some .int) ∈ GW := List.mem_filter.mpr ⟨List.mem_append_right _ (List.mem_of_getElem? (i := 354) (by decide +kernel)), by decide +kernel⟩
theorem gw_352 : Cond.instanceMethod yX3_firstFault ∈ GW := List.mem_filter.mpr ⟨List.mem_append_right _ (List.mem_of_getElem? (i := 352) (by decide +kernel)), by decide +kernel⟩
theorem gw_353 : Cond.selects RX3 yX3_firstFault yX3_firstFault ∈ GW := List.mem_filter.mpr ⟨List.mem_append_right _ (List.mem_of_getElem? (i := 353) (by decide +kernel)), by decide +kernel⟩
theorem gw_351 : Cond.methodLink RX5 131 yX3_firstFault ∈ GW := List.mem_filter.mpr ⟨List.mem_append_right _ (List.mem_of_getElem? (i := 351) (by decide +kernel)), by decide +kernel⟩
theorem gw_350 : Cond.code yX5_firstError cX5_firstError 1 (some .int) ∈ GW := List.mem_filter.mpr ⟨List.mem_append_right _ (List.mem_of_getElem? (i := 350) (by decide +kernel)), by decide +kernel⟩
theorem gw_348 : Cond.instanceMethod yX5_firstError ∈ GW := List.mem_filter.mpr ⟨List.mem_append_right _ (List.mem_of_getElem? (i := 348) (by decide +kernel)), by decide +kernel⟩
theorem gw_349 : Cond.selects RX5 yX5_firstError yX5_firstError ∈ GW := List.mem_filter.mpr ⟨List.mem_append_right _ (List.mem_of_getElem? (i := 349) (by decide +kernel)), by decide +kernel⟩
theorem gw_711 : Cond.code yX3_isOrders cX3_isOrders 3 (some .boolean) ∈ GW := List.mem_filter.mpr ⟨List.mem_append_right _ (List.mem_of_getElem? (i := 711) (by decide +kernel)), by decide +kernel⟩
theorem gw_709 : Cond.instanceMethod yX3_isOrders ∈ GW := List.mem_filter.mpr ⟨List.mem_append_right _ (List.mem_of_getElem? (i := 709) (by decide +kernel)), by decide +kernel⟩
theorem gw_710 : Cond.selects RX3 yX3_isOrders yX3_isOrders ∈ GW := List.mem_filter.mpr ⟨List.mem_append_right _ (List.mem_of_getElem? (i := 710) (by decide +kernel)), by decide +kernel⟩
theorem gw_715 : Cond.code yX3_isOrderEnd cX3_isOrderEnd 2 (some .boolean) ∈ GW := List.mem_filter.mpr ⟨List.mem_append_right _ (List.mem_of_getElem? (i := 715) (by decide +kernel)), by decide +kernel⟩
theorem gw_713 : Cond.instanceMethod yX3_isOrderEnd ∈ GW := List.mem_filter.mpr ⟨List.mem_append_right _ (List.mem_of_getElem? (i := 713) (by decide +kernel)), by decide +kernel⟩
theorem gw_714 : Cond.selects RX3 yX3_isOrderEnd yX3_isOrderEnd ∈ GW := List.mem_filter.mpr ⟨List.mem_append_right _ (List.mem_of_getElem? (i := 714) (by decide +kernel)), by decide +kernel⟩
theorem gw_723 : Cond.code yX3_tableAt cX3_tableAt 2 (some .int) ∈ GW := List.mem_filter.mpr ⟨List.mem_append_right _ (List.mem_of_getElem? (i := 723) (by decide +kernel)), by decide +kernel⟩
theorem gw_721 : Cond.instanceMethod yX3_tableAt ∈ GW := List.mem_filter.mpr ⟨List.mem_append_right _ (List.mem_of_getElem? (i := 721) (by decide +kernel)), by decide +kernel⟩
theorem gw_722 : Cond.selects RX3 yX3_tableAt yX3_tableAt ∈ GW := List.mem_filter.mpr ⟨List.mem_append_right _ (List.mem_of_getElem? (i := 722) (by decide +kernel)), by decide +kernel⟩
theorem gw_727 : Cond.code yX3_rowAt cX3_rowAt 2 (some .int) ∈ GW := List.mem_filter.mpr ⟨List.mem_append_right _ (List.mem_of_getElem? (i := 727) (by decide +kernel)), by decide +kernel⟩
theorem gw_725 : Cond.instanceMethod yX3_rowAt ∈ GW := List.mem_filter.mpr ⟨List.mem_append_right _ (List.mem_of_getElem? (i := 725) (by decide +kernel)), by decide +kernel⟩
theorem gw_726 : Cond.selects RX3 yX3_rowAt yX3_rowAt ∈ GW := List.mem_filter.mpr ⟨List.mem_append_right _ (List.mem_of_getElem? (i := 726) (by decide +kernel)), by decide +kernel⟩
theorem gw_731 : Cond.code yX3_columnAt cX3_columnAt 2 (some .int) ∈ GW := List.mem_filter.mpr ⟨List.mem_append_right _ (List.mem_of_getElem? (i := 731) (by decide +kernel)), by decide +kernel⟩
theorem gw_729 : Cond.instanceMethod yX3_columnAt ∈ GW := List.mem_filter.mpr ⟨List.mem_append_right _ (List.mem_of_getElem? (i := 729) (by decide +kernel)), by decide +kernel⟩
theorem gw_730 : Cond.selects RX3 yX3_columnAt yX3_columnAt ∈ GW := List.mem_filter.mpr ⟨List.mem_append_right _ (List.mem_of_getElem? (i := 730) (by decide +kernel)), by decide +kernel⟩
theorem gw_735 : Cond.code yX3_kindAt cX3_kindAt 2 (some .int) ∈ GW := List.mem_filter.mpr ⟨List.mem_append_right _ (List.mem_of_getElem? (i := 735) (by decide +kernel)), by decide +kernel⟩
theorem gw_733 : Cond.instanceMethod yX3_kindAt ∈ GW := List.mem_filter.mpr ⟨List.mem_append_right _ (List.mem_of_getElem? (i := 733) (by decide +kernel)), by decide +kernel⟩
theorem gw_734 : Cond.selects RX3 yX3_kindAt yX3_kindAt ∈ GW := List.mem_filter.mpr ⟨List.mem_append_right _ (List.mem_of_getElem? (i := 734) (by decide +kernel)), by decide +kernel⟩
theorem gw_739 : Cond.code yX3_numberAt cX3_numberAt 5 (some .int) ∈ GW := List.mem_filter.mpr ⟨List.mem_append_right _ (List.mem_of_getElem? (i := 739) (by decide +kernel)), by decide +kernel⟩
theorem gw_737 : Cond.instanceMethod yX3_numberAt ∈ GW := List.mem_filter.mpr ⟨List.mem_append_right _ (List.mem_of_getElem? (i := 737) (by decide +kernel)), by decide +kernel⟩
theorem gw_738 : Cond.selects RX3 yX3_numberAt yX3_numberAt ∈ GW := List.mem_filter.mpr ⟨List.mem_append_right _ (List.mem_of_getElem? (i := 738) (by decide +kernel)), by decide +kernel⟩
theorem gw_720 : Cond.methodLink RX5 235 yX3_tableAt ∈ GW := List.mem_filter.mpr ⟨List.mem_append_right _ (List.mem_of_getElem? (i := 720) (by decide +kernel)), by decide +kernel⟩
theorem gw_724 : Cond.methodLink RX5 238 yX3_rowAt ∈ GW := List.mem_filter.mpr ⟨List.mem_append_right _ (List.mem_of_getElem? (i := 724) (by decide +kernel)), by decide +kernel⟩
theorem gw_728 : Cond.methodLink RX5 241 yX3_columnAt ∈ GW := List.mem_filter.mpr ⟨List.mem_append_right _ (List.mem_of_getElem? (i := 728) (by decide +kernel)), by decide +kernel⟩
theorem gw_732 : Cond.methodLink RX5 244 yX3_kindAt ∈ GW := List.mem_filter.mpr ⟨List.mem_append_right _ (List.mem_of_getElem? (i := 732) (by decide +kernel)), by decide +kernel⟩
theorem gw_736 : Cond.methodLink RX5 247 yX3_numberAt ∈ GW := List.mem_filter.mpr ⟨List.mem_append_right _ (List.mem_of_getElem? (i := 736) (by decide +kernel)), by decide +kernel⟩
theorem gw_719 : Cond.code yX5_fillByOrder cX5_fillByOrder 6 (some .boolean) ∈ GW := List.mem_filter.mpr ⟨List.mem_append_right _ (List.mem_of_getElem? (i := 719) (by decide +kernel)), by decide +kernel⟩
theorem gw_718 : Cond.instanceMethod yX5_fillByOrder ∈ GW := List.mem_filter.mpr ⟨List.mem_append_right _ (List.mem_of_getElem? (i := 718) (by decide +kernel)), by decide +kernel⟩
theorem gwp_33 : Cond.selects RX5 yX5_fillByOrder yX5_fillByOrder ∈ GW := List.mem_filter.mpr ⟨List.mem_append_left _ (List.mem_of_getElem? (i := 33) (by decide +kernel)), by decide +kernel⟩
theorem gw_708 : Cond.methodLink RX5 135 yX3_isOrders ∈ GW := List.mem_filter.mpr ⟨List.mem_append_right _ (List.mem_of_getElem? (i := 708) (by decide +kernel)), by decide +kernel⟩
theorem gw_712 : Cond.methodLink RX5 139 yX3_isOrderEnd ∈ GW := List.mem_filter.mpr ⟨List.mem_append_right _ (List.mem_of_getElem? (i := 712) (by decide +kernel)), by decide +kernel⟩
theorem gw_716 : Cond.methodLink RX5 142 yX5_fillByOrder ∈ GW := List.mem_filter.mpr ⟨List.mem_append_right _ (List.mem_of_getElem? (i := 716) (by decide +kernel)), by decide +kernel⟩
theorem gw_707 : Cond.code yX5_run cX5_run 4 (some .int) ∈ GW := List.mem_filter.mpr ⟨List.mem_append_right _ (List.mem_of_getElem? (i := 707) (by decide +kernel)), by decide +kernel⟩
theorem gw_705 : Cond.instanceMethod yX5_run ∈ GW := List.mem_filter.mpr ⟨List.mem_append_right _ (List.mem_of_getElem? (i := 705) (by decide +kernel)), by decide +kernel⟩
theorem gw_706 : Cond.selects RX5 yX5_run yX5_run ∈ GW := List.mem_filter.mpr ⟨List.mem_append_right _ (List.mem_of_getElem? (i := 706) (by decide +kernel)), by decide +kernel⟩
theorem gw_750 : Cond.code yX0_takeBack cX0_takeBack 3 none ∈ GW := List.mem_filter.mpr ⟨List.mem_append_right _ (List.mem_of_getElem? (i := 750) (by decide +kernel)), by decide +kernel⟩
theorem gw_748 : Cond.instanceMethod yX0_takeBack ∈ GW := List.mem_filter.mpr ⟨List.mem_append_right _ (List.mem_of_getElem? (i := 748) (by decide +kernel)), by decide +kernel⟩
theorem gw_749 : Cond.selects RX0 yX0_takeBack yX0_takeBack ∈ GW := List.mem_filter.mpr ⟨List.mem_append_right _ (List.mem_of_getElem? (i := 749) (by decide +kernel)), by decide +kernel⟩
theorem fl_X5_145 : FL RX5 145 0 2 := ⟨RX0, TX0, 3, rfl, by decide, inGW_0, Or.inr ⟨"NestedSums", List.mem_of_getElem? (i := 20) rfl⟩⟩
theorem gw_747 : Cond.methodLink RX5 148 yX0_takeBack ∈ GW := List.mem_filter.mpr ⟨List.mem_append_right _ (List.mem_of_getElem? (i := 747) (by decide +kernel)), by decide +kernel⟩
theorem gw_746 : Cond.code yX5_undo cX5_undo 1 (some .int) ∈ GW := List.mem_filter.mpr ⟨List.mem_append_right _ (List.mem_of_getElem? (i := 746) (by decide +kernel)), by decide +kernel⟩
theorem gw_744 : Cond.instanceMethod yX5_undo ∈ GW := List.mem_filter.mpr ⟨List.mem_append_right _ (List.mem_of_getElem? (i := 744) (by decide +kernel)), by decide +kernel⟩
theorem gw_745 : Cond.selects RX5 yX5_undo yX5_undo ∈ GW := List.mem_filter.mpr ⟨List.mem_append_right _ (List.mem_of_getElem? (i := 745) (by decide +kernel)), by decide +kernel⟩
theorem fl_X5_250 : FL RX5 250 1 1 := ⟨RX1, TX1, 11, rfl, by decide, inGW_1, Or.inr ⟨"NestedSums", List.mem_of_getElem? (i := 12) rfl⟩⟩
theorem fl_X5_253 : FL RX5 253 1 2 := ⟨RX1, TX1, 11, rfl, by decide, inGW_1, Or.inr ⟨"NestedSums", List.mem_of_getElem? (i := 13) rfl⟩⟩
theorem gw_510 : Cond.methodLink RX5 256 yX4_spanOf ∈ GW := List.mem_filter.mpr ⟨List.mem_append_right _ (List.mem_of_getElem? (i := 510) (by decide +kernel)), by decide +kernel⟩
theorem fl_X5_259 : FL RX5 259 1 4 := ⟨RX1, TX1, 11, rfl, by decide, inGW_1, Or.inr ⟨"NestedSums", List.mem_of_getElem? (i := 14) rfl⟩⟩
theorem gw_511 : Cond.methodLink RX5 262 yX4_tableWithin ∈ GW := List.mem_filter.mpr ⟨List.mem_append_right _ (List.mem_of_getElem? (i := 511) (by decide +kernel)), by decide +kernel⟩
theorem fl_X5_265 : FL RX5 265 1 5 := ⟨RX1, TX1, 11, rfl, by decide, inGW_1, Or.inr ⟨"NestedSums", List.mem_of_getElem? (i := 15) rfl⟩⟩
theorem gw_508 : Cond.code yX5_cellProperty cX5_cellProperty 3 (some .int) ∈ GW := List.mem_filter.mpr ⟨List.mem_append_right _ (List.mem_of_getElem? (i := 508) (by decide +kernel)), by decide +kernel⟩
theorem gw_507 : Cond.instanceMethod yX5_cellProperty ∈ GW := List.mem_filter.mpr ⟨List.mem_append_right _ (List.mem_of_getElem? (i := 507) (by decide +kernel)), by decide +kernel⟩
theorem gwp_24 : Cond.selects RX5 yX5_cellProperty yX5_cellProperty ∈ GW := List.mem_filter.mpr ⟨List.mem_append_left _ (List.mem_of_getElem? (i := 24) (by decide +kernel)), by decide +kernel⟩
theorem gw_505 : Cond.methodLink RX5 151 yX5_cellProperty ∈ GW := List.mem_filter.mpr ⟨List.mem_append_right _ (List.mem_of_getElem? (i := 505) (by decide +kernel)), by decide +kernel⟩
theorem gw_757 : Cond.code yX5_cell cX5_cell 6 (some .int) ∈ GW := List.mem_filter.mpr ⟨List.mem_append_right _ (List.mem_of_getElem? (i := 757) (by decide +kernel)), by decide +kernel⟩
theorem gw_755 : Cond.instanceMethod yX5_cell ∈ GW := List.mem_filter.mpr ⟨List.mem_append_right _ (List.mem_of_getElem? (i := 755) (by decide +kernel)), by decide +kernel⟩
theorem gw_756 : Cond.selects RX5 yX5_cell yX5_cell ∈ GW := List.mem_filter.mpr ⟨List.mem_append_right _ (List.mem_of_getElem? (i := 756) (by decide +kernel)), by decide +kernel⟩
theorem fl_X5_155 : FL RX5 155 1 6 := ⟨RX1, TX1, 11, rfl, by decide, inGW_1, Or.inr ⟨"NestedSums", List.mem_of_getElem? (i := 16) rfl⟩⟩
theorem gw_764 : Cond.code yX5_edge cX5_edge 6 (some .int) ∈ GW := List.mem_filter.mpr ⟨List.mem_append_right _ (List.mem_of_getElem? (i := 764) (by decide +kernel)), by decide +kernel⟩
theorem gw_762 : Cond.instanceMethod yX5_edge ∈ GW := List.mem_filter.mpr ⟨List.mem_append_right _ (List.mem_of_getElem? (i := 762) (by decide +kernel)), by decide +kernel⟩
theorem gw_763 : Cond.selects RX5 yX5_edge yX5_edge ∈ GW := List.mem_filter.mpr ⟨List.mem_append_right _ (List.mem_of_getElem? (i := 763) (by decide +kernel)), by decide +kernel⟩
theorem gw_776 : Cond.methodLink RX5 229 yX4_hasTable ∈ GW := List.mem_filter.mpr ⟨List.mem_append_right _ (List.mem_of_getElem? (i := 776) (by decide +kernel)), by decide +kernel⟩
theorem gw_775 : Cond.code yX5_requireTable cX5_requireTable 2 none ∈ GW := List.mem_filter.mpr ⟨List.mem_append_right _ (List.mem_of_getElem? (i := 775) (by decide +kernel)), by decide +kernel⟩
theorem gw_774 : Cond.instanceMethod yX5_requireTable ∈ GW := List.mem_filter.mpr ⟨List.mem_append_right _ (List.mem_of_getElem? (i := 774) (by decide +kernel)), by decide +kernel⟩
theorem gwp_34 : Cond.selects RX5 yX5_requireTable yX5_requireTable ∈ GW := List.mem_filter.mpr ⟨List.mem_append_left _ (List.mem_of_getElem? (i := 34) (by decide +kernel)), by decide +kernel⟩
theorem gw_489 : Cond.methodLink RX5 164 yX4_linesOf ∈ GW := List.mem_filter.mpr ⟨List.mem_append_right _ (List.mem_of_getElem? (i := 489) (by decide +kernel)), by decide +kernel⟩
theorem fl_X5_266 : FL RX5 266 1 10 := ⟨RX1, TX1, 11, rfl, by decide, inGW_1, Or.inr ⟨"NestedSums", List.mem_of_getElem? (i := 19) rfl⟩⟩
theorem fl_X5_269 : FL RX5 269 1 9 := ⟨RX1, TX1, 11, rfl, by decide, inGW_1, Or.inr ⟨"NestedSums", List.mem_of_getElem? (i := 18) rfl⟩⟩
theorem fl_X5_272 : FL RX5 272 1 8 := ⟨RX1, TX1, 11, rfl, by decide, inGW_1, Or.inr ⟨"NestedSums", List.mem_of_getElem? (i := 17) rfl⟩⟩
theorem fl_X5_275 : FL RX5 275 4 3 := ⟨RX4, TX4, 9, rfl, by decide, inGW_4, Or.inr ⟨"NestedSums", List.mem_of_getElem? (i := 3) rfl⟩⟩
theorem gw_491 : Cond.methodLink RX5 278 yX5_tableOf ∈ GW := List.mem_filter.mpr ⟨List.mem_append_right _ (List.mem_of_getElem? (i := 491) (by decide +kernel)), by decide +kernel⟩
theorem gw_488 : Cond.code yX5_tableProperty cX5_tableProperty 3 (some .int) ∈ GW := List.mem_filter.mpr ⟨List.mem_append_right _ (List.mem_of_getElem? (i := 488) (by decide +kernel)), by decide +kernel⟩
theorem gw_487 : Cond.instanceMethod yX5_tableProperty ∈ GW := List.mem_filter.mpr ⟨List.mem_append_right _ (List.mem_of_getElem? (i := 487) (by decide +kernel)), by decide +kernel⟩
theorem gwp_22 : Cond.selects RX5 yX5_tableProperty yX5_tableProperty ∈ GW := List.mem_filter.mpr ⟨List.mem_append_left _ (List.mem_of_getElem? (i := 22) (by decide +kernel)), by decide +kernel⟩
theorem gw_772 : Cond.methodLink RX5 158 yX5_requireTable ∈ GW := List.mem_filter.mpr ⟨List.mem_append_right _ (List.mem_of_getElem? (i := 772) (by decide +kernel)), by decide +kernel⟩
theorem gw_485 : Cond.methodLink RX5 161 yX5_tableProperty ∈ GW := List.mem_filter.mpr ⟨List.mem_append_right _ (List.mem_of_getElem? (i := 485) (by decide +kernel)), by decide +kernel⟩
theorem gw_771 : Cond.code yX5_table cX5_table 3 (some .int) ∈ GW := List.mem_filter.mpr ⟨List.mem_append_right _ (List.mem_of_getElem? (i := 771) (by decide +kernel)), by decide +kernel⟩
theorem gw_769 : Cond.instanceMethod yX5_table ∈ GW := List.mem_filter.mpr ⟨List.mem_append_right _ (List.mem_of_getElem? (i := 769) (by decide +kernel)), by decide +kernel⟩
theorem gw_770 : Cond.selects RX5 yX5_table yX5_table ∈ GW := List.mem_filter.mpr ⟨List.mem_append_right _ (List.mem_of_getElem? (i := 770) (by decide +kernel)), by decide +kernel⟩
theorem gw_492 : Cond.methodLink RX5 167 yX1_sizeOf ∈ GW := List.mem_filter.mpr ⟨List.mem_append_right _ (List.mem_of_getElem? (i := 492) (by decide +kernel)), by decide +kernel⟩
theorem gw_783 : Cond.code yX5_size cX5_size 5 (some .int) ∈ GW := List.mem_filter.mpr ⟨List.mem_append_right _ (List.mem_of_getElem? (i := 783) (by decide +kernel)), by decide +kernel⟩
theorem gw_781 : Cond.instanceMethod yX5_size ∈ GW := List.mem_filter.mpr ⟨List.mem_append_right _ (List.mem_of_getElem? (i := 781) (by decide +kernel)), by decide +kernel⟩
theorem gw_782 : Cond.selects RX5 yX5_size yX5_size ∈ GW := List.mem_filter.mpr ⟨List.mem_append_right _ (List.mem_of_getElem? (i := 782) (by decide +kernel)), by decide +kernel⟩
theorem gw_466 : Cond.code yX1_isJoined cX1_isJoined 4 (some .boolean) ∈ GW := List.mem_filter.mpr ⟨List.mem_append_right _ (List.mem_of_getElem? (i := 466) (by decide +kernel)), by decide +kernel⟩
theorem gw_465 : Cond.instanceMethod yX1_isJoined ∈ GW := List.mem_filter.mpr ⟨List.mem_append_right _ (List.mem_of_getElem? (i := 465) (by decide +kernel)), by decide +kernel⟩
theorem gwp_20 : Cond.selects RX1 yX1_isJoined yX1_isJoined ∈ GW := List.mem_filter.mpr ⟨List.mem_append_left _ (List.mem_of_getElem? (i := 20) (by decide +kernel)), by decide +kernel⟩
theorem gw_463 : Cond.methodLink RX1 186 yX1_isJoined ∈ GW := List.mem_filter.mpr ⟨List.mem_append_right _ (List.mem_of_getElem? (i := 463) (by decide +kernel)), by decide +kernel⟩
theorem gw_462 : Cond.code yX1_pageOf cX1_pageOf 8 (some .int) ∈ GW := List.mem_filter.mpr ⟨List.mem_append_right _ (List.mem_of_getElem? (i := 462) (by decide +kernel)), by decide +kernel⟩
theorem gw_460 : Cond.instanceMethod yX1_pageOf ∈ GW := List.mem_filter.mpr ⟨List.mem_append_right _ (List.mem_of_getElem? (i := 460) (by decide +kernel)), by decide +kernel⟩
theorem gw_461 : Cond.selects RX1 yX1_pageOf yX1_pageOf ∈ GW := List.mem_filter.mpr ⟨List.mem_append_right _ (List.mem_of_getElem? (i := 461) (by decide +kernel)), by decide +kernel⟩
theorem gw_540 : Cond.methodLink RX5 170 yX1_pageOf ∈ GW := List.mem_filter.mpr ⟨List.mem_append_right _ (List.mem_of_getElem? (i := 540) (by decide +kernel)), by decide +kernel⟩
theorem gw_524 : Cond.code yX5_page cX5_page 2 (some .int) ∈ GW := List.mem_filter.mpr ⟨List.mem_append_right _ (List.mem_of_getElem? (i := 524) (by decide +kernel)), by decide +kernel⟩
theorem gw_522 : Cond.instanceMethod yX5_page ∈ GW := List.mem_filter.mpr ⟨List.mem_append_right _ (List.mem_of_getElem? (i := 522) (by decide +kernel)), by decide +kernel⟩
theorem gw_523 : Cond.selects RX5 yX5_page yX5_page ∈ GW := List.mem_filter.mpr ⟨List.mem_append_right _ (List.mem_of_getElem? (i := 523) (by decide +kernel)), by decide +kernel⟩
theorem gw_373 : Cond.code yX4_countCells cX4_countCells 3 (some .int) ∈ GW := List.mem_filter.mpr ⟨List.mem_append_right _ (List.mem_of_getElem? (i := 373) (by decide +kernel)), by decide +kernel⟩
theorem gw_371 : Cond.instanceMethod yX4_countCells ∈ GW := List.mem_filter.mpr ⟨List.mem_append_right _ (List.mem_of_getElem? (i := 371) (by decide +kernel)), by decide +kernel⟩
theorem gw_372 : Cond.selects RX4 yX4_countCells yX4_countCells ∈ GW := List.mem_filter.mpr ⟨List.mem_append_right _ (List.mem_of_getElem? (i := 372) (by decide +kernel)), by decide +kernel⟩
theorem gw_459 : Cond.methodLink RX1 183 yX1_pageOf ∈ GW := List.mem_filter.mpr ⟨List.mem_append_right _ (List.mem_of_getElem? (i := 459) (by decide +kernel)), by decide +kernel⟩
theorem gw_458 : Cond.code yX1_countPages cX1_countPages 2 (some .int) ∈ GW := List.mem_filter.mpr ⟨List.mem_append_right _ (List.mem_of_getElem? (i := 458) (by decide +kernel)), by decide +kernel⟩
theorem gw_456 : Cond.instanceMethod yX1_countPages ∈ GW := List.mem_filter.mpr ⟨List.mem_append_right _ (List.mem_of_getElem? (i := 456) (by decide +kernel)), by decide +kernel⟩
theorem gw_457 : Cond.selects RX1 yX1_countPages yX1_countPages ∈ GW := List.mem_filter.mpr ⟨List.mem_append_right _ (List.mem_of_getElem? (i := 457) (by decide +kernel)), by decide +kernel⟩
theorem gw_471 : Cond.methodLink RX1 179 yX4_squaresEnd ∈ GW := List.mem_filter.mpr ⟨List.mem_append_right _ (List.mem_of_getElem? (i := 471) (by decide +kernel)), by decide +kernel⟩
theorem gw_470 : Cond.code yX1_countEdges cX1_countEdges 5 (some .int) ∈ GW := List.mem_filter.mpr ⟨List.mem_append_right _ (List.mem_of_getElem? (i := 470) (by decide +kernel)), by decide +kernel⟩
theorem gw_468 : Cond.instanceMethod yX1_countEdges ∈ GW := List.mem_filter.mpr ⟨List.mem_append_right _ (List.mem_of_getElem? (i := 468) (by decide +kernel)), by decide +kernel⟩
theorem gw_469 : Cond.selects RX1 yX1_countEdges yX1_countEdges ∈ GW := List.mem_filter.mpr ⟨List.mem_append_right _ (List.mem_of_getElem? (i := 469) (by decide +kernel)), by decide +kernel⟩
theorem gw_475 : Cond.code yX4_countSquares cX4_countSquares 3 (some .int) ∈ GW := List.mem_filter.mpr ⟨List.mem_append_right _ (List.mem_of_getElem? (i := 475) (by decide +kernel)), by decide +kernel⟩
theorem gw_473 : Cond.instanceMethod yX4_countSquares ∈ GW := List.mem_filter.mpr ⟨List.mem_append_right _ (List.mem_of_getElem? (i := 473) (by decide +kernel)), by decide +kernel⟩
theorem gw_474 : Cond.selects RX4 yX4_countSquares yX4_countSquares ∈ GW := List.mem_filter.mpr ⟨List.mem_append_right _ (List.mem_of_getElem? (i := 474) (by decide +kernel)), by decide +kernel⟩
theorem gw_378 : Cond.code yX4_countKind cX4_countKind 4 (some .int) ∈ GW := List.mem_filter.mpr ⟨List.mem_append_right _ (List.mem_of_getElem? (i := 378) (by decide +kernel)), by decide +kernel⟩
theorem gw_376 : Cond.instanceMethod yX4_countKind ∈ GW := List.mem_filter.mpr ⟨List.mem_append_right _ (List.mem_of_getElem? (i := 376) (by decide +kernel)), by decide +kernel⟩
theorem gw_377 : Cond.selects RX4 yX4_countKind yX4_countKind ∈ GW := List.mem_filter.mpr ⟨List.mem_append_right _ (List.mem_of_getElem? (i := 377) (by decide +kernel)), by decide +kernel⟩
theorem gw_370 : Cond.methodLink RX5 173 yX4_countCells ∈ GW := List.mem_filter.mpr ⟨List.mem_append_right _ (List.mem_of_getElem? (i := 370) (by decide +kernel)), by decide +kernel⟩
theorem gw_375 : Cond.methodLink RX5 185 yX4_countKind ∈ GW := List.mem_filter.mpr ⟨List.mem_append_right _ (List.mem_of_getElem? (i := 375) (by decide +kernel)), by decide +kernel⟩
theorem gw_455 : Cond.methodLink RX5 176 yX1_countPages ∈ GW := List.mem_filter.mpr ⟨List.mem_append_right _ (List.mem_of_getElem? (i := 455) (by decide +kernel)), by decide +kernel⟩
theorem gw_467 : Cond.methodLink RX5 179 yX1_countEdges ∈ GW := List.mem_filter.mpr ⟨List.mem_append_right _ (List.mem_of_getElem? (i := 467) (by decide +kernel)), by decide +kernel⟩
theorem gw_472 : Cond.methodLink RX5 182 yX4_countSquares ∈ GW := List.mem_filter.mpr ⟨List.mem_append_right _ (List.mem_of_getElem? (i := 472) (by decide +kernel)), by decide +kernel⟩
theorem gw_387 : Cond.code yX5_count cX5_count 2 (some .int) ∈ GW := List.mem_filter.mpr ⟨List.mem_append_right _ (List.mem_of_getElem? (i := 387) (by decide +kernel)), by decide +kernel⟩
theorem gw_385 : Cond.instanceMethod yX5_count ∈ GW := List.mem_filter.mpr ⟨List.mem_append_right _ (List.mem_of_getElem? (i := 385) (by decide +kernel)), by decide +kernel⟩
theorem gw_386 : Cond.selects RX5 yX5_count yX5_count ∈ GW := List.mem_filter.mpr ⟨List.mem_append_right _ (List.mem_of_getElem? (i := 386) (by decide +kernel)), by decide +kernel⟩
theorem gw_329 : Cond.fieldLink RX5 21 "NestedSums" "trial" "LNestedSums$Layout;" ∈ GW := List.mem_filter.mpr ⟨List.mem_append_right _ (List.mem_of_getElem? (i := 329) (by decide +kernel)), by decide +kernel⟩
theorem fl_X5_21 : FL RX5 21 5 2 := ⟨RX5, TX5, 5, rfl, by decide, inGW_5, Or.inl gw_329⟩
theorem fl_X5_16 : FL RX5 16 1 0 := ⟨RX1, TX1, 11, rfl, by decide, inGW_1, Or.inr ⟨"NestedSums", List.mem_of_getElem? (i := 11) rfl⟩⟩
theorem gw_545 : Cond.methodLink RX5 281 yX4_copyFrom ∈ GW := List.mem_filter.mpr ⟨List.mem_append_right _ (List.mem_of_getElem? (i := 545) (by decide +kernel)), by decide +kernel⟩
theorem gw_544 : Cond.code yX5_tryNumber cX5_tryNumber 3 (some .boolean) ∈ GW := List.mem_filter.mpr ⟨List.mem_append_right _ (List.mem_of_getElem? (i := 544) (by decide +kernel)), by decide +kernel⟩
theorem gw_543 : Cond.instanceMethod yX5_tryNumber ∈ GW := List.mem_filter.mpr ⟨List.mem_append_right _ (List.mem_of_getElem? (i := 543) (by decide +kernel)), by decide +kernel⟩
theorem gwp_26 : Cond.selects RX5 yX5_tryNumber yX5_tryNumber ∈ GW := List.mem_filter.mpr ⟨List.mem_append_left _ (List.mem_of_getElem? (i := 26) (by decide +kernel)), by decide +kernel⟩
theorem gw_571 : Cond.methodLink RX5 287 yX4_squaresEnd ∈ GW := List.mem_filter.mpr ⟨List.mem_append_right _ (List.mem_of_getElem? (i := 571) (by decide +kernel)), by decide +kernel⟩
theorem gw_570 : Cond.code yX5_countChangedSums cX5_countChangedSums 5 (some .int) ∈ GW := List.mem_filter.mpr ⟨List.mem_append_right _ (List.mem_of_getElem? (i := 570) (by decide +kernel)), by decide +kernel⟩
theorem gw_569 : Cond.instanceMethod yX5_countChangedSums ∈ GW := List.mem_filter.mpr ⟨List.mem_append_right _ (List.mem_of_getElem? (i := 569) (by decide +kernel)), by decide +kernel⟩
theorem gwp_28 : Cond.selects RX5 yX5_countChangedSums yX5_countChangedSums ∈ GW := List.mem_filter.mpr ⟨List.mem_append_left _ (List.mem_of_getElem? (i := 28) (by decide +kernel)), by decide +kernel⟩
theorem gw_567 : Cond.methodLink RX5 284 yX5_countChangedSums ∈ GW := List.mem_filter.mpr ⟨List.mem_append_right _ (List.mem_of_getElem? (i := 567) (by decide +kernel)), by decide +kernel⟩
theorem gw_566 : Cond.code yX5_trialAnswer cX5_trialAnswer 3 (some .int) ∈ GW := List.mem_filter.mpr ⟨List.mem_append_right _ (List.mem_of_getElem? (i := 566) (by decide +kernel)), by decide +kernel⟩
theorem gw_565 : Cond.instanceMethod yX5_trialAnswer ∈ GW := List.mem_filter.mpr ⟨List.mem_append_right _ (List.mem_of_getElem? (i := 565) (by decide +kernel)), by decide +kernel⟩
theorem gwp_27 : Cond.selects RX5 yX5_trialAnswer yX5_trialAnswer ∈ GW := List.mem_filter.mpr ⟨List.mem_append_left _ (List.mem_of_getElem? (i := 27) (by decide +kernel)), by decide +kernel⟩
theorem gw_541 : Cond.methodLink RX5 188 yX5_tryNumber ∈ GW := List.mem_filter.mpr ⟨List.mem_append_right _ (List.mem_of_getElem? (i := 541) (by decide +kernel)), by decide +kernel⟩
theorem gw_563 : Cond.methodLink RX5 191 yX5_trialAnswer ∈ GW := List.mem_filter.mpr ⟨List.mem_append_right _ (List.mem_of_getElem? (i := 563) (by decide +kernel)), by decide +kernel⟩
theorem gw_798 : Cond.code yX5_ifPut cX5_ifPut 7 (some .int) ∈ GW := List.mem_filter.mpr ⟨List.mem_append_right _ (List.mem_of_getElem? (i := 798) (by decide +kernel)), by decide +kernel⟩
theorem gw_796 : Cond.instanceMethod yX5_ifPut ∈ GW := List.mem_filter.mpr ⟨List.mem_append_right _ (List.mem_of_getElem? (i := 796) (by decide +kernel)), by decide +kernel⟩
theorem gw_797 : Cond.selects RX5 yX5_ifPut yX5_ifPut ∈ GW := List.mem_filter.mpr ⟨List.mem_append_right _ (List.mem_of_getElem? (i := 797) (by decide +kernel)), by decide +kernel⟩
theorem gw_520 : Cond.code yX1_countSumsOf cX1_countSumsOf 5 (some .int) ∈ GW := List.mem_filter.mpr ⟨List.mem_append_right _ (List.mem_of_getElem? (i := 520) (by decide +kernel)), by decide +kernel⟩
theorem gw_518 : Cond.instanceMethod yX1_countSumsOf ∈ GW := List.mem_filter.mpr ⟨List.mem_append_right _ (List.mem_of_getElem? (i := 518) (by decide +kernel)), by decide +kernel⟩
theorem gw_519 : Cond.selects RX1 yX1_countSumsOf yX1_countSumsOf ∈ GW := List.mem_filter.mpr ⟨List.mem_append_right _ (List.mem_of_getElem? (i := 519) (by decide +kernel)), by decide +kernel⟩
theorem gw_517 : Cond.methodLink RX5 290 yX1_countSumsOf ∈ GW := List.mem_filter.mpr ⟨List.mem_append_right _ (List.mem_of_getElem? (i := 517) (by decide +kernel)), by decide +kernel⟩
theorem gw_515 : Cond.code yX5_countingSums cX5_countingSums 5 (some .int) ∈ GW := List.mem_filter.mpr ⟨List.mem_append_right _ (List.mem_of_getElem? (i := 515) (by decide +kernel)), by decide +kernel⟩
theorem gw_514 : Cond.instanceMethod yX5_countingSums ∈ GW := List.mem_filter.mpr ⟨List.mem_append_right _ (List.mem_of_getElem? (i := 514) (by decide +kernel)), by decide +kernel⟩
theorem gwp_25 : Cond.selects RX5 yX5_countingSums yX5_countingSums ∈ GW := List.mem_filter.mpr ⟨List.mem_append_left _ (List.mem_of_getElem? (i := 25) (by decide +kernel)), by decide +kernel⟩
theorem gw_512 : Cond.methodLink RX5 194 yX5_countingSums ∈ GW := List.mem_filter.mpr ⟨List.mem_append_right _ (List.mem_of_getElem? (i := 512) (by decide +kernel)), by decide +kernel⟩
theorem gw_805 : Cond.code yX5_countedBy cX5_countedBy 5 (some .int) ∈ GW := List.mem_filter.mpr ⟨List.mem_append_right _ (List.mem_of_getElem? (i := 805) (by decide +kernel)), by decide +kernel⟩
theorem gw_803 : Cond.instanceMethod yX5_countedBy ∈ GW := List.mem_filter.mpr ⟨List.mem_append_right _ (List.mem_of_getElem? (i := 803) (by decide +kernel)), by decide +kernel⟩
theorem gw_804 : Cond.selects RX5 yX5_countedBy yX5_countedBy ∈ GW := List.mem_filter.mpr ⟨List.mem_append_right _ (List.mem_of_getElem? (i := 804) (by decide +kernel)), by decide +kernel⟩
theorem gw_576 : Cond.code yX5_heightFor cX5_heightFor 3 (some .int) ∈ GW := List.mem_filter.mpr ⟨List.mem_append_right _ (List.mem_of_getElem? (i := 576) (by decide +kernel)), by decide +kernel⟩
theorem gw_574 : Cond.instanceMethod yX5_heightFor ∈ GW := List.mem_filter.mpr ⟨List.mem_append_right _ (List.mem_of_getElem? (i := 574) (by decide +kernel)), by decide +kernel⟩
theorem gw_575 : Cond.selects RX5 yX5_heightFor yX5_heightFor ∈ GW := List.mem_filter.mpr ⟨List.mem_append_right _ (List.mem_of_getElem? (i := 575) (by decide +kernel)), by decide +kernel⟩
theorem gw_369 : Cond.code yX5_filledShare cX5_filledShare 3 (some .double) ∈ GW := List.mem_filter.mpr ⟨List.mem_append_right _ (List.mem_of_getElem? (i := 369) (by decide +kernel)), by decide +kernel⟩
theorem gw_367 : Cond.instanceMethod yX5_filledShare ∈ GW := List.mem_filter.mpr ⟨List.mem_append_right _ (List.mem_of_getElem? (i := 367) (by decide +kernel)), by decide +kernel⟩
theorem gw_368 : Cond.selects RX5 yX5_filledShare yX5_filledShare ∈ GW := List.mem_filter.mpr ⟨List.mem_append_right _ (List.mem_of_getElem? (i := 368) (by decide +kernel)), by decide +kernel⟩
theorem gw_480 : Cond.constantLong RX5 293 (31) ∈ GW := List.mem_filter.mpr ⟨List.mem_append_right _ (List.mem_of_getElem? (i := 480) (by decide +kernel)), by decide +kernel⟩
theorem gw_479 : Cond.code yX5_mix cX5_mix 4 (some .long) ∈ GW := List.mem_filter.mpr ⟨List.mem_append_right _ (List.mem_of_getElem? (i := 479) (by decide +kernel)), by decide +kernel⟩
theorem gw_478 : Cond.static yX5_mix ∈ GW := List.mem_filter.mpr ⟨List.mem_append_right _ (List.mem_of_getElem? (i := 478) (by decide +kernel)), by decide +kernel⟩
theorem gw_477 : Cond.methodLink RX5 202 yX5_mix ∈ GW := List.mem_filter.mpr ⟨List.mem_append_right _ (List.mem_of_getElem? (i := 477) (by decide +kernel)), by decide +kernel⟩
theorem gw_504 : Cond.code yX5_mixSquare cX5_mixSquare 7 (some .long) ∈ GW := List.mem_filter.mpr ⟨List.mem_append_right _ (List.mem_of_getElem? (i := 504) (by decide +kernel)), by decide +kernel⟩
theorem gw_503 : Cond.instanceMethod yX5_mixSquare ∈ GW := List.mem_filter.mpr ⟨List.mem_append_right _ (List.mem_of_getElem? (i := 503) (by decide +kernel)), by decide +kernel⟩
theorem gwp_23 : Cond.selects RX5 yX5_mixSquare yX5_mixSquare ∈ GW := List.mem_filter.mpr ⟨List.mem_append_left _ (List.mem_of_getElem? (i := 23) (by decide +kernel)), by decide +kernel⟩
theorem gw_501 : Cond.methodLink RX5 295 yX5_mixSquare ∈ GW := List.mem_filter.mpr ⟨List.mem_append_right _ (List.mem_of_getElem? (i := 501) (by decide +kernel)), by decide +kernel⟩
theorem gw_484 : Cond.code yX5_mixTable cX5_mixTable 8 (some .long) ∈ GW := List.mem_filter.mpr ⟨List.mem_append_right _ (List.mem_of_getElem? (i := 484) (by decide +kernel)), by decide +kernel⟩
theorem gw_483 : Cond.instanceMethod yX5_mixTable ∈ GW := List.mem_filter.mpr ⟨List.mem_append_right _ (List.mem_of_getElem? (i := 483) (by decide +kernel)), by decide +kernel⟩
theorem gwp_21 : Cond.selects RX5 yX5_mixTable yX5_mixTable ∈ GW := List.mem_filter.mpr ⟨List.mem_append_left _ (List.mem_of_getElem? (i := 21) (by decide +kernel)), by decide +kernel⟩
theorem gw_581 : Cond.constantLong RX5 298 (1023) ∈ GW := List.mem_filter.mpr ⟨List.mem_append_right _ (List.mem_of_getElem? (i := 581) (by decide +kernel)), by decide +kernel⟩
theorem gw_582 : Cond.constantDouble RX5 300 (4611686018427387904) ∈ GW := List.mem_filter.mpr ⟨List.mem_append_right _ (List.mem_of_getElem? (i := 582) (by decide +kernel)), by decide +kernel⟩
theorem gw_583 : Cond.constantDouble RX5 302 (4841369599423283200) ∈ GW := List.mem_filter.mpr ⟨List.mem_append_right _ (List.mem_of_getElem? (i := 583) (by decide +kernel)), by decide +kernel⟩
theorem gw_580 : Cond.code yX5_bitsOf cX5_bitsOf 7 (some .long) ∈ GW := List.mem_filter.mpr ⟨List.mem_append_right _ (List.mem_of_getElem? (i := 580) (by decide +kernel)), by decide +kernel⟩
theorem gw_579 : Cond.static yX5_bitsOf ∈ GW := List.mem_filter.mpr ⟨List.mem_append_right _ (List.mem_of_getElem? (i := 579) (by decide +kernel)), by decide +kernel⟩
theorem gw_383 : Cond.constantLong RX5 197 (2887) ∈ GW := List.mem_filter.mpr ⟨List.mem_append_right _ (List.mem_of_getElem? (i := 383) (by decide +kernel)), by decide +kernel⟩
theorem gw_384 : Cond.methodLink RX5 199 yX5_count ∈ GW := List.mem_filter.mpr ⟨List.mem_append_right _ (List.mem_of_getElem? (i := 384) (by decide +kernel)), by decide +kernel⟩
theorem gw_481 : Cond.methodLink RX5 206 yX5_mixTable ∈ GW := List.mem_filter.mpr ⟨List.mem_append_right _ (List.mem_of_getElem? (i := 481) (by decide +kernel)), by decide +kernel⟩
theorem gw_521 : Cond.methodLink RX5 210 yX5_page ∈ GW := List.mem_filter.mpr ⟨List.mem_append_right _ (List.mem_of_getElem? (i := 521) (by decide +kernel)), by decide +kernel⟩
theorem gw_572 : Cond.constantLong RX5 213 (-1) ∈ GW := List.mem_filter.mpr ⟨List.mem_append_right _ (List.mem_of_getElem? (i := 572) (by decide +kernel)), by decide +kernel⟩
theorem gw_573 : Cond.methodLink RX5 215 yX5_heightFor ∈ GW := List.mem_filter.mpr ⟨List.mem_append_right _ (List.mem_of_getElem? (i := 573) (by decide +kernel)), by decide +kernel⟩
theorem gw_577 : Cond.methodLink RX5 218 yX5_filledShare ∈ GW := List.mem_filter.mpr ⟨List.mem_append_right _ (List.mem_of_getElem? (i := 577) (by decide +kernel)), by decide +kernel⟩
theorem gw_578 : Cond.methodLink RX5 222 yX5_bitsOf ∈ GW := List.mem_filter.mpr ⟨List.mem_append_right _ (List.mem_of_getElem? (i := 578) (by decide +kernel)), by decide +kernel⟩
theorem fl_X5_226 : FL RX5 226 3 0 := ⟨RX3, TX3, 2, rfl, by decide, inGW_3, Or.inr ⟨"NestedSums", List.mem_of_getElem? (i := 21) rfl⟩⟩
theorem gw_382 : Cond.code yX5_digest cX5_digest 5 (some .long) ∈ GW := List.mem_filter.mpr ⟨List.mem_append_right _ (List.mem_of_getElem? (i := 382) (by decide +kernel)), by decide +kernel⟩
theorem gw_380 : Cond.instanceMethod yX5_digest ∈ GW := List.mem_filter.mpr ⟨List.mem_append_right _ (List.mem_of_getElem? (i := 380) (by decide +kernel)), by decide +kernel⟩
theorem gw_381 : Cond.selects RX5 yX5_digest yX5_digest ∈ GW := List.mem_filter.mpr ⟨List.mem_append_right _ (List.mem_of_getElem? (i := 381) (by decide +kernel)), by decide +kernel⟩
theorem gw_826 : Cond.code yX6_empties cX6_empties 3 none ∈ GW := List.mem_filter.mpr ⟨List.mem_append_right _ (List.mem_of_getElem? (i := 826) (by decide +kernel)), by decide +kernel⟩
theorem gw_9 : Cond.initialized RX6 ∈ GW := List.mem_filter.mpr ⟨List.mem_append_right _ (List.mem_of_getElem? (i := 9) (by decide +kernel)), by decide +kernel⟩
theorem gw_825 : Cond.static yX6_empties ∈ GW := List.mem_filter.mpr ⟨List.mem_append_right _ (List.mem_of_getElem? (i := 825) (by decide +kernel)), by decide +kernel⟩
theorem gw_827 : Cond.fieldLink RX6 7 "NestedSumsModel" "now" "[I" ∈ GW := List.mem_filter.mpr ⟨List.mem_append_right _ (List.mem_of_getElem? (i := 827) (by decide +kernel)), by decide +kernel⟩
theorem inGW_6 : ∀ w ∈ u_ws RX6 TX6 24, w ∈ GW := by
  have h1 : ∀ w ∈ u_ws RX6 TX6 24, w ∈ tables_1 := by decide +kernel
  have h2 : ∀ w ∈ u_ws RX6 TX6 24, goodWord w = true := by decide +kernel
  exact fun w hw => List.mem_filter.mpr ⟨List.mem_append_right _ (h1 w hw), h2 w hw⟩
theorem fl_X6_7 : FL RX6 7 6 0 := ⟨RX6, TX6, 24, rfl, by decide, inGW_6, Or.inl gw_827⟩
theorem gw_824 : Cond.methodLink RX6 92 yX6_empties ∈ GW := List.mem_filter.mpr ⟨List.mem_append_right _ (List.mem_of_getElem? (i := 824) (by decide +kernel)), by decide +kernel⟩
theorem gw_823 : Cond.code yX6_comes cX6_comes 5 (some .int) ∈ GW := List.mem_filter.mpr ⟨List.mem_append_right _ (List.mem_of_getElem? (i := 823) (by decide +kernel)), by decide +kernel⟩
theorem gw_822 : Cond.instanceMethod yX6_comes ∈ GW := List.mem_filter.mpr ⟨List.mem_append_right _ (List.mem_of_getElem? (i := 822) (by decide +kernel)), by decide +kernel⟩
theorem gwp_36 : Cond.selects RX6 yX6_comes yX6_comes ∈ GW := List.mem_filter.mpr ⟨List.mem_append_left _ (List.mem_of_getElem? (i := 36) (by decide +kernel)), by decide +kernel⟩
theorem gw_820 : Cond.methodLink RX6 96 yX6_comes ∈ GW := List.mem_filter.mpr ⟨List.mem_append_right _ (List.mem_of_getElem? (i := 820) (by decide +kernel)), by decide +kernel⟩
theorem gw_819 : Cond.code yX6_begins cX6_begins 3 none ∈ GW := List.mem_filter.mpr ⟨List.mem_append_right _ (List.mem_of_getElem? (i := 819) (by decide +kernel)), by decide +kernel⟩
theorem gw_818 : Cond.instanceMethod yX6_begins ∈ GW := List.mem_filter.mpr ⟨List.mem_append_right _ (List.mem_of_getElem? (i := 818) (by decide +kernel)), by decide +kernel⟩
theorem gwp_35 : Cond.selects RX6 yX6_begins yX6_begins ∈ GW := List.mem_filter.mpr ⟨List.mem_append_left _ (List.mem_of_getElem? (i := 35) (by decide +kernel)), by decide +kernel⟩
theorem gw_833 : Cond.fieldLink RX6 62 "NestedSumsModel" "thrown" "I" ∈ GW := List.mem_filter.mpr ⟨List.mem_append_right _ (List.mem_of_getElem? (i := 833) (by decide +kernel)), by decide +kernel⟩
theorem fl_X6_62 : FL RX6 62 6 6 := ⟨RX6, TX6, 24, rfl, by decide, inGW_6, Or.inl gw_833⟩
theorem gw_903 : Cond.code yX6_thrown cX6_thrown 1 (some .int) ∈ GW := List.mem_filter.mpr ⟨List.mem_append_right _ (List.mem_of_getElem? (i := 903) (by decide +kernel)), by decide +kernel⟩
theorem gw_901 : Cond.instanceMethod yX6_thrown ∈ GW := List.mem_filter.mpr ⟨List.mem_append_right _ (List.mem_of_getElem? (i := 901) (by decide +kernel)), by decide +kernel⟩
theorem gw_902 : Cond.selects RX6 yX6_thrown yX6_thrown ∈ GW := List.mem_filter.mpr ⟨List.mem_append_right _ (List.mem_of_getElem? (i := 902) (by decide +kernel)), by decide +kernel⟩
theorem fw_X6_62 : FW RX6 62 6 6 .int := ⟨RX6, TX6, 24, tyX6, rfl, by decide, inGW_6, Or.inl gw_833, tyX6_ok, nmX6, rfl, tyX6_ok 6 (by decide)⟩
theorem gw_911 : Cond.code yX6_fails cX6_fails 2 (some .int) ∈ GW := List.mem_filter.mpr ⟨List.mem_append_right _ (List.mem_of_getElem? (i := 911) (by decide +kernel)), by decide +kernel⟩
theorem gw_910 : Cond.instanceMethod yX6_fails ∈ GW := List.mem_filter.mpr ⟨List.mem_append_right _ (List.mem_of_getElem? (i := 910) (by decide +kernel)), by decide +kernel⟩
theorem gwp_37 : Cond.selects RX6 yX6_fails yX6_fails ∈ GW := List.mem_filter.mpr ⟨List.mem_append_left _ (List.mem_of_getElem? (i := 37) (by decide +kernel)), by decide +kernel⟩
theorem gw_921 : Cond.code yX6_in cX6_in 3 (some .boolean) ∈ GW := List.mem_filter.mpr ⟨List.mem_append_right _ (List.mem_of_getElem? (i := 921) (by decide +kernel)), by decide +kernel⟩
theorem gw_920 : Cond.static yX6_in ∈ GW := List.mem_filter.mpr ⟨List.mem_append_right _ (List.mem_of_getElem? (i := 920) (by decide +kernel)), by decide +kernel⟩
theorem gw_919 : Cond.methodLink RX6 66 yX6_in ∈ GW := List.mem_filter.mpr ⟨List.mem_append_right _ (List.mem_of_getElem? (i := 919) (by decide +kernel)), by decide +kernel⟩
theorem gw_936 : Cond.code yX6_isTable cX6_isTable 2 (some .boolean) ∈ GW := List.mem_filter.mpr ⟨List.mem_append_right _ (List.mem_of_getElem? (i := 936) (by decide +kernel)), by decide +kernel⟩
theorem gw_935 : Cond.static yX6_isTable ∈ GW := List.mem_filter.mpr ⟨List.mem_append_right _ (List.mem_of_getElem? (i := 935) (by decide +kernel)), by decide +kernel⟩
theorem gw_934 : Cond.methodLink RX6 70 yX6_isTable ∈ GW := List.mem_filter.mpr ⟨List.mem_append_right _ (List.mem_of_getElem? (i := 934) (by decide +kernel)), by decide +kernel⟩
theorem gw_933 : Cond.code yX6_isSquare cX6_isSquare 4 (some .boolean) ∈ GW := List.mem_filter.mpr ⟨List.mem_append_right _ (List.mem_of_getElem? (i := 933) (by decide +kernel)), by decide +kernel⟩
theorem gw_932 : Cond.instanceMethod yX6_isSquare ∈ GW := List.mem_filter.mpr ⟨List.mem_append_right _ (List.mem_of_getElem? (i := 932) (by decide +kernel)), by decide +kernel⟩
theorem gwp_39 : Cond.selects RX6 yX6_isSquare yX6_isSquare ∈ GW := List.mem_filter.mpr ⟨List.mem_append_left _ (List.mem_of_getElem? (i := 39) (by decide +kernel)), by decide +kernel⟩
theorem gw_939 : Cond.code yX6_square cX6_square 3 (some .int) ∈ GW := List.mem_filter.mpr ⟨List.mem_append_right _ (List.mem_of_getElem? (i := 939) (by decide +kernel)), by decide +kernel⟩
theorem gw_938 : Cond.static yX6_square ∈ GW := List.mem_filter.mpr ⟨List.mem_append_right _ (List.mem_of_getElem? (i := 938) (by decide +kernel)), by decide +kernel⟩
theorem gw_945 : Cond.code yX6_isOf cX6_isOf 2 (some .boolean) ∈ GW := List.mem_filter.mpr ⟨List.mem_append_right _ (List.mem_of_getElem? (i := 945) (by decide +kernel)), by decide +kernel⟩
theorem gw_944 : Cond.static yX6_isOf ∈ GW := List.mem_filter.mpr ⟨List.mem_append_right _ (List.mem_of_getElem? (i := 944) (by decide +kernel)), by decide +kernel⟩
theorem gw_943 : Cond.methodLink RX6 74 yX6_isOf ∈ GW := List.mem_filter.mpr ⟨List.mem_append_right _ (List.mem_of_getElem? (i := 943) (by decide +kernel)), by decide +kernel⟩
theorem gw_942 : Cond.code yX6_isCell cX6_isCell 2 (some .boolean) ∈ GW := List.mem_filter.mpr ⟨List.mem_append_right _ (List.mem_of_getElem? (i := 942) (by decide +kernel)), by decide +kernel⟩
theorem gw_941 : Cond.static yX6_isCell ∈ GW := List.mem_filter.mpr ⟨List.mem_append_right _ (List.mem_of_getElem? (i := 941) (by decide +kernel)), by decide +kernel⟩
theorem gw_1042 : Cond.code yX6_isSum cX6_isSum 2 (some .boolean) ∈ GW := List.mem_filter.mpr ⟨List.mem_append_right _ (List.mem_of_getElem? (i := 1042) (by decide +kernel)), by decide +kernel⟩
theorem gw_1041 : Cond.static yX6_isSum ∈ GW := List.mem_filter.mpr ⟨List.mem_append_right _ (List.mem_of_getElem? (i := 1041) (by decide +kernel)), by decide +kernel⟩
theorem gw_914 : Cond.code yX6_copies cX6_copies 5 none ∈ GW := List.mem_filter.mpr ⟨List.mem_append_right _ (List.mem_of_getElem? (i := 914) (by decide +kernel)), by decide +kernel⟩
theorem gw_913 : Cond.static yX6_copies ∈ GW := List.mem_filter.mpr ⟨List.mem_append_right _ (List.mem_of_getElem? (i := 913) (by decide +kernel)), by decide +kernel⟩
theorem gw_839 : Cond.fieldLink RX6 77 "NestedSumsModel" "isLaid" "Z" ∈ GW := List.mem_filter.mpr ⟨List.mem_append_right _ (List.mem_of_getElem? (i := 839) (by decide +kernel)), by decide +kernel⟩
theorem fw_X6_77 : FW RX6 77 6 12 .boolean := ⟨RX6, TX6, 24, tyX6, rfl, by decide, inGW_6, Or.inl gw_839, tyX6_ok, nmX6, rfl, tyX6_ok 12 (by decide)⟩
theorem gw_830 : Cond.fieldLink RX6 81 "NestedSumsModel" "kept" "I" ∈ GW := List.mem_filter.mpr ⟨List.mem_append_right _ (List.mem_of_getElem? (i := 830) (by decide +kernel)), by decide +kernel⟩
theorem fl_X6_81 : FL RX6 81 6 3 := ⟨RX6, TX6, 24, rfl, by decide, inGW_6, Or.inl gw_830⟩
theorem gw_829 : Cond.fieldLink RX6 16 "NestedSumsModel" "past" "[I" ∈ GW := List.mem_filter.mpr ⟨List.mem_append_right _ (List.mem_of_getElem? (i := 829) (by decide +kernel)), by decide +kernel⟩
theorem fl_X6_16 : FL RX6 16 6 2 := ⟨RX6, TX6, 24, rfl, by decide, inGW_6, Or.inl gw_829⟩
theorem gw_912 : Cond.methodLink RX6 84 yX6_copies ∈ GW := List.mem_filter.mpr ⟨List.mem_append_right _ (List.mem_of_getElem? (i := 912) (by decide +kernel)), by decide +kernel⟩
theorem fw_X6_81 : FW RX6 81 6 3 .int := ⟨RX6, TX6, 24, tyX6, rfl, by decide, inGW_6, Or.inl gw_830, tyX6_ok, nmX6, rfl, tyX6_ok 3 (by decide)⟩
theorem gw_925 : Cond.code yX6_saves cX6_saves 2 none ∈ GW := List.mem_filter.mpr ⟨List.mem_append_right _ (List.mem_of_getElem? (i := 925) (by decide +kernel)), by decide +kernel⟩
theorem gw_924 : Cond.instanceMethod yX6_saves ∈ GW := List.mem_filter.mpr ⟨List.mem_append_right _ (List.mem_of_getElem? (i := 924) (by decide +kernel)), by decide +kernel⟩
theorem gwp_38 : Cond.selects RX6 yX6_saves yX6_saves ∈ GW := List.mem_filter.mpr ⟨List.mem_append_left _ (List.mem_of_getElem? (i := 38) (by decide +kernel)), by decide +kernel⟩
theorem gw_908 : Cond.methodLink RX6 88 yX6_fails ∈ GW := List.mem_filter.mpr ⟨List.mem_append_right _ (List.mem_of_getElem? (i := 908) (by decide +kernel)), by decide +kernel⟩
theorem gw_907 : Cond.code yX6_undo cX6_undo 1 (some .int) ∈ GW := List.mem_filter.mpr ⟨List.mem_append_right _ (List.mem_of_getElem? (i := 907) (by decide +kernel)), by decide +kernel⟩
theorem gw_905 : Cond.instanceMethod yX6_undo ∈ GW := List.mem_filter.mpr ⟨List.mem_append_right _ (List.mem_of_getElem? (i := 905) (by decide +kernel)), by decide +kernel⟩
theorem gw_906 : Cond.selects RX6 yX6_undo yX6_undo ∈ GW := List.mem_filter.mpr ⟨List.mem_append_right _ (List.mem_of_getElem? (i := 906) (by decide +kernel)), by decide +kernel⟩
theorem gw_1055 : Cond.code yX6_rowOf cX6_rowOf 1 (some .int) ∈ GW := List.mem_filter.mpr ⟨List.mem_append_right _ (List.mem_of_getElem? (i := 1055) (by decide +kernel)), by decide +kernel⟩
theorem gw_1054 : Cond.static yX6_rowOf ∈ GW := List.mem_filter.mpr ⟨List.mem_append_right _ (List.mem_of_getElem? (i := 1054) (by decide +kernel)), by decide +kernel⟩
theorem gw_1053 : Cond.methodLink RX6 100 yX6_rowOf ∈ GW := List.mem_filter.mpr ⟨List.mem_append_right _ (List.mem_of_getElem? (i := 1053) (by decide +kernel)), by decide +kernel⟩
theorem gw_1052 : Cond.code yX6_meet cX6_meet 8 (some .boolean) ∈ GW := List.mem_filter.mpr ⟨List.mem_append_right _ (List.mem_of_getElem? (i := 1052) (by decide +kernel)), by decide +kernel⟩
theorem gw_1051 : Cond.static yX6_meet ∈ GW := List.mem_filter.mpr ⟨List.mem_append_right _ (List.mem_of_getElem? (i := 1051) (by decide +kernel)), by decide +kernel⟩
theorem gw_1058 : Cond.code yX6_along cX6_along 2 (some .int) ∈ GW := List.mem_filter.mpr ⟨List.mem_append_right _ (List.mem_of_getElem? (i := 1058) (by decide +kernel)), by decide +kernel⟩
theorem gw_1057 : Cond.static yX6_along ∈ GW := List.mem_filter.mpr ⟨List.mem_append_right _ (List.mem_of_getElem? (i := 1057) (by decide +kernel)), by decide +kernel⟩
theorem gw_940 : Cond.methodLink RX6 103 yX6_isCell ∈ GW := List.mem_filter.mpr ⟨List.mem_append_right _ (List.mem_of_getElem? (i := 940) (by decide +kernel)), by decide +kernel⟩
theorem gw_1056 : Cond.methodLink RX6 110 yX6_along ∈ GW := List.mem_filter.mpr ⟨List.mem_append_right _ (List.mem_of_getElem? (i := 1056) (by decide +kernel)), by decide +kernel⟩
theorem gw_1050 : Cond.methodLink RX6 106 yX6_meet ∈ GW := List.mem_filter.mpr ⟨List.mem_append_right _ (List.mem_of_getElem? (i := 1050) (by decide +kernel)), by decide +kernel⟩
theorem gw_1061 : Cond.code yX6_from cX6_from 7 (some .int) ∈ GW := List.mem_filter.mpr ⟨List.mem_append_right _ (List.mem_of_getElem? (i := 1061) (by decide +kernel)), by decide +kernel⟩
theorem gw_1060 : Cond.static yX6_from ∈ GW := List.mem_filter.mpr ⟨List.mem_append_right _ (List.mem_of_getElem? (i := 1060) (by decide +kernel)), by decide +kernel⟩
theorem gw_1059 : Cond.methodLink RX6 114 yX6_from ∈ GW := List.mem_filter.mpr ⟨List.mem_append_right _ (List.mem_of_getElem? (i := 1059) (by decide +kernel)), by decide +kernel⟩
theorem gw_1049 : Cond.code yX6_counts cX6_counts 4 (some .boolean) ∈ GW := List.mem_filter.mpr ⟨List.mem_append_right _ (List.mem_of_getElem? (i := 1049) (by decide +kernel)), by decide +kernel⟩
theorem gw_1048 : Cond.static yX6_counts ∈ GW := List.mem_filter.mpr ⟨List.mem_append_right _ (List.mem_of_getElem? (i := 1048) (by decide +kernel)), by decide +kernel⟩
theorem gw_840 : Cond.fieldLink RX6 25 "NestedSumsModel" "values" "[I" ∈ GW := List.mem_filter.mpr ⟨List.mem_append_right _ (List.mem_of_getElem? (i := 840) (by decide +kernel)), by decide +kernel⟩
theorem fl_X6_25 : FL RX6 25 6 13 := ⟨RX6, TX6, 24, rfl, by decide, inGW_6, Or.inl gw_840⟩
theorem gw_1039 : Cond.code yX6_valueOf cX6_valueOf 3 (some .int) ∈ GW := List.mem_filter.mpr ⟨List.mem_append_right _ (List.mem_of_getElem? (i := 1039) (by decide +kernel)), by decide +kernel⟩
theorem gw_1038 : Cond.instanceMethod yX6_valueOf ∈ GW := List.mem_filter.mpr ⟨List.mem_append_right _ (List.mem_of_getElem? (i := 1038) (by decide +kernel)), by decide +kernel⟩
theorem gwp_52 : Cond.selects RX6 yX6_valueOf yX6_valueOf ∈ GW := List.mem_filter.mpr ⟨List.mem_append_left _ (List.mem_of_getElem? (i := 52) (by decide +kernel)), by decide +kernel⟩
theorem gw_1047 : Cond.methodLink RX6 118 yX6_counts ∈ GW := List.mem_filter.mpr ⟨List.mem_append_right _ (List.mem_of_getElem? (i := 1047) (by decide +kernel)), by decide +kernel⟩
theorem gw_1036 : Cond.methodLink RX6 122 yX6_valueOf ∈ GW := List.mem_filter.mpr ⟨List.mem_append_right _ (List.mem_of_getElem? (i := 1036) (by decide +kernel)), by decide +kernel⟩
theorem gw_1046 : Cond.code yX6_summed cX6_summed 6 (some .int) ∈ GW := List.mem_filter.mpr ⟨List.mem_append_right _ (List.mem_of_getElem? (i := 1046) (by decide +kernel)), by decide +kernel⟩
theorem gw_1045 : Cond.instanceMethod yX6_summed ∈ GW := List.mem_filter.mpr ⟨List.mem_append_right _ (List.mem_of_getElem? (i := 1045) (by decide +kernel)), by decide +kernel⟩
theorem gwp_53 : Cond.selects RX6 yX6_summed yX6_summed ∈ GW := List.mem_filter.mpr ⟨List.mem_append_left _ (List.mem_of_getElem? (i := 53) (by decide +kernel)), by decide +kernel⟩
theorem gw_937 : Cond.methodLink RX6 125 yX6_square ∈ GW := List.mem_filter.mpr ⟨List.mem_append_right _ (List.mem_of_getElem? (i := 937) (by decide +kernel)), by decide +kernel⟩
theorem gw_1072 : Cond.code yX6_beside cX6_beside 6 (some .int) ∈ GW := List.mem_filter.mpr ⟨List.mem_append_right _ (List.mem_of_getElem? (i := 1072) (by decide +kernel)), by decide +kernel⟩
theorem gw_1071 : Cond.static yX6_beside ∈ GW := List.mem_filter.mpr ⟨List.mem_append_right _ (List.mem_of_getElem? (i := 1071) (by decide +kernel)), by decide +kernel⟩
theorem gw_1070 : Cond.methodLink RX6 129 yX6_beside ∈ GW := List.mem_filter.mpr ⟨List.mem_append_right _ (List.mem_of_getElem? (i := 1070) (by decide +kernel)), by decide +kernel⟩
theorem gw_847 : Cond.fieldLink RX6 46 "NestedSumsModel" "rules" "[I" ∈ GW := List.mem_filter.mpr ⟨List.mem_append_right _ (List.mem_of_getElem? (i := 847) (by decide +kernel)), by decide +kernel⟩
theorem fl_X6_46 : FL RX6 46 6 20 := ⟨RX6, TX6, 24, rfl, by decide, inGW_6, Or.inl gw_847⟩
theorem gw_1076 : Cond.code yX6_edgeOf cX6_edgeOf 7 (some .int) ∈ GW := List.mem_filter.mpr ⟨List.mem_append_right _ (List.mem_of_getElem? (i := 1076) (by decide +kernel)), by decide +kernel⟩
theorem gw_1075 : Cond.instanceMethod yX6_edgeOf ∈ GW := List.mem_filter.mpr ⟨List.mem_append_right _ (List.mem_of_getElem? (i := 1075) (by decide +kernel)), by decide +kernel⟩
theorem gwp_56 : Cond.selects RX6 yX6_edgeOf yX6_edgeOf ∈ GW := List.mem_filter.mpr ⟨List.mem_append_left _ (List.mem_of_getElem? (i := 56) (by decide +kernel)), by decide +kernel⟩
theorem gw_1073 : Cond.methodLink RX6 133 yX6_edgeOf ∈ GW := List.mem_filter.mpr ⟨List.mem_append_right _ (List.mem_of_getElem? (i := 1073) (by decide +kernel)), by decide +kernel⟩
theorem gw_1069 : Cond.code yX6_border cX6_border 7 (some .int) ∈ GW := List.mem_filter.mpr ⟨List.mem_append_right _ (List.mem_of_getElem? (i := 1069) (by decide +kernel)), by decide +kernel⟩
theorem gw_1068 : Cond.instanceMethod yX6_border ∈ GW := List.mem_filter.mpr ⟨List.mem_append_right _ (List.mem_of_getElem? (i := 1068) (by decide +kernel)), by decide +kernel⟩
theorem gwp_55 : Cond.selects RX6 yX6_border yX6_border ∈ GW := List.mem_filter.mpr ⟨List.mem_append_left _ (List.mem_of_getElem? (i := 55) (by decide +kernel)), by decide +kernel⟩
theorem gw_1066 : Cond.methodLink RX6 136 yX6_border ∈ GW := List.mem_filter.mpr ⟨List.mem_append_right _ (List.mem_of_getElem? (i := 1066) (by decide +kernel)), by decide +kernel⟩
theorem gw_1065 : Cond.code yX6_laysRules cX6_laysRules 7 none ∈ GW := List.mem_filter.mpr ⟨List.mem_append_right _ (List.mem_of_getElem? (i := 1065) (by decide +kernel)), by decide +kernel⟩
theorem gw_1064 : Cond.instanceMethod yX6_laysRules ∈ GW := List.mem_filter.mpr ⟨List.mem_append_right _ (List.mem_of_getElem? (i := 1064) (by decide +kernel)), by decide +kernel⟩
theorem gwp_54 : Cond.selects RX6 yX6_laysRules yX6_laysRules ∈ GW := List.mem_filter.mpr ⟨List.mem_append_left _ (List.mem_of_getElem? (i := 54) (by decide +kernel)), by decide +kernel⟩
theorem gw_1080 : Cond.code yX6_lines cX6_lines 13 (some .int) ∈ GW := List.mem_filter.mpr ⟨List.mem_append_right _ (List.mem_of_getElem? (i := 1080) (by decide +kernel)), by decide +kernel⟩
theorem gw_1079 : Cond.instanceMethod yX6_lines ∈ GW := List.mem_filter.mpr ⟨List.mem_append_right _ (List.mem_of_getElem? (i := 1079) (by decide +kernel)), by decide +kernel⟩
theorem gwp_57 : Cond.selects RX6 yX6_lines yX6_lines ∈ GW := List.mem_filter.mpr ⟨List.mem_append_left _ (List.mem_of_getElem? (i := 57) (by decide +kernel)), by decide +kernel⟩
theorem gw_1091 : Cond.code yX6_signs cX6_signs 3 (some .int) ∈ GW := List.mem_filter.mpr ⟨List.mem_append_right _ (List.mem_of_getElem? (i := 1091) (by decide +kernel)), by decide +kernel⟩
theorem gw_1090 : Cond.static yX6_signs ∈ GW := List.mem_filter.mpr ⟨List.mem_append_right _ (List.mem_of_getElem? (i := 1090) (by decide +kernel)), by decide +kernel⟩
theorem gw_1089 : Cond.methodLink RX6 139 yX6_signs ∈ GW := List.mem_filter.mpr ⟨List.mem_append_right _ (List.mem_of_getElem? (i := 1089) (by decide +kernel)), by decide +kernel⟩
theorem gw_841 : Cond.fieldLink RX6 28 "NestedSumsModel" "widths" "[I" ∈ GW := List.mem_filter.mpr ⟨List.mem_append_right _ (List.mem_of_getElem? (i := 841) (by decide +kernel)), by decide +kernel⟩
theorem fl_X6_28 : FL RX6 28 6 14 := ⟨RX6, TX6, 24, rfl, by decide, inGW_6, Or.inl gw_841⟩
theorem gw_845 : Cond.fieldLink RX6 40 "NestedSumsModel" "shown" "[I" ∈ GW := List.mem_filter.mpr ⟨List.mem_append_right _ (List.mem_of_getElem? (i := 845) (by decide +kernel)), by decide +kernel⟩
theorem fl_X6_40 : FL RX6 40 6 18 := ⟨RX6, TX6, 24, rfl, by decide, inGW_6, Or.inl gw_845⟩
theorem gw_1088 : Cond.code yX6_widthOf cX6_widthOf 3 (some .int) ∈ GW := List.mem_filter.mpr ⟨List.mem_append_right _ (List.mem_of_getElem? (i := 1088) (by decide +kernel)), by decide +kernel⟩
theorem gw_1087 : Cond.instanceMethod yX6_widthOf ∈ GW := List.mem_filter.mpr ⟨List.mem_append_right _ (List.mem_of_getElem? (i := 1087) (by decide +kernel)), by decide +kernel⟩
theorem gwp_59 : Cond.selects RX6 yX6_widthOf yX6_widthOf ∈ GW := List.mem_filter.mpr ⟨List.mem_append_left _ (List.mem_of_getElem? (i := 59) (by decide +kernel)), by decide +kernel⟩
theorem gw_842 : Cond.fieldLink RX6 31 "NestedSumsModel" "heights" "[I" ∈ GW := List.mem_filter.mpr ⟨List.mem_append_right _ (List.mem_of_getElem? (i := 842) (by decide +kernel)), by decide +kernel⟩
theorem fl_X6_31 : FL RX6 31 6 15 := ⟨RX6, TX6, 24, rfl, by decide, inGW_6, Or.inl gw_842⟩
theorem gw_1099 : Cond.code yX6_heightOf cX6_heightOf 3 (some .int) ∈ GW := List.mem_filter.mpr ⟨List.mem_append_right _ (List.mem_of_getElem? (i := 1099) (by decide +kernel)), by decide +kernel⟩
theorem gw_1098 : Cond.instanceMethod yX6_heightOf ∈ GW := List.mem_filter.mpr ⟨List.mem_append_right _ (List.mem_of_getElem? (i := 1098) (by decide +kernel)), by decide +kernel⟩
theorem gwp_61 : Cond.selects RX6 yX6_heightOf yX6_heightOf ∈ GW := List.mem_filter.mpr ⟨List.mem_append_left _ (List.mem_of_getElem? (i := 61) (by decide +kernel)), by decide +kernel⟩
theorem gw_848 : Cond.fieldLink RX6 49 "NestedSumsModel" "columns" "[I" ∈ GW := List.mem_filter.mpr ⟨List.mem_append_right _ (List.mem_of_getElem? (i := 848) (by decide +kernel)), by decide +kernel⟩
theorem fl_X6_49 : FL RX6 49 6 21 := ⟨RX6, TX6, 24, rfl, by decide, inGW_6, Or.inl gw_848⟩
theorem gw_1085 : Cond.methodLink RX6 142 yX6_widthOf ∈ GW := List.mem_filter.mpr ⟨List.mem_append_right _ (List.mem_of_getElem? (i := 1085) (by decide +kernel)), by decide +kernel⟩
theorem gw_1084 : Cond.code yX6_laysColumns cX6_laysColumns 9 none ∈ GW := List.mem_filter.mpr ⟨List.mem_append_right _ (List.mem_of_getElem? (i := 1084) (by decide +kernel)), by decide +kernel⟩
theorem gw_1083 : Cond.instanceMethod yX6_laysColumns ∈ GW := List.mem_filter.mpr ⟨List.mem_append_right _ (List.mem_of_getElem? (i := 1083) (by decide +kernel)), by decide +kernel⟩
theorem gwp_58 : Cond.selects RX6 yX6_laysColumns yX6_laysColumns ∈ GW := List.mem_filter.mpr ⟨List.mem_append_left _ (List.mem_of_getElem? (i := 58) (by decide +kernel)), by decide +kernel⟩
theorem gw_849 : Cond.fieldLink RX6 52 "NestedSumsModel" "rows" "[I" ∈ GW := List.mem_filter.mpr ⟨List.mem_append_right _ (List.mem_of_getElem? (i := 849) (by decide +kernel)), by decide +kernel⟩
theorem fl_X6_52 : FL RX6 52 6 22 := ⟨RX6, TX6, 24, rfl, by decide, inGW_6, Or.inl gw_849⟩
theorem gw_1096 : Cond.methodLink RX6 145 yX6_heightOf ∈ GW := List.mem_filter.mpr ⟨List.mem_append_right _ (List.mem_of_getElem? (i := 1096) (by decide +kernel)), by decide +kernel⟩
theorem gw_1095 : Cond.code yX6_laysRows cX6_laysRows 9 none ∈ GW := List.mem_filter.mpr ⟨List.mem_append_right _ (List.mem_of_getElem? (i := 1095) (by decide +kernel)), by decide +kernel⟩
theorem gw_1094 : Cond.instanceMethod yX6_laysRows ∈ GW := List.mem_filter.mpr ⟨List.mem_append_right _ (List.mem_of_getElem? (i := 1094) (by decide +kernel)), by decide +kernel⟩
theorem gwp_60 : Cond.selects RX6 yX6_laysRows yX6_laysRows ∈ GW := List.mem_filter.mpr ⟨List.mem_append_left _ (List.mem_of_getElem? (i := 60) (by decide +kernel)), by decide +kernel⟩
theorem gw_1040 : Cond.methodLink RX6 148 yX6_isSum ∈ GW := List.mem_filter.mpr ⟨List.mem_append_right _ (List.mem_of_getElem? (i := 1040) (by decide +kernel)), by decide +kernel⟩
theorem gw_1043 : Cond.methodLink RX6 151 yX6_summed ∈ GW := List.mem_filter.mpr ⟨List.mem_append_right _ (List.mem_of_getElem? (i := 1043) (by decide +kernel)), by decide +kernel⟩
theorem gw_1062 : Cond.methodLink RX6 154 yX6_laysRules ∈ GW := List.mem_filter.mpr ⟨List.mem_append_right _ (List.mem_of_getElem? (i := 1062) (by decide +kernel)), by decide +kernel⟩
theorem gw_843 : Cond.fieldLink RX6 34 "NestedSumsModel" "downs" "[I" ∈ GW := List.mem_filter.mpr ⟨List.mem_append_right _ (List.mem_of_getElem? (i := 843) (by decide +kernel)), by decide +kernel⟩
theorem fl_X6_34 : FL RX6 34 6 16 := ⟨RX6, TX6, 24, rfl, by decide, inGW_6, Or.inl gw_843⟩
theorem gw_1077 : Cond.methodLink RX6 157 yX6_lines ∈ GW := List.mem_filter.mpr ⟨List.mem_append_right _ (List.mem_of_getElem? (i := 1077) (by decide +kernel)), by decide +kernel⟩
theorem gw_844 : Cond.fieldLink RX6 37 "NestedSumsModel" "acrosses" "[I" ∈ GW := List.mem_filter.mpr ⟨List.mem_append_right _ (List.mem_of_getElem? (i := 844) (by decide +kernel)), by decide +kernel⟩
theorem fl_X6_37 : FL RX6 37 6 17 := ⟨RX6, TX6, 24, rfl, by decide, inGW_6, Or.inl gw_844⟩
theorem gw_1081 : Cond.methodLink RX6 161 yX6_laysColumns ∈ GW := List.mem_filter.mpr ⟨List.mem_append_right _ (List.mem_of_getElem? (i := 1081) (by decide +kernel)), by decide +kernel⟩
theorem gw_1092 : Cond.methodLink RX6 164 yX6_laysRows ∈ GW := List.mem_filter.mpr ⟨List.mem_append_right _ (List.mem_of_getElem? (i := 1092) (by decide +kernel)), by decide +kernel⟩
theorem gw_1035 : Cond.code yX6_laysTable cX6_laysTable 5 none ∈ GW := List.mem_filter.mpr ⟨List.mem_append_right _ (List.mem_of_getElem? (i := 1035) (by decide +kernel)), by decide +kernel⟩
theorem gw_1034 : Cond.instanceMethod yX6_laysTable ∈ GW := List.mem_filter.mpr ⟨List.mem_append_right _ (List.mem_of_getElem? (i := 1034) (by decide +kernel)), by decide +kernel⟩
theorem gwp_51 : Cond.selects RX6 yX6_laysTable yX6_laysTable ∈ GW := List.mem_filter.mpr ⟨List.mem_append_left _ (List.mem_of_getElem? (i := 51) (by decide +kernel)), by decide +kernel⟩
theorem gw_1032 : Cond.methodLink RX6 167 yX6_laysTable ∈ GW := List.mem_filter.mpr ⟨List.mem_append_right _ (List.mem_of_getElem? (i := 1032) (by decide +kernel)), by decide +kernel⟩
theorem gw_1031 : Cond.code yX6_lays cX6_lays 3 none ∈ GW := List.mem_filter.mpr ⟨List.mem_append_right _ (List.mem_of_getElem? (i := 1031) (by decide +kernel)), by decide +kernel⟩
theorem gw_1030 : Cond.instanceMethod yX6_lays ∈ GW := List.mem_filter.mpr ⟨List.mem_append_right _ (List.mem_of_getElem? (i := 1030) (by decide +kernel)), by decide +kernel⟩
theorem gwp_50 : Cond.selects RX6 yX6_lays yX6_lays ∈ GW := List.mem_filter.mpr ⟨List.mem_append_left _ (List.mem_of_getElem? (i := 50) (by decide +kernel)), by decide +kernel⟩
theorem fl_X6_77 : FL RX6 77 6 12 := ⟨RX6, TX6, 24, rfl, by decide, inGW_6, Or.inl gw_839⟩
theorem gw_1028 : Cond.methodLink RX6 170 yX6_lays ∈ GW := List.mem_filter.mpr ⟨List.mem_append_right _ (List.mem_of_getElem? (i := 1028) (by decide +kernel)), by decide +kernel⟩
theorem gw_1027 : Cond.code yX6_laysNow cX6_laysNow 1 none ∈ GW := List.mem_filter.mpr ⟨List.mem_append_right _ (List.mem_of_getElem? (i := 1027) (by decide +kernel)), by decide +kernel⟩
theorem gw_1026 : Cond.instanceMethod yX6_laysNow ∈ GW := List.mem_filter.mpr ⟨List.mem_append_right _ (List.mem_of_getElem? (i := 1026) (by decide +kernel)), by decide +kernel⟩
theorem gwp_49 : Cond.selects RX6 yX6_laysNow yX6_laysNow ∈ GW := List.mem_filter.mpr ⟨List.mem_append_left _ (List.mem_of_getElem? (i := 49) (by decide +kernel)), by decide +kernel⟩
theorem gw_1133 : Cond.code yX6_isParted cX6_isParted 4 (some .boolean) ∈ GW := List.mem_filter.mpr ⟨List.mem_append_right _ (List.mem_of_getElem? (i := 1133) (by decide +kernel)), by decide +kernel⟩
theorem gw_1132 : Cond.static yX6_isParted ∈ GW := List.mem_filter.mpr ⟨List.mem_append_right _ (List.mem_of_getElem? (i := 1132) (by decide +kernel)), by decide +kernel⟩
theorem gw_1131 : Cond.methodLink RX6 174 yX6_isParted ∈ GW := List.mem_filter.mpr ⟨List.mem_append_right _ (List.mem_of_getElem? (i := 1131) (by decide +kernel)), by decide +kernel⟩
theorem gw_850 : Cond.fieldLink RX6 55 "NestedSumsModel" "pages" "[I" ∈ GW := List.mem_filter.mpr ⟨List.mem_append_right _ (List.mem_of_getElem? (i := 850) (by decide +kernel)), by decide +kernel⟩
theorem fl_X6_55 : FL RX6 55 6 23 := ⟨RX6, TX6, 24, rfl, by decide, inGW_6, Or.inl gw_850⟩
theorem gw_1130 : Cond.code yX6_laysPages cX6_laysPages 10 (some .int) ∈ GW := List.mem_filter.mpr ⟨List.mem_append_right _ (List.mem_of_getElem? (i := 1130) (by decide +kernel)), by decide +kernel⟩
theorem gw_1129 : Cond.instanceMethod yX6_laysPages ∈ GW := List.mem_filter.mpr ⟨List.mem_append_right _ (List.mem_of_getElem? (i := 1129) (by decide +kernel)), by decide +kernel⟩
theorem gwp_64 : Cond.selects RX6 yX6_laysPages yX6_laysPages ∈ GW := List.mem_filter.mpr ⟨List.mem_append_left _ (List.mem_of_getElem? (i := 64) (by decide +kernel)), by decide +kernel⟩
theorem gw_922 : Cond.methodLink RX6 177 yX6_saves ∈ GW := List.mem_filter.mpr ⟨List.mem_append_right _ (List.mem_of_getElem? (i := 922) (by decide +kernel)), by decide +kernel⟩
theorem gw_816 : Cond.methodLink RX6 58 yX6_begins ∈ GW := List.mem_filter.mpr ⟨List.mem_append_right _ (List.mem_of_getElem? (i := 816) (by decide +kernel)), by decide +kernel⟩
theorem gw_918 : Cond.code yX6_begin cX6_begin 3 (some .int) ∈ GW := List.mem_filter.mpr ⟨List.mem_append_right _ (List.mem_of_getElem? (i := 918) (by decide +kernel)), by decide +kernel⟩
theorem gw_916 : Cond.instanceMethod yX6_begin ∈ GW := List.mem_filter.mpr ⟨List.mem_append_right _ (List.mem_of_getElem? (i := 916) (by decide +kernel)), by decide +kernel⟩
theorem gw_917 : Cond.selects RX6 yX6_begin yX6_begin ∈ GW := List.mem_filter.mpr ⟨List.mem_append_right _ (List.mem_of_getElem? (i := 917) (by decide +kernel)), by decide +kernel⟩
theorem gw_930 : Cond.methodLink RX6 180 yX6_isSquare ∈ GW := List.mem_filter.mpr ⟨List.mem_append_right _ (List.mem_of_getElem? (i := 930) (by decide +kernel)), by decide +kernel⟩
theorem gw_929 : Cond.code yX6_nest cX6_nest 7 (some .int) ∈ GW := List.mem_filter.mpr ⟨List.mem_append_right _ (List.mem_of_getElem? (i := 929) (by decide +kernel)), by decide +kernel⟩
theorem gw_927 : Cond.instanceMethod yX6_nest ∈ GW := List.mem_filter.mpr ⟨List.mem_append_right _ (List.mem_of_getElem? (i := 927) (by decide +kernel)), by decide +kernel⟩
theorem gw_928 : Cond.selects RX6 yX6_nest yX6_nest ∈ GW := List.mem_filter.mpr ⟨List.mem_append_right _ (List.mem_of_getElem? (i := 928) (by decide +kernel)), by decide +kernel⟩
theorem gw_956 : Cond.code yX6_isKind cX6_isKind 2 (some .boolean) ∈ GW := List.mem_filter.mpr ⟨List.mem_append_right _ (List.mem_of_getElem? (i := 956) (by decide +kernel)), by decide +kernel⟩
theorem gw_955 : Cond.static yX6_isKind ∈ GW := List.mem_filter.mpr ⟨List.mem_append_right _ (List.mem_of_getElem? (i := 955) (by decide +kernel)), by decide +kernel⟩
theorem gw_954 : Cond.methodLink RX6 183 yX6_isKind ∈ GW := List.mem_filter.mpr ⟨List.mem_append_right _ (List.mem_of_getElem? (i := 954) (by decide +kernel)), by decide +kernel⟩
theorem gw_953 : Cond.code yX6_mayPut cX6_mayPut 7 (some .int) ∈ GW := List.mem_filter.mpr ⟨List.mem_append_right _ (List.mem_of_getElem? (i := 953) (by decide +kernel)), by decide +kernel⟩
theorem gw_952 : Cond.instanceMethod yX6_mayPut ∈ GW := List.mem_filter.mpr ⟨List.mem_append_right _ (List.mem_of_getElem? (i := 952) (by decide +kernel)), by decide +kernel⟩
theorem gwp_40 : Cond.selects RX6 yX6_mayPut yX6_mayPut ∈ GW := List.mem_filter.mpr ⟨List.mem_append_left _ (List.mem_of_getElem? (i := 40) (by decide +kernel)), by decide +kernel⟩
theorem gw_959 : Cond.code yX6_puts cX6_puts 5 (some .int) ∈ GW := List.mem_filter.mpr ⟨List.mem_append_right _ (List.mem_of_getElem? (i := 959) (by decide +kernel)), by decide +kernel⟩
theorem gw_958 : Cond.static yX6_puts ∈ GW := List.mem_filter.mpr ⟨List.mem_append_right _ (List.mem_of_getElem? (i := 958) (by decide +kernel)), by decide +kernel⟩
theorem gw_950 : Cond.methodLink RX6 187 yX6_mayPut ∈ GW := List.mem_filter.mpr ⟨List.mem_append_right _ (List.mem_of_getElem? (i := 950) (by decide +kernel)), by decide +kernel⟩
theorem gw_957 : Cond.methodLink RX6 191 yX6_puts ∈ GW := List.mem_filter.mpr ⟨List.mem_append_right _ (List.mem_of_getElem? (i := 957) (by decide +kernel)), by decide +kernel⟩
theorem gw_949 : Cond.code yX6_put cX6_put 6 (some .int) ∈ GW := List.mem_filter.mpr ⟨List.mem_append_right _ (List.mem_of_getElem? (i := 949) (by decide +kernel)), by decide +kernel⟩
theorem gw_947 : Cond.instanceMethod yX6_put ∈ GW := List.mem_filter.mpr ⟨List.mem_append_right _ (List.mem_of_getElem? (i := 947) (by decide +kernel)), by decide +kernel⟩
theorem gw_948 : Cond.selects RX6 yX6_put yX6_put ∈ GW := List.mem_filter.mpr ⟨List.mem_append_right _ (List.mem_of_getElem? (i := 948) (by decide +kernel)), by decide +kernel⟩
theorem gw_967 : Cond.code yX6_canSpan cX6_canSpan 7 (some .boolean) ∈ GW := List.mem_filter.mpr ⟨List.mem_append_right _ (List.mem_of_getElem? (i := 967) (by decide +kernel)), by decide +kernel⟩
theorem gw_966 : Cond.instanceMethod yX6_canSpan ∈ GW := List.mem_filter.mpr ⟨List.mem_append_right _ (List.mem_of_getElem? (i := 966) (by decide +kernel)), by decide +kernel⟩
theorem gwp_41 : Cond.selects RX6 yX6_canSpan yX6_canSpan ∈ GW := List.mem_filter.mpr ⟨List.mem_append_left _ (List.mem_of_getElem? (i := 41) (by decide +kernel)), by decide +kernel⟩
theorem gw_964 : Cond.methodLink RX6 195 yX6_canSpan ∈ GW := List.mem_filter.mpr ⟨List.mem_append_right _ (List.mem_of_getElem? (i := 964) (by decide +kernel)), by decide +kernel⟩
theorem gw_963 : Cond.code yX6_span cX6_span 10 (some .int) ∈ GW := List.mem_filter.mpr ⟨List.mem_append_right _ (List.mem_of_getElem? (i := 963) (by decide +kernel)), by decide +kernel⟩
theorem gw_961 : Cond.instanceMethod yX6_span ∈ GW := List.mem_filter.mpr ⟨List.mem_append_right _ (List.mem_of_getElem? (i := 961) (by decide +kernel)), by decide +kernel⟩
theorem gw_962 : Cond.selects RX6 yX6_span yX6_span ∈ GW := List.mem_filter.mpr ⟨List.mem_append_right _ (List.mem_of_getElem? (i := 962) (by decide +kernel)), by decide +kernel⟩
theorem gw_971 : Cond.code yX6_rule cX6_rule 8 (some .int) ∈ GW := List.mem_filter.mpr ⟨List.mem_append_right _ (List.mem_of_getElem? (i := 971) (by decide +kernel)), by decide +kernel⟩
theorem gw_969 : Cond.instanceMethod yX6_rule ∈ GW := List.mem_filter.mpr ⟨List.mem_append_right _ (List.mem_of_getElem? (i := 969) (by decide +kernel)), by decide +kernel⟩
theorem gw_970 : Cond.selects RX6 yX6_rule yX6_rule ∈ GW := List.mem_filter.mpr ⟨List.mem_append_right _ (List.mem_of_getElem? (i := 970) (by decide +kernel)), by decide +kernel⟩
theorem gw_975 : Cond.code yX6_set cX6_set 3 (some .int) ∈ GW := List.mem_filter.mpr ⟨List.mem_append_right _ (List.mem_of_getElem? (i := 975) (by decide +kernel)), by decide +kernel⟩
theorem gw_973 : Cond.instanceMethod yX6_set ∈ GW := List.mem_filter.mpr ⟨List.mem_append_right _ (List.mem_of_getElem? (i := 973) (by decide +kernel)), by decide +kernel⟩
theorem gw_974 : Cond.selects RX6 yX6_set yX6_set ∈ GW := List.mem_filter.mpr ⟨List.mem_append_right _ (List.mem_of_getElem? (i := 974) (by decide +kernel)), by decide +kernel⟩
theorem gw_832 : Cond.fieldLink RX6 198 "NestedSumsModel" "typed" "I" ∈ GW := List.mem_filter.mpr ⟨List.mem_append_right _ (List.mem_of_getElem? (i := 832) (by decide +kernel)), by decide +kernel⟩
theorem fl_X6_198 : FL RX6 198 6 5 := ⟨RX6, TX6, 24, rfl, by decide, inGW_6, Or.inl gw_832⟩
theorem gw_831 : Cond.fieldLink RX6 19 "NestedSumsModel" "text" "[I" ∈ GW := List.mem_filter.mpr ⟨List.mem_append_right _ (List.mem_of_getElem? (i := 831) (by decide +kernel)), by decide +kernel⟩
theorem fl_X6_19 : FL RX6 19 6 4 := ⟨RX6, TX6, 24, rfl, by decide, inGW_6, Or.inl gw_831⟩
theorem fw_X6_198 : FW RX6 198 6 5 .int := ⟨RX6, TX6, 24, tyX6, rfl, by decide, inGW_6, Or.inl gw_832, tyX6_ok, nmX6, rfl, tyX6_ok 5 (by decide)⟩
theorem gw_979 : Cond.code yX6_append cX6_append 2 (some .int) ∈ GW := List.mem_filter.mpr ⟨List.mem_append_right _ (List.mem_of_getElem? (i := 979) (by decide +kernel)), by decide +kernel⟩
theorem gw_977 : Cond.instanceMethod yX6_append ∈ GW := List.mem_filter.mpr ⟨List.mem_append_right _ (List.mem_of_getElem? (i := 977) (by decide +kernel)), by decide +kernel⟩
theorem gw_978 : Cond.selects RX6 yX6_append yX6_append ∈ GW := List.mem_filter.mpr ⟨List.mem_append_right _ (List.mem_of_getElem? (i := 978) (by decide +kernel)), by decide +kernel⟩
theorem gw_983 : Cond.code yX6_clearBuffer cX6_clearBuffer 2 (some .int) ∈ GW := List.mem_filter.mpr ⟨List.mem_append_right _ (List.mem_of_getElem? (i := 983) (by decide +kernel)), by decide +kernel⟩
theorem gw_981 : Cond.instanceMethod yX6_clearBuffer ∈ GW := List.mem_filter.mpr ⟨List.mem_append_right _ (List.mem_of_getElem? (i := 981) (by decide +kernel)), by decide +kernel⟩
theorem gw_982 : Cond.selects RX6 yX6_clearBuffer yX6_clearBuffer ∈ GW := List.mem_filter.mpr ⟨List.mem_append_right _ (List.mem_of_getElem? (i := 982) (by decide +kernel)), by decide +kernel⟩
theorem gw_834 : Cond.fieldLink RX6 201 "NestedSumsModel" "at" "I" ∈ GW := List.mem_filter.mpr ⟨List.mem_append_right _ (List.mem_of_getElem? (i := 834) (by decide +kernel)), by decide +kernel⟩
theorem fl_X6_201 : FL RX6 201 6 7 := ⟨RX6, TX6, 24, rfl, by decide, inGW_6, Or.inl gw_834⟩
theorem gw_1003 : Cond.code yX6_isAt cX6_isAt 3 (some .boolean) ∈ GW := List.mem_filter.mpr ⟨List.mem_append_right _ (List.mem_of_getElem? (i := 1003) (by decide +kernel)), by decide +kernel⟩
theorem gw_1002 : Cond.instanceMethod yX6_isAt ∈ GW := List.mem_filter.mpr ⟨List.mem_append_right _ (List.mem_of_getElem? (i := 1002) (by decide +kernel)), by decide +kernel⟩
theorem gwp_45 : Cond.selects RX6 yX6_isAt yX6_isAt ∈ GW := List.mem_filter.mpr ⟨List.mem_append_left _ (List.mem_of_getElem? (i := 45) (by decide +kernel)), by decide +kernel⟩
theorem gw_835 : Cond.fieldLink RX6 204 "NestedSumsModel" "isFault" "Z" ∈ GW := List.mem_filter.mpr ⟨List.mem_append_right _ (List.mem_of_getElem? (i := 835) (by decide +kernel)), by decide +kernel⟩
theorem fw_X6_204 : FW RX6 204 6 8 .boolean := ⟨RX6, TX6, 24, tyX6, rfl, by decide, inGW_6, Or.inl gw_835, tyX6_ok, nmX6, rfl, tyX6_ok 8 (by decide)⟩
theorem gw_1007 : Cond.code yX6_stops cX6_stops 1 (some .boolean) ∈ GW := List.mem_filter.mpr ⟨List.mem_append_right _ (List.mem_of_getElem? (i := 1007) (by decide +kernel)), by decide +kernel⟩
theorem gw_1006 : Cond.instanceMethod yX6_stops ∈ GW := List.mem_filter.mpr ⟨List.mem_append_right _ (List.mem_of_getElem? (i := 1006) (by decide +kernel)), by decide +kernel⟩
theorem gwp_46 : Cond.selects RX6 yX6_stops yX6_stops ∈ GW := List.mem_filter.mpr ⟨List.mem_append_left _ (List.mem_of_getElem? (i := 46) (by decide +kernel)), by decide +kernel⟩
theorem gw_1000 : Cond.methodLink RX6 207 yX6_isAt ∈ GW := List.mem_filter.mpr ⟨List.mem_append_right _ (List.mem_of_getElem? (i := 1000) (by decide +kernel)), by decide +kernel⟩
theorem gw_837 : Cond.fieldLink RX6 22 "NestedSumsModel" "told" "[I" ∈ GW := List.mem_filter.mpr ⟨List.mem_append_right _ (List.mem_of_getElem? (i := 837) (by decide +kernel)), by decide +kernel⟩
theorem fl_X6_22 : FL RX6 22 6 10 := ⟨RX6, TX6, 24, rfl, by decide, inGW_6, Or.inl gw_837⟩
theorem gw_838 : Cond.fieldLink RX6 214 "NestedSumsModel" "tolds" "I" ∈ GW := List.mem_filter.mpr ⟨List.mem_append_right _ (List.mem_of_getElem? (i := 838) (by decide +kernel)), by decide +kernel⟩
theorem fl_X6_214 : FL RX6 214 6 11 := ⟨RX6, TX6, 24, rfl, by decide, inGW_6, Or.inl gw_838⟩
theorem fw_X6_201 : FW RX6 201 6 7 .int := ⟨RX6, TX6, 24, tyX6, rfl, by decide, inGW_6, Or.inl gw_834, tyX6_ok, nmX6, rfl, tyX6_ok 7 (by decide)⟩
theorem gw_1004 : Cond.methodLink RX6 210 yX6_stops ∈ GW := List.mem_filter.mpr ⟨List.mem_append_right _ (List.mem_of_getElem? (i := 1004) (by decide +kernel)), by decide +kernel⟩
theorem gw_999 : Cond.code yX6_isFigure cX6_isFigure 4 (some .boolean) ∈ GW := List.mem_filter.mpr ⟨List.mem_append_right _ (List.mem_of_getElem? (i := 999) (by decide +kernel)), by decide +kernel⟩
theorem gw_998 : Cond.instanceMethod yX6_isFigure ∈ GW := List.mem_filter.mpr ⟨List.mem_append_right _ (List.mem_of_getElem? (i := 998) (by decide +kernel)), by decide +kernel⟩
theorem gwp_44 : Cond.selects RX6 yX6_isFigure yX6_isFigure ∈ GW := List.mem_filter.mpr ⟨List.mem_append_left _ (List.mem_of_getElem? (i := 44) (by decide +kernel)), by decide +kernel⟩
theorem gw_836 : Cond.fieldLink RX6 217 "NestedSumsModel" "value" "I" ∈ GW := List.mem_filter.mpr ⟨List.mem_append_right _ (List.mem_of_getElem? (i := 836) (by decide +kernel)), by decide +kernel⟩
theorem fw_X6_217 : FW RX6 217 6 9 .int := ⟨RX6, TX6, 24, tyX6, rfl, by decide, inGW_6, Or.inl gw_836, tyX6_ok, nmX6, rfl, tyX6_ok 9 (by decide)⟩
theorem fl_X6_217 : FL RX6 217 6 9 := ⟨RX6, TX6, 24, rfl, by decide, inGW_6, Or.inl gw_836⟩
theorem gw_1011 : Cond.code yX6_isNumber cX6_isNumber 3 (some .boolean) ∈ GW := List.mem_filter.mpr ⟨List.mem_append_right _ (List.mem_of_getElem? (i := 1011) (by decide +kernel)), by decide +kernel⟩
theorem gw_1010 : Cond.instanceMethod yX6_isNumber ∈ GW := List.mem_filter.mpr ⟨List.mem_append_right _ (List.mem_of_getElem? (i := 1010) (by decide +kernel)), by decide +kernel⟩
theorem gwp_47 : Cond.selects RX6 yX6_isNumber yX6_isNumber ∈ GW := List.mem_filter.mpr ⟨List.mem_append_left _ (List.mem_of_getElem? (i := 47) (by decide +kernel)), by decide +kernel⟩
theorem gw_996 : Cond.methodLink RX6 220 yX6_isFigure ∈ GW := List.mem_filter.mpr ⟨List.mem_append_right _ (List.mem_of_getElem? (i := 996) (by decide +kernel)), by decide +kernel⟩
theorem gw_1008 : Cond.methodLink RX6 223 yX6_isNumber ∈ GW := List.mem_filter.mpr ⟨List.mem_append_right _ (List.mem_of_getElem? (i := 1008) (by decide +kernel)), by decide +kernel⟩
theorem gw_995 : Cond.code yX6_isOrder cX6_isOrder 4 (some .boolean) ∈ GW := List.mem_filter.mpr ⟨List.mem_append_right _ (List.mem_of_getElem? (i := 995) (by decide +kernel)), by decide +kernel⟩
theorem gw_994 : Cond.instanceMethod yX6_isOrder ∈ GW := List.mem_filter.mpr ⟨List.mem_append_right _ (List.mem_of_getElem? (i := 994) (by decide +kernel)), by decide +kernel⟩
theorem gwp_43 : Cond.selects RX6 yX6_isOrder yX6_isOrder ∈ GW := List.mem_filter.mpr ⟨List.mem_append_left _ (List.mem_of_getElem? (i := 43) (by decide +kernel)), by decide +kernel⟩
theorem fw_X6_214 : FW RX6 214 6 11 .int := ⟨RX6, TX6, 24, tyX6, rfl, by decide, inGW_6, Or.inl gw_838, tyX6_ok, nmX6, rfl, tyX6_ok 11 (by decide)⟩
theorem gw_992 : Cond.methodLink RX6 226 yX6_isOrder ∈ GW := List.mem_filter.mpr ⟨List.mem_append_right _ (List.mem_of_getElem? (i := 992) (by decide +kernel)), by decide +kernel⟩
theorem gw_991 : Cond.code yX6_isText cX6_isText 2 (some .boolean) ∈ GW := List.mem_filter.mpr ⟨List.mem_append_right _ (List.mem_of_getElem? (i := 991) (by decide +kernel)), by decide +kernel⟩
theorem gw_990 : Cond.instanceMethod yX6_isText ∈ GW := List.mem_filter.mpr ⟨List.mem_append_right _ (List.mem_of_getElem? (i := 990) (by decide +kernel)), by decide +kernel⟩
theorem gwp_42 : Cond.selects RX6 yX6_isText yX6_isText ∈ GW := List.mem_filter.mpr ⟨List.mem_append_left _ (List.mem_of_getElem? (i := 42) (by decide +kernel)), by decide +kernel⟩
theorem gw_988 : Cond.methodLink RX6 229 yX6_isText ∈ GW := List.mem_filter.mpr ⟨List.mem_append_right _ (List.mem_of_getElem? (i := 988) (by decide +kernel)), by decide +kernel⟩
theorem fl_X6_204 : FL RX6 204 6 8 := ⟨RX6, TX6, 24, rfl, by decide, inGW_6, Or.inl gw_835⟩
theorem gw_987 : Cond.code yX6_firstError cX6_firstError 2 (some .int) ∈ GW := List.mem_filter.mpr ⟨List.mem_append_right _ (List.mem_of_getElem? (i := 987) (by decide +kernel)), by decide +kernel⟩
theorem gw_985 : Cond.instanceMethod yX6_firstError ∈ GW := List.mem_filter.mpr ⟨List.mem_append_right _ (List.mem_of_getElem? (i := 985) (by decide +kernel)), by decide +kernel⟩
theorem gw_986 : Cond.selects RX6 yX6_firstError yX6_firstError ∈ GW := List.mem_filter.mpr ⟨List.mem_append_right _ (List.mem_of_getElem? (i := 986) (by decide +kernel)), by decide +kernel⟩
theorem gw_1019 : Cond.code yX6_does cX6_does 6 (some .boolean) ∈ GW := List.mem_filter.mpr ⟨List.mem_append_right _ (List.mem_of_getElem? (i := 1019) (by decide +kernel)), by decide +kernel⟩
theorem gw_1018 : Cond.instanceMethod yX6_does ∈ GW := List.mem_filter.mpr ⟨List.mem_append_right _ (List.mem_of_getElem? (i := 1018) (by decide +kernel)), by decide +kernel⟩
theorem gwp_48 : Cond.selects RX6 yX6_does yX6_does ∈ GW := List.mem_filter.mpr ⟨List.mem_append_left _ (List.mem_of_getElem? (i := 48) (by decide +kernel)), by decide +kernel⟩
theorem gw_1016 : Cond.methodLink RX6 232 yX6_does ∈ GW := List.mem_filter.mpr ⟨List.mem_append_right _ (List.mem_of_getElem? (i := 1016) (by decide +kernel)), by decide +kernel⟩
theorem gw_1015 : Cond.code yX6_run cX6_run 2 (some .int) ∈ GW := List.mem_filter.mpr ⟨List.mem_append_right _ (List.mem_of_getElem? (i := 1015) (by decide +kernel)), by decide +kernel⟩
theorem gw_1013 : Cond.instanceMethod yX6_run ∈ GW := List.mem_filter.mpr ⟨List.mem_append_right _ (List.mem_of_getElem? (i := 1013) (by decide +kernel)), by decide +kernel⟩
theorem gw_1014 : Cond.selects RX6 yX6_run yX6_run ∈ GW := List.mem_filter.mpr ⟨List.mem_append_right _ (List.mem_of_getElem? (i := 1014) (by decide +kernel)), by decide +kernel⟩
theorem gw_1103 : Cond.code yX6_ofCell cX6_ofCell 3 (some .int) ∈ GW := List.mem_filter.mpr ⟨List.mem_append_right _ (List.mem_of_getElem? (i := 1103) (by decide +kernel)), by decide +kernel⟩
theorem gw_1102 : Cond.instanceMethod yX6_ofCell ∈ GW := List.mem_filter.mpr ⟨List.mem_append_right _ (List.mem_of_getElem? (i := 1102) (by decide +kernel)), by decide +kernel⟩
theorem gwp_62 : Cond.selects RX6 yX6_ofCell yX6_ofCell ∈ GW := List.mem_filter.mpr ⟨List.mem_append_left _ (List.mem_of_getElem? (i := 62) (by decide +kernel)), by decide +kernel⟩
theorem gw_1024 : Cond.methodLink RX6 236 yX6_laysNow ∈ GW := List.mem_filter.mpr ⟨List.mem_append_right _ (List.mem_of_getElem? (i := 1024) (by decide +kernel)), by decide +kernel⟩
theorem gw_1100 : Cond.methodLink RX6 239 yX6_ofCell ∈ GW := List.mem_filter.mpr ⟨List.mem_append_right _ (List.mem_of_getElem? (i := 1100) (by decide +kernel)), by decide +kernel⟩
theorem gw_1023 : Cond.code yX6_cell cX6_cell 5 (some .int) ∈ GW := List.mem_filter.mpr ⟨List.mem_append_right _ (List.mem_of_getElem? (i := 1023) (by decide +kernel)), by decide +kernel⟩
theorem gw_1021 : Cond.instanceMethod yX6_cell ∈ GW := List.mem_filter.mpr ⟨List.mem_append_right _ (List.mem_of_getElem? (i := 1021) (by decide +kernel)), by decide +kernel⟩
theorem gw_1022 : Cond.selects RX6 yX6_cell yX6_cell ∈ GW := List.mem_filter.mpr ⟨List.mem_append_right _ (List.mem_of_getElem? (i := 1022) (by decide +kernel)), by decide +kernel⟩
theorem gw_1107 : Cond.code yX6_edge cX6_edge 5 (some .int) ∈ GW := List.mem_filter.mpr ⟨List.mem_append_right _ (List.mem_of_getElem? (i := 1107) (by decide +kernel)), by decide +kernel⟩
theorem gw_1105 : Cond.instanceMethod yX6_edge ∈ GW := List.mem_filter.mpr ⟨List.mem_append_right _ (List.mem_of_getElem? (i := 1105) (by decide +kernel)), by decide +kernel⟩
theorem gw_1106 : Cond.selects RX6 yX6_edge yX6_edge ∈ GW := List.mem_filter.mpr ⟨List.mem_append_right _ (List.mem_of_getElem? (i := 1106) (by decide +kernel)), by decide +kernel⟩
theorem gw_1118 : Cond.code yX6_around cX6_around 4 (some .int) ∈ GW := List.mem_filter.mpr ⟨List.mem_append_right _ (List.mem_of_getElem? (i := 1118) (by decide +kernel)), by decide +kernel⟩
theorem gw_1117 : Cond.static yX6_around ∈ GW := List.mem_filter.mpr ⟨List.mem_append_right _ (List.mem_of_getElem? (i := 1117) (by decide +kernel)), by decide +kernel⟩
theorem gw_1116 : Cond.methodLink RX6 242 yX6_around ∈ GW := List.mem_filter.mpr ⟨List.mem_append_right _ (List.mem_of_getElem? (i := 1116) (by decide +kernel)), by decide +kernel⟩
theorem gw_1115 : Cond.code yX6_ofTable cX6_ofTable 3 (some .int) ∈ GW := List.mem_filter.mpr ⟨List.mem_append_right _ (List.mem_of_getElem? (i := 1115) (by decide +kernel)), by decide +kernel⟩
theorem gw_1114 : Cond.instanceMethod yX6_ofTable ∈ GW := List.mem_filter.mpr ⟨List.mem_append_right _ (List.mem_of_getElem? (i := 1114) (by decide +kernel)), by decide +kernel⟩
theorem gwp_63 : Cond.selects RX6 yX6_ofTable yX6_ofTable ∈ GW := List.mem_filter.mpr ⟨List.mem_append_left _ (List.mem_of_getElem? (i := 63) (by decide +kernel)), by decide +kernel⟩
theorem gw_1112 : Cond.methodLink RX6 245 yX6_ofTable ∈ GW := List.mem_filter.mpr ⟨List.mem_append_right _ (List.mem_of_getElem? (i := 1112) (by decide +kernel)), by decide +kernel⟩
theorem gw_1111 : Cond.code yX6_table cX6_table 3 (some .int) ∈ GW := List.mem_filter.mpr ⟨List.mem_append_right _ (List.mem_of_getElem? (i := 1111) (by decide +kernel)), by decide +kernel⟩
theorem gw_1109 : Cond.instanceMethod yX6_table ∈ GW := List.mem_filter.mpr ⟨List.mem_append_right _ (List.mem_of_getElem? (i := 1109) (by decide +kernel)), by decide +kernel⟩
theorem gw_1110 : Cond.selects RX6 yX6_table yX6_table ∈ GW := List.mem_filter.mpr ⟨List.mem_append_right _ (List.mem_of_getElem? (i := 1110) (by decide +kernel)), by decide +kernel⟩
theorem gw_1122 : Cond.code yX6_size cX6_size 4 (some .int) ∈ GW := List.mem_filter.mpr ⟨List.mem_append_right _ (List.mem_of_getElem? (i := 1122) (by decide +kernel)), by decide +kernel⟩
theorem gw_1120 : Cond.instanceMethod yX6_size ∈ GW := List.mem_filter.mpr ⟨List.mem_append_right _ (List.mem_of_getElem? (i := 1120) (by decide +kernel)), by decide +kernel⟩
theorem gw_1121 : Cond.selects RX6 yX6_size yX6_size ∈ GW := List.mem_filter.mpr ⟨List.mem_append_right _ (List.mem_of_getElem? (i := 1121) (by decide +kernel)), by decide +kernel⟩
theorem gw_1127 : Cond.methodLink RX6 248 yX6_laysPages ∈ GW := List.mem_filter.mpr ⟨List.mem_append_right _ (List.mem_of_getElem? (i := 1127) (by decide +kernel)), by decide +kernel⟩
theorem gw_1126 : Cond.code yX6_page cX6_page 2 (some .int) ∈ GW := List.mem_filter.mpr ⟨List.mem_append_right _ (List.mem_of_getElem? (i := 1126) (by decide +kernel)), by decide +kernel⟩
theorem gw_1124 : Cond.instanceMethod yX6_page ∈ GW := List.mem_filter.mpr ⟨List.mem_append_right _ (List.mem_of_getElem? (i := 1124) (by decide +kernel)), by decide +kernel⟩
theorem gw_1125 : Cond.selects RX6 yX6_page yX6_page ∈ GW := List.mem_filter.mpr ⟨List.mem_append_right _ (List.mem_of_getElem? (i := 1125) (by decide +kernel)), by decide +kernel⟩
theorem gw_1145 : Cond.code yX6_cells cX6_cells 4 (some .int) ∈ GW := List.mem_filter.mpr ⟨List.mem_append_right _ (List.mem_of_getElem? (i := 1145) (by decide +kernel)), by decide +kernel⟩
theorem gw_1144 : Cond.instanceMethod yX6_cells ∈ GW := List.mem_filter.mpr ⟨List.mem_append_right _ (List.mem_of_getElem? (i := 1144) (by decide +kernel)), by decide +kernel⟩
theorem gwp_66 : Cond.selects RX6 yX6_cells yX6_cells ∈ GW := List.mem_filter.mpr ⟨List.mem_append_left _ (List.mem_of_getElem? (i := 66) (by decide +kernel)), by decide +kernel⟩
theorem gw_1153 : Cond.code yX6_squares cX6_squares 3 (some .int) ∈ GW := List.mem_filter.mpr ⟨List.mem_append_right _ (List.mem_of_getElem? (i := 1153) (by decide +kernel)), by decide +kernel⟩
theorem gw_1152 : Cond.instanceMethod yX6_squares ∈ GW := List.mem_filter.mpr ⟨List.mem_append_right _ (List.mem_of_getElem? (i := 1152) (by decide +kernel)), by decide +kernel⟩
theorem gwp_68 : Cond.selects RX6 yX6_squares yX6_squares ∈ GW := List.mem_filter.mpr ⟨List.mem_append_left _ (List.mem_of_getElem? (i := 68) (by decide +kernel)), by decide +kernel⟩
theorem gw_1149 : Cond.code yX6_edges cX6_edges 5 (some .int) ∈ GW := List.mem_filter.mpr ⟨List.mem_append_right _ (List.mem_of_getElem? (i := 1149) (by decide +kernel)), by decide +kernel⟩
theorem gw_1148 : Cond.instanceMethod yX6_edges ∈ GW := List.mem_filter.mpr ⟨List.mem_append_right _ (List.mem_of_getElem? (i := 1148) (by decide +kernel)), by decide +kernel⟩
theorem gwp_67 : Cond.selects RX6 yX6_edges yX6_edges ∈ GW := List.mem_filter.mpr ⟨List.mem_append_left _ (List.mem_of_getElem? (i := 67) (by decide +kernel)), by decide +kernel⟩
theorem gw_1150 : Cond.methodLink RX6 258 yX6_squares ∈ GW := List.mem_filter.mpr ⟨List.mem_append_right _ (List.mem_of_getElem? (i := 1150) (by decide +kernel)), by decide +kernel⟩
theorem gw_1142 : Cond.methodLink RX6 251 yX6_cells ∈ GW := List.mem_filter.mpr ⟨List.mem_append_right _ (List.mem_of_getElem? (i := 1142) (by decide +kernel)), by decide +kernel⟩
theorem gw_1146 : Cond.methodLink RX6 254 yX6_edges ∈ GW := List.mem_filter.mpr ⟨List.mem_append_right _ (List.mem_of_getElem? (i := 1146) (by decide +kernel)), by decide +kernel⟩
theorem gw_1141 : Cond.code yX6_counted cX6_counted 2 (some .int) ∈ GW := List.mem_filter.mpr ⟨List.mem_append_right _ (List.mem_of_getElem? (i := 1141) (by decide +kernel)), by decide +kernel⟩
theorem gw_1140 : Cond.instanceMethod yX6_counted ∈ GW := List.mem_filter.mpr ⟨List.mem_append_right _ (List.mem_of_getElem? (i := 1140) (by decide +kernel)), by decide +kernel⟩
theorem gwp_65 : Cond.selects RX6 yX6_counted yX6_counted ∈ GW := List.mem_filter.mpr ⟨List.mem_append_left _ (List.mem_of_getElem? (i := 65) (by decide +kernel)), by decide +kernel⟩
theorem gw_1138 : Cond.methodLink RX6 261 yX6_counted ∈ GW := List.mem_filter.mpr ⟨List.mem_append_right _ (List.mem_of_getElem? (i := 1138) (by decide +kernel)), by decide +kernel⟩
theorem gw_1137 : Cond.code yX6_count cX6_count 2 (some .int) ∈ GW := List.mem_filter.mpr ⟨List.mem_append_right _ (List.mem_of_getElem? (i := 1137) (by decide +kernel)), by decide +kernel⟩
theorem gw_1135 : Cond.instanceMethod yX6_count ∈ GW := List.mem_filter.mpr ⟨List.mem_append_right _ (List.mem_of_getElem? (i := 1135) (by decide +kernel)), by decide +kernel⟩
theorem gw_1136 : Cond.selects RX6 yX6_count yX6_count ∈ GW := List.mem_filter.mpr ⟨List.mem_append_right _ (List.mem_of_getElem? (i := 1136) (by decide +kernel)), by decide +kernel⟩
theorem gw_846 : Cond.fieldLink RX6 43 "NestedSumsModel" "had" "[I" ∈ GW := List.mem_filter.mpr ⟨List.mem_append_right _ (List.mem_of_getElem? (i := 846) (by decide +kernel)), by decide +kernel⟩
theorem fl_X6_43 : FL RX6 43 6 19 := ⟨RX6, TX6, 24, rfl, by decide, inGW_6, Or.inl gw_846⟩
theorem gw_828 : Cond.fieldLink RX6 13 "NestedSumsModel" "then" "[I" ∈ GW := List.mem_filter.mpr ⟨List.mem_append_right _ (List.mem_of_getElem? (i := 828) (by decide +kernel)), by decide +kernel⟩
theorem fl_X6_13 : FL RX6 13 6 1 := ⟨RX6, TX6, 24, rfl, by decide, inGW_6, Or.inl gw_828⟩
theorem gw_1161 : Cond.code yX6_byPutting cX6_byPutting 6 (some .int) ∈ GW := List.mem_filter.mpr ⟨List.mem_append_right _ (List.mem_of_getElem? (i := 1161) (by decide +kernel)), by decide +kernel⟩
theorem gw_1160 : Cond.instanceMethod yX6_byPutting ∈ GW := List.mem_filter.mpr ⟨List.mem_append_right _ (List.mem_of_getElem? (i := 1160) (by decide +kernel)), by decide +kernel⟩
theorem gwp_69 : Cond.selects RX6 yX6_byPutting yX6_byPutting ∈ GW := List.mem_filter.mpr ⟨List.mem_append_left _ (List.mem_of_getElem? (i := 69) (by decide +kernel)), by decide +kernel⟩
theorem gw_1158 : Cond.methodLink RX6 264 yX6_byPutting ∈ GW := List.mem_filter.mpr ⟨List.mem_append_right _ (List.mem_of_getElem? (i := 1158) (by decide +kernel)), by decide +kernel⟩
theorem gw_1157 : Cond.code yX6_ifPut cX6_ifPut 6 (some .int) ∈ GW := List.mem_filter.mpr ⟨List.mem_append_right _ (List.mem_of_getElem? (i := 1157) (by decide +kernel)), by decide +kernel⟩
theorem gw_1155 : Cond.instanceMethod yX6_ifPut ∈ GW := List.mem_filter.mpr ⟨List.mem_append_right _ (List.mem_of_getElem? (i := 1155) (by decide +kernel)), by decide +kernel⟩
theorem gw_1156 : Cond.selects RX6 yX6_ifPut yX6_ifPut ∈ GW := List.mem_filter.mpr ⟨List.mem_append_right _ (List.mem_of_getElem? (i := 1156) (by decide +kernel)), by decide +kernel⟩
theorem gw_1169 : Cond.code yX6_counters cX6_counters 7 (some .int) ∈ GW := List.mem_filter.mpr ⟨List.mem_append_right _ (List.mem_of_getElem? (i := 1169) (by decide +kernel)), by decide +kernel⟩
theorem gw_1168 : Cond.instanceMethod yX6_counters ∈ GW := List.mem_filter.mpr ⟨List.mem_append_right _ (List.mem_of_getElem? (i := 1168) (by decide +kernel)), by decide +kernel⟩
theorem gwp_70 : Cond.selects RX6 yX6_counters yX6_counters ∈ GW := List.mem_filter.mpr ⟨List.mem_append_left _ (List.mem_of_getElem? (i := 70) (by decide +kernel)), by decide +kernel⟩
theorem gw_1166 : Cond.methodLink RX6 267 yX6_counters ∈ GW := List.mem_filter.mpr ⟨List.mem_append_right _ (List.mem_of_getElem? (i := 1166) (by decide +kernel)), by decide +kernel⟩
theorem gw_1165 : Cond.code yX6_countedBy cX6_countedBy 4 (some .int) ∈ GW := List.mem_filter.mpr ⟨List.mem_append_right _ (List.mem_of_getElem? (i := 1165) (by decide +kernel)), by decide +kernel⟩
theorem gw_1163 : Cond.instanceMethod yX6_countedBy ∈ GW := List.mem_filter.mpr ⟨List.mem_append_right _ (List.mem_of_getElem? (i := 1163) (by decide +kernel)), by decide +kernel⟩
theorem gw_1164 : Cond.selects RX6 yX6_countedBy yX6_countedBy ∈ GW := List.mem_filter.mpr ⟨List.mem_append_right _ (List.mem_of_getElem? (i := 1164) (by decide +kernel)), by decide +kernel⟩
theorem gw_1177 : Cond.code yX6_leastFor cX6_leastFor 3 (some .int) ∈ GW := List.mem_filter.mpr ⟨List.mem_append_right _ (List.mem_of_getElem? (i := 1177) (by decide +kernel)), by decide +kernel⟩
theorem gw_1176 : Cond.instanceMethod yX6_leastFor ∈ GW := List.mem_filter.mpr ⟨List.mem_append_right _ (List.mem_of_getElem? (i := 1176) (by decide +kernel)), by decide +kernel⟩
theorem gwp_71 : Cond.selects RX6 yX6_leastFor yX6_leastFor ∈ GW := List.mem_filter.mpr ⟨List.mem_append_left _ (List.mem_of_getElem? (i := 71) (by decide +kernel)), by decide +kernel⟩
theorem gw_1174 : Cond.methodLink RX6 270 yX6_leastFor ∈ GW := List.mem_filter.mpr ⟨List.mem_append_right _ (List.mem_of_getElem? (i := 1174) (by decide +kernel)), by decide +kernel⟩
theorem gw_1173 : Cond.code yX6_heightFor cX6_heightFor 2 (some .int) ∈ GW := List.mem_filter.mpr ⟨List.mem_append_right _ (List.mem_of_getElem? (i := 1173) (by decide +kernel)), by decide +kernel⟩
theorem gw_1171 : Cond.instanceMethod yX6_heightFor ∈ GW := List.mem_filter.mpr ⟨List.mem_append_right _ (List.mem_of_getElem? (i := 1171) (by decide +kernel)), by decide +kernel⟩
theorem gw_1172 : Cond.selects RX6 yX6_heightFor yX6_heightFor ∈ GW := List.mem_filter.mpr ⟨List.mem_append_right _ (List.mem_of_getElem? (i := 1172) (by decide +kernel)), by decide +kernel⟩
theorem gw_1185 : Cond.code yX6_share cX6_share 2 (some .double) ∈ GW := List.mem_filter.mpr ⟨List.mem_append_right _ (List.mem_of_getElem? (i := 1185) (by decide +kernel)), by decide +kernel⟩
theorem gw_1184 : Cond.instanceMethod yX6_share ∈ GW := List.mem_filter.mpr ⟨List.mem_append_right _ (List.mem_of_getElem? (i := 1184) (by decide +kernel)), by decide +kernel⟩
theorem gwp_72 : Cond.selects RX6 yX6_share yX6_share ∈ GW := List.mem_filter.mpr ⟨List.mem_append_left _ (List.mem_of_getElem? (i := 72) (by decide +kernel)), by decide +kernel⟩
theorem gw_1182 : Cond.methodLink RX6 273 yX6_share ∈ GW := List.mem_filter.mpr ⟨List.mem_append_right _ (List.mem_of_getElem? (i := 1182) (by decide +kernel)), by decide +kernel⟩
theorem gw_1181 : Cond.code yX6_filledShare cX6_filledShare 1 (some .double) ∈ GW := List.mem_filter.mpr ⟨List.mem_append_right _ (List.mem_of_getElem? (i := 1181) (by decide +kernel)), by decide +kernel⟩
theorem gw_1179 : Cond.instanceMethod yX6_filledShare ∈ GW := List.mem_filter.mpr ⟨List.mem_append_right _ (List.mem_of_getElem? (i := 1179) (by decide +kernel)), by decide +kernel⟩
theorem gw_1180 : Cond.selects RX6 yX6_filledShare yX6_filledShare ∈ GW := List.mem_filter.mpr ⟨List.mem_append_right _ (List.mem_of_getElem? (i := 1180) (by decide +kernel)), by decide +kernel⟩
theorem gw_1197 : Cond.code yJxe99ae_isNaN_b9ae7 cJxe99ae_isNaN_b9ae7 2 (some .boolean) ∈ GW := List.mem_filter.mpr ⟨List.mem_append_right _ (List.mem_of_getElem? (i := 1197) (by decide +kernel)), by decide +kernel⟩
theorem gw_18 : Cond.initialized RJxe99ae ∈ GW := List.mem_filter.mpr ⟨List.mem_append_right _ (List.mem_of_getElem? (i := 18) (by decide +kernel)), by decide +kernel⟩
theorem gw_1196 : Cond.static yJxe99ae_isNaN_b9ae7 ∈ GW := List.mem_filter.mpr ⟨List.mem_append_right _ (List.mem_of_getElem? (i := 1196) (by decide +kernel)), by decide +kernel⟩
theorem gw_1195 : Cond.methodLink RJxe99ae 122 yJxe99ae_isNaN_b9ae7 ∈ GW := List.mem_filter.mpr ⟨List.mem_append_right _ (List.mem_of_getElem? (i := 1195) (by decide +kernel)), by decide +kernel⟩
theorem gw_1201 : Cond.constantLong RJxe99ae 137 (9221120237041090560) ∈ GW := List.mem_filter.mpr ⟨List.mem_append_right _ (List.mem_of_getElem? (i := 1201) (by decide +kernel)), by decide +kernel⟩
theorem gw_1198 : Cond.methodLink RJxe99ae 134 ⟨"java/lang/Double", "doubleToRawLongBits", "(D)J"⟩ ∈ GW := List.mem_filter.mpr ⟨List.mem_append_right _ (List.mem_of_getElem? (i := 1198) (by decide +kernel)), by decide +kernel⟩
theorem gw_1200 : Cond.native ⟨"java/lang/Double", "doubleToRawLongBits", "(D)J"⟩ ∈ GW := List.mem_filter.mpr ⟨List.mem_append_right _ (List.mem_of_getElem? (i := 1200) (by decide +kernel)), by decide +kernel⟩
theorem gw_1199 : Cond.static ⟨"java/lang/Double", "doubleToRawLongBits", "(D)J"⟩ ∈ GW := List.mem_filter.mpr ⟨List.mem_append_right _ (List.mem_of_getElem? (i := 1199) (by decide +kernel)), by decide +kernel⟩
theorem gw_1194 : Cond.code yJxe99ae_doubleToLongBits_ccdee cJxe99ae_doubleToLongBits_ccdee 2 (some .long) ∈ GW := List.mem_filter.mpr ⟨List.mem_append_right _ (List.mem_of_getElem? (i := 1194) (by decide +kernel)), by decide +kernel⟩
theorem gw_1193 : Cond.static yJxe99ae_doubleToLongBits_ccdee ∈ GW := List.mem_filter.mpr ⟨List.mem_append_right _ (List.mem_of_getElem? (i := 1193) (by decide +kernel)), by decide +kernel⟩
theorem gw_1190 : Cond.constantLong RX6 277 (2887) ∈ GW := List.mem_filter.mpr ⟨List.mem_append_right _ (List.mem_of_getElem? (i := 1190) (by decide +kernel)), by decide +kernel⟩
theorem gw_1191 : Cond.constantLong RX6 279 (31) ∈ GW := List.mem_filter.mpr ⟨List.mem_append_right _ (List.mem_of_getElem? (i := 1191) (by decide +kernel)), by decide +kernel⟩
theorem gw_1192 : Cond.methodLink RX6 281 yJxe99ae_doubleToLongBits_ccdee ∈ GW := List.mem_filter.mpr ⟨List.mem_append_right _ (List.mem_of_getElem? (i := 1192) (by decide +kernel)), by decide +kernel⟩
theorem gw_1189 : Cond.code yX6_digest cX6_digest 7 (some .long) ∈ GW := List.mem_filter.mpr ⟨List.mem_append_right _ (List.mem_of_getElem? (i := 1189) (by decide +kernel)), by decide +kernel⟩
theorem gw_1187 : Cond.instanceMethod yX6_digest ∈ GW := List.mem_filter.mpr ⟨List.mem_append_right _ (List.mem_of_getElem? (i := 1187) (by decide +kernel)), by decide +kernel⟩
theorem gw_1188 : Cond.selects RX6 yX6_digest yX6_digest ∈ GW := List.mem_filter.mpr ⟨List.mem_append_right _ (List.mem_of_getElem? (i := 1188) (by decide +kernel)), by decide +kernel⟩
theorem k_X2_store : Cal yX2_store cX2_store 3 none 2 ∧ Cond.instanceMethod yX2_store ∈ GW ∧ Cond.selects yX2_store.cls yX2_store yX2_store ∈ GW ∧ 3 ≤ 25 := ⟨⟨gw_185, gw_4, ⟨by decide, by decide⟩, by decide +kernel, by decide +kernel⟩, gw_183, gw_184, by decide⟩
theorem k_X4_squaresEnd : Cal yX4_squaresEnd cX4_squaresEnd 1 (some .int) 0 ∧ Cond.instanceMethod yX4_squaresEnd ∈ GW ∧ Cond.selects yX4_squaresEnd.cls yX4_squaresEnd yX4_squaresEnd ∈ GW ∧ 1 ≤ 25 := ⟨⟨gw_189, gw_3, ⟨by decide, by decide⟩, by decide +kernel, by decide +kernel⟩, gw_187, gw_188, by decide⟩
theorem k_X4_makeEmpty : Cal yX4_makeEmpty cX4_makeEmpty 3 none 1 ∧ Cond.instanceMethod yX4_makeEmpty ∈ GW ∧ Cond.selects yX4_makeEmpty.cls yX4_makeEmpty yX4_makeEmpty ∈ GW ∧ 3 ≤ 25 := ⟨⟨gw_193, gw_3, ⟨by decide, by decide⟩, by decide +kernel, by decide +kernel⟩, gw_192, gwp_1, by decide⟩
theorem k_X5_placeOf : Cal yX5_placeOf cX5_placeOf 2 (some .int) 2 ∧ Cond.static yX5_placeOf ∈ GW ∧ 2 ≤ 25 := ⟨⟨gw_196, gw_1, ⟨by decide, by decide⟩, by decide +kernel, by decide +kernel⟩, gw_195, by decide⟩
theorem k_X4_layOut : Cal yX4_layOut cX4_layOut 6 none 3 ∧ Cond.instanceMethod yX4_layOut ∈ GW ∧ Cond.selects yX4_layOut.cls yX4_layOut yX4_layOut ∈ GW ∧ 6 ≤ 25 := ⟨⟨gw_181, gw_3, ⟨by decide, by decide⟩, by decide +kernel, by decide +kernel⟩, gw_180, gwp_0, by decide⟩
theorem k_X4_startAnew : Cal yX4_startAnew cX4_startAnew 3 none 2 ∧ Cond.instanceMethod yX4_startAnew ∈ GW ∧ Cond.selects yX4_startAnew.cls yX4_startAnew yX4_startAnew ∈ GW ∧ 3 ≤ 25 := ⟨⟨gw_177, gw_3, ⟨by decide, by decide⟩, by decide +kernel, by decide +kernel⟩, gw_175, gw_176, by decide⟩
theorem k_J7_fill_53178 : Cal yJ7_fill_53178 cJ7_fill_53178 4 none 2 ∧ Cond.static yJ7_fill_53178 ∈ GW ∧ 4 ≤ 25 := ⟨⟨gw_207, gw_8, ⟨by decide, by decide⟩, by decide +kernel, by decide +kernel⟩, gw_206, by decide⟩
theorem k_X2_clear : Cal yX2_clear cX2_clear 1 none 0 ∧ Cond.instanceMethod yX2_clear ∈ GW ∧ Cond.selects yX2_clear.cls yX2_clear yX2_clear ∈ GW ∧ 1 ≤ 25 := ⟨⟨gw_204, gw_4, ⟨by decide, by decide⟩, by decide +kernel, by decide +kernel⟩, gw_202, gw_203, by decide⟩
theorem k_X1_squaresEndOf : Cal yX1_squaresEndOf cX1_squaresEndOf 1 (some .int) 1 ∧ Cond.static yX1_squaresEndOf ∈ GW ∧ 1 ≤ 25 := ⟨⟨gw_214, gw_2, ⟨by decide, by decide⟩, by decide +kernel, by decide +kernel⟩, gw_213, by decide⟩
theorem k_X2_at : Cal yX2_at cX2_at 2 (some .int) 1 ∧ Cond.instanceMethod yX2_at ∈ GW ∧ Cond.selects yX2_at.cls yX2_at yX2_at ∈ GW ∧ 2 ≤ 25 := ⟨⟨gw_222, gw_4, ⟨by decide, by decide⟩, by decide +kernel, by decide +kernel⟩, gw_220, gw_221, by decide⟩
theorem k_X4_isCell : Cal yX4_isCell cX4_isCell 2 (some .boolean) 1 ∧ Cond.instanceMethod yX4_isCell ∈ GW ∧ Cond.selects yX4_isCell.cls yX4_isCell yX4_isCell ∈ GW ∧ 2 ≤ 25 := ⟨⟨gw_218, gw_3, ⟨by decide, by decide⟩, by decide +kernel, by decide +kernel⟩, gw_216, gw_217, by decide⟩
theorem k_X1_valueOf : Cal yX1_valueOf cX1_valueOf 2 (some .int) 1 ∧ Cond.instanceMethod yX1_valueOf ∈ GW ∧ Cond.selects yX1_valueOf.cls yX1_valueOf yX1_valueOf ∈ GW ∧ 2 ≤ 25 := ⟨⟨gw_226, gw_2, ⟨by decide, by decide⟩, by decide +kernel, by decide +kernel⟩, gw_225, gwp_3, by decide⟩
theorem k_X1_valueCells : Cal yX1_valueCells cX1_valueCells 5 none 1 ∧ Cond.instanceMethod yX1_valueCells ∈ GW ∧ Cond.selects yX1_valueCells.cls yX1_valueCells yX1_valueCells ∈ GW ∧ 5 ≤ 25 := ⟨⟨gw_211, gw_2, ⟨by decide, by decide⟩, by decide +kernel, by decide +kernel⟩, gw_210, gwp_2, by decide⟩
theorem k_X5_isSum : Cal yX5_isSum cX5_isSum 1 (some .boolean) 1 ∧ Cond.static yX5_isSum ∈ GW ∧ 1 ≤ 25 := ⟨⟨gw_235, gw_1, ⟨by decide, by decide⟩, by decide +kernel, by decide +kernel⟩, gw_234, by decide⟩
theorem k_X5_tableOf : Cal yX5_tableOf cX5_tableOf 1 (some .int) 1 ∧ Cond.static yX5_tableOf ∈ GW ∧ 1 ≤ 25 := ⟨⟨gw_242, gw_1, ⟨by decide, by decide⟩, by decide +kernel, by decide +kernel⟩, gw_241, by decide⟩
theorem k_X1_isCounted : Cal yX1_isCounted cX1_isCounted 9 (some .boolean) 2 ∧ Cond.instanceMethod yX1_isCounted ∈ GW ∧ Cond.selects yX1_isCounted.cls yX1_isCounted yX1_isCounted ∈ GW ∧ 9 ≤ 25 := ⟨⟨gw_246, gw_2, ⟨by decide, by decide⟩, by decide +kernel, by decide +kernel⟩, gw_245, gwp_6, by decide⟩
theorem k_X1_startSum : Cal yX1_startSum cX1_startSum 6 none 1 ∧ Cond.instanceMethod yX1_startSum ∈ GW ∧ Cond.selects yX1_startSum.cls yX1_startSum yX1_startSum ∈ GW ∧ 6 ≤ 25 := ⟨⟨gw_239, gw_2, ⟨by decide, by decide⟩, by decide +kernel, by decide +kernel⟩, gw_238, gwp_5, by decide⟩
theorem k_X1_sumOf : Cal yX1_sumOf cX1_sumOf 5 (some .int) 1 ∧ Cond.instanceMethod yX1_sumOf ∈ GW ∧ Cond.selects yX1_sumOf.cls yX1_sumOf yX1_sumOf ∈ GW ∧ 5 ≤ 25 := ⟨⟨gw_252, gw_2, ⟨by decide, by decide⟩, by decide +kernel, by decide +kernel⟩, gw_251, gwp_7, by decide⟩
theorem k_X1_showNumbers : Cal yX1_showNumbers cX1_showNumbers 4 none 1 ∧ Cond.instanceMethod yX1_showNumbers ∈ GW ∧ Cond.selects yX1_showNumbers.cls yX1_showNumbers yX1_showNumbers ∈ GW ∧ 4 ≤ 25 := ⟨⟨gw_232, gw_2, ⟨by decide, by decide⟩, by decide +kernel, by decide +kernel⟩, gw_231, gwp_4, by decide⟩
theorem k_X4_tableWithin : Cal yX4_tableWithin cX4_tableWithin 2 (some .int) 1 ∧ Cond.instanceMethod yX4_tableWithin ∈ GW ∧ Cond.selects yX4_tableWithin.cls yX4_tableWithin yX4_tableWithin ∈ GW ∧ 2 ≤ 25 := ⟨⟨gw_260, gw_3, ⟨by decide, by decide⟩, by decide +kernel, by decide +kernel⟩, gw_258, gw_259, by decide⟩
theorem k_X4_linesOf : Cal yX4_linesOf cX4_linesOf 3 (some .int) 2 ∧ Cond.instanceMethod yX4_linesOf ∈ GW ∧ Cond.selects yX4_linesOf.cls yX4_linesOf yX4_linesOf ∈ GW ∧ 3 ≤ 25 := ⟨⟨gw_268, gw_3, ⟨by decide, by decide⟩, by decide +kernel, by decide +kernel⟩, gw_266, gw_267, by decide⟩
theorem k_X1_greatestRule : Cal yX1_greatestRule cX1_greatestRule 7 (some .int) 4 ∧ Cond.instanceMethod yX1_greatestRule ∈ GW ∧ Cond.selects yX1_greatestRule.cls yX1_greatestRule yX1_greatestRule ∈ GW ∧ 7 ≤ 25 := ⟨⟨gw_272, gw_2, ⟨by decide, by decide⟩, by decide +kernel, by decide +kernel⟩, gw_271, gwp_10, by decide⟩
theorem k_X1_borderRule : Cal yX1_borderRule cX1_borderRule 5 (some .int) 2 ∧ Cond.instanceMethod yX1_borderRule ∈ GW ∧ Cond.selects yX1_borderRule.cls yX1_borderRule yX1_borderRule ∈ GW ∧ 5 ≤ 25 := ⟨⟨gw_264, gw_2, ⟨by decide, by decide⟩, by decide +kernel, by decide +kernel⟩, gw_263, gwp_9, by decide⟩
theorem k_X1_ruleCells : Cal yX1_ruleCells cX1_ruleCells 7 none 1 ∧ Cond.instanceMethod yX1_ruleCells ∈ GW ∧ Cond.selects yX1_ruleCells.cls yX1_ruleCells yX1_ruleCells ∈ GW ∧ 7 ≤ 25 := ⟨⟨gw_256, gw_2, ⟨by decide, by decide⟩, by decide +kernel, by decide +kernel⟩, gw_255, gwp_8, by decide⟩
theorem k_X5_isBetween : Cal yX5_isBetween cX5_isBetween 3 (some .boolean) 3 ∧ Cond.static yX5_isBetween ∈ GW ∧ 3 ≤ 25 := ⟨⟨gw_287, gw_1, ⟨by decide, by decide⟩, by decide +kernel, by decide +kernel⟩, gw_286, by decide⟩
theorem k_X4_ownerBeside : Cal yX4_ownerBeside cX4_ownerBeside 7 (some .int) 2 ∧ Cond.instanceMethod yX4_ownerBeside ∈ GW ∧ Cond.selects yX4_ownerBeside.cls yX4_ownerBeside yX4_ownerBeside ∈ GW ∧ 7 ≤ 25 := ⟨⟨gw_284, gw_3, ⟨by decide, by decide⟩, by decide +kernel, by decide +kernel⟩, gw_282, gw_283, by decide⟩
theorem k_X1_edgeRule : Cal yX1_edgeRule cX1_edgeRule 7 (some .int) 2 ∧ Cond.instanceMethod yX1_edgeRule ∈ GW ∧ Cond.selects yX1_edgeRule.cls yX1_edgeRule yX1_edgeRule ∈ GW ∧ 7 ≤ 25 := ⟨⟨gw_280, gw_2, ⟨by decide, by decide⟩, by decide +kernel, by decide +kernel⟩, gw_279, gwp_12, by decide⟩
theorem k_X1_ruleEdges : Cal yX1_ruleEdges cX1_ruleEdges 4 none 1 ∧ Cond.instanceMethod yX1_ruleEdges ∈ GW ∧ Cond.selects yX1_ruleEdges.cls yX1_ruleEdges yX1_ruleEdges ∈ GW ∧ 4 ≤ 25 := ⟨⟨gw_276, gw_2, ⟨by decide, by decide⟩, by decide +kernel, by decide +kernel⟩, gw_275, gwp_11, by decide⟩
theorem k_X5_signsOf : Cal yX5_signsOf cX5_signsOf 4 (some .int) 1 ∧ Cond.static yX5_signsOf ∈ GW ∧ 4 ≤ 25 := ⟨⟨gw_299, gw_1, ⟨by decide, by decide⟩, by decide +kernel, by decide +kernel⟩, gw_298, by decide⟩
theorem k_X1_wantOf : Cal yX1_wantOf cX1_wantOf 4 (some .int) 2 ∧ Cond.instanceMethod yX1_wantOf ∈ GW ∧ Cond.selects yX1_wantOf.cls yX1_wantOf yX1_wantOf ∈ GW ∧ 4 ≤ 25 := ⟨⟨gw_296, gw_2, ⟨by decide, by decide⟩, by decide +kernel, by decide +kernel⟩, gw_295, gwp_14, by decide⟩
theorem k_X1_wantSizes : Cal yX1_wantSizes cX1_wantSizes 4 none 2 ∧ Cond.instanceMethod yX1_wantSizes ∈ GW ∧ Cond.selects yX1_wantSizes.cls yX1_wantSizes yX1_wantSizes ∈ GW ∧ 4 ≤ 25 := ⟨⟨gw_292, gw_2, ⟨by decide, by decide⟩, by decide +kernel, by decide +kernel⟩, gw_291, gwp_13, by decide⟩
theorem k_X4_spanOf : Cal yX4_spanOf cX4_spanOf 3 (some .int) 2 ∧ Cond.instanceMethod yX4_spanOf ∈ GW ∧ Cond.selects yX4_spanOf.cls yX4_spanOf yX4_spanOf ∈ GW ∧ 3 ≤ 25 := ⟨⟨gw_307, gw_3, ⟨by decide, by decide⟩, by decide +kernel, by decide +kernel⟩, gw_305, gw_306, by decide⟩
theorem k_X1_sizePlace : Cal yX1_sizePlace cX1_sizePlace 3 (some .int) 3 ∧ Cond.static yX1_sizePlace ∈ GW ∧ 3 ≤ 25 := ⟨⟨gw_310, gw_2, ⟨by decide, by decide⟩, by decide +kernel, by decide +kernel⟩, gw_309, by decide⟩
theorem k_X1_sizeSingles : Cal yX1_sizeSingles cX1_sizeSingles 5 none 2 ∧ Cond.instanceMethod yX1_sizeSingles ∈ GW ∧ Cond.selects yX1_sizeSingles.cls yX1_sizeSingles yX1_sizeSingles ∈ GW ∧ 5 ≤ 25 := ⟨⟨gw_303, gw_2, ⟨by decide, by decide⟩, by decide +kernel, by decide +kernel⟩, gw_302, gwp_15, by decide⟩
theorem k_X1_sizeOf : Cal yX1_sizeOf cX1_sizeOf 4 (some .int) 3 ∧ Cond.instanceMethod yX1_sizeOf ∈ GW ∧ Cond.selects yX1_sizeOf.cls yX1_sizeOf yX1_sizeOf ∈ GW ∧ 4 ≤ 25 := ⟨⟨gw_322, gw_2, ⟨by decide, by decide⟩, by decide +kernel, by decide +kernel⟩, gw_320, gw_321, by decide⟩
theorem k_X1_sizeTogether : Cal yX1_sizeTogether cX1_sizeTogether 7 (some .int) 4 ∧ Cond.instanceMethod yX1_sizeTogether ∈ GW ∧ Cond.selects yX1_sizeTogether.cls yX1_sizeTogether yX1_sizeTogether ∈ GW ∧ 7 ≤ 25 := ⟨⟨gw_318, gw_2, ⟨by decide, by decide⟩, by decide +kernel, by decide +kernel⟩, gw_317, gwp_17, by decide⟩
theorem k_X1_sizeSpans : Cal yX1_sizeSpans cX1_sizeSpans 8 none 2 ∧ Cond.instanceMethod yX1_sizeSpans ∈ GW ∧ Cond.selects yX1_sizeSpans.cls yX1_sizeSpans yX1_sizeSpans ∈ GW ∧ 8 ≤ 25 := ⟨⟨gw_314, gw_2, ⟨by decide, by decide⟩, by decide +kernel, by decide +kernel⟩, gw_313, gwp_16, by decide⟩
theorem k_X1_sizeTable : Cal yX1_sizeTable cX1_sizeTable 8 none 2 ∧ Cond.instanceMethod yX1_sizeTable ∈ GW ∧ Cond.selects yX1_sizeTable.cls yX1_sizeTable yX1_sizeTable ∈ GW ∧ 8 ≤ 25 := ⟨⟨gw_326, gw_2, ⟨by decide, by decide⟩, by decide +kernel, by decide +kernel⟩, gw_325, gwp_18, by decide⟩
theorem k_X1_measure : Cal yX1_measure cX1_measure 3 none 0 ∧ Cond.instanceMethod yX1_measure ∈ GW ∧ Cond.selects yX1_measure.cls yX1_measure yX1_measure ∈ GW ∧ 3 ≤ 25 := ⟨⟨gw_200, gw_2, ⟨by decide, by decide⟩, by decide +kernel, by decide +kernel⟩, gw_198, gw_199, by decide⟩
theorem k_X5_requireBetween : Cal yX5_requireBetween cX5_requireBetween 3 none 3 ∧ Cond.static yX5_requireBetween ∈ GW ∧ 3 ≤ 25 := ⟨⟨gw_390, gw_1, ⟨by decide, by decide⟩, by decide +kernel, by decide +kernel⟩, gw_389, by decide⟩
theorem k_X5_requireLines : Cal yX5_requireLines cX5_requireLines 2 none 2 ∧ Cond.static yX5_requireLines ∈ GW ∧ 2 ≤ 25 := ⟨⟨gw_594, gw_1, ⟨by decide, by decide⟩, by decide +kernel, by decide +kernel⟩, gw_593, by decide⟩
theorem k_X0_sheetAt : Cal yX0_sheetAt cX0_sheetAt 3 (some (.object "NestedSums$Sheet")) 1 ∧ Cond.instanceMethod yX0_sheetAt ∈ GW ∧ Cond.selects yX0_sheetAt.cls yX0_sheetAt yX0_sheetAt ∈ GW ∧ 3 ≤ 25 := ⟨⟨gw_602, gw_6, ⟨by decide, by decide⟩, by decide +kernel, by decide +kernel⟩, gw_601, gwp_29, by decide⟩
theorem k_X2_copyFrom : Cal yX2_copyFrom cX2_copyFrom 2 none 1 ∧ Cond.instanceMethod yX2_copyFrom ∈ GW ∧ Cond.selects yX2_copyFrom.cls yX2_copyFrom yX2_copyFrom ∈ GW ∧ 2 ≤ 25 := ⟨⟨gw_552, gw_4, ⟨by decide, by decide⟩, by decide +kernel, by decide +kernel⟩, gw_550, gw_551, by decide⟩
theorem k_X4_copyFrom : Cal yX4_copyFrom cX4_copyFrom 2 none 1 ∧ Cond.instanceMethod yX4_copyFrom ∈ GW ∧ Cond.selects yX4_copyFrom.cls yX4_copyFrom yX4_copyFrom ∈ GW ∧ 2 ≤ 25 := ⟨⟨gw_548, gw_3, ⟨by decide, by decide⟩, by decide +kernel, by decide +kernel⟩, gw_546, gw_547, by decide⟩
theorem k_X0_save : Cal yX0_save cX0_save 3 none 1 ∧ Cond.instanceMethod yX0_save ∈ GW ∧ Cond.selects yX0_save.cls yX0_save yX0_save ∈ GW ∧ 3 ≤ 25 := ⟨⟨gw_598, gw_6, ⟨by decide, by decide⟩, by decide +kernel, by decide +kernel⟩, gw_596, gw_597, by decide⟩
theorem k_X5_begin : Cal yX5_begin cX5_begin 3 (some .int) 2 ∧ Cond.instanceMethod yX5_begin ∈ GW ∧ Cond.selects yX5_begin.cls yX5_begin yX5_begin ∈ GW ∧ 3 ≤ 25 := ⟨⟨gw_591, gw_1, ⟨by decide, by decide⟩, by decide +kernel, by decide +kernel⟩, gw_589, gw_590, by decide⟩
theorem k_X4_hasTable : Cal yX4_hasTable cX4_hasTable 2 (some .boolean) 1 ∧ Cond.instanceMethod yX4_hasTable ∈ GW ∧ Cond.selects yX4_hasTable.cls yX4_hasTable yX4_hasTable ∈ GW ∧ 2 ≤ 25 := ⟨⟨gw_500, gw_3, ⟨by decide, by decide⟩, by decide +kernel, by decide +kernel⟩, gw_498, gw_499, by decide⟩
theorem k_X4_squareAt : Cal yX4_squareAt cX4_squareAt 5 (some .int) 3 ∧ Cond.instanceMethod yX4_squareAt ∈ GW ∧ Cond.selects yX4_squareAt.cls yX4_squareAt yX4_squareAt ∈ GW ∧ 5 ≤ 25 := ⟨⟨gw_496, gw_3, ⟨by decide, by decide⟩, by decide +kernel, by decide +kernel⟩, gw_494, gw_495, by decide⟩
theorem k_X5_requireSquare : Cal yX5_requireSquare cX5_requireSquare 5 (some .int) 3 ∧ Cond.instanceMethod yX5_requireSquare ∈ GW ∧ Cond.selects yX5_requireSquare.cls yX5_requireSquare yX5_requireSquare ∈ GW ∧ 5 ≤ 25 := ⟨⟨gw_616, gw_1, ⟨by decide, by decide⟩, by decide +kernel, by decide +kernel⟩, gw_615, gwp_30, by decide⟩
theorem k_X4_addTable : Cal yX4_addTable cX4_addTable 5 (some .int) 3 ∧ Cond.instanceMethod yX4_addTable ∈ GW ∧ Cond.selects yX4_addTable.cls yX4_addTable yX4_addTable ∈ GW ∧ 5 ≤ 25 := ⟨⟨gw_635, gw_3, ⟨by decide, by decide⟩, by decide +kernel, by decide +kernel⟩, gw_633, gw_634, by decide⟩
theorem k_X5_nest : Cal yX5_nest cX5_nest 8 (some .int) 5 ∧ Cond.instanceMethod yX5_nest ∈ GW ∧ Cond.selects yX5_nest.cls yX5_nest yX5_nest ∈ GW ∧ 8 ≤ 25 := ⟨⟨gw_612, gw_1, ⟨by decide, by decide⟩, by decide +kernel, by decide +kernel⟩, gw_610, gw_611, by decide⟩
theorem k_X5_isContent : Cal yX5_isContent cX5_isContent 2 (some .boolean) 2 ∧ Cond.static yX5_isContent ∈ GW ∧ 2 ≤ 25 := ⟨⟨gw_645, gw_1, ⟨by decide, by decide⟩, by decide +kernel, by decide +kernel⟩, gw_644, by decide⟩
theorem k_X4_canFill : Cal yX4_canFill cX4_canFill 2 (some .boolean) 1 ∧ Cond.instanceMethod yX4_canFill ∈ GW ∧ Cond.selects yX4_canFill.cls yX4_canFill yX4_canFill ∈ GW ∧ 2 ≤ 25 := ⟨⟨gw_649, gw_3, ⟨by decide, by decide⟩, by decide +kernel, by decide +kernel⟩, gw_647, gw_648, by decide⟩
theorem k_X4_fill : Cal yX4_fill cX4_fill 5 (some .int) 3 ∧ Cond.instanceMethod yX4_fill ∈ GW ∧ Cond.selects yX4_fill.cls yX4_fill yX4_fill ∈ GW ∧ 5 ≤ 25 := ⟨⟨gw_562, gw_3, ⟨by decide, by decide⟩, by decide +kernel, by decide +kernel⟩, gw_560, gw_561, by decide⟩
theorem k_X5_put : Cal yX5_put cX5_put 8 (some .int) 5 ∧ Cond.instanceMethod yX5_put ∈ GW ∧ Cond.selects yX5_put.cls yX5_put yX5_put ∈ GW ∧ 8 ≤ 25 := ⟨⟨gw_642, gw_1, ⟨by decide, by decide⟩, by decide +kernel, by decide +kernel⟩, gw_640, gw_641, by decide⟩
theorem k_X4_isSingleEmpty : Cal yX4_isSingleEmpty cX4_isSingleEmpty 2 (some .boolean) 1 ∧ Cond.instanceMethod yX4_isSingleEmpty ∈ GW ∧ Cond.selects yX4_isSingleEmpty.cls yX4_isSingleEmpty yX4_isSingleEmpty ∈ GW ∧ 2 ≤ 25 := ⟨⟨gw_664, gw_3, ⟨by decide, by decide⟩, by decide +kernel, by decide +kernel⟩, gw_663, gwp_31, by decide⟩
theorem k_X4_canCover : Cal yX4_canCover cX4_canCover 7 (some .boolean) 3 ∧ Cond.instanceMethod yX4_canCover ∈ GW ∧ Cond.selects yX4_canCover.cls yX4_canCover yX4_canCover ∈ GW ∧ 7 ≤ 25 := ⟨⟨gw_660, gw_3, ⟨by decide, by decide⟩, by decide +kernel, by decide +kernel⟩, gw_658, gw_659, by decide⟩
theorem k_X4_giveSquares : Cal yX4_giveSquares cX4_giveSquares 8 none 4 ∧ Cond.instanceMethod yX4_giveSquares ∈ GW ∧ Cond.selects yX4_giveSquares.cls yX4_giveSquares yX4_giveSquares ∈ GW ∧ 8 ≤ 25 := ⟨⟨gw_673, gw_3, ⟨by decide, by decide⟩, by decide +kernel, by decide +kernel⟩, gw_672, gwp_32, by decide⟩
theorem k_X4_cover : Cal yX4_cover cX4_cover 4 none 3 ∧ Cond.instanceMethod yX4_cover ∈ GW ∧ Cond.selects yX4_cover.cls yX4_cover yX4_cover ∈ GW ∧ 4 ≤ 25 := ⟨⟨gw_669, gw_3, ⟨by decide, by decide⟩, by decide +kernel, by decide +kernel⟩, gw_667, gw_668, by decide⟩
theorem k_X5_span : Cal yX5_span cX5_span 8 (some .int) 5 ∧ Cond.instanceMethod yX5_span ∈ GW ∧ Cond.selects yX5_span.cls yX5_span yX5_span ∈ GW ∧ 8 ≤ 25 := ⟨⟨gw_656, gw_1, ⟨by decide, by decide⟩, by decide +kernel, by decide +kernel⟩, gw_654, gw_655, by decide⟩
theorem k_X5_rule : Cal yX5_rule cX5_rule 9 (some .int) 5 ∧ Cond.instanceMethod yX5_rule ∈ GW ∧ Cond.selects yX5_rule.cls yX5_rule yX5_rule ∈ GW ∧ 9 ≤ 25 := ⟨⟨gw_680, gw_1, ⟨by decide, by decide⟩, by decide +kernel, by decide +kernel⟩, gw_678, gw_679, by decide⟩
theorem k_X5_set : Cal yX5_set cX5_set 3 (some .int) 1 ∧ Cond.instanceMethod yX5_set ∈ GW ∧ Cond.selects yX5_set.cls yX5_set yX5_set ∈ GW ∧ 3 ≤ 25 := ⟨⟨gw_688, gw_1, ⟨by decide, by decide⟩, by decide +kernel, by decide +kernel⟩, gw_686, gw_687, by decide⟩
theorem k_X3_add : Cal yX3_add cX3_add 2 none 1 ∧ Cond.instanceMethod yX3_add ∈ GW ∧ Cond.selects yX3_add.cls yX3_add yX3_add ∈ GW ∧ 2 ≤ 25 := ⟨⟨gw_699, gw_7, ⟨by decide, by decide⟩, by decide +kernel, by decide +kernel⟩, gw_697, gw_698, by decide⟩
theorem k_X5_append : Cal yX5_append cX5_append 2 (some .int) 1 ∧ Cond.instanceMethod yX5_append ∈ GW ∧ Cond.selects yX5_append.cls yX5_append yX5_append ∈ GW ∧ 2 ≤ 25 := ⟨⟨gw_695, gw_1, ⟨by decide, by decide⟩, by decide +kernel, by decide +kernel⟩, gw_693, gw_694, by decide⟩
theorem k_X5_clearBuffer : Cal yX5_clearBuffer cX5_clearBuffer 2 (some .int) 0 ∧ Cond.instanceMethod yX5_clearBuffer ∈ GW ∧ Cond.selects yX5_clearBuffer.cls yX5_clearBuffer yX5_clearBuffer ∈ GW ∧ 2 ≤ 25 := ⟨⟨gw_346, gw_1, ⟨by decide, by decide⟩, by decide +kernel, by decide +kernel⟩, gw_344, gw_345, by decide⟩
theorem k_X3_afterContent : Cal yX3_afterContent cX3_afterContent 1 (some .int) 1 ∧ Cond.static yX3_afterContent ∈ GW ∧ 1 ≤ 25 := ⟨⟨gw_362, gw_7, ⟨by decide, by decide⟩, by decide +kernel, by decide +kernel⟩, gw_361, by decide⟩
theorem k_X3_afterFirstDigit : Cal yX3_afterFirstDigit cX3_afterFirstDigit 1 (some .int) 1 ∧ Cond.static yX3_afterFirstDigit ∈ GW ∧ 1 ≤ 25 := ⟨⟨gw_365, gw_7, ⟨by decide, by decide⟩, by decide +kernel, by decide +kernel⟩, gw_364, by decide⟩
theorem k_X3_expectedAfter : Cal yX3_expectedAfter cX3_expectedAfter 2 (some .int) 2 ∧ Cond.static yX3_expectedAfter ∈ GW ∧ 2 ≤ 25 := ⟨⟨gw_358, gw_7, ⟨by decide, by decide⟩, by decide +kernel, by decide +kernel⟩, gw_357, by decide⟩
theorem k_X3_firstFault : Cal yX3_firstFault cX3_firstFault 3 (some .int) 0 ∧ Cond.instanceMethod yX3_firstFault ∈ GW ∧ Cond.selects yX3_firstFault.cls yX3_firstFault yX3_firstFault ∈ GW ∧ 3 ≤ 25 := ⟨⟨gw_354, gw_7, ⟨by decide, by decide⟩, by decide +kernel, by decide +kernel⟩, gw_352, gw_353, by decide⟩
theorem k_X5_firstError : Cal yX5_firstError cX5_firstError 1 (some .int) 0 ∧ Cond.instanceMethod yX5_firstError ∈ GW ∧ Cond.selects yX5_firstError.cls yX5_firstError yX5_firstError ∈ GW ∧ 1 ≤ 25 := ⟨⟨gw_350, gw_1, ⟨by decide, by decide⟩, by decide +kernel, by decide +kernel⟩, gw_348, gw_349, by decide⟩
theorem k_X3_isOrders : Cal yX3_isOrders cX3_isOrders 3 (some .boolean) 0 ∧ Cond.instanceMethod yX3_isOrders ∈ GW ∧ Cond.selects yX3_isOrders.cls yX3_isOrders yX3_isOrders ∈ GW ∧ 3 ≤ 25 := ⟨⟨gw_711, gw_7, ⟨by decide, by decide⟩, by decide +kernel, by decide +kernel⟩, gw_709, gw_710, by decide⟩
theorem k_X3_isOrderEnd : Cal yX3_isOrderEnd cX3_isOrderEnd 2 (some .boolean) 1 ∧ Cond.instanceMethod yX3_isOrderEnd ∈ GW ∧ Cond.selects yX3_isOrderEnd.cls yX3_isOrderEnd yX3_isOrderEnd ∈ GW ∧ 2 ≤ 25 := ⟨⟨gw_715, gw_7, ⟨by decide, by decide⟩, by decide +kernel, by decide +kernel⟩, gw_713, gw_714, by decide⟩
theorem k_X3_tableAt : Cal yX3_tableAt cX3_tableAt 2 (some .int) 1 ∧ Cond.instanceMethod yX3_tableAt ∈ GW ∧ Cond.selects yX3_tableAt.cls yX3_tableAt yX3_tableAt ∈ GW ∧ 2 ≤ 25 := ⟨⟨gw_723, gw_7, ⟨by decide, by decide⟩, by decide +kernel, by decide +kernel⟩, gw_721, gw_722, by decide⟩
theorem k_X3_rowAt : Cal yX3_rowAt cX3_rowAt 2 (some .int) 1 ∧ Cond.instanceMethod yX3_rowAt ∈ GW ∧ Cond.selects yX3_rowAt.cls yX3_rowAt yX3_rowAt ∈ GW ∧ 2 ≤ 25 := ⟨⟨gw_727, gw_7, ⟨by decide, by decide⟩, by decide +kernel, by decide +kernel⟩, gw_725, gw_726, by decide⟩
theorem k_X3_columnAt : Cal yX3_columnAt cX3_columnAt 2 (some .int) 1 ∧ Cond.instanceMethod yX3_columnAt ∈ GW ∧ Cond.selects yX3_columnAt.cls yX3_columnAt yX3_columnAt ∈ GW ∧ 2 ≤ 25 := ⟨⟨gw_731, gw_7, ⟨by decide, by decide⟩, by decide +kernel, by decide +kernel⟩, gw_729, gw_730, by decide⟩
theorem k_X3_kindAt : Cal yX3_kindAt cX3_kindAt 2 (some .int) 1 ∧ Cond.instanceMethod yX3_kindAt ∈ GW ∧ Cond.selects yX3_kindAt.cls yX3_kindAt yX3_kindAt ∈ GW ∧ 2 ≤ 25 := ⟨⟨gw_735, gw_7, ⟨by decide, by decide⟩, by decide +kernel, by decide +kernel⟩, gw_733, gw_734, by decide⟩
theorem k_X3_numberAt : Cal yX3_numberAt cX3_numberAt 5 (some .int) 2 ∧ Cond.instanceMethod yX3_numberAt ∈ GW ∧ Cond.selects yX3_numberAt.cls yX3_numberAt yX3_numberAt ∈ GW ∧ 5 ≤ 25 := ⟨⟨gw_739, gw_7, ⟨by decide, by decide⟩, by decide +kernel, by decide +kernel⟩, gw_737, gw_738, by decide⟩
theorem k_X5_fillByOrder : Cal yX5_fillByOrder cX5_fillByOrder 6 (some .boolean) 2 ∧ Cond.instanceMethod yX5_fillByOrder ∈ GW ∧ Cond.selects yX5_fillByOrder.cls yX5_fillByOrder yX5_fillByOrder ∈ GW ∧ 6 ≤ 25 := ⟨⟨gw_719, gw_1, ⟨by decide, by decide⟩, by decide +kernel, by decide +kernel⟩, gw_718, gwp_33, by decide⟩
theorem k_X5_run : Cal yX5_run cX5_run 4 (some .int) 0 ∧ Cond.instanceMethod yX5_run ∈ GW ∧ Cond.selects yX5_run.cls yX5_run yX5_run ∈ GW ∧ 4 ≤ 25 := ⟨⟨gw_707, gw_1, ⟨by decide, by decide⟩, by decide +kernel, by decide +kernel⟩, gw_705, gw_706, by decide⟩
theorem k_X0_takeBack : Cal yX0_takeBack cX0_takeBack 3 none 1 ∧ Cond.instanceMethod yX0_takeBack ∈ GW ∧ Cond.selects yX0_takeBack.cls yX0_takeBack yX0_takeBack ∈ GW ∧ 3 ≤ 25 := ⟨⟨gw_750, gw_6, ⟨by decide, by decide⟩, by decide +kernel, by decide +kernel⟩, gw_748, gw_749, by decide⟩
theorem k_X5_undo : Cal yX5_undo cX5_undo 1 (some .int) 0 ∧ Cond.instanceMethod yX5_undo ∈ GW ∧ Cond.selects yX5_undo.cls yX5_undo yX5_undo ∈ GW ∧ 1 ≤ 25 := ⟨⟨gw_746, gw_1, ⟨by decide, by decide⟩, by decide +kernel, by decide +kernel⟩, gw_744, gw_745, by decide⟩
theorem k_X5_cellProperty : Cal yX5_cellProperty cX5_cellProperty 3 (some .int) 2 ∧ Cond.instanceMethod yX5_cellProperty ∈ GW ∧ Cond.selects yX5_cellProperty.cls yX5_cellProperty yX5_cellProperty ∈ GW ∧ 3 ≤ 25 := ⟨⟨gw_508, gw_1, ⟨by decide, by decide⟩, by decide +kernel, by decide +kernel⟩, gw_507, gwp_24, by decide⟩
theorem k_X5_cell : Cal yX5_cell cX5_cell 6 (some .int) 4 ∧ Cond.instanceMethod yX5_cell ∈ GW ∧ Cond.selects yX5_cell.cls yX5_cell yX5_cell ∈ GW ∧ 6 ≤ 25 := ⟨⟨gw_757, gw_1, ⟨by decide, by decide⟩, by decide +kernel, by decide +kernel⟩, gw_755, gw_756, by decide⟩
theorem k_X5_edge : Cal yX5_edge cX5_edge 6 (some .int) 4 ∧ Cond.instanceMethod yX5_edge ∈ GW ∧ Cond.selects yX5_edge.cls yX5_edge yX5_edge ∈ GW ∧ 6 ≤ 25 := ⟨⟨gw_764, gw_1, ⟨by decide, by decide⟩, by decide +kernel, by decide +kernel⟩, gw_762, gw_763, by decide⟩
theorem k_X5_requireTable : Cal yX5_requireTable cX5_requireTable 2 none 1 ∧ Cond.instanceMethod yX5_requireTable ∈ GW ∧ Cond.selects yX5_requireTable.cls yX5_requireTable yX5_requireTable ∈ GW ∧ 2 ≤ 25 := ⟨⟨gw_775, gw_1, ⟨by decide, by decide⟩, by decide +kernel, by decide +kernel⟩, gw_774, gwp_34, by decide⟩
theorem k_X5_tableProperty : Cal yX5_tableProperty cX5_tableProperty 3 (some .int) 2 ∧ Cond.instanceMethod yX5_tableProperty ∈ GW ∧ Cond.selects yX5_tableProperty.cls yX5_tableProperty yX5_tableProperty ∈ GW ∧ 3 ≤ 25 := ⟨⟨gw_488, gw_1, ⟨by decide, by decide⟩, by decide +kernel, by decide +kernel⟩, gw_487, gwp_22, by decide⟩
theorem k_X5_table : Cal yX5_table cX5_table 3 (some .int) 2 ∧ Cond.instanceMethod yX5_table ∈ GW ∧ Cond.selects yX5_table.cls yX5_table yX5_table ∈ GW ∧ 3 ≤ 25 := ⟨⟨gw_771, gw_1, ⟨by decide, by decide⟩, by decide +kernel, by decide +kernel⟩, gw_769, gw_770, by decide⟩
theorem k_X5_size : Cal yX5_size cX5_size 5 (some .int) 3 ∧ Cond.instanceMethod yX5_size ∈ GW ∧ Cond.selects yX5_size.cls yX5_size yX5_size ∈ GW ∧ 5 ≤ 25 := ⟨⟨gw_783, gw_1, ⟨by decide, by decide⟩, by decide +kernel, by decide +kernel⟩, gw_781, gw_782, by decide⟩
theorem k_X1_isJoined : Cal yX1_isJoined cX1_isJoined 4 (some .boolean) 1 ∧ Cond.instanceMethod yX1_isJoined ∈ GW ∧ Cond.selects yX1_isJoined.cls yX1_isJoined yX1_isJoined ∈ GW ∧ 4 ≤ 25 := ⟨⟨gw_466, gw_2, ⟨by decide, by decide⟩, by decide +kernel, by decide +kernel⟩, gw_465, gwp_20, by decide⟩
theorem k_X1_pageOf : Cal yX1_pageOf cX1_pageOf 8 (some .int) 2 ∧ Cond.instanceMethod yX1_pageOf ∈ GW ∧ Cond.selects yX1_pageOf.cls yX1_pageOf yX1_pageOf ∈ GW ∧ 8 ≤ 25 := ⟨⟨gw_462, gw_2, ⟨by decide, by decide⟩, by decide +kernel, by decide +kernel⟩, gw_460, gw_461, by decide⟩
theorem k_X5_page : Cal yX5_page cX5_page 2 (some .int) 1 ∧ Cond.instanceMethod yX5_page ∈ GW ∧ Cond.selects yX5_page.cls yX5_page yX5_page ∈ GW ∧ 2 ≤ 25 := ⟨⟨gw_524, gw_1, ⟨by decide, by decide⟩, by decide +kernel, by decide +kernel⟩, gw_522, gw_523, by decide⟩
theorem k_X4_countCells : Cal yX4_countCells cX4_countCells 3 (some .int) 0 ∧ Cond.instanceMethod yX4_countCells ∈ GW ∧ Cond.selects yX4_countCells.cls yX4_countCells yX4_countCells ∈ GW ∧ 3 ≤ 25 := ⟨⟨gw_373, gw_3, ⟨by decide, by decide⟩, by decide +kernel, by decide +kernel⟩, gw_371, gw_372, by decide⟩
theorem k_X1_countPages : Cal yX1_countPages cX1_countPages 2 (some .int) 1 ∧ Cond.instanceMethod yX1_countPages ∈ GW ∧ Cond.selects yX1_countPages.cls yX1_countPages yX1_countPages ∈ GW ∧ 2 ≤ 25 := ⟨⟨gw_458, gw_2, ⟨by decide, by decide⟩, by decide +kernel, by decide +kernel⟩, gw_456, gw_457, by decide⟩
theorem k_X1_countEdges : Cal yX1_countEdges cX1_countEdges 5 (some .int) 0 ∧ Cond.instanceMethod yX1_countEdges ∈ GW ∧ Cond.selects yX1_countEdges.cls yX1_countEdges yX1_countEdges ∈ GW ∧ 5 ≤ 25 := ⟨⟨gw_470, gw_2, ⟨by decide, by decide⟩, by decide +kernel, by decide +kernel⟩, gw_468, gw_469, by decide⟩
theorem k_X4_countSquares : Cal yX4_countSquares cX4_countSquares 3 (some .int) 0 ∧ Cond.instanceMethod yX4_countSquares ∈ GW ∧ Cond.selects yX4_countSquares.cls yX4_countSquares yX4_countSquares ∈ GW ∧ 3 ≤ 25 := ⟨⟨gw_475, gw_3, ⟨by decide, by decide⟩, by decide +kernel, by decide +kernel⟩, gw_473, gw_474, by decide⟩
theorem k_X4_countKind : Cal yX4_countKind cX4_countKind 4 (some .int) 1 ∧ Cond.instanceMethod yX4_countKind ∈ GW ∧ Cond.selects yX4_countKind.cls yX4_countKind yX4_countKind ∈ GW ∧ 4 ≤ 25 := ⟨⟨gw_378, gw_3, ⟨by decide, by decide⟩, by decide +kernel, by decide +kernel⟩, gw_376, gw_377, by decide⟩
theorem k_X5_count : Cal yX5_count cX5_count 2 (some .int) 1 ∧ Cond.instanceMethod yX5_count ∈ GW ∧ Cond.selects yX5_count.cls yX5_count yX5_count ∈ GW ∧ 2 ≤ 25 := ⟨⟨gw_387, gw_1, ⟨by decide, by decide⟩, by decide +kernel, by decide +kernel⟩, gw_385, gw_386, by decide⟩
theorem k_X5_tryNumber : Cal yX5_tryNumber cX5_tryNumber 3 (some .boolean) 2 ∧ Cond.instanceMethod yX5_tryNumber ∈ GW ∧ Cond.selects yX5_tryNumber.cls yX5_tryNumber yX5_tryNumber ∈ GW ∧ 3 ≤ 25 := ⟨⟨gw_544, gw_1, ⟨by decide, by decide⟩, by decide +kernel, by decide +kernel⟩, gw_543, gwp_26, by decide⟩
theorem k_X5_countChangedSums : Cal yX5_countChangedSums cX5_countChangedSums 5 (some .int) 1 ∧ Cond.instanceMethod yX5_countChangedSums ∈ GW ∧ Cond.selects yX5_countChangedSums.cls yX5_countChangedSums yX5_countChangedSums ∈ GW ∧ 5 ≤ 25 := ⟨⟨gw_570, gw_1, ⟨by decide, by decide⟩, by decide +kernel, by decide +kernel⟩, gw_569, gwp_28, by decide⟩
theorem k_X5_trialAnswer : Cal yX5_trialAnswer cX5_trialAnswer 3 (some .int) 2 ∧ Cond.instanceMethod yX5_trialAnswer ∈ GW ∧ Cond.selects yX5_trialAnswer.cls yX5_trialAnswer yX5_trialAnswer ∈ GW ∧ 3 ≤ 25 := ⟨⟨gw_566, gw_1, ⟨by decide, by decide⟩, by decide +kernel, by decide +kernel⟩, gw_565, gwp_27, by decide⟩
theorem k_X5_ifPut : Cal yX5_ifPut cX5_ifPut 7 (some .int) 5 ∧ Cond.instanceMethod yX5_ifPut ∈ GW ∧ Cond.selects yX5_ifPut.cls yX5_ifPut yX5_ifPut ∈ GW ∧ 7 ≤ 25 := ⟨⟨gw_798, gw_1, ⟨by decide, by decide⟩, by decide +kernel, by decide +kernel⟩, gw_796, gw_797, by decide⟩
theorem k_X1_countSumsOf : Cal yX1_countSumsOf cX1_countSumsOf 5 (some .int) 1 ∧ Cond.instanceMethod yX1_countSumsOf ∈ GW ∧ Cond.selects yX1_countSumsOf.cls yX1_countSumsOf yX1_countSumsOf ∈ GW ∧ 5 ≤ 25 := ⟨⟨gw_520, gw_2, ⟨by decide, by decide⟩, by decide +kernel, by decide +kernel⟩, gw_518, gw_519, by decide⟩
theorem k_X5_countingSums : Cal yX5_countingSums cX5_countingSums 5 (some .int) 1 ∧ Cond.instanceMethod yX5_countingSums ∈ GW ∧ Cond.selects yX5_countingSums.cls yX5_countingSums yX5_countingSums ∈ GW ∧ 5 ≤ 25 := ⟨⟨gw_515, gw_1, ⟨by decide, by decide⟩, by decide +kernel, by decide +kernel⟩, gw_514, gwp_25, by decide⟩
theorem k_X5_countedBy : Cal yX5_countedBy cX5_countedBy 5 (some .int) 3 ∧ Cond.instanceMethod yX5_countedBy ∈ GW ∧ Cond.selects yX5_countedBy.cls yX5_countedBy yX5_countedBy ∈ GW ∧ 5 ≤ 25 := ⟨⟨gw_805, gw_1, ⟨by decide, by decide⟩, by decide +kernel, by decide +kernel⟩, gw_803, gw_804, by decide⟩
theorem k_X5_heightFor : Cal yX5_heightFor cX5_heightFor 3 (some .int) 1 ∧ Cond.instanceMethod yX5_heightFor ∈ GW ∧ Cond.selects yX5_heightFor.cls yX5_heightFor yX5_heightFor ∈ GW ∧ 3 ≤ 25 := ⟨⟨gw_576, gw_1, ⟨by decide, by decide⟩, by decide +kernel, by decide +kernel⟩, gw_574, gw_575, by decide⟩
theorem k_X5_filledShare : Cal yX5_filledShare cX5_filledShare 3 (some .double) 0 ∧ Cond.instanceMethod yX5_filledShare ∈ GW ∧ Cond.selects yX5_filledShare.cls yX5_filledShare yX5_filledShare ∈ GW ∧ 3 ≤ 25 := ⟨⟨gw_369, gw_1, ⟨by decide, by decide⟩, by decide +kernel, by decide +kernel⟩, gw_367, gw_368, by decide⟩
theorem k_X5_mix : Cal yX5_mix cX5_mix 4 (some .long) 2 ∧ Cond.static yX5_mix ∈ GW ∧ 4 ≤ 25 := ⟨⟨gw_479, gw_1, ⟨by decide, by decide⟩, by decide +kernel, by decide +kernel⟩, gw_478, by decide⟩
theorem k_X5_mixSquare : Cal yX5_mixSquare cX5_mixSquare 7 (some .long) 2 ∧ Cond.instanceMethod yX5_mixSquare ∈ GW ∧ Cond.selects yX5_mixSquare.cls yX5_mixSquare yX5_mixSquare ∈ GW ∧ 7 ≤ 25 := ⟨⟨gw_504, gw_1, ⟨by decide, by decide⟩, by decide +kernel, by decide +kernel⟩, gw_503, gwp_23, by decide⟩
theorem k_X5_mixTable : Cal yX5_mixTable cX5_mixTable 8 (some .long) 2 ∧ Cond.instanceMethod yX5_mixTable ∈ GW ∧ Cond.selects yX5_mixTable.cls yX5_mixTable yX5_mixTable ∈ GW ∧ 8 ≤ 25 := ⟨⟨gw_484, gw_1, ⟨by decide, by decide⟩, by decide +kernel, by decide +kernel⟩, gw_483, gwp_21, by decide⟩
theorem k_X5_bitsOf : Cal yX5_bitsOf cX5_bitsOf 7 (some .long) 1 ∧ Cond.static yX5_bitsOf ∈ GW ∧ 7 ≤ 25 := ⟨⟨gw_580, gw_1, ⟨by decide, by decide⟩, by decide +kernel, by decide +kernel⟩, gw_579, by decide⟩
theorem k_X5_digest : Cal yX5_digest cX5_digest 5 (some .long) 0 ∧ Cond.instanceMethod yX5_digest ∈ GW ∧ Cond.selects yX5_digest.cls yX5_digest yX5_digest ∈ GW ∧ 5 ≤ 25 := ⟨⟨gw_382, gw_1, ⟨by decide, by decide⟩, by decide +kernel, by decide +kernel⟩, gw_380, gw_381, by decide⟩
theorem k_X6_empties : Cal yX6_empties cX6_empties 3 none 2 ∧ Cond.static yX6_empties ∈ GW ∧ 3 ≤ 25 := ⟨⟨gw_826, gw_9, ⟨by decide, by decide⟩, by decide +kernel, by decide +kernel⟩, gw_825, by decide⟩
theorem k_X6_comes : Cal yX6_comes cX6_comes 5 (some .int) 2 ∧ Cond.instanceMethod yX6_comes ∈ GW ∧ Cond.selects yX6_comes.cls yX6_comes yX6_comes ∈ GW ∧ 5 ≤ 25 := ⟨⟨gw_823, gw_9, ⟨by decide, by decide⟩, by decide +kernel, by decide +kernel⟩, gw_822, gwp_36, by decide⟩
theorem k_X6_begins : Cal yX6_begins cX6_begins 3 none 2 ∧ Cond.instanceMethod yX6_begins ∈ GW ∧ Cond.selects yX6_begins.cls yX6_begins yX6_begins ∈ GW ∧ 3 ≤ 25 := ⟨⟨gw_819, gw_9, ⟨by decide, by decide⟩, by decide +kernel, by decide +kernel⟩, gw_818, gwp_35, by decide⟩
theorem k_X6_thrown : Cal yX6_thrown cX6_thrown 1 (some .int) 0 ∧ Cond.instanceMethod yX6_thrown ∈ GW ∧ Cond.selects yX6_thrown.cls yX6_thrown yX6_thrown ∈ GW ∧ 1 ≤ 25 := ⟨⟨gw_903, gw_9, ⟨by decide, by decide⟩, by decide +kernel, by decide +kernel⟩, gw_901, gw_902, by decide⟩
theorem k_X6_fails : Cal yX6_fails cX6_fails 2 (some .int) 1 ∧ Cond.instanceMethod yX6_fails ∈ GW ∧ Cond.selects yX6_fails.cls yX6_fails yX6_fails ∈ GW ∧ 2 ≤ 25 := ⟨⟨gw_911, gw_9, ⟨by decide, by decide⟩, by decide +kernel, by decide +kernel⟩, gw_910, gwp_37, by decide⟩
theorem k_X6_in : Cal yX6_in cX6_in 3 (some .boolean) 3 ∧ Cond.static yX6_in ∈ GW ∧ 3 ≤ 25 := ⟨⟨gw_921, gw_9, ⟨by decide, by decide⟩, by decide +kernel, by decide +kernel⟩, gw_920, by decide⟩
theorem k_X6_isTable : Cal yX6_isTable cX6_isTable 2 (some .boolean) 2 ∧ Cond.static yX6_isTable ∈ GW ∧ 2 ≤ 25 := ⟨⟨gw_936, gw_9, ⟨by decide, by decide⟩, by decide +kernel, by decide +kernel⟩, gw_935, by decide⟩
theorem k_X6_isSquare : Cal yX6_isSquare cX6_isSquare 4 (some .boolean) 3 ∧ Cond.instanceMethod yX6_isSquare ∈ GW ∧ Cond.selects yX6_isSquare.cls yX6_isSquare yX6_isSquare ∈ GW ∧ 4 ≤ 25 := ⟨⟨gw_933, gw_9, ⟨by decide, by decide⟩, by decide +kernel, by decide +kernel⟩, gw_932, gwp_39, by decide⟩
theorem k_X6_square : Cal yX6_square cX6_square 3 (some .int) 3 ∧ Cond.static yX6_square ∈ GW ∧ 3 ≤ 25 := ⟨⟨gw_939, gw_9, ⟨by decide, by decide⟩, by decide +kernel, by decide +kernel⟩, gw_938, by decide⟩
theorem k_X6_isOf : Cal yX6_isOf cX6_isOf 2 (some .boolean) 2 ∧ Cond.static yX6_isOf ∈ GW ∧ 2 ≤ 25 := ⟨⟨gw_945, gw_9, ⟨by decide, by decide⟩, by decide +kernel, by decide +kernel⟩, gw_944, by decide⟩
theorem k_X6_isCell : Cal yX6_isCell cX6_isCell 2 (some .boolean) 2 ∧ Cond.static yX6_isCell ∈ GW ∧ 2 ≤ 25 := ⟨⟨gw_942, gw_9, ⟨by decide, by decide⟩, by decide +kernel, by decide +kernel⟩, gw_941, by decide⟩
theorem k_X6_isSum : Cal yX6_isSum cX6_isSum 2 (some .boolean) 2 ∧ Cond.static yX6_isSum ∈ GW ∧ 2 ≤ 25 := ⟨⟨gw_1042, gw_9, ⟨by decide, by decide⟩, by decide +kernel, by decide +kernel⟩, gw_1041, by decide⟩
theorem k_X6_copies : Cal yX6_copies cX6_copies 5 none 4 ∧ Cond.static yX6_copies ∈ GW ∧ 5 ≤ 25 := ⟨⟨gw_914, gw_9, ⟨by decide, by decide⟩, by decide +kernel, by decide +kernel⟩, gw_913, by decide⟩
theorem k_X6_saves : Cal yX6_saves cX6_saves 2 none 0 ∧ Cond.instanceMethod yX6_saves ∈ GW ∧ Cond.selects yX6_saves.cls yX6_saves yX6_saves ∈ GW ∧ 2 ≤ 25 := ⟨⟨gw_925, gw_9, ⟨by decide, by decide⟩, by decide +kernel, by decide +kernel⟩, gw_924, gwp_38, by decide⟩
theorem k_X6_undo : Cal yX6_undo cX6_undo 1 (some .int) 0 ∧ Cond.instanceMethod yX6_undo ∈ GW ∧ Cond.selects yX6_undo.cls yX6_undo yX6_undo ∈ GW ∧ 1 ≤ 25 := ⟨⟨gw_907, gw_9, ⟨by decide, by decide⟩, by decide +kernel, by decide +kernel⟩, gw_905, gw_906, by decide⟩
theorem k_X6_rowOf : Cal yX6_rowOf cX6_rowOf 1 (some .int) 1 ∧ Cond.static yX6_rowOf ∈ GW ∧ 1 ≤ 25 := ⟨⟨gw_1055, gw_9, ⟨by decide, by decide⟩, by decide +kernel, by decide +kernel⟩, gw_1054, by decide⟩
theorem k_X6_meet : Cal yX6_meet cX6_meet 8 (some .boolean) 4 ∧ Cond.static yX6_meet ∈ GW ∧ 8 ≤ 25 := ⟨⟨gw_1052, gw_9, ⟨by decide, by decide⟩, by decide +kernel, by decide +kernel⟩, gw_1051, by decide⟩
theorem k_X6_along : Cal yX6_along cX6_along 2 (some .int) 2 ∧ Cond.static yX6_along ∈ GW ∧ 2 ≤ 25 := ⟨⟨gw_1058, gw_9, ⟨by decide, by decide⟩, by decide +kernel, by decide +kernel⟩, gw_1057, by decide⟩
theorem k_X6_from : Cal yX6_from cX6_from 7 (some .int) 2 ∧ Cond.static yX6_from ∈ GW ∧ 7 ≤ 25 := ⟨⟨gw_1061, gw_9, ⟨by decide, by decide⟩, by decide +kernel, by decide +kernel⟩, gw_1060, by decide⟩
theorem k_X6_counts : Cal yX6_counts cX6_counts 4 (some .boolean) 3 ∧ Cond.static yX6_counts ∈ GW ∧ 4 ≤ 25 := ⟨⟨gw_1049, gw_9, ⟨by decide, by decide⟩, by decide +kernel, by decide +kernel⟩, gw_1048, by decide⟩
theorem k_X6_valueOf : Cal yX6_valueOf cX6_valueOf 3 (some .int) 2 ∧ Cond.instanceMethod yX6_valueOf ∈ GW ∧ Cond.selects yX6_valueOf.cls yX6_valueOf yX6_valueOf ∈ GW ∧ 3 ≤ 25 := ⟨⟨gw_1039, gw_9, ⟨by decide, by decide⟩, by decide +kernel, by decide +kernel⟩, gw_1038, gwp_52, by decide⟩
theorem k_X6_summed : Cal yX6_summed cX6_summed 6 (some .int) 2 ∧ Cond.instanceMethod yX6_summed ∈ GW ∧ Cond.selects yX6_summed.cls yX6_summed yX6_summed ∈ GW ∧ 6 ≤ 25 := ⟨⟨gw_1046, gw_9, ⟨by decide, by decide⟩, by decide +kernel, by decide +kernel⟩, gw_1045, gwp_53, by decide⟩
theorem k_X6_beside : Cal yX6_beside cX6_beside 6 (some .int) 3 ∧ Cond.static yX6_beside ∈ GW ∧ 6 ≤ 25 := ⟨⟨gw_1072, gw_9, ⟨by decide, by decide⟩, by decide +kernel, by decide +kernel⟩, gw_1071, by decide⟩
theorem k_X6_edgeOf : Cal yX6_edgeOf cX6_edgeOf 7 (some .int) 3 ∧ Cond.instanceMethod yX6_edgeOf ∈ GW ∧ Cond.selects yX6_edgeOf.cls yX6_edgeOf yX6_edgeOf ∈ GW ∧ 7 ≤ 25 := ⟨⟨gw_1076, gw_9, ⟨by decide, by decide⟩, by decide +kernel, by decide +kernel⟩, gw_1075, gwp_56, by decide⟩
theorem k_X6_border : Cal yX6_border cX6_border 7 (some .int) 3 ∧ Cond.instanceMethod yX6_border ∈ GW ∧ Cond.selects yX6_border.cls yX6_border yX6_border ∈ GW ∧ 7 ≤ 25 := ⟨⟨gw_1069, gw_9, ⟨by decide, by decide⟩, by decide +kernel, by decide +kernel⟩, gw_1068, gwp_55, by decide⟩
theorem k_X6_laysRules : Cal yX6_laysRules cX6_laysRules 7 none 2 ∧ Cond.instanceMethod yX6_laysRules ∈ GW ∧ Cond.selects yX6_laysRules.cls yX6_laysRules yX6_laysRules ∈ GW ∧ 7 ≤ 25 := ⟨⟨gw_1065, gw_9, ⟨by decide, by decide⟩, by decide +kernel, by decide +kernel⟩, gw_1064, gwp_54, by decide⟩
theorem k_X6_lines : Cal yX6_lines cX6_lines 13 (some .int) 3 ∧ Cond.instanceMethod yX6_lines ∈ GW ∧ Cond.selects yX6_lines.cls yX6_lines yX6_lines ∈ GW ∧ 13 ≤ 25 := ⟨⟨gw_1080, gw_9, ⟨by decide, by decide⟩, by decide +kernel, by decide +kernel⟩, gw_1079, gwp_57, by decide⟩
theorem k_X6_signs : Cal yX6_signs cX6_signs 3 (some .int) 1 ∧ Cond.static yX6_signs ∈ GW ∧ 3 ≤ 25 := ⟨⟨gw_1091, gw_9, ⟨by decide, by decide⟩, by decide +kernel, by decide +kernel⟩, gw_1090, by decide⟩
theorem k_X6_widthOf : Cal yX6_widthOf cX6_widthOf 3 (some .int) 2 ∧ Cond.instanceMethod yX6_widthOf ∈ GW ∧ Cond.selects yX6_widthOf.cls yX6_widthOf yX6_widthOf ∈ GW ∧ 3 ≤ 25 := ⟨⟨gw_1088, gw_9, ⟨by decide, by decide⟩, by decide +kernel, by decide +kernel⟩, gw_1087, gwp_59, by decide⟩
theorem k_X6_heightOf : Cal yX6_heightOf cX6_heightOf 3 (some .int) 2 ∧ Cond.instanceMethod yX6_heightOf ∈ GW ∧ Cond.selects yX6_heightOf.cls yX6_heightOf yX6_heightOf ∈ GW ∧ 3 ≤ 25 := ⟨⟨gw_1099, gw_9, ⟨by decide, by decide⟩, by decide +kernel, by decide +kernel⟩, gw_1098, gwp_61, by decide⟩
theorem k_X6_laysColumns : Cal yX6_laysColumns cX6_laysColumns 9 none 2 ∧ Cond.instanceMethod yX6_laysColumns ∈ GW ∧ Cond.selects yX6_laysColumns.cls yX6_laysColumns yX6_laysColumns ∈ GW ∧ 9 ≤ 25 := ⟨⟨gw_1084, gw_9, ⟨by decide, by decide⟩, by decide +kernel, by decide +kernel⟩, gw_1083, gwp_58, by decide⟩
theorem k_X6_laysRows : Cal yX6_laysRows cX6_laysRows 9 none 2 ∧ Cond.instanceMethod yX6_laysRows ∈ GW ∧ Cond.selects yX6_laysRows.cls yX6_laysRows yX6_laysRows ∈ GW ∧ 9 ≤ 25 := ⟨⟨gw_1095, gw_9, ⟨by decide, by decide⟩, by decide +kernel, by decide +kernel⟩, gw_1094, gwp_60, by decide⟩
theorem k_X6_laysTable : Cal yX6_laysTable cX6_laysTable 5 none 2 ∧ Cond.instanceMethod yX6_laysTable ∈ GW ∧ Cond.selects yX6_laysTable.cls yX6_laysTable yX6_laysTable ∈ GW ∧ 5 ≤ 25 := ⟨⟨gw_1035, gw_9, ⟨by decide, by decide⟩, by decide +kernel, by decide +kernel⟩, gw_1034, gwp_51, by decide⟩
theorem k_X6_lays : Cal yX6_lays cX6_lays 3 none 1 ∧ Cond.instanceMethod yX6_lays ∈ GW ∧ Cond.selects yX6_lays.cls yX6_lays yX6_lays ∈ GW ∧ 3 ≤ 25 := ⟨⟨gw_1031, gw_9, ⟨by decide, by decide⟩, by decide +kernel, by decide +kernel⟩, gw_1030, gwp_50, by decide⟩
theorem k_X6_laysNow : Cal yX6_laysNow cX6_laysNow 1 none 0 ∧ Cond.instanceMethod yX6_laysNow ∈ GW ∧ Cond.selects yX6_laysNow.cls yX6_laysNow yX6_laysNow ∈ GW ∧ 1 ≤ 25 := ⟨⟨gw_1027, gw_9, ⟨by decide, by decide⟩, by decide +kernel, by decide +kernel⟩, gw_1026, gwp_49, by decide⟩
theorem k_X6_isParted : Cal yX6_isParted cX6_isParted 4 (some .boolean) 2 ∧ Cond.static yX6_isParted ∈ GW ∧ 4 ≤ 25 := ⟨⟨gw_1133, gw_9, ⟨by decide, by decide⟩, by decide +kernel, by decide +kernel⟩, gw_1132, by decide⟩
theorem k_X6_laysPages : Cal yX6_laysPages cX6_laysPages 10 (some .int) 2 ∧ Cond.instanceMethod yX6_laysPages ∈ GW ∧ Cond.selects yX6_laysPages.cls yX6_laysPages yX6_laysPages ∈ GW ∧ 10 ≤ 25 := ⟨⟨gw_1130, gw_9, ⟨by decide, by decide⟩, by decide +kernel, by decide +kernel⟩, gw_1129, gwp_64, by decide⟩
theorem k_X6_begin : Cal yX6_begin cX6_begin 3 (some .int) 2 ∧ Cond.instanceMethod yX6_begin ∈ GW ∧ Cond.selects yX6_begin.cls yX6_begin yX6_begin ∈ GW ∧ 3 ≤ 25 := ⟨⟨gw_918, gw_9, ⟨by decide, by decide⟩, by decide +kernel, by decide +kernel⟩, gw_916, gw_917, by decide⟩
theorem k_X6_nest : Cal yX6_nest cX6_nest 7 (some .int) 5 ∧ Cond.instanceMethod yX6_nest ∈ GW ∧ Cond.selects yX6_nest.cls yX6_nest yX6_nest ∈ GW ∧ 7 ≤ 25 := ⟨⟨gw_929, gw_9, ⟨by decide, by decide⟩, by decide +kernel, by decide +kernel⟩, gw_927, gw_928, by decide⟩
theorem k_X6_isKind : Cal yX6_isKind cX6_isKind 2 (some .boolean) 2 ∧ Cond.static yX6_isKind ∈ GW ∧ 2 ≤ 25 := ⟨⟨gw_956, gw_9, ⟨by decide, by decide⟩, by decide +kernel, by decide +kernel⟩, gw_955, by decide⟩
theorem k_X6_mayPut : Cal yX6_mayPut cX6_mayPut 7 (some .int) 5 ∧ Cond.instanceMethod yX6_mayPut ∈ GW ∧ Cond.selects yX6_mayPut.cls yX6_mayPut yX6_mayPut ∈ GW ∧ 7 ≤ 25 := ⟨⟨gw_953, gw_9, ⟨by decide, by decide⟩, by decide +kernel, by decide +kernel⟩, gw_952, gwp_40, by decide⟩
theorem k_X6_puts : Cal yX6_puts cX6_puts 5 (some .int) 4 ∧ Cond.static yX6_puts ∈ GW ∧ 5 ≤ 25 := ⟨⟨gw_959, gw_9, ⟨by decide, by decide⟩, by decide +kernel, by decide +kernel⟩, gw_958, by decide⟩
theorem k_X6_put : Cal yX6_put cX6_put 6 (some .int) 5 ∧ Cond.instanceMethod yX6_put ∈ GW ∧ Cond.selects yX6_put.cls yX6_put yX6_put ∈ GW ∧ 6 ≤ 25 := ⟨⟨gw_949, gw_9, ⟨by decide, by decide⟩, by decide +kernel, by decide +kernel⟩, gw_947, gw_948, by decide⟩
theorem k_X6_canSpan : Cal yX6_canSpan cX6_canSpan 7 (some .boolean) 3 ∧ Cond.instanceMethod yX6_canSpan ∈ GW ∧ Cond.selects yX6_canSpan.cls yX6_canSpan yX6_canSpan ∈ GW ∧ 7 ≤ 25 := ⟨⟨gw_967, gw_9, ⟨by decide, by decide⟩, by decide +kernel, by decide +kernel⟩, gw_966, gwp_41, by decide⟩
theorem k_X6_span : Cal yX6_span cX6_span 10 (some .int) 5 ∧ Cond.instanceMethod yX6_span ∈ GW ∧ Cond.selects yX6_span.cls yX6_span yX6_span ∈ GW ∧ 10 ≤ 25 := ⟨⟨gw_963, gw_9, ⟨by decide, by decide⟩, by decide +kernel, by decide +kernel⟩, gw_961, gw_962, by decide⟩
theorem k_X6_rule : Cal yX6_rule cX6_rule 8 (some .int) 5 ∧ Cond.instanceMethod yX6_rule ∈ GW ∧ Cond.selects yX6_rule.cls yX6_rule yX6_rule ∈ GW ∧ 8 ≤ 25 := ⟨⟨gw_971, gw_9, ⟨by decide, by decide⟩, by decide +kernel, by decide +kernel⟩, gw_969, gw_970, by decide⟩
theorem k_X6_set : Cal yX6_set cX6_set 3 (some .int) 1 ∧ Cond.instanceMethod yX6_set ∈ GW ∧ Cond.selects yX6_set.cls yX6_set yX6_set ∈ GW ∧ 3 ≤ 25 := ⟨⟨gw_975, gw_9, ⟨by decide, by decide⟩, by decide +kernel, by decide +kernel⟩, gw_973, gw_974, by decide⟩
theorem k_X6_append : Cal yX6_append cX6_append 2 (some .int) 1 ∧ Cond.instanceMethod yX6_append ∈ GW ∧ Cond.selects yX6_append.cls yX6_append yX6_append ∈ GW ∧ 2 ≤ 25 := ⟨⟨gw_979, gw_9, ⟨by decide, by decide⟩, by decide +kernel, by decide +kernel⟩, gw_977, gw_978, by decide⟩
theorem k_X6_clearBuffer : Cal yX6_clearBuffer cX6_clearBuffer 2 (some .int) 0 ∧ Cond.instanceMethod yX6_clearBuffer ∈ GW ∧ Cond.selects yX6_clearBuffer.cls yX6_clearBuffer yX6_clearBuffer ∈ GW ∧ 2 ≤ 25 := ⟨⟨gw_983, gw_9, ⟨by decide, by decide⟩, by decide +kernel, by decide +kernel⟩, gw_981, gw_982, by decide⟩
theorem k_X6_isAt : Cal yX6_isAt cX6_isAt 3 (some .boolean) 2 ∧ Cond.instanceMethod yX6_isAt ∈ GW ∧ Cond.selects yX6_isAt.cls yX6_isAt yX6_isAt ∈ GW ∧ 3 ≤ 25 := ⟨⟨gw_1003, gw_9, ⟨by decide, by decide⟩, by decide +kernel, by decide +kernel⟩, gw_1002, gwp_45, by decide⟩
theorem k_X6_stops : Cal yX6_stops cX6_stops 1 (some .boolean) 0 ∧ Cond.instanceMethod yX6_stops ∈ GW ∧ Cond.selects yX6_stops.cls yX6_stops yX6_stops ∈ GW ∧ 1 ≤ 25 := ⟨⟨gw_1007, gw_9, ⟨by decide, by decide⟩, by decide +kernel, by decide +kernel⟩, gw_1006, gwp_46, by decide⟩
theorem k_X6_isFigure : Cal yX6_isFigure cX6_isFigure 4 (some .boolean) 3 ∧ Cond.instanceMethod yX6_isFigure ∈ GW ∧ Cond.selects yX6_isFigure.cls yX6_isFigure yX6_isFigure ∈ GW ∧ 4 ≤ 25 := ⟨⟨gw_999, gw_9, ⟨by decide, by decide⟩, by decide +kernel, by decide +kernel⟩, gw_998, gwp_44, by decide⟩
theorem k_X6_isNumber : Cal yX6_isNumber cX6_isNumber 3 (some .boolean) 2 ∧ Cond.instanceMethod yX6_isNumber ∈ GW ∧ Cond.selects yX6_isNumber.cls yX6_isNumber yX6_isNumber ∈ GW ∧ 3 ≤ 25 := ⟨⟨gw_1011, gw_9, ⟨by decide, by decide⟩, by decide +kernel, by decide +kernel⟩, gw_1010, gwp_47, by decide⟩
theorem k_X6_isOrder : Cal yX6_isOrder cX6_isOrder 4 (some .boolean) 0 ∧ Cond.instanceMethod yX6_isOrder ∈ GW ∧ Cond.selects yX6_isOrder.cls yX6_isOrder yX6_isOrder ∈ GW ∧ 4 ≤ 25 := ⟨⟨gw_995, gw_9, ⟨by decide, by decide⟩, by decide +kernel, by decide +kernel⟩, gw_994, gwp_43, by decide⟩
theorem k_X6_isText : Cal yX6_isText cX6_isText 2 (some .boolean) 0 ∧ Cond.instanceMethod yX6_isText ∈ GW ∧ Cond.selects yX6_isText.cls yX6_isText yX6_isText ∈ GW ∧ 2 ≤ 25 := ⟨⟨gw_991, gw_9, ⟨by decide, by decide⟩, by decide +kernel, by decide +kernel⟩, gw_990, gwp_42, by decide⟩
theorem k_X6_firstError : Cal yX6_firstError cX6_firstError 2 (some .int) 0 ∧ Cond.instanceMethod yX6_firstError ∈ GW ∧ Cond.selects yX6_firstError.cls yX6_firstError yX6_firstError ∈ GW ∧ 2 ≤ 25 := ⟨⟨gw_987, gw_9, ⟨by decide, by decide⟩, by decide +kernel, by decide +kernel⟩, gw_985, gw_986, by decide⟩
theorem k_X6_does : Cal yX6_does cX6_does 6 (some .boolean) 1 ∧ Cond.instanceMethod yX6_does ∈ GW ∧ Cond.selects yX6_does.cls yX6_does yX6_does ∈ GW ∧ 6 ≤ 25 := ⟨⟨gw_1019, gw_9, ⟨by decide, by decide⟩, by decide +kernel, by decide +kernel⟩, gw_1018, gwp_48, by decide⟩
theorem k_X6_run : Cal yX6_run cX6_run 2 (some .int) 0 ∧ Cond.instanceMethod yX6_run ∈ GW ∧ Cond.selects yX6_run.cls yX6_run yX6_run ∈ GW ∧ 2 ≤ 25 := ⟨⟨gw_1015, gw_9, ⟨by decide, by decide⟩, by decide +kernel, by decide +kernel⟩, gw_1013, gw_1014, by decide⟩
theorem k_X6_ofCell : Cal yX6_ofCell cX6_ofCell 3 (some .int) 2 ∧ Cond.instanceMethod yX6_ofCell ∈ GW ∧ Cond.selects yX6_ofCell.cls yX6_ofCell yX6_ofCell ∈ GW ∧ 3 ≤ 25 := ⟨⟨gw_1103, gw_9, ⟨by decide, by decide⟩, by decide +kernel, by decide +kernel⟩, gw_1102, gwp_62, by decide⟩
theorem k_X6_cell : Cal yX6_cell cX6_cell 5 (some .int) 4 ∧ Cond.instanceMethod yX6_cell ∈ GW ∧ Cond.selects yX6_cell.cls yX6_cell yX6_cell ∈ GW ∧ 5 ≤ 25 := ⟨⟨gw_1023, gw_9, ⟨by decide, by decide⟩, by decide +kernel, by decide +kernel⟩, gw_1021, gw_1022, by decide⟩
theorem k_X6_edge : Cal yX6_edge cX6_edge 5 (some .int) 4 ∧ Cond.instanceMethod yX6_edge ∈ GW ∧ Cond.selects yX6_edge.cls yX6_edge yX6_edge ∈ GW ∧ 5 ≤ 25 := ⟨⟨gw_1107, gw_9, ⟨by decide, by decide⟩, by decide +kernel, by decide +kernel⟩, gw_1105, gw_1106, by decide⟩
theorem k_X6_around : Cal yX6_around cX6_around 4 (some .int) 2 ∧ Cond.static yX6_around ∈ GW ∧ 4 ≤ 25 := ⟨⟨gw_1118, gw_9, ⟨by decide, by decide⟩, by decide +kernel, by decide +kernel⟩, gw_1117, by decide⟩
theorem k_X6_ofTable : Cal yX6_ofTable cX6_ofTable 3 (some .int) 2 ∧ Cond.instanceMethod yX6_ofTable ∈ GW ∧ Cond.selects yX6_ofTable.cls yX6_ofTable yX6_ofTable ∈ GW ∧ 3 ≤ 25 := ⟨⟨gw_1115, gw_9, ⟨by decide, by decide⟩, by decide +kernel, by decide +kernel⟩, gw_1114, gwp_63, by decide⟩
theorem k_X6_table : Cal yX6_table cX6_table 3 (some .int) 2 ∧ Cond.instanceMethod yX6_table ∈ GW ∧ Cond.selects yX6_table.cls yX6_table yX6_table ∈ GW ∧ 3 ≤ 25 := ⟨⟨gw_1111, gw_9, ⟨by decide, by decide⟩, by decide +kernel, by decide +kernel⟩, gw_1109, gw_1110, by decide⟩
theorem k_X6_size : Cal yX6_size cX6_size 4 (some .int) 3 ∧ Cond.instanceMethod yX6_size ∈ GW ∧ Cond.selects yX6_size.cls yX6_size yX6_size ∈ GW ∧ 4 ≤ 25 := ⟨⟨gw_1122, gw_9, ⟨by decide, by decide⟩, by decide +kernel, by decide +kernel⟩, gw_1120, gw_1121, by decide⟩
theorem k_X6_page : Cal yX6_page cX6_page 2 (some .int) 1 ∧ Cond.instanceMethod yX6_page ∈ GW ∧ Cond.selects yX6_page.cls yX6_page yX6_page ∈ GW ∧ 2 ≤ 25 := ⟨⟨gw_1126, gw_9, ⟨by decide, by decide⟩, by decide +kernel, by decide +kernel⟩, gw_1124, gw_1125, by decide⟩
theorem k_X6_cells : Cal yX6_cells cX6_cells 4 (some .int) 1 ∧ Cond.instanceMethod yX6_cells ∈ GW ∧ Cond.selects yX6_cells.cls yX6_cells yX6_cells ∈ GW ∧ 4 ≤ 25 := ⟨⟨gw_1145, gw_9, ⟨by decide, by decide⟩, by decide +kernel, by decide +kernel⟩, gw_1144, gwp_66, by decide⟩
theorem k_X6_squares : Cal yX6_squares cX6_squares 3 (some .int) 0 ∧ Cond.instanceMethod yX6_squares ∈ GW ∧ Cond.selects yX6_squares.cls yX6_squares yX6_squares ∈ GW ∧ 3 ≤ 25 := ⟨⟨gw_1153, gw_9, ⟨by decide, by decide⟩, by decide +kernel, by decide +kernel⟩, gw_1152, gwp_68, by decide⟩
theorem k_X6_edges : Cal yX6_edges cX6_edges 5 (some .int) 0 ∧ Cond.instanceMethod yX6_edges ∈ GW ∧ Cond.selects yX6_edges.cls yX6_edges yX6_edges ∈ GW ∧ 5 ≤ 25 := ⟨⟨gw_1149, gw_9, ⟨by decide, by decide⟩, by decide +kernel, by decide +kernel⟩, gw_1148, gwp_67, by decide⟩
theorem k_X6_counted : Cal yX6_counted cX6_counted 2 (some .int) 1 ∧ Cond.instanceMethod yX6_counted ∈ GW ∧ Cond.selects yX6_counted.cls yX6_counted yX6_counted ∈ GW ∧ 2 ≤ 25 := ⟨⟨gw_1141, gw_9, ⟨by decide, by decide⟩, by decide +kernel, by decide +kernel⟩, gw_1140, gwp_65, by decide⟩
theorem k_X6_count : Cal yX6_count cX6_count 2 (some .int) 1 ∧ Cond.instanceMethod yX6_count ∈ GW ∧ Cond.selects yX6_count.cls yX6_count yX6_count ∈ GW ∧ 2 ≤ 25 := ⟨⟨gw_1137, gw_9, ⟨by decide, by decide⟩, by decide +kernel, by decide +kernel⟩, gw_1135, gw_1136, by decide⟩
theorem k_X6_byPutting : Cal yX6_byPutting cX6_byPutting 6 (some .int) 3 ∧ Cond.instanceMethod yX6_byPutting ∈ GW ∧ Cond.selects yX6_byPutting.cls yX6_byPutting yX6_byPutting ∈ GW ∧ 6 ≤ 25 := ⟨⟨gw_1161, gw_9, ⟨by decide, by decide⟩, by decide +kernel, by decide +kernel⟩, gw_1160, gwp_69, by decide⟩
theorem k_X6_ifPut : Cal yX6_ifPut cX6_ifPut 6 (some .int) 5 ∧ Cond.instanceMethod yX6_ifPut ∈ GW ∧ Cond.selects yX6_ifPut.cls yX6_ifPut yX6_ifPut ∈ GW ∧ 6 ≤ 25 := ⟨⟨gw_1157, gw_9, ⟨by decide, by decide⟩, by decide +kernel, by decide +kernel⟩, gw_1155, gw_1156, by decide⟩
theorem k_X6_counters : Cal yX6_counters cX6_counters 7 (some .int) 1 ∧ Cond.instanceMethod yX6_counters ∈ GW ∧ Cond.selects yX6_counters.cls yX6_counters yX6_counters ∈ GW ∧ 7 ≤ 25 := ⟨⟨gw_1169, gw_9, ⟨by decide, by decide⟩, by decide +kernel, by decide +kernel⟩, gw_1168, gwp_70, by decide⟩
theorem k_X6_countedBy : Cal yX6_countedBy cX6_countedBy 4 (some .int) 3 ∧ Cond.instanceMethod yX6_countedBy ∈ GW ∧ Cond.selects yX6_countedBy.cls yX6_countedBy yX6_countedBy ∈ GW ∧ 4 ≤ 25 := ⟨⟨gw_1165, gw_9, ⟨by decide, by decide⟩, by decide +kernel, by decide +kernel⟩, gw_1163, gw_1164, by decide⟩
theorem k_X6_leastFor : Cal yX6_leastFor cX6_leastFor 3 (some .int) 1 ∧ Cond.instanceMethod yX6_leastFor ∈ GW ∧ Cond.selects yX6_leastFor.cls yX6_leastFor yX6_leastFor ∈ GW ∧ 3 ≤ 25 := ⟨⟨gw_1177, gw_9, ⟨by decide, by decide⟩, by decide +kernel, by decide +kernel⟩, gw_1176, gwp_71, by decide⟩
theorem k_X6_heightFor : Cal yX6_heightFor cX6_heightFor 2 (some .int) 1 ∧ Cond.instanceMethod yX6_heightFor ∈ GW ∧ Cond.selects yX6_heightFor.cls yX6_heightFor yX6_heightFor ∈ GW ∧ 2 ≤ 25 := ⟨⟨gw_1173, gw_9, ⟨by decide, by decide⟩, by decide +kernel, by decide +kernel⟩, gw_1171, gw_1172, by decide⟩
theorem k_X6_share : Cal yX6_share cX6_share 2 (some .double) 0 ∧ Cond.instanceMethod yX6_share ∈ GW ∧ Cond.selects yX6_share.cls yX6_share yX6_share ∈ GW ∧ 2 ≤ 25 := ⟨⟨gw_1185, gw_9, ⟨by decide, by decide⟩, by decide +kernel, by decide +kernel⟩, gw_1184, gwp_72, by decide⟩
theorem k_X6_filledShare : Cal yX6_filledShare cX6_filledShare 1 (some .double) 0 ∧ Cond.instanceMethod yX6_filledShare ∈ GW ∧ Cond.selects yX6_filledShare.cls yX6_filledShare yX6_filledShare ∈ GW ∧ 1 ≤ 25 := ⟨⟨gw_1181, gw_9, ⟨by decide, by decide⟩, by decide +kernel, by decide +kernel⟩, gw_1179, gw_1180, by decide⟩
theorem k_Jxe99ae_isNaN_b9ae7 : Cal yJxe99ae_isNaN_b9ae7 cJxe99ae_isNaN_b9ae7 2 (some .boolean) 1 ∧ Cond.static yJxe99ae_isNaN_b9ae7 ∈ GW ∧ 2 ≤ 25 := ⟨⟨gw_1197, gw_18, ⟨by decide, by decide⟩, by decide +kernel, by decide +kernel⟩, gw_1196, by decide⟩
theorem k_Jxe99ae_doubleToLongBits_ccdee : Cal yJxe99ae_doubleToLongBits_ccdee cJxe99ae_doubleToLongBits_ccdee 2 (some .long) 1 ∧ Cond.static yJxe99ae_doubleToLongBits_ccdee ∈ GW ∧ 2 ≤ 25 := ⟨⟨gw_1194, gw_18, ⟨by decide, by decide⟩, by decide +kernel, by decide +kernel⟩, gw_1193, by decide⟩
theorem k_X6_digest : Cal yX6_digest cX6_digest 7 (some .long) 0 ∧ Cond.instanceMethod yX6_digest ∈ GW ∧ Cond.selects yX6_digest.cls yX6_digest yX6_digest ∈ GW ∧ 7 ≤ 25 := ⟨⟨gw_1189, gw_9, ⟨by decide, by decide⟩, by decide +kernel, by decide +kernel⟩, gw_1187, gw_1188, by decide⟩
