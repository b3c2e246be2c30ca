def GW : List Cond := lw_tbl.filter goodWord
theorem gw_48 : Cond.fieldLink RX2 13 "NestedSums$Numbers" "values" "[I" ∈ GW := List.mem_filter.mpr ⟨List.mem_append_right _ (List.mem_of_getElem? (i := 48) (by decide +kernel)), by decide +kernel⟩
theorem inGW_2 : ∀ w ∈ u_ws RX2 TX2 1, w ∈ GW := by
  have h1 : ∀ w ∈ u_ws RX2 TX2 1, w ∈ tables_1 := by decide +kernel
  have h2 : ∀ w ∈ u_ws RX2 TX2 1, goodWord w = true := by decide +kernel
  exact fun w hw => List.mem_filter.mpr ⟨List.mem_append_right _ (h1 w hw), h2 w hw⟩
theorem gw_185 : Cond.code yX2_store cX2_store 3 none ∈ GW := List.mem_filter.mpr ⟨List.mem_append_right _ (List.mem_of_getElem? (i := 185) (by decide +kernel)), by decide +kernel⟩
theorem gw_4 : Cond.initialized RX2 ∈ GW := List.mem_filter.mpr ⟨List.mem_append_right _ (List.mem_of_getElem? (i := 4) (by decide +kernel)), by decide +kernel⟩
theorem gw_183 : Cond.instanceMethod yX2_store ∈ GW := List.mem_filter.mpr ⟨List.mem_append_right _ (List.mem_of_getElem? (i := 183) (by decide +kernel)), by decide +kernel⟩
theorem gw_184 : Cond.selects RX2 yX2_store yX2_store ∈ GW := List.mem_filter.mpr ⟨List.mem_append_right _ (List.mem_of_getElem? (i := 184) (by decide +kernel)), by decide +kernel⟩
theorem gw_55 : Cond.fieldLink RX4 42 "NestedSums$Sheet" "tables" "I" ∈ GW := List.mem_filter.mpr ⟨List.mem_append_right _ (List.mem_of_getElem? (i := 55) (by decide +kernel)), by decide +kernel⟩
theorem inGW_4 : ∀ w ∈ u_ws RX4 TX4 9, w ∈ GW := by
  have h1 : ∀ w ∈ u_ws RX4 TX4 9, w ∈ tables_1 := by decide +kernel
  have h2 : ∀ w ∈ u_ws RX4 TX4 9, goodWord w = true := by decide +kernel
  exact fun w hw => List.mem_filter.mpr ⟨List.mem_append_right _ (h1 w hw), h2 w hw⟩
theorem gw_189 : Cond.code yX4_squaresEnd cX4_squaresEnd 1 (some .int) ∈ GW := List.mem_filter.mpr ⟨List.mem_append_right _ (List.mem_of_getElem? (i := 189) (by decide +kernel)), by decide +kernel⟩
theorem gw_3 : Cond.initialized RX4 ∈ GW := List.mem_filter.mpr ⟨List.mem_append_right _ (List.mem_of_getElem? (i := 3) (by decide +kernel)), by decide +kernel⟩
theorem gw_187 : Cond.instanceMethod yX4_squaresEnd ∈ GW := List.mem_filter.mpr ⟨List.mem_append_right _ (List.mem_of_getElem? (i := 187) (by decide +kernel)), by decide +kernel⟩
theorem gw_188 : Cond.selects RX4 yX4_squaresEnd yX4_squaresEnd ∈ GW := List.mem_filter.mpr ⟨List.mem_append_right _ (List.mem_of_getElem? (i := 188) (by decide +kernel)), by decide +kernel⟩
theorem gw_61 : Cond.fieldLink RX4 27 "NestedSums$Sheet" "owners" "LNestedSums$Numbers;" ∈ GW := List.mem_filter.mpr ⟨List.mem_append_right _ (List.mem_of_getElem? (i := 61) (by decide +kernel)), by decide +kernel⟩
theorem gw_182 : Cond.methodLink RX4 53 yX2_store ∈ GW := List.mem_filter.mpr ⟨List.mem_append_right _ (List.mem_of_getElem? (i := 182) (by decide +kernel)), by decide +kernel⟩
theorem gw_63 : Cond.fieldLink RX4 30 "NestedSums$Sheet" "kinds" "LNestedSums$Numbers;" ∈ GW := List.mem_filter.mpr ⟨List.mem_append_right _ (List.mem_of_getElem? (i := 63) (by decide +kernel)), by decide +kernel⟩
theorem gw_66 : Cond.fieldLink RX4 33 "NestedSums$Sheet" "contents" "LNestedSums$Numbers;" ∈ GW := List.mem_filter.mpr ⟨List.mem_append_right _ (List.mem_of_getElem? (i := 66) (by decide +kernel)), by decide +kernel⟩
theorem gw_68 : Cond.fieldLink RX4 36 "NestedSums$Sheet" "spans" "LNestedSums$Numbers;" ∈ GW := List.mem_filter.mpr ⟨List.mem_append_right _ (List.mem_of_getElem? (i := 68) (by decide +kernel)), by decide +kernel⟩
theorem gw_70 : Cond.fieldLink RX4 39 "NestedSums$Sheet" "rules" "LNestedSums$Numbers;" ∈ GW := List.mem_filter.mpr ⟨List.mem_append_right _ (List.mem_of_getElem? (i := 70) (by decide +kernel)), by decide +kernel⟩
theorem gw_193 : Cond.code yX4_makeEmpty cX4_makeEmpty 3 none ∈ GW := List.mem_filter.mpr ⟨List.mem_append_right _ (List.mem_of_getElem? (i := 193) (by decide +kernel)), by decide +kernel⟩
theorem gw_192 : Cond.instanceMethod yX4_makeEmpty ∈ GW := List.mem_filter.mpr ⟨List.mem_append_right _ (List.mem_of_getElem? (i := 192) (by decide +kernel)), by decide +kernel⟩
theorem gwp_1 : Cond.selects RX4 yX4_makeEmpty yX4_makeEmpty ∈ GW := List.mem_filter.mpr ⟨List.mem_append_left _ (List.mem_of_getElem? (i := 1) (by decide +kernel)), by decide +kernel⟩
theorem gw_196 : Cond.code yX5_placeOf cX5_placeOf 2 (some .int) ∈ GW := List.mem_filter.mpr ⟨List.mem_append_right _ (List.mem_of_getElem? (i := 196) (by decide +kernel)), by decide +kernel⟩
theorem gw_1 : Cond.initialized RX5 ∈ GW := List.mem_filter.mpr ⟨List.mem_append_right _ (List.mem_of_getElem? (i := 1) (by decide +kernel)), by decide +kernel⟩
theorem gw_195 : Cond.static yX5_placeOf ∈ GW := List.mem_filter.mpr ⟨List.mem_append_right _ (List.mem_of_getElem? (i := 195) (by decide +kernel)), by decide +kernel⟩
theorem gw_58 : Cond.fieldLink RX4 20 "NestedSums$Sheet" "lines" "LNestedSums$Numbers;" ∈ GW := List.mem_filter.mpr ⟨List.mem_append_right _ (List.mem_of_getElem? (i := 58) (by decide +kernel)), by decide +kernel⟩
theorem gw_59 : Cond.fieldLink RX4 24 "NestedSums$Sheet" "homes" "LNestedSums$Numbers;" ∈ GW := List.mem_filter.mpr ⟨List.mem_append_right _ (List.mem_of_getElem? (i := 59) (by decide +kernel)), by decide +kernel⟩
theorem gw_186 : Cond.methodLink RX4 57 yX4_squaresEnd ∈ GW := List.mem_filter.mpr ⟨List.mem_append_right _ (List.mem_of_getElem? (i := 186) (by decide +kernel)), by decide +kernel⟩
theorem gw_190 : Cond.methodLink RX4 61 yX4_makeEmpty ∈ GW := List.mem_filter.mpr ⟨List.mem_append_right _ (List.mem_of_getElem? (i := 190) (by decide +kernel)), by decide +kernel⟩
theorem gw_181 : Cond.code yX4_layOut cX4_layOut 6 none ∈ GW := List.mem_filter.mpr ⟨List.mem_append_right _ (List.mem_of_getElem? (i := 181) (by decide +kernel)), by decide +kernel⟩
theorem gw_180 : Cond.instanceMethod yX4_layOut ∈ GW := List.mem_filter.mpr ⟨List.mem_append_right _ (List.mem_of_getElem? (i := 180) (by decide +kernel)), by decide +kernel⟩
theorem gwp_0 : Cond.selects RX4 yX4_layOut yX4_layOut ∈ GW := List.mem_filter.mpr ⟨List.mem_append_left _ (List.mem_of_getElem? (i := 0) (by decide +kernel)), by decide +kernel⟩
theorem gw_178 : Cond.methodLink RX4 49 yX4_layOut ∈ GW := List.mem_filter.mpr ⟨List.mem_append_right _ (List.mem_of_getElem? (i := 178) (by decide +kernel)), by decide +kernel⟩
theorem gw_177 : Cond.code yX4_startAnew cX4_startAnew 3 none ∈ GW := List.mem_filter.mpr ⟨List.mem_append_right _ (List.mem_of_getElem? (i := 177) (by decide +kernel)), by decide +kernel⟩
theorem gw_175 : Cond.instanceMethod yX4_startAnew ∈ GW := List.mem_filter.mpr ⟨List.mem_append_right _ (List.mem_of_getElem? (i := 175) (by decide +kernel)), by decide +kernel⟩
theorem gw_176 : Cond.selects RX4 yX4_startAnew yX4_startAnew ∈ GW := List.mem_filter.mpr ⟨List.mem_append_right _ (List.mem_of_getElem? (i := 176) (by decide +kernel)), by decide +kernel⟩
theorem gw_207 : Cond.code yJ7_fill_53178 cJ7_fill_53178 4 none ∈ GW := List.mem_filter.mpr ⟨List.mem_append_right _ (List.mem_of_getElem? (i := 207) (by decide +kernel)), by decide +kernel⟩
theorem gw_8 : Cond.initialized RJ7 ∈ GW := List.mem_filter.mpr ⟨List.mem_append_right _ (List.mem_of_getElem? (i := 8) (by decide +kernel)), by decide +kernel⟩
theorem gw_206 : Cond.static yJ7_fill_53178 ∈ GW := List.mem_filter.mpr ⟨List.mem_append_right _ (List.mem_of_getElem? (i := 206) (by decide +kernel)), by decide +kernel⟩
theorem gw_205 : Cond.methodLink RX2 28 yJ7_fill_53178 ∈ GW := List.mem_filter.mpr ⟨List.mem_append_right _ (List.mem_of_getElem? (i := 205) (by decide +kernel)), by decide +kernel⟩
theorem gw_204 : Cond.code yX2_clear cX2_clear 1 none ∈ GW := List.mem_filter.mpr ⟨List.mem_append_right _ (List.mem_of_getElem? (i := 204) (by decide +kernel)), by decide +kernel⟩
theorem gw_202 : Cond.instanceMethod yX2_clear ∈ GW := List.mem_filter.mpr ⟨List.mem_append_right _ (List.mem_of_getElem? (i := 202) (by decide +kernel)), by decide +kernel⟩
theorem gw_203 : Cond.selects RX2 yX2_clear yX2_clear ∈ GW := List.mem_filter.mpr ⟨List.mem_append_right _ (List.mem_of_getElem? (i := 203) (by decide +kernel)), by decide +kernel⟩
theorem gw_214 : Cond.code yX1_squaresEndOf cX1_squaresEndOf 1 (some .int) ∈ GW := List.mem_filter.mpr ⟨List.mem_append_right _ (List.mem_of_getElem? (i := 214) (by decide +kernel)), by decide +kernel⟩
theorem gw_2 : Cond.initialized RX1 ∈ GW := List.mem_filter.mpr ⟨List.mem_append_right _ (List.mem_of_getElem? (i := 2) (by decide +kernel)), by decide +kernel⟩
theorem gw_213 : Cond.static yX1_squaresEndOf ∈ GW := List.mem_filter.mpr ⟨List.mem_append_right _ (List.mem_of_getElem? (i := 213) (by decide +kernel)), by decide +kernel⟩
theorem gw_222 : Cond.code yX2_at cX2_at 2 (some .int) ∈ GW := List.mem_filter.mpr ⟨List.mem_append_right _ (List.mem_of_getElem? (i := 222) (by decide +kernel)), by decide +kernel⟩
theorem gw_220 : Cond.instanceMethod yX2_at ∈ GW := List.mem_filter.mpr ⟨List.mem_append_right _ (List.mem_of_getElem? (i := 220) (by decide +kernel)), by decide +kernel⟩
theorem gw_221 : Cond.selects RX2 yX2_at yX2_at ∈ GW := List.mem_filter.mpr ⟨List.mem_append_right _ (List.mem_of_getElem? (i := 221) (by decide +kernel)), by decide +kernel⟩
theorem gw_219 : Cond.methodLink RX4 75 yX2_at ∈ GW := List.mem_filter.mpr ⟨List.mem_append_right _ (List.mem_of_getElem? (i := 219) (by decide +kernel)), by decide +kernel⟩
theorem gw_218 : Cond.code yX4_isCell cX4_isCell 2 (some .boolean) ∈ GW := List.mem_filter.mpr ⟨List.mem_append_right _ (List.mem_of_getElem? (i := 218) (by decide +kernel)), by decide +kernel⟩
theorem gw_216 : Cond.instanceMethod yX4_isCell ∈ GW := List.mem_filter.mpr ⟨List.mem_append_right _ (List.mem_of_getElem? (i := 216) (by decide +kernel)), by decide +kernel⟩
theorem gw_217 : Cond.selects RX4 yX4_isCell yX4_isCell ∈ GW := List.mem_filter.mpr ⟨List.mem_append_right _ (List.mem_of_getElem? (i := 217) (by decide +kernel)), by decide +kernel⟩
theorem gw_94 : Cond.fieldLink RX1 12 "NestedSums$Layout" "sheet" "LNestedSums$Sheet;" ∈ GW := List.mem_filter.mpr ⟨List.mem_append_right _ (List.mem_of_getElem? (i := 94) (by decide +kernel)), by decide +kernel⟩
theorem inGW_1 : ∀ w ∈ u_ws RX1 TX1 11, w ∈ GW := by
  have h1 : ∀ w ∈ u_ws RX1 TX1 11, w ∈ tables_1 := by decide +kernel
  have h2 : ∀ w ∈ u_ws RX1 TX1 11, goodWord w = true := by decide +kernel
  exact fun w hw => List.mem_filter.mpr ⟨List.mem_append_right _ (h1 w hw), h2 w hw⟩
theorem gw_227 : Cond.methodLink RX1 58 yX2_at ∈ GW := List.mem_filter.mpr ⟨List.mem_append_right _ (List.mem_of_getElem? (i := 227) (by decide +kernel)), by decide +kernel⟩
theorem gw_112 : Cond.fieldLink RX1 51 "NestedSums$Layout" "tableValues" "LNestedSums$Numbers;" ∈ GW := List.mem_filter.mpr ⟨List.mem_append_right _ (List.mem_of_getElem? (i := 112) (by decide +kernel)), by decide +kernel⟩
theorem gw_226 : Cond.code yX1_valueOf cX1_valueOf 2 (some .int) ∈ GW := List.mem_filter.mpr ⟨List.mem_append_right _ (List.mem_of_getElem? (i := 226) (by decide +kernel)), by decide +kernel⟩
theorem gw_225 : Cond.instanceMethod yX1_valueOf ∈ GW := List.mem_filter.mpr ⟨List.mem_append_right _ (List.mem_of_getElem? (i := 225) (by decide +kernel)), by decide +kernel⟩
theorem gwp_3 : Cond.selects RX1 yX1_valueOf yX1_valueOf ∈ GW := List.mem_filter.mpr ⟨List.mem_append_left _ (List.mem_of_getElem? (i := 3) (by decide +kernel)), by decide +kernel⟩
theorem gw_212 : Cond.methodLink RX1 94 yX1_squaresEndOf ∈ GW := List.mem_filter.mpr ⟨List.mem_append_right _ (List.mem_of_getElem? (i := 212) (by decide +kernel)), by decide +kernel⟩
theorem gw_228 : Cond.methodLink RX1 104 yX2_store ∈ GW := List.mem_filter.mpr ⟨List.mem_append_right _ (List.mem_of_getElem? (i := 228) (by decide +kernel)), by decide +kernel⟩
theorem gw_215 : Cond.methodLink RX1 97 yX4_isCell ∈ GW := List.mem_filter.mpr ⟨List.mem_append_right _ (List.mem_of_getElem? (i := 215) (by decide +kernel)), by decide +kernel⟩
theorem gw_96 : Cond.fieldLink RX1 23 "NestedSums$Layout" "values" "LNestedSums$Numbers;" ∈ GW := List.mem_filter.mpr ⟨List.mem_append_right _ (List.mem_of_getElem? (i := 96) (by decide +kernel)), by decide +kernel⟩
theorem gw_223 : Cond.methodLink RX1 101 yX1_valueOf ∈ GW := List.mem_filter.mpr ⟨List.mem_append_right _ (List.mem_of_getElem? (i := 223) (by decide +kernel)), by decide +kernel⟩
theorem gw_211 : Cond.code yX1_valueCells cX1_valueCells 5 none ∈ GW := List.mem_filter.mpr ⟨List.mem_append_right _ (List.mem_of_getElem? (i := 211) (by decide +kernel)), by decide +kernel⟩
theorem gw_210 : Cond.instanceMethod yX1_valueCells ∈ GW := List.mem_filter.mpr ⟨List.mem_append_right _ (List.mem_of_getElem? (i := 210) (by decide +kernel)), by decide +kernel⟩
theorem gwp_2 : Cond.selects RX1 yX1_valueCells yX1_valueCells ∈ GW := List.mem_filter.mpr ⟨List.mem_append_left _ (List.mem_of_getElem? (i := 2) (by decide +kernel)), by decide +kernel⟩
theorem gw_235 : Cond.code yX5_isSum cX5_isSum 1 (some .boolean) ∈ GW := List.mem_filter.mpr ⟨List.mem_append_right _ (List.mem_of_getElem? (i := 235) (by decide +kernel)), by decide +kernel⟩
theorem gw_234 : Cond.static yX5_isSum ∈ GW := List.mem_filter.mpr ⟨List.mem_append_right _ (List.mem_of_getElem? (i := 234) (by decide +kernel)), by decide +kernel⟩
theorem gw_242 : Cond.code yX5_tableOf cX5_tableOf 1 (some .int) ∈ GW := List.mem_filter.mpr ⟨List.mem_append_right _ (List.mem_of_getElem? (i := 242) (by decide +kernel)), by decide +kernel⟩
theorem gw_241 : Cond.static yX5_tableOf ∈ GW := List.mem_filter.mpr ⟨List.mem_append_right _ (List.mem_of_getElem? (i := 241) (by decide +kernel)), by decide +kernel⟩
theorem gw_100 : Cond.fieldLink RX1 30 "NestedSums$Layout" "starts" "LNestedSums$Numbers;" ∈ GW := List.mem_filter.mpr ⟨List.mem_append_right _ (List.mem_of_getElem? (i := 100) (by decide +kernel)), by decide +kernel⟩
theorem gw_246 : Cond.code yX1_isCounted cX1_isCounted 9 (some .boolean) ∈ GW := List.mem_filter.mpr ⟨List.mem_append_right _ (List.mem_of_getElem? (i := 246) (by decide +kernel)), by decide +kernel⟩
theorem gw_245 : Cond.instanceMethod yX1_isCounted ∈ GW := List.mem_filter.mpr ⟨List.mem_append_right _ (List.mem_of_getElem? (i := 245) (by decide +kernel)), by decide +kernel⟩
theorem gwp_6 : Cond.selects RX1 yX1_isCounted yX1_isCounted ∈ GW := List.mem_filter.mpr ⟨List.mem_append_left _ (List.mem_of_getElem? (i := 6) (by decide +kernel)), by decide +kernel⟩
theorem gw_243 : Cond.methodLink RX1 125 yX1_isCounted ∈ GW := List.mem_filter.mpr ⟨List.mem_append_right _ (List.mem_of_getElem? (i := 243) (by decide +kernel)), by decide +kernel⟩
theorem gw_248 : Cond.methodLink RX1 133 Lib.Math.max.name ∈ GW := List.mem_filter.mpr ⟨List.mem_append_right _ (List.mem_of_getElem? (i := 248) (by decide +kernel)), by decide +kernel⟩
theorem gw_46 : Cond.static Lib.Math.max.name ∈ GW := List.mem_filter.mpr ⟨List.mem_append_right _ (List.mem_of_getElem? (i := 46) (by decide +kernel)), by decide +kernel⟩
theorem gw_5 : Cond.initialized RJ9 ∈ GW := List.mem_filter.mpr ⟨List.mem_append_right _ (List.mem_of_getElem? (i := 5) (by decide +kernel)), by decide +kernel⟩
theorem gw_47 : Cond.code Lib.Math.max.name Lib.Math.max.code 2 (some .int) ∈ GW := List.mem_filter.mpr ⟨List.mem_append_right _ (List.mem_of_getElem? (i := 47) (by decide +kernel)), by decide +kernel⟩
theorem gw_239 : Cond.code yX1_startSum cX1_startSum 6 none ∈ GW := List.mem_filter.mpr ⟨List.mem_append_right _ (List.mem_of_getElem? (i := 239) (by decide +kernel)), by decide +kernel⟩
theorem gw_238 : Cond.instanceMethod yX1_startSum ∈ GW := List.mem_filter.mpr ⟨List.mem_append_right _ (List.mem_of_getElem? (i := 238) (by decide +kernel)), by decide +kernel⟩
theorem gwp_5 : Cond.selects RX1 yX1_startSum yX1_startSum ∈ GW := List.mem_filter.mpr ⟨List.mem_append_left _ (List.mem_of_getElem? (i := 5) (by decide +kernel)), by decide +kernel⟩
theorem gw_252 : Cond.code yX1_sumOf cX1_sumOf 5 (some .int) ∈ GW := List.mem_filter.mpr ⟨List.mem_append_right _ (List.mem_of_getElem? (i := 252) (by decide +kernel)), by decide +kernel⟩
theorem gw_251 : Cond.instanceMethod yX1_sumOf ∈ GW := List.mem_filter.mpr ⟨List.mem_append_right _ (List.mem_of_getElem? (i := 251) (by decide +kernel)), by decide +kernel⟩
theorem gwp_7 : Cond.selects RX1 yX1_sumOf yX1_sumOf ∈ GW := List.mem_filter.mpr ⟨List.mem_append_left _ (List.mem_of_getElem? (i := 7) (by decide +kernel)), by decide +kernel⟩
theorem gw_98 : Cond.fieldLink RX1 27 "NestedSums$Layout" "shown" "LNestedSums$Numbers;" ∈ GW := List.mem_filter.mpr ⟨List.mem_append_right _ (List.mem_of_getElem? (i := 98) (by decide +kernel)), by decide +kernel⟩
theorem gw_236 : Cond.methodLink RX1 116 yX1_startSum ∈ GW := List.mem_filter.mpr ⟨List.mem_append_right _ (List.mem_of_getElem? (i := 236) (by decide +kernel)), by decide +kernel⟩
theorem gw_249 : Cond.methodLink RX1 119 yX1_sumOf ∈ GW := List.mem_filter.mpr ⟨List.mem_append_right _ (List.mem_of_getElem? (i := 249) (by decide +kernel)), by decide +kernel⟩
theorem gw_232 : Cond.code yX1_showNumbers cX1_showNumbers 4 none ∈ GW := List.mem_filter.mpr ⟨List.mem_append_right _ (List.mem_of_getElem? (i := 232) (by decide +kernel)), by decide +kernel⟩
theorem gw_231 : Cond.instanceMethod yX1_showNumbers ∈ GW := List.mem_filter.mpr ⟨List.mem_append_right _ (List.mem_of_getElem? (i := 231) (by decide +kernel)), by decide +kernel⟩
theorem gwp_4 : Cond.selects RX1 yX1_showNumbers yX1_showNumbers ∈ GW := List.mem_filter.mpr ⟨List.mem_append_left _ (List.mem_of_getElem? (i := 4) (by decide +kernel)), by decide +kernel⟩
theorem gw_260 : Cond.code yX4_tableWithin cX4_tableWithin 2 (some .int) ∈ GW := List.mem_filter.mpr ⟨List.mem_append_right _ (List.mem_of_getElem? (i := 260) (by decide +kernel)), by decide +kernel⟩
theorem gw_258 : Cond.instanceMethod yX4_tableWithin ∈ GW := List.mem_filter.mpr ⟨List.mem_append_right _ (List.mem_of_getElem? (i := 258) (by decide +kernel)), by decide +kernel⟩
theorem gw_259 : Cond.selects RX4 yX4_tableWithin yX4_tableWithin ∈ GW := List.mem_filter.mpr ⟨List.mem_append_right _ (List.mem_of_getElem? (i := 259) (by decide +kernel)), by decide +kernel⟩
theorem gw_268 : Cond.code yX4_linesOf cX4_linesOf 3 (some .int) ∈ GW := List.mem_filter.mpr ⟨List.mem_append_right _ (List.mem_of_getElem? (i := 268) (by decide +kernel)), by decide +kernel⟩
theorem gw_266 : Cond.instanceMethod yX4_linesOf ∈ GW := List.mem_filter.mpr ⟨List.mem_append_right _ (List.mem_of_getElem? (i := 266) (by decide +kernel)), by decide +kernel⟩
theorem gw_267 : Cond.selects RX4 yX4_linesOf yX4_linesOf ∈ GW := List.mem_filter.mpr ⟨List.mem_append_right _ (List.mem_of_getElem? (i := 267) (by decide +kernel)), by decide +kernel⟩
theorem gw_105 : Cond.fieldLink RX1 39 "NestedSums$Layout" "edges" "LNestedSums$Numbers;" ∈ GW := List.mem_filter.mpr ⟨List.mem_append_right _ (List.mem_of_getElem? (i := 105) (by decide +kernel)), by decide +kernel⟩
theorem gw_272 : Cond.code yX1_greatestRule cX1_greatestRule 7 (some .int) ∈ GW := List.mem_filter.mpr ⟨List.mem_append_right _ (List.mem_of_getElem? (i := 272) (by decide +kernel)), by decide +kernel⟩
theorem gw_271 : Cond.instanceMethod yX1_greatestRule ∈ GW := List.mem_filter.mpr ⟨List.mem_append_right _ (List.mem_of_getElem? (i := 271) (by decide +kernel)), by decide +kernel⟩
theorem gwp_10 : Cond.selects RX1 yX1_greatestRule yX1_greatestRule ∈ GW := List.mem_filter.mpr ⟨List.mem_append_left _ (List.mem_of_getElem? (i := 10) (by decide +kernel)), by decide +kernel⟩
theorem gw_269 : Cond.methodLink RX1 151 yX1_greatestRule ∈ GW := List.mem_filter.mpr ⟨List.mem_append_right _ (List.mem_of_getElem? (i := 269) (by decide +kernel)), by decide +kernel⟩
theorem gw_265 : Cond.methodLink RX1 148 yX4_linesOf ∈ GW := List.mem_filter.mpr ⟨List.mem_append_right _ (List.mem_of_getElem? (i := 265) (by decide +kernel)), by decide +kernel⟩
theorem gw_264 : Cond.code yX1_borderRule cX1_borderRule 5 (some .int) ∈ GW := List.mem_filter.mpr ⟨List.mem_append_right _ (List.mem_of_getElem? (i := 264) (by decide +kernel)), by decide +kernel⟩
theorem gw_263 : Cond.instanceMethod yX1_borderRule ∈ GW := List.mem_filter.mpr ⟨List.mem_append_right _ (List.mem_of_getElem? (i := 263) (by decide +kernel)), by decide +kernel⟩
theorem gwp_9 : Cond.selects RX1 yX1_borderRule yX1_borderRule ∈ GW := List.mem_filter.mpr ⟨List.mem_append_left _ (List.mem_of_getElem? (i := 9) (by decide +kernel)), by decide +kernel⟩
theorem gw_103 : Cond.fieldLink RX1 36 "NestedSums$Layout" "rules" "LNestedSums$Numbers;" ∈ GW := List.mem_filter.mpr ⟨List.mem_append_right _ (List.mem_of_getElem? (i := 103) (by decide +kernel)), by decide +kernel⟩
theorem gw_261 : Cond.methodLink RX1 144 yX1_borderRule ∈ GW := List.mem_filter.mpr ⟨List.mem_append_right _ (List.mem_of_getElem? (i := 261) (by decide +kernel)), by decide +kernel⟩
theorem gw_257 : Cond.methodLink RX1 141 yX4_tableWithin ∈ GW := List.mem_filter.mpr ⟨List.mem_append_right _ (List.mem_of_getElem? (i := 257) (by decide +kernel)), by decide +kernel⟩
theorem gw_256 : Cond.code yX1_ruleCells cX1_ruleCells 7 none ∈ GW := List.mem_filter.mpr ⟨List.mem_append_right _ (List.mem_of_getElem? (i := 256) (by decide +kernel)), by decide +kernel⟩
theorem gw_255 : Cond.instanceMethod yX1_ruleCells ∈ GW := List.mem_filter.mpr ⟨List.mem_append_right _ (List.mem_of_getElem? (i := 255) (by decide +kernel)), by decide +kernel⟩
theorem gwp_8 : Cond.selects RX1 yX1_ruleCells yX1_ruleCells ∈ GW := List.mem_filter.mpr ⟨List.mem_append_left _ (List.mem_of_getElem? (i := 8) (by decide +kernel)), by decide +kernel⟩
theorem gw_287 : Cond.code yX5_isBetween cX5_isBetween 3 (some .boolean) ∈ GW := List.mem_filter.mpr ⟨List.mem_append_right _ (List.mem_of_getElem? (i := 287) (by decide +kernel)), by decide +kernel⟩
theorem gw_286 : Cond.static yX5_isBetween ∈ GW := List.mem_filter.mpr ⟨List.mem_append_right _ (List.mem_of_getElem? (i := 286) (by decide +kernel)), by decide +kernel⟩
theorem gw_284 : Cond.code yX4_ownerBeside cX4_ownerBeside 7 (some .int) ∈ GW := List.mem_filter.mpr ⟨List.mem_append_right _ (List.mem_of_getElem? (i := 284) (by decide +kernel)), by decide +kernel⟩
theorem gw_282 : Cond.instanceMethod yX4_ownerBeside ∈ GW := List.mem_filter.mpr ⟨List.mem_append_right _ (List.mem_of_getElem? (i := 282) (by decide +kernel)), by decide +kernel⟩
theorem gw_283 : Cond.selects RX4 yX4_ownerBeside yX4_ownerBeside ∈ GW := List.mem_filter.mpr ⟨List.mem_append_right _ (List.mem_of_getElem? (i := 283) (by decide +kernel)), by decide +kernel⟩
theorem gw_281 : Cond.methodLink RX1 161 yX4_ownerBeside ∈ GW := List.mem_filter.mpr ⟨List.mem_append_right _ (List.mem_of_getElem? (i := 281) (by decide +kernel)), by decide +kernel⟩
theorem gw_280 : Cond.code yX1_edgeRule cX1_edgeRule 7 (some .int) ∈ GW := List.mem_filter.mpr ⟨List.mem_append_right _ (List.mem_of_getElem? (i := 280) (by decide +kernel)), by decide +kernel⟩
theorem gw_279 : Cond.instanceMethod yX1_edgeRule ∈ GW := List.mem_filter.mpr ⟨List.mem_append_right _ (List.mem_of_getElem? (i := 279) (by decide +kernel)), by decide +kernel⟩
theorem gwp_12 : Cond.selects RX1 yX1_edgeRule yX1_edgeRule ∈ GW := List.mem_filter.mpr ⟨List.mem_append_left _ (List.mem_of_getElem? (i := 12) (by decide +kernel)), by decide +kernel⟩
theorem gw_277 : Cond.methodLink RX1 155 yX1_edgeRule ∈ GW := List.mem_filter.mpr ⟨List.mem_append_right _ (List.mem_of_getElem? (i := 277) (by decide +kernel)), by decide +kernel⟩
theorem gw_276 : Cond.code yX1_ruleEdges cX1_ruleEdges 4 none ∈ GW := List.mem_filter.mpr ⟨List.mem_append_right _ (List.mem_of_getElem? (i := 276) (by decide +kernel)), by decide +kernel⟩
theorem gw_275 : Cond.instanceMethod yX1_ruleEdges ∈ GW := List.mem_filter.mpr ⟨List.mem_append_right _ (List.mem_of_getElem? (i := 275) (by decide +kernel)), by decide +kernel⟩
theorem gwp_11 : Cond.selects RX1 yX1_ruleEdges yX1_ruleEdges ∈ GW := List.mem_filter.mpr ⟨List.mem_append_left _ (List.mem_of_getElem? (i := 11) (by decide +kernel)), by decide +kernel⟩
theorem gw_299 : Cond.code yX5_signsOf cX5_signsOf 4 (some .int) ∈ GW := List.mem_filter.mpr ⟨List.mem_append_right _ (List.mem_of_getElem? (i := 299) (by decide +kernel)), by decide +kernel⟩
theorem gw_298 : Cond.static yX5_signsOf ∈ GW := List.mem_filter.mpr ⟨List.mem_append_right _ (List.mem_of_getElem? (i := 298) (by decide +kernel)), by decide +kernel⟩
theorem gw_110 : Cond.fieldLink RX1 48 "NestedSums$Layout" "tableSizes" "LNestedSums$Numbers;" ∈ GW := List.mem_filter.mpr ⟨List.mem_append_right _ (List.mem_of_getElem? (i := 110) (by decide +kernel)), by decide +kernel⟩
theorem gw_296 : Cond.code yX1_wantOf cX1_wantOf 4 (some .int) ∈ GW := List.mem_filter.mpr ⟨List.mem_append_right _ (List.mem_of_getElem? (i := 296) (by decide +kernel)), by decide +kernel⟩
theorem gw_295 : Cond.instanceMethod yX1_wantOf ∈ GW := List.mem_filter.mpr ⟨List.mem_append_right _ (List.mem_of_getElem? (i := 295) (by decide +kernel)), by decide +kernel⟩
theorem gwp_14 : Cond.selects RX1 yX1_wantOf yX1_wantOf ∈ GW := List.mem_filter.mpr ⟨List.mem_append_left _ (List.mem_of_getElem? (i := 14) (by decide +kernel)), by decide +kernel⟩
theorem gw_101 : Cond.fieldLink RX1 33 "NestedSums$Layout" "wants" "LNestedSums$Numbers;" ∈ GW := List.mem_filter.mpr ⟨List.mem_append_right _ (List.mem_of_getElem? (i := 101) (by decide +kernel)), by decide +kernel⟩
theorem gw_293 : Cond.methodLink RX1 164 yX1_wantOf ∈ GW := List.mem_filter.mpr ⟨List.mem_append_right _ (List.mem_of_getElem? (i := 293) (by decide +kernel)), by decide +kernel⟩
theorem gw_292 : Cond.code yX1_wantSizes cX1_wantSizes 4 none ∈ GW := List.mem_filter.mpr ⟨List.mem_append_right _ (List.mem_of_getElem? (i := 292) (by decide +kernel)), by decide +kernel⟩
theorem gw_291 : Cond.instanceMethod yX1_wantSizes ∈ GW := List.mem_filter.mpr ⟨List.mem_append_right _ (List.mem_of_getElem? (i := 291) (by decide +kernel)), by decide +kernel⟩
theorem gwp_13 : Cond.selects RX1 yX1_wantSizes yX1_wantSizes ∈ GW := List.mem_filter.mpr ⟨List.mem_append_left _ (List.mem_of_getElem? (i := 13) (by decide +kernel)), by decide +kernel⟩
theorem gw_307 : Cond.code yX4_spanOf cX4_spanOf 3 (some .int) ∈ GW := List.mem_filter.mpr ⟨List.mem_append_right _ (List.mem_of_getElem? (i := 307) (by decide +kernel)), by decide +kernel⟩
theorem gw_305 : Cond.instanceMethod yX4_spanOf ∈ GW := List.mem_filter.mpr ⟨List.mem_append_right _ (List.mem_of_getElem? (i := 305) (by decide +kernel)), by decide +kernel⟩
theorem gw_306 : Cond.selects RX4 yX4_spanOf yX4_spanOf ∈ GW := List.mem_filter.mpr ⟨List.mem_append_right _ (List.mem_of_getElem? (i := 306) (by decide +kernel)), by decide +kernel⟩
theorem gw_310 : Cond.code yX1_sizePlace cX1_sizePlace 3 (some .int) ∈ GW := List.mem_filter.mpr ⟨List.mem_append_right _ (List.mem_of_getElem? (i := 310) (by decide +kernel)), by decide +kernel⟩
theorem gw_309 : Cond.static yX1_sizePlace ∈ GW := List.mem_filter.mpr ⟨List.mem_append_right _ (List.mem_of_getElem? (i := 309) (by decide +kernel)), by decide +kernel⟩
theorem gw_304 : Cond.methodLink RX1 170 yX4_spanOf ∈ GW := List.mem_filter.mpr ⟨List.mem_append_right _ (List.mem_of_getElem? (i := 304) (by decide +kernel)), by decide +kernel⟩
theorem gw_308 : Cond.methodLink RX1 54 yX1_sizePlace ∈ GW := List.mem_filter.mpr ⟨List.mem_append_right _ (List.mem_of_getElem? (i := 308) (by decide +kernel)), by decide +kernel⟩
theorem gw_107 : Cond.fieldLink RX1 42 "NestedSums$Layout" "sizes" "LNestedSums$Numbers;" ∈ GW := List.mem_filter.mpr ⟨List.mem_append_right _ (List.mem_of_getElem? (i := 107) (by decide +kernel)), by decide +kernel⟩
theorem gw_303 : Cond.code yX1_sizeSingles cX1_sizeSingles 5 none ∈ GW := List.mem_filter.mpr ⟨List.mem_append_right _ (List.mem_of_getElem? (i := 303) (by decide +kernel)), by decide +kernel⟩
theorem gw_302 : Cond.instanceMethod yX1_sizeSingles ∈ GW := List.mem_filter.mpr ⟨List.mem_append_right _ (List.mem_of_getElem? (i := 302) (by decide +kernel)), by decide +kernel⟩
theorem gwp_15 : Cond.selects RX1 yX1_sizeSingles yX1_sizeSingles ∈ GW := List.mem_filter.mpr ⟨List.mem_append_left _ (List.mem_of_getElem? (i := 15) (by decide +kernel)), by decide +kernel⟩
theorem gw_322 : Cond.code yX1_sizeOf cX1_sizeOf 4 (some .int) ∈ GW := List.mem_filter.mpr ⟨List.mem_append_right _ (List.mem_of_getElem? (i := 322) (by decide +kernel)), by decide +kernel⟩
theorem gw_320 : Cond.instanceMethod yX1_sizeOf ∈ GW := List.mem_filter.mpr ⟨List.mem_append_right _ (List.mem_of_getElem? (i := 320) (by decide +kernel)), by decide +kernel⟩
theorem gw_321 : Cond.selects RX1 yX1_sizeOf yX1_sizeOf ∈ GW := List.mem_filter.mpr ⟨List.mem_append_right _ (List.mem_of_getElem? (i := 321) (by decide +kernel)), by decide +kernel⟩
theorem gw_319 : Cond.methodLink RX1 176 yX1_sizeOf ∈ GW := List.mem_filter.mpr ⟨List.mem_append_right _ (List.mem_of_getElem? (i := 319) (by decide +kernel)), by decide +kernel⟩
theorem gw_318 : Cond.code yX1_sizeTogether cX1_sizeTogether 7 (some .int) ∈ GW := List.mem_filter.mpr ⟨List.mem_append_right _ (List.mem_of_getElem? (i := 318) (by decide +kernel)), by decide +kernel⟩
theorem gw_317 : Cond.instanceMethod yX1_sizeTogether ∈ GW := List.mem_filter.mpr ⟨List.mem_append_right _ (List.mem_of_getElem? (i := 317) (by decide +kernel)), by decide +kernel⟩
theorem gwp_17 : Cond.selects RX1 yX1_sizeTogether yX1_sizeTogether ∈ GW := List.mem_filter.mpr ⟨List.mem_append_left _ (List.mem_of_getElem? (i := 17) (by decide +kernel)), by decide +kernel⟩
theorem gw_315 : Cond.methodLink RX1 173 yX1_sizeTogether ∈ GW := List.mem_filter.mpr ⟨List.mem_append_right _ (List.mem_of_getElem? (i := 315) (by decide +kernel)), by decide +kernel⟩
theorem gw_314 : Cond.code yX1_sizeSpans cX1_sizeSpans 8 none ∈ GW := List.mem_filter.mpr ⟨List.mem_append_right _ (List.mem_of_getElem? (i := 314) (by decide +kernel)), by decide +kernel⟩
theorem gw_313 : Cond.instanceMethod yX1_sizeSpans ∈ GW := List.mem_filter.mpr ⟨List.mem_append_right _ (List.mem_of_getElem? (i := 313) (by decide +kernel)), by decide +kernel⟩
theorem gwp_16 : Cond.selects RX1 yX1_sizeSpans yX1_sizeSpans ∈ GW := List.mem_filter.mpr ⟨List.mem_append_left _ (List.mem_of_getElem? (i := 16) (by decide +kernel)), by decide +kernel⟩
theorem gw_108 : Cond.fieldLink RX1 45 "NestedSums$Layout" "drawn" "LNestedSums$Numbers;" ∈ GW := List.mem_filter.mpr ⟨List.mem_append_right _ (List.mem_of_getElem? (i := 108) (by decide +kernel)), by decide +kernel⟩
theorem gw_326 : Cond.code yX1_sizeTable cX1_sizeTable 8 none ∈ GW := List.mem_filter.mpr ⟨List.mem_append_right _ (List.mem_of_getElem? (i := 326) (by decide +kernel)), by decide +kernel⟩
theorem gw_325 : Cond.instanceMethod yX1_sizeTable ∈ GW := List.mem_filter.mpr ⟨List.mem_append_right _ (List.mem_of_getElem? (i := 325) (by decide +kernel)), by decide +kernel⟩
theorem gwp_18 : Cond.selects RX1 yX1_sizeTable yX1_sizeTable ∈ GW := List.mem_filter.mpr ⟨List.mem_append_left _ (List.mem_of_getElem? (i := 18) (by decide +kernel)), by decide +kernel⟩
theorem gw_201 : Cond.methodLink RX1 62 yX2_clear ∈ GW := List.mem_filter.mpr ⟨List.mem_append_right _ (List.mem_of_getElem? (i := 201) (by decide +kernel)), by decide +kernel⟩
theorem gw_208 : Cond.methodLink RX1 69 yX1_valueCells ∈ GW := List.mem_filter.mpr ⟨List.mem_append_right _ (List.mem_of_getElem? (i := 208) (by decide +kernel)), by decide +kernel⟩
theorem gw_229 : Cond.methodLink RX1 72 yX1_showNumbers ∈ GW := List.mem_filter.mpr ⟨List.mem_append_right _ (List.mem_of_getElem? (i := 229) (by decide +kernel)), by decide +kernel⟩
theorem gw_253 : Cond.methodLink RX1 75 yX1_ruleCells ∈ GW := List.mem_filter.mpr ⟨List.mem_append_right _ (List.mem_of_getElem? (i := 253) (by decide +kernel)), by decide +kernel⟩
theorem gw_273 : Cond.methodLink RX1 78 yX1_ruleEdges ∈ GW := List.mem_filter.mpr ⟨List.mem_append_right _ (List.mem_of_getElem? (i := 273) (by decide +kernel)), by decide +kernel⟩
theorem gw_289 : Cond.methodLink RX1 81 yX1_wantSizes ∈ GW := List.mem_filter.mpr ⟨List.mem_append_right _ (List.mem_of_getElem? (i := 289) (by decide +kernel)), by decide +kernel⟩
theorem gw_300 : Cond.methodLink RX1 85 yX1_sizeSingles ∈ GW := List.mem_filter.mpr ⟨List.mem_append_right _ (List.mem_of_getElem? (i := 300) (by decide +kernel)), by decide +kernel⟩
theorem gw_311 : Cond.methodLink RX1 88 yX1_sizeSpans ∈ GW := List.mem_filter.mpr ⟨List.mem_append_right _ (List.mem_of_getElem? (i := 311) (by decide +kernel)), by decide +kernel⟩
theorem gw_323 : Cond.methodLink RX1 91 yX1_sizeTable ∈ GW := List.mem_filter.mpr ⟨List.mem_append_right _ (List.mem_of_getElem? (i := 323) (by decide +kernel)), by decide +kernel⟩
theorem gw_200 : Cond.code yX1_measure cX1_measure 3 none ∈ GW := List.mem_filter.mpr ⟨List.mem_append_right _ (List.mem_of_getElem? (i := 200) (by decide +kernel)), by decide +kernel⟩
theorem gw_198 : Cond.instanceMethod yX1_measure ∈ GW := List.mem_filter.mpr ⟨List.mem_append_right _ (List.mem_of_getElem? (i := 198) (by decide +kernel)), by decide +kernel⟩
theorem gw_199 : Cond.selects RX1 yX1_measure yX1_measure ∈ GW := List.mem_filter.mpr ⟨List.mem_append_right _ (List.mem_of_getElem? (i := 199) (by decide +kernel)), by decide +kernel⟩
theorem gw_391 : Cond.methodLink RX5 95 yX5_isBetween ∈ GW := List.mem_filter.mpr ⟨List.mem_append_right _ (List.mem_of_getElem? (i := 391) (by decide +kernel)), by decide +kernel⟩
theorem gw_13 : Cond.initialized "java/lang/IllegalArgumentException" ∈ GW := List.mem_filter.mpr ⟨List.mem_append_right _ (List.mem_of_getElem? (i := 13) (by decide +kernel)), by decide +kernel⟩
theorem gw_392 : Cond.classLink RX5 86 "java/lang/IllegalArgumentException" ∈ GW := List.mem_filter.mpr ⟨List.mem_append_right _ (List.mem_of_getElem? (i := 392) (by decide +kernel)), by decide +kernel⟩
theorem gw_390 : Cond.code yX5_requireBetween cX5_requireBetween 3 none ∈ GW := List.mem_filter.mpr ⟨List.mem_append_right _ (List.mem_of_getElem? (i := 390) (by decide +kernel)), by decide +kernel⟩
theorem gw_389 : Cond.static yX5_requireBetween ∈ GW := List.mem_filter.mpr ⟨List.mem_append_right _ (List.mem_of_getElem? (i := 389) (by decide +kernel)), by decide +kernel⟩
theorem gw_388 : Cond.methodLink RX5 112 yX5_requireBetween ∈ GW := List.mem_filter.mpr ⟨List.mem_append_right _ (List.mem_of_getElem? (i := 388) (by decide +kernel)), by decide +kernel⟩
theorem gw_594 : Cond.code yX5_requireLines cX5_requireLines 2 none ∈ GW := List.mem_filter.mpr ⟨List.mem_append_right _ (List.mem_of_getElem? (i := 594) (by decide +kernel)), by decide +kernel⟩
theorem gw_593 : Cond.static yX5_requireLines ∈ GW := List.mem_filter.mpr ⟨List.mem_append_right _ (List.mem_of_getElem? (i := 593) (by decide +kernel)), by decide +kernel⟩
theorem gw_147 : Cond.fieldLink RX0 22 "NestedSums$History" "oldest" "I" ∈ GW := List.mem_filter.mpr ⟨List.mem_append_right _ (List.mem_of_getElem? (i := 147) (by decide +kernel)), by decide +kernel⟩
theorem inGW_0 : ∀ w ∈ u_ws RX0 TX0 3, w ∈ GW := by
  have h1 : ∀ w ∈ u_ws RX0 TX0 3, w ∈ tables_1 := by decide +kernel
  have h2 : ∀ w ∈ u_ws RX0 TX0 3, goodWord w = true := by decide +kernel
  exact fun w hw => List.mem_filter.mpr ⟨List.mem_append_right _ (h1 w hw), h2 w hw⟩
theorem gw_146 : Cond.fieldLink RX0 11 "NestedSums$History" "sheets" "[LNestedSums$Sheet;" ∈ GW := List.mem_filter.mpr ⟨List.mem_append_right _ (List.mem_of_getElem? (i := 146) (by decide +kernel)), by decide +kernel⟩
theorem gw_602 : Cond.code yX0_sheetAt cX0_sheetAt 3 (some (.object "NestedSums$Sheet")) ∈ GW := List.mem_filter.mpr ⟨List.mem_append_right _ (List.mem_of_getElem? (i := 602) (by decide +kernel)), by decide +kernel⟩
theorem gw_6 : Cond.initialized RX0 ∈ GW := List.mem_filter.mpr ⟨List.mem_append_right _ (List.mem_of_getElem? (i := 6) (by decide +kernel)), by decide +kernel⟩
theorem gw_601 : Cond.instanceMethod yX0_sheetAt ∈ GW := List.mem_filter.mpr ⟨List.mem_append_right _ (List.mem_of_getElem? (i := 601) (by decide +kernel)), by decide +kernel⟩
theorem gwp_29 : Cond.selects RX0 yX0_sheetAt yX0_sheetAt ∈ GW := List.mem_filter.mpr ⟨List.mem_append_left _ (List.mem_of_getElem? (i := 29) (by decide +kernel)), by decide +kernel⟩
theorem gw_553 : Cond.methodLink RX2 19 Lib.Math.min.name ∈ GW := List.mem_filter.mpr ⟨List.mem_append_right _ (List.mem_of_getElem? (i := 553) (by decide +kernel)), by decide +kernel⟩
theorem gw_554 : Cond.static Lib.Math.min.name ∈ GW := List.mem_filter.mpr ⟨List.mem_append_right _ (List.mem_of_getElem? (i := 554) (by decide +kernel)), by decide +kernel⟩
theorem gw_555 : Cond.code Lib.Math.min.name Lib.Math.min.code 2 (some .int) ∈ GW := List.mem_filter.mpr ⟨List.mem_append_right _ (List.mem_of_getElem? (i := 555) (by decide +kernel)), by decide +kernel⟩
theorem gw_556 : Cond.methodLink RX2 22 arraycopyName ∈ GW := List.mem_filter.mpr ⟨List.mem_append_right _ (List.mem_of_getElem? (i := 556) (by decide +kernel)), by decide +kernel⟩
theorem gw_558 : Cond.native arraycopyName ∈ GW := List.mem_filter.mpr ⟨List.mem_append_right _ (List.mem_of_getElem? (i := 558) (by decide +kernel)), by decide +kernel⟩
theorem gw_557 : Cond.static arraycopyName ∈ GW := List.mem_filter.mpr ⟨List.mem_append_right _ (List.mem_of_getElem? (i := 557) (by decide +kernel)), by decide +kernel⟩
theorem gw_14 : Cond.initialized RJ10 ∈ GW := List.mem_filter.mpr ⟨List.mem_append_right _ (List.mem_of_getElem? (i := 14) (by decide +kernel)), by decide +kernel⟩
theorem gw_552 : Cond.code yX2_copyFrom cX2_copyFrom 2 none ∈ GW := List.mem_filter.mpr ⟨List.mem_append_right _ (List.mem_of_getElem? (i := 552) (by decide +kernel)), by decide +kernel⟩
theorem gw_550 : Cond.instanceMethod yX2_copyFrom ∈ GW := List.mem_filter.mpr ⟨List.mem_append_right _ (List.mem_of_getElem? (i := 550) (by decide +kernel)), by decide +kernel⟩
theorem gw_551 : Cond.selects RX2 yX2_copyFrom yX2_copyFrom ∈ GW := List.mem_filter.mpr ⟨List.mem_append_right _ (List.mem_of_getElem? (i := 551) (by decide +kernel)), by decide +kernel⟩
theorem gw_53 : Cond.fieldLink RX4 9 "NestedSums$Sheet" "pageHeight" "I" ∈ GW := List.mem_filter.mpr ⟨List.mem_append_right _ (List.mem_of_getElem? (i := 53) (by decide +kernel)), by decide +kernel⟩
theorem gw_549 : Cond.methodLink RX4 45 yX2_copyFrom ∈ GW := List.mem_filter.mpr ⟨List.mem_append_right _ (List.mem_of_getElem? (i := 549) (by decide +kernel)), by decide +kernel⟩
theorem gw_548 : Cond.code yX4_copyFrom cX4_copyFrom 2 none ∈ GW := List.mem_filter.mpr ⟨List.mem_append_right _ (List.mem_of_getElem? (i := 548) (by decide +kernel)), by decide +kernel⟩
theorem gw_546 : Cond.instanceMethod yX4_copyFrom ∈ GW := List.mem_filter.mpr ⟨List.mem_append_right _ (List.mem_of_getElem? (i := 546) (by decide +kernel)), by decide +kernel⟩
theorem gw_547 : Cond.selects RX4 yX4_copyFrom yX4_copyFrom ∈ GW := List.mem_filter.mpr ⟨List.mem_append_right _ (List.mem_of_getElem? (i := 547) (by decide +kernel)), by decide +kernel⟩
theorem gw_148 : Cond.fieldLink RX0 18 "NestedSums$History" "saved" "I" ∈ GW := List.mem_filter.mpr ⟨List.mem_append_right _ (List.mem_of_getElem? (i := 148) (by decide +kernel)), by decide +kernel⟩
theorem gw_599 : Cond.methodLink RX0 25 yX0_sheetAt ∈ GW := List.mem_filter.mpr ⟨List.mem_append_right _ (List.mem_of_getElem? (i := 599) (by decide +kernel)), by decide +kernel⟩
theorem gw_603 : Cond.methodLink RX0 29 yX4_copyFrom ∈ GW := List.mem_filter.mpr ⟨List.mem_append_right _ (List.mem_of_getElem? (i := 603) (by decide +kernel)), by decide +kernel⟩
theorem gw_598 : Cond.code yX0_save cX0_save 3 none ∈ GW := List.mem_filter.mpr ⟨List.mem_append_right _ (List.mem_of_getElem? (i := 598) (by decide +kernel)), by decide +kernel⟩
theorem gw_596 : Cond.instanceMethod yX0_save ∈ GW := List.mem_filter.mpr ⟨List.mem_append_right _ (List.mem_of_getElem? (i := 596) (by decide +kernel)), by decide +kernel⟩
theorem gw_597 : Cond.selects RX0 yX0_save yX0_save ∈ GW := List.mem_filter.mpr ⟨List.mem_append_right _ (List.mem_of_getElem? (i := 597) (by decide +kernel)), by decide +kernel⟩
theorem gw_592 : Cond.methodLink RX5 47 yX5_requireLines ∈ GW := List.mem_filter.mpr ⟨List.mem_append_right _ (List.mem_of_getElem? (i := 592) (by decide +kernel)), by decide +kernel⟩
theorem gw_330 : Cond.fieldLink RX5 27 "NestedSums" "history" "LNestedSums$History;" ∈ GW := List.mem_filter.mpr ⟨List.mem_append_right _ (List.mem_of_getElem? (i := 330) (by decide +kernel)), by decide +kernel⟩
theorem inGW_5 : ∀ w ∈ u_ws RX5 TX5 5, w ∈ GW := by
  have h1 : ∀ w ∈ u_ws RX5 TX5 5, w ∈ tables_1 := by decide +kernel
  have h2 : ∀ w ∈ u_ws RX5 TX5 5, goodWord w = true := by decide +kernel
  exact fun w hw => List.mem_filter.mpr ⟨List.mem_append_right _ (h1 w hw), h2 w hw⟩
theorem gw_328 : Cond.fieldLink RX5 20 "NestedSums" "sheet" "LNestedSums$Sheet;" ∈ GW := List.mem_filter.mpr ⟨List.mem_append_right _ (List.mem_of_getElem? (i := 328) (by decide +kernel)), by decide +kernel⟩
theorem gw_595 : Cond.methodLink RX5 50 yX0_save ∈ GW := List.mem_filter.mpr ⟨List.mem_append_right _ (List.mem_of_getElem? (i := 595) (by decide +kernel)), by decide +kernel⟩
theorem gw_174 : Cond.methodLink RX5 38 yX4_startAnew ∈ GW := List.mem_filter.mpr ⟨List.mem_append_right _ (List.mem_of_getElem? (i := 174) (by decide +kernel)), by decide +kernel⟩
theorem gw_327 : Cond.fieldLink RX5 12 "NestedSums" "layout" "LNestedSums$Layout;" ∈ GW := List.mem_filter.mpr ⟨List.mem_append_right _ (List.mem_of_getElem? (i := 327) (by decide +kernel)), by decide +kernel⟩
theorem gw_197 : Cond.methodLink RX5 44 yX1_measure ∈ GW := List.mem_filter.mpr ⟨List.mem_append_right _ (List.mem_of_getElem? (i := 197) (by decide +kernel)), by decide +kernel⟩
theorem gw_591 : Cond.code yX5_begin cX5_begin 3 (some .int) ∈ GW := List.mem_filter.mpr ⟨List.mem_append_right _ (List.mem_of_getElem? (i := 591) (by decide +kernel)), by decide +kernel⟩
theorem gw_589 : Cond.instanceMethod yX5_begin ∈ GW := List.mem_filter.mpr ⟨List.mem_append_right _ (List.mem_of_getElem? (i := 589) (by decide +kernel)), by decide +kernel⟩
theorem gw_590 : Cond.selects RX5 yX5_begin yX5_begin ∈ GW := List.mem_filter.mpr ⟨List.mem_append_right _ (List.mem_of_getElem? (i := 590) (by decide +kernel)), by decide +kernel⟩
theorem gw_500 : Cond.code yX4_hasTable cX4_hasTable 2 (some .boolean) ∈ GW := List.mem_filter.mpr ⟨List.mem_append_right _ (List.mem_of_getElem? (i := 500) (by decide +kernel)), by decide +kernel⟩
theorem gw_498 : Cond.instanceMethod yX4_hasTable ∈ GW := List.mem_filter.mpr ⟨List.mem_append_right _ (List.mem_of_getElem? (i := 498) (by decide +kernel)), by decide +kernel⟩
theorem gw_499 : Cond.selects RX4 yX4_hasTable yX4_hasTable ∈ GW := List.mem_filter.mpr ⟨List.mem_append_right _ (List.mem_of_getElem? (i := 499) (by decide +kernel)), by decide +kernel⟩
theorem gw_497 : Cond.methodLink RX4 68 yX4_hasTable ∈ GW := List.mem_filter.mpr ⟨List.mem_append_right _ (List.mem_of_getElem? (i := 497) (by decide +kernel)), by decide +kernel⟩
theorem gw_476 : Cond.methodLink RX4 72 yX4_linesOf ∈ GW := List.mem_filter.mpr ⟨List.mem_append_right _ (List.mem_of_getElem? (i := 476) (by decide +kernel)), by decide +kernel⟩
theorem gw_496 : Cond.code yX4_squareAt cX4_squareAt 5 (some .int) ∈ GW := List.mem_filter.mpr ⟨List.mem_append_right _ (List.mem_of_getElem? (i := 496) (by decide +kernel)), by decide +kernel⟩
theorem gw_494 : Cond.instanceMethod yX4_squareAt ∈ GW := List.mem_filter.mpr ⟨List.mem_append_right _ (List.mem_of_getElem? (i := 494) (by decide +kernel)), by decide +kernel⟩
theorem gw_495 : Cond.selects RX4 yX4_squareAt yX4_squareAt ∈ GW := List.mem_filter.mpr ⟨List.mem_append_right _ (List.mem_of_getElem? (i := 495) (by decide +kernel)), by decide +kernel⟩
theorem gw_493 : Cond.methodLink RX5 99 yX4_squareAt ∈ GW := List.mem_filter.mpr ⟨List.mem_append_right _ (List.mem_of_getElem? (i := 493) (by decide +kernel)), by decide +kernel⟩
theorem gw_15 : Cond.initialized "java/lang/IndexOutOfBoundsException" ∈ GW := List.mem_filter.mpr ⟨List.mem_append_right _ (List.mem_of_getElem? (i := 15) (by decide +kernel)), by decide +kernel⟩
theorem gw_525 : Cond.classLink RX5 102 "java/lang/IndexOutOfBoundsException" ∈ GW := List.mem_filter.mpr ⟨List.mem_append_right _ (List.mem_of_getElem? (i := 525) (by decide +kernel)), by decide +kernel⟩
theorem gw_616 : Cond.code yX5_requireSquare cX5_requireSquare 5 (some .int) ∈ GW := List.mem_filter.mpr ⟨List.mem_append_right _ (List.mem_of_getElem? (i := 616) (by decide +kernel)), by decide +kernel⟩
theorem gw_615 : Cond.instanceMethod yX5_requireSquare ∈ GW := List.mem_filter.mpr ⟨List.mem_append_right _ (List.mem_of_getElem? (i := 615) (by decide +kernel)), by decide +kernel⟩
theorem gwp_30 : Cond.selects RX5 yX5_requireSquare yX5_requireSquare ∈ GW := List.mem_filter.mpr ⟨List.mem_append_left _ (List.mem_of_getElem? (i := 30) (by decide +kernel)), by decide +kernel⟩
theorem gw_635 : Cond.code yX4_addTable cX4_addTable 5 (some .int) ∈ GW := List.mem_filter.mpr ⟨List.mem_append_right _ (List.mem_of_getElem? (i := 635) (by decide +kernel)), by decide +kernel⟩
theorem gw_633 : Cond.instanceMethod yX4_addTable ∈ GW := List.mem_filter.mpr ⟨List.mem_append_right _ (List.mem_of_getElem? (i := 633) (by decide +kernel)), by decide +kernel⟩
theorem gw_634 : Cond.selects RX4 yX4_addTable yX4_addTable ∈ GW := List.mem_filter.mpr ⟨List.mem_append_right _ (List.mem_of_getElem? (i := 634) (by decide +kernel)), by decide +kernel⟩
theorem gw_613 : Cond.methodLink RX5 54 yX5_requireSquare ∈ GW := List.mem_filter.mpr ⟨List.mem_append_right _ (List.mem_of_getElem? (i := 613) (by decide +kernel)), by decide +kernel⟩
theorem gw_509 : Cond.methodLink RX5 58 yX4_isCell ∈ GW := List.mem_filter.mpr ⟨List.mem_append_right _ (List.mem_of_getElem? (i := 509) (by decide +kernel)), by decide +kernel⟩
theorem gw_16 : Cond.initialized "java/lang/IllegalStateException" ∈ GW := List.mem_filter.mpr ⟨List.mem_append_right _ (List.mem_of_getElem? (i := 16) (by decide +kernel)), by decide +kernel⟩
theorem gw_617 : Cond.classLink RX5 76 "java/lang/IllegalStateException" ∈ GW := List.mem_filter.mpr ⟨List.mem_append_right _ (List.mem_of_getElem? (i := 617) (by decide +kernel)), by decide +kernel⟩
theorem gw_490 : Cond.methodLink RX5 66 yX2_at ∈ GW := List.mem_filter.mpr ⟨List.mem_append_right _ (List.mem_of_getElem? (i := 490) (by decide +kernel)), by decide +kernel⟩
theorem gw_632 : Cond.methodLink RX5 79 yX4_addTable ∈ GW := List.mem_filter.mpr ⟨List.mem_append_right _ (List.mem_of_getElem? (i := 632) (by decide +kernel)), by decide +kernel⟩
theorem gw_612 : Cond.code yX5_nest cX5_nest 8 (some .int) ∈ GW := List.mem_filter.mpr ⟨List.mem_append_right _ (List.mem_of_getElem? (i := 612) (by decide +kernel)), by decide +kernel⟩
theorem gw_610 : Cond.instanceMethod yX5_nest ∈ GW := List.mem_filter.mpr ⟨List.mem_append_right _ (List.mem_of_getElem? (i := 610) (by decide +kernel)), by decide +kernel⟩
theorem gw_611 : Cond.selects RX5 yX5_nest yX5_nest ∈ GW := List.mem_filter.mpr ⟨List.mem_append_right _ (List.mem_of_getElem? (i := 611) (by decide +kernel)), by decide +kernel⟩
theorem gw_516 : Cond.methodLink RX5 232 yX5_isSum ∈ GW := List.mem_filter.mpr ⟨List.mem_append_right _ (List.mem_of_getElem? (i := 516) (by decide +kernel)), by decide +kernel⟩
theorem gw_645 : Cond.code yX5_isContent cX5_isContent 2 (some .boolean) ∈ GW := List.mem_filter.mpr ⟨List.mem_append_right _ (List.mem_of_getElem? (i := 645) (by decide +kernel)), by decide +kernel⟩
theorem gw_644 : Cond.static yX5_isContent ∈ GW := List.mem_filter.mpr ⟨List.mem_append_right _ (List.mem_of_getElem? (i := 644) (by decide +kernel)), by decide +kernel⟩
theorem gw_374 : Cond.methodLink RX4 86 yX4_isCell ∈ GW := List.mem_filter.mpr ⟨List.mem_append_right _ (List.mem_of_getElem? (i := 374) (by decide +kernel)), by decide +kernel⟩
theorem gw_649 : Cond.code yX4_canFill cX4_canFill 2 (some .boolean) ∈ GW := List.mem_filter.mpr ⟨List.mem_append_right _ (List.mem_of_getElem? (i := 649) (by decide +kernel)), by decide +kernel⟩
theorem gw_647 : Cond.instanceMethod yX4_canFill ∈ GW := List.mem_filter.mpr ⟨List.mem_append_right _ (List.mem_of_getElem? (i := 647) (by decide +kernel)), by decide +kernel⟩
theorem gw_648 : Cond.selects RX4 yX4_canFill yX4_canFill ∈ GW := List.mem_filter.mpr ⟨List.mem_append_right _ (List.mem_of_getElem? (i := 648) (by decide +kernel)), by decide +kernel⟩
theorem gw_562 : Cond.code yX4_fill cX4_fill 5 (some .int) ∈ GW := List.mem_filter.mpr ⟨List.mem_append_right _ (List.mem_of_getElem? (i := 562) (by decide +kernel)), by decide +kernel⟩
theorem gw_560 : Cond.instanceMethod yX4_fill ∈ GW := List.mem_filter.mpr ⟨List.mem_append_right _ (List.mem_of_getElem? (i := 560) (by decide +kernel)), by decide +kernel⟩
theorem gw_561 : Cond.selects RX4 yX4_fill yX4_fill ∈ GW := List.mem_filter.mpr ⟨List.mem_append_right _ (List.mem_of_getElem? (i := 561) (by decide +kernel)), by decide +kernel⟩
theorem gw_643 : Cond.methodLink RX5 82 yX5_isContent ∈ GW := List.mem_filter.mpr ⟨List.mem_append_right _ (List.mem_of_getElem? (i := 643) (by decide +kernel)), by decide +kernel⟩
theorem gw_646 : Cond.methodLink RX5 89 yX4_canFill ∈ GW := List.mem_filter.mpr ⟨List.mem_append_right _ (List.mem_of_getElem? (i := 646) (by decide +kernel)), by decide +kernel⟩
theorem gw_559 : Cond.methodLink RX5 92 yX4_fill ∈ GW := List.mem_filter.mpr ⟨List.mem_append_right _ (List.mem_of_getElem? (i := 559) (by decide +kernel)), by decide +kernel⟩
theorem gw_642 : Cond.code yX5_put cX5_put 8 (some .int) ∈ GW := List.mem_filter.mpr ⟨List.mem_append_right _ (List.mem_of_getElem? (i := 642) (by decide +kernel)), by decide +kernel⟩
theorem gw_640 : Cond.instanceMethod yX5_put ∈ GW := List.mem_filter.mpr ⟨List.mem_append_right _ (List.mem_of_getElem? (i := 640) (by decide +kernel)), by decide +kernel⟩
theorem gw_641 : Cond.selects RX5 yX5_put yX5_put ∈ GW := List.mem_filter.mpr ⟨List.mem_append_right _ (List.mem_of_getElem? (i := 641) (by decide +kernel)), by decide +kernel⟩
theorem gw_665 : Cond.methodLink RX4 92 yX4_spanOf ∈ GW := List.mem_filter.mpr ⟨List.mem_append_right _ (List.mem_of_getElem? (i := 665) (by decide +kernel)), by decide +kernel⟩
theorem gw_664 : Cond.code yX4_isSingleEmpty cX4_isSingleEmpty 2 (some .boolean) ∈ GW := List.mem_filter.mpr ⟨List.mem_append_right _ (List.mem_of_getElem? (i := 664) (by decide +kernel)), by decide +kernel⟩
theorem gw_663 : Cond.instanceMethod yX4_isSingleEmpty ∈ GW := List.mem_filter.mpr ⟨List.mem_append_right _ (List.mem_of_getElem? (i := 663) (by decide +kernel)), by decide +kernel⟩
theorem gwp_31 : Cond.selects RX4 yX4_isSingleEmpty yX4_isSingleEmpty ∈ GW := List.mem_filter.mpr ⟨List.mem_append_left _ (List.mem_of_getElem? (i := 31) (by decide +kernel)), by decide +kernel⟩
theorem gw_661 : Cond.methodLink RX4 89 yX4_isSingleEmpty ∈ GW := List.mem_filter.mpr ⟨List.mem_append_right _ (List.mem_of_getElem? (i := 661) (by decide +kernel)), by decide +kernel⟩
theorem gw_660 : Cond.code yX4_canCover cX4_canCover 7 (some .boolean) ∈ GW := List.mem_filter.mpr ⟨List.mem_append_right _ (List.mem_of_getElem? (i := 660) (by decide +kernel)), by decide +kernel⟩
theorem gw_658 : Cond.instanceMethod yX4_canCover ∈ GW := List.mem_filter.mpr ⟨List.mem_append_right _ (List.mem_of_getElem? (i := 658) (by decide +kernel)), by decide +kernel⟩
theorem gw_659 : Cond.selects RX4 yX4_canCover yX4_canCover ∈ GW := List.mem_filter.mpr ⟨List.mem_append_right _ (List.mem_of_getElem? (i := 659) (by decide +kernel)), by decide +kernel⟩
theorem gw_673 : Cond.code yX4_giveSquares cX4_giveSquares 8 none ∈ GW := List.mem_filter.mpr ⟨List.mem_append_right _ (List.mem_of_getElem? (i := 673) (by decide +kernel)), by decide +kernel⟩
theorem gw_672 : Cond.instanceMethod yX4_giveSquares ∈ GW := List.mem_filter.mpr ⟨List.mem_append_right _ (List.mem_of_getElem? (i := 672) (by decide +kernel)), by decide +kernel⟩
theorem gwp_32 : Cond.selects RX4 yX4_giveSquares yX4_giveSquares ∈ GW := List.mem_filter.mpr ⟨List.mem_append_left _ (List.mem_of_getElem? (i := 32) (by decide +kernel)), by decide +kernel⟩
theorem gw_670 : Cond.methodLink RX4 95 yX4_giveSquares ∈ GW := List.mem_filter.mpr ⟨List.mem_append_right _ (List.mem_of_getElem? (i := 670) (by decide +kernel)), by decide +kernel⟩
theorem gw_669 : Cond.code yX4_cover cX4_cover 4 none ∈ GW := List.mem_filter.mpr ⟨List.mem_append_right _ (List.mem_of_getElem? (i := 669) (by decide +kernel)), by decide +kernel⟩
theorem gw_667 : Cond.instanceMethod yX4_cover ∈ GW := List.mem_filter.mpr ⟨List.mem_append_right _ (List.mem_of_getElem? (i := 667) (by decide +kernel)), by decide +kernel⟩
theorem gw_668 : Cond.selects RX4 yX4_cover yX4_cover ∈ GW := List.mem_filter.mpr ⟨List.mem_append_right _ (List.mem_of_getElem? (i := 668) (by decide +kernel)), by decide +kernel⟩
theorem gw_657 : Cond.methodLink RX5 105 yX4_canCover ∈ GW := List.mem_filter.mpr ⟨List.mem_append_right _ (List.mem_of_getElem? (i := 657) (by decide +kernel)), by decide +kernel⟩
theorem gw_666 : Cond.methodLink RX5 108 yX4_cover ∈ GW := List.mem_filter.mpr ⟨List.mem_append_right _ (List.mem_of_getElem? (i := 666) (by decide +kernel)), by decide +kernel⟩
theorem gw_656 : Cond.code yX5_span cX5_span 8 (some .int) ∈ GW := List.mem_filter.mpr ⟨List.mem_append_right _ (List.mem_of_getElem? (i := 656) (by decide +kernel)), by decide +kernel⟩
theorem gw_654 : Cond.instanceMethod yX5_span ∈ GW := List.mem_filter.mpr ⟨List.mem_append_right _ (List.mem_of_getElem? (i := 654) (by decide +kernel)), by decide +kernel⟩
theorem gw_655 : Cond.selects RX5 yX5_span yX5_span ∈ GW := List.mem_filter.mpr ⟨List.mem_append_right _ (List.mem_of_getElem? (i := 655) (by decide +kernel)), by decide +kernel⟩
theorem gw_681 : Cond.methodLink RX5 118 yX2_store ∈ GW := List.mem_filter.mpr ⟨List.mem_append_right _ (List.mem_of_getElem? (i := 681) (by decide +kernel)), by decide +kernel⟩
theorem gw_680 : Cond.code yX5_rule cX5_rule 9 (some .int) ∈ GW := List.mem_filter.mpr ⟨List.mem_append_right _ (List.mem_of_getElem? (i := 680) (by decide +kernel)), by decide +kernel⟩
theorem gw_678 : Cond.instanceMethod yX5_rule ∈ GW := List.mem_filter.mpr ⟨List.mem_append_right _ (List.mem_of_getElem? (i := 678) (by decide +kernel)), by decide +kernel⟩
theorem gw_679 : Cond.selects RX5 yX5_rule yX5_rule ∈ GW := List.mem_filter.mpr ⟨List.mem_append_right _ (List.mem_of_getElem? (i := 679) (by decide +kernel)), by decide +kernel⟩
theorem gw_688 : Cond.code yX5_set cX5_set 3 (some .int) ∈ GW := List.mem_filter.mpr ⟨List.mem_append_right _ (List.mem_of_getElem? (i := 688) (by decide +kernel)), by decide +kernel⟩
theorem gw_686 : Cond.instanceMethod yX5_set ∈ GW := List.mem_filter.mpr ⟨List.mem_append_right _ (List.mem_of_getElem? (i := 686) (by decide +kernel)), by decide +kernel⟩
theorem gw_687 : Cond.selects RX5 yX5_set yX5_set ∈ GW := List.mem_filter.mpr ⟨List.mem_append_right _ (List.mem_of_getElem? (i := 687) (by decide +kernel)), by decide +kernel⟩
theorem gw_165 : Cond.fieldLink RX3 14 "NestedSums$OrderText" "codes" "LNestedSums$Numbers;" ∈ GW := List.mem_filter.mpr ⟨List.mem_append_right _ (List.mem_of_getElem? (i := 165) (by decide +kernel)), by decide +kernel⟩
theorem inGW_3 : ∀ w ∈ u_ws RX3 TX3 2, w ∈ GW := by
  have h1 : ∀ w ∈ u_ws RX3 TX3 2, w ∈ tables_1 := by decide +kernel
  have h2 : ∀ w ∈ u_ws RX3 TX3 2, goodWord w = true := by decide +kernel
  exact fun w hw => List.mem_filter.mpr ⟨List.mem_append_right _ (h1 w hw), h2 w hw⟩
theorem gw_167 : Cond.fieldLink RX3 20 "NestedSums$OrderText" "length" "I" ∈ GW := List.mem_filter.mpr ⟨List.mem_append_right _ (List.mem_of_getElem? (i := 167) (by decide +kernel)), by decide +kernel⟩
theorem gw_700 : Cond.methodLink RX3 24 yX2_store ∈ GW := List.mem_filter.mpr ⟨List.mem_append_right _ (List.mem_of_getElem? (i := 700) (by decide +kernel)), by decide +kernel⟩
theorem gw_699 : Cond.code yX3_add cX3_add 2 none ∈ GW := List.mem_filter.mpr ⟨List.mem_append_right _ (List.mem_of_getElem? (i := 699) (by decide +kernel)), by decide +kernel⟩
theorem gw_7 : Cond.initialized RX3 ∈ GW := List.mem_filter.mpr ⟨List.mem_append_right _ (List.mem_of_getElem? (i := 7) (by decide +kernel)), by decide +kernel⟩
theorem gw_697 : Cond.instanceMethod yX3_add ∈ GW := List.mem_filter.mpr ⟨List.mem_append_right _ (List.mem_of_getElem? (i := 697) (by decide +kernel)), by decide +kernel⟩
theorem gw_698 : Cond.selects RX3 yX3_add yX3_add ∈ GW := List.mem_filter.mpr ⟨List.mem_append_right _ (List.mem_of_getElem? (i := 698) (by decide +kernel)), by decide +kernel⟩
theorem gw_331 : Cond.fieldLink RX5 34 "NestedSums" "buffer" "LNestedSums$OrderText;" ∈ GW := List.mem_filter.mpr ⟨List.mem_append_right _ (List.mem_of_getElem? (i := 331) (by decide +kernel)), by decide +kernel⟩
theorem gw_696 : Cond.methodLink RX5 127 yX3_add ∈ GW := List.mem_filter.mpr ⟨List.mem_append_right _ (List.mem_of_getElem? (i := 696) (by decide +kernel)), by decide +kernel⟩
theorem gw_695 : Cond.code yX5_append cX5_append 2 (some .int) ∈ GW := List.mem_filter.mpr ⟨List.mem_append_right _ (List.mem_of_getElem? (i := 695) (by decide +kernel)), by decide +kernel⟩
theorem gw_693 : Cond.instanceMethod yX5_append ∈ GW := List.mem_filter.mpr ⟨List.mem_append_right _ (List.mem_of_getElem? (i := 693) (by decide +kernel)), by decide +kernel⟩
theorem gw_694 : Cond.selects RX5 yX5_append yX5_append ∈ GW := List.mem_filter.mpr ⟨List.mem_append_right _ (List.mem_of_getElem? (i := 694) (by decide +kernel)), by decide +kernel⟩
theorem gw_346 : Cond.code yX5_clearBuffer cX5_clearBuffer 2 (some .int) ∈ GW := List.mem_filter.mpr ⟨List.mem_append_right _ (List.mem_of_getElem? (i := 346) (by decide +kernel)), by decide +kernel⟩
theorem gw_344 : Cond.instanceMethod yX5_clearBuffer ∈ GW := List.mem_filter.mpr ⟨List.mem_append_right _ (List.mem_of_getElem? (i := 344) (by decide +kernel)), by decide +kernel⟩
theorem gw_345 : Cond.selects RX5 yX5_clearBuffer yX5_clearBuffer ∈ GW := List.mem_filter.mpr ⟨List.mem_append_right _ (List.mem_of_getElem? (i := 345) (by decide +kernel)), by decide +kernel⟩
theorem gw_362 : Cond.code yX3_afterContent cX3_afterContent 1 (some .int) ∈ GW := List.mem_filter.mpr ⟨List.mem_append_right _ (List.mem_of_getElem? (i := 362) (by decide +kernel)), by decide +kernel⟩
theorem gw_361 : Cond.static yX3_afterContent ∈ GW := List.mem_filter.mpr ⟨List.mem_append_right _ (List.mem_of_getElem? (i := 361) (by decide +kernel)), by decide +kernel⟩
theorem gw_365 : Cond.code yX3_afterFirstDigit cX3_afterFirstDigit 1 (some .int) ∈ GW := List.mem_filter.mpr ⟨List.mem_append_right _ (List.mem_of_getElem? (i := 365) (by decide +kernel)), by decide +kernel⟩
theorem gw_364 : Cond.static yX3_afterFirstDigit ∈ GW := List.mem_filter.mpr ⟨List.mem_append_right _ (List.mem_of_getElem? (i := 364) (by decide +kernel)), by decide +kernel⟩
theorem gw_360 : Cond.methodLink RX3 40 yX3_afterContent ∈ GW := List.mem_filter.mpr ⟨List.mem_append_right _ (List.mem_of_getElem? (i := 360) (by decide +kernel)), by decide +kernel⟩
theorem gw_363 : Cond.methodLink RX3 43 yX3_afterFirstDigit ∈ GW := List.mem_filter.mpr ⟨List.mem_append_right _ (List.mem_of_getElem? (i := 363) (by decide +kernel)), by decide +kernel⟩
theorem gw_358 : Cond.code yX3_expectedAfter cX3_expectedAfter 2 (some .int) ∈ GW := List.mem_filter.mpr ⟨List.mem_append_right _ (List.mem_of_getElem? (i := 358) (by decide +kernel)), by decide +kernel⟩
theorem gw_357 : Cond.static yX3_expectedAfter ∈ GW := List.mem_filter.mpr ⟨List.mem_append_right _ (List.mem_of_getElem? (i := 357) (by decide +kernel)), by decide +kernel⟩
theorem gw_355 : Cond.methodLink RX3 28 yX2_at ∈ GW := List.mem_filter.mpr ⟨List.mem_append_right _ (List.mem_of_getElem? (i := 355) (by decide +kernel)), by decide +kernel⟩
theorem gw_356 : Cond.methodLink RX3 32 yX3_expectedAfter ∈ GW := List.mem_filter.mpr ⟨List.mem_append_right _ (List.mem_of_getElem? (i := 356) (by decide +kernel)), by decide +kernel⟩
theorem gw_354 : Cond.code yX3_firstFault cX3_firstFault 3 (some .int) ∈ GW := List.mem_filter.mpr ⟨List.mem_append_right _ (List.mem_of_getElem? (i := 354) (by decide +kernel)), by decide +kernel⟩
theorem gw_352 : Cond.instanceMethod yX3_firstFault ∈ GW := List.mem_filter.mpr ⟨List.mem_append_right _ (List.mem_of_getElem? (i := 352) (by decide +kernel)), by decide +kernel⟩
theorem gw_353 : Cond.selects RX3 yX3_firstFault yX3_firstFault ∈ GW := List.mem_filter.mpr ⟨List.mem_append_right _ (List.mem_of_getElem? (i := 353) (by decide +kernel)), by decide +kernel⟩
theorem gw_351 : Cond.methodLink RX5 131 yX3_firstFault ∈ GW := List.mem_filter.mpr ⟨List.mem_append_right _ (List.mem_of_getElem? (i := 351) (by decide +kernel)), by decide +kernel⟩
theorem gw_350 : Cond.code yX5_firstError cX5_firstError 1 (some .int) ∈ GW := List.mem_filter.mpr ⟨List.mem_append_right _ (List.mem_of_getElem? (i := 350) (by decide +kernel)), by decide +kernel⟩
theorem gw_348 : Cond.instanceMethod yX5_firstError ∈ GW := List.mem_filter.mpr ⟨List.mem_append_right _ (List.mem_of_getElem? (i := 348) (by decide +kernel)), by decide +kernel⟩
theorem gw_349 : Cond.selects RX5 yX5_firstError yX5_firstError ∈ GW := List.mem_filter.mpr ⟨List.mem_append_right _ (List.mem_of_getElem? (i := 349) (by decide +kernel)), by decide +kernel⟩
theorem gw_711 : Cond.code yX3_isOrders cX3_isOrders 3 (some .boolean) ∈ GW := List.mem_filter.mpr ⟨List.mem_append_right _ (List.mem_of_getElem? (i := 711) (by decide +kernel)), by decide +kernel⟩
theorem gw_709 : Cond.instanceMethod yX3_isOrders ∈ GW := List.mem_filter.mpr ⟨List.mem_append_right _ (List.mem_of_getElem? (i := 709) (by decide +kernel)), by decide +kernel⟩
theorem gw_710 : Cond.selects RX3 yX3_isOrders yX3_isOrders ∈ GW := List.mem_filter.mpr ⟨List.mem_append_right _ (List.mem_of_getElem? (i := 710) (by decide +kernel)), by decide +kernel⟩
theorem gw_715 : Cond.code yX3_isOrderEnd cX3_isOrderEnd 2 (some .boolean) ∈ GW := List.mem_filter.mpr ⟨List.mem_append_right _ (List.mem_of_getElem? (i := 715) (by decide +kernel)), by decide +kernel⟩
theorem gw_713 : Cond.instanceMethod yX3_isOrderEnd ∈ GW := List.mem_filter.mpr ⟨List.mem_append_right _ (List.mem_of_getElem? (i := 713) (by decide +kernel)), by decide +kernel⟩
theorem gw_714 : Cond.selects RX3 yX3_isOrderEnd yX3_isOrderEnd ∈ GW := List.mem_filter.mpr ⟨List.mem_append_right _ (List.mem_of_getElem? (i := 714) (by decide +kernel)), by decide +kernel⟩
theorem gw_723 : Cond.code yX3_tableAt cX3_tableAt 2 (some .int) ∈ GW := List.mem_filter.mpr ⟨List.mem_append_right _ (List.mem_of_getElem? (i := 723) (by decide +kernel)), by decide +kernel⟩
theorem gw_721 : Cond.instanceMethod yX3_tableAt ∈ GW := List.mem_filter.mpr ⟨List.mem_append_right _ (List.mem_of_getElem? (i := 721) (by decide +kernel)), by decide +kernel⟩
theorem gw_722 : Cond.selects RX3 yX3_tableAt yX3_tableAt ∈ GW := List.mem_filter.mpr ⟨List.mem_append_right _ (List.mem_of_getElem? (i := 722) (by decide +kernel)), by decide +kernel⟩
theorem gw_727 : Cond.code yX3_rowAt cX3_rowAt 2 (some .int) ∈ GW := List.mem_filter.mpr ⟨List.mem_append_right _ (List.mem_of_getElem? (i := 727) (by decide +kernel)), by decide +kernel⟩
theorem gw_725 : Cond.instanceMethod yX3_rowAt ∈ GW := List.mem_filter.mpr ⟨List.mem_append_right _ (List.mem_of_getElem? (i := 725) (by decide +kernel)), by decide +kernel⟩
theorem gw_726 : Cond.selects RX3 yX3_rowAt yX3_rowAt ∈ GW := List.mem_filter.mpr ⟨List.mem_append_right _ (List.mem_of_getElem? (i := 726) (by decide +kernel)), by decide +kernel⟩
theorem gw_731 : Cond.code yX3_columnAt cX3_columnAt 2 (some .int) ∈ GW := List.mem_filter.mpr ⟨List.mem_append_right _ (List.mem_of_getElem? (i := 731) (by decide +kernel)), by decide +kernel⟩
theorem gw_729 : Cond.instanceMethod yX3_columnAt ∈ GW := List.mem_filter.mpr ⟨List.mem_append_right _ (List.mem_of_getElem? (i := 729) (by decide +kernel)), by decide +kernel⟩
theorem gw_730 : Cond.selects RX3 yX3_columnAt yX3_columnAt ∈ GW := List.mem_filter.mpr ⟨List.mem_append_right _ (List.mem_of_getElem? (i := 730) (by decide +kernel)), by decide +kernel⟩
theorem gw_735 : Cond.code yX3_kindAt cX3_kindAt 2 (some .int) ∈ GW := List.mem_filter.mpr ⟨List.mem_append_right _ (List.mem_of_getElem? (i := 735) (by decide +kernel)), by decide +kernel⟩
theorem gw_733 : Cond.instanceMethod yX3_kindAt ∈ GW := List.mem_filter.mpr ⟨List.mem_append_right _ (List.mem_of_getElem? (i := 733) (by decide +kernel)), by decide +kernel⟩
theorem gw_734 : Cond.selects RX3 yX3_kindAt yX3_kindAt ∈ GW := List.mem_filter.mpr ⟨List.mem_append_right _ (List.mem_of_getElem? (i := 734) (by decide +kernel)), by decide +kernel⟩
theorem gw_739 : Cond.code yX3_numberAt cX3_numberAt 5 (some .int) ∈ GW := List.mem_filter.mpr ⟨List.mem_append_right _ (List.mem_of_getElem? (i := 739) (by decide +kernel)), by decide +kernel⟩
theorem gw_737 : Cond.instanceMethod yX3_numberAt ∈ GW := List.mem_filter.mpr ⟨List.mem_append_right _ (List.mem_of_getElem? (i := 737) (by decide +kernel)), by decide +kernel⟩
theorem gw_738 : Cond.selects RX3 yX3_numberAt yX3_numberAt ∈ GW := List.mem_filter.mpr ⟨List.mem_append_right _ (List.mem_of_getElem? (i := 738) (by decide +kernel)), by decide +kernel⟩
theorem gw_720 : Cond.methodLink RX5 235 yX3_tableAt ∈ GW := List.mem_filter.mpr ⟨List.mem_append_right _ (List.mem_of_getElem? (i := 720) (by decide +kernel)), by decide +kernel⟩
theorem gw_724 : Cond.methodLink RX5 238 yX3_rowAt ∈ GW := List.mem_filter.mpr ⟨List.mem_append_right _ (List.mem_of_getElem? (i := 724) (by decide +kernel)), by decide +kernel⟩
theorem gw_728 : Cond.methodLink RX5 241 yX3_columnAt ∈ GW := List.mem_filter.mpr ⟨List.mem_append_right _ (List.mem_of_getElem? (i := 728) (by decide +kernel)), by decide +kernel⟩
theorem gw_732 : Cond.methodLink RX5 244 yX3_kindAt ∈ GW := List.mem_filter.mpr ⟨List.mem_append_right _ (List.mem_of_getElem? (i := 732) (by decide +kernel)), by decide +kernel⟩
theorem gw_736 : Cond.methodLink RX5 247 yX3_numberAt ∈ GW := List.mem_filter.mpr ⟨List.mem_append_right _ (List.mem_of_getElem? (i := 736) (by decide +kernel)), by decide +kernel⟩
theorem gw_719 : Cond.code yX5_fillByOrder cX5_fillByOrder 6 (some .boolean) ∈ GW := List.mem_filter.mpr ⟨List.mem_append_right _ (List.mem_of_getElem? (i := 719) (by decide +kernel)), by decide +kernel⟩
theorem gw_718 : Cond.instanceMethod yX5_fillByOrder ∈ GW := List.mem_filter.mpr ⟨List.mem_append_right _ (List.mem_of_getElem? (i := 718) (by decide +kernel)), by decide +kernel⟩
theorem gwp_33 : Cond.selects RX5 yX5_fillByOrder yX5_fillByOrder ∈ GW := List.mem_filter.mpr ⟨List.mem_append_left _ (List.mem_of_getElem? (i := 33) (by decide +kernel)), by decide +kernel⟩
theorem gw_708 : Cond.methodLink RX5 135 yX3_isOrders ∈ GW := List.mem_filter.mpr ⟨List.mem_append_right _ (List.mem_of_getElem? (i := 708) (by decide +kernel)), by decide +kernel⟩
theorem gw_712 : Cond.methodLink RX5 139 yX3_isOrderEnd ∈ GW := List.mem_filter.mpr ⟨List.mem_append_right _ (List.mem_of_getElem? (i := 712) (by decide +kernel)), by decide +kernel⟩
theorem gw_716 : Cond.methodLink RX5 142 yX5_fillByOrder ∈ GW := List.mem_filter.mpr ⟨List.mem_append_right _ (List.mem_of_getElem? (i := 716) (by decide +kernel)), by decide +kernel⟩
theorem gw_707 : Cond.code yX5_run cX5_run 4 (some .int) ∈ GW := List.mem_filter.mpr ⟨List.mem_append_right _ (List.mem_of_getElem? (i := 707) (by decide +kernel)), by decide +kernel⟩
theorem gw_705 : Cond.instanceMethod yX5_run ∈ GW := List.mem_filter.mpr ⟨List.mem_append_right _ (List.mem_of_getElem? (i := 705) (by decide +kernel)), by decide +kernel⟩
theorem gw_706 : Cond.selects RX5 yX5_run yX5_run ∈ GW := List.mem_filter.mpr ⟨List.mem_append_right _ (List.mem_of_getElem? (i := 706) (by decide +kernel)), by decide +kernel⟩
theorem gw_750 : Cond.code yX0_takeBack cX0_takeBack 3 none ∈ GW := List.mem_filter.mpr ⟨List.mem_append_right _ (List.mem_of_getElem? (i := 750) (by decide +kernel)), by decide +kernel⟩
theorem gw_748 : Cond.instanceMethod yX0_takeBack ∈ GW := List.mem_filter.mpr ⟨List.mem_append_right _ (List.mem_of_getElem? (i := 748) (by decide +kernel)), by decide +kernel⟩
theorem gw_749 : Cond.selects RX0 yX0_takeBack yX0_takeBack ∈ GW := List.mem_filter.mpr ⟨List.mem_append_right _ (List.mem_of_getElem? (i := 749) (by decide +kernel)), by decide +kernel⟩
theorem gw_747 : Cond.methodLink RX5 148 yX0_takeBack ∈ GW := List.mem_filter.mpr ⟨List.mem_append_right _ (List.mem_of_getElem? (i := 747) (by decide +kernel)), by decide +kernel⟩
theorem gw_746 : Cond.code yX5_undo cX5_undo 1 (some .int) ∈ GW := List.mem_filter.mpr ⟨List.mem_append_right _ (List.mem_of_getElem? (i := 746) (by decide +kernel)), by decide +kernel⟩
theorem gw_744 : Cond.instanceMethod yX5_undo ∈ GW := List.mem_filter.mpr ⟨List.mem_append_right _ (List.mem_of_getElem? (i := 744) (by decide +kernel)), by decide +kernel⟩
theorem gw_745 : Cond.selects RX5 yX5_undo yX5_undo ∈ GW := List.mem_filter.mpr ⟨List.mem_append_right _ (List.mem_of_getElem? (i := 745) (by decide +kernel)), by decide +kernel⟩
theorem gw_510 : Cond.methodLink RX5 256 yX4_spanOf ∈ GW := List.mem_filter.mpr ⟨List.mem_append_right _ (List.mem_of_getElem? (i := 510) (by decide +kernel)), by decide +kernel⟩
theorem gw_511 : Cond.methodLink RX5 262 yX4_tableWithin ∈ GW := List.mem_filter.mpr ⟨List.mem_append_right _ (List.mem_of_getElem? (i := 511) (by decide +kernel)), by decide +kernel⟩
theorem gw_508 : Cond.code yX5_cellProperty cX5_cellProperty 3 (some .int) ∈ GW := List.mem_filter.mpr ⟨List.mem_append_right _ (List.mem_of_getElem? (i := 508) (by decide +kernel)), by decide +kernel⟩
theorem gw_507 : Cond.instanceMethod yX5_cellProperty ∈ GW := List.mem_filter.mpr ⟨List.mem_append_right _ (List.mem_of_getElem? (i := 507) (by decide +kernel)), by decide +kernel⟩
theorem gwp_24 : Cond.selects RX5 yX5_cellProperty yX5_cellProperty ∈ GW := List.mem_filter.mpr ⟨List.mem_append_left _ (List.mem_of_getElem? (i := 24) (by decide +kernel)), by decide +kernel⟩
theorem gw_505 : Cond.methodLink RX5 151 yX5_cellProperty ∈ GW := List.mem_filter.mpr ⟨List.mem_append_right _ (List.mem_of_getElem? (i := 505) (by decide +kernel)), by decide +kernel⟩
theorem gw_757 : Cond.code yX5_cell cX5_cell 6 (some .int) ∈ GW := List.mem_filter.mpr ⟨List.mem_append_right _ (List.mem_of_getElem? (i := 757) (by decide +kernel)), by decide +kernel⟩
theorem gw_755 : Cond.instanceMethod yX5_cell ∈ GW := List.mem_filter.mpr ⟨List.mem_append_right _ (List.mem_of_getElem? (i := 755) (by decide +kernel)), by decide +kernel⟩
theorem gw_756 : Cond.selects RX5 yX5_cell yX5_cell ∈ GW := List.mem_filter.mpr ⟨List.mem_append_right _ (List.mem_of_getElem? (i := 756) (by decide +kernel)), by decide +kernel⟩
theorem gw_764 : Cond.code yX5_edge cX5_edge 6 (some .int) ∈ GW := List.mem_filter.mpr ⟨List.mem_append_right _ (List.mem_of_getElem? (i := 764) (by decide +kernel)), by decide +kernel⟩
theorem gw_762 : Cond.instanceMethod yX5_edge ∈ GW := List.mem_filter.mpr ⟨List.mem_append_right _ (List.mem_of_getElem? (i := 762) (by decide +kernel)), by decide +kernel⟩
theorem gw_763 : Cond.selects RX5 yX5_edge yX5_edge ∈ GW := List.mem_filter.mpr ⟨List.mem_append_right _ (List.mem_of_getElem? (i := 763) (by decide +kernel)), by decide +kernel⟩
theorem gw_776 : Cond.methodLink RX5 229 yX4_hasTable ∈ GW := List.mem_filter.mpr ⟨List.mem_append_right _ (List.mem_of_getElem? (i := 776) (by decide +kernel)), by decide +kernel⟩
theorem gw_775 : Cond.code yX5_requireTable cX5_requireTable 2 none ∈ GW := List.mem_filter.mpr ⟨List.mem_append_right _ (List.mem_of_getElem? (i := 775) (by decide +kernel)), by decide +kernel⟩
theorem gw_774 : Cond.instanceMethod yX5_requireTable ∈ GW := List.mem_filter.mpr ⟨List.mem_append_right _ (List.mem_of_getElem? (i := 774) (by decide +kernel)), by decide +kernel⟩
theorem gwp_34 : Cond.selects RX5 yX5_requireTable yX5_requireTable ∈ GW := List.mem_filter.mpr ⟨List.mem_append_left _ (List.mem_of_getElem? (i := 34) (by decide +kernel)), by decide +kernel⟩
theorem gw_489 : Cond.methodLink RX5 164 yX4_linesOf ∈ GW := List.mem_filter.mpr ⟨List.mem_append_right _ (List.mem_of_getElem? (i := 489) (by decide +kernel)), by decide +kernel⟩
theorem gw_491 : Cond.methodLink RX5 278 yX5_tableOf ∈ GW := List.mem_filter.mpr ⟨List.mem_append_right _ (List.mem_of_getElem? (i := 491) (by decide +kernel)), by decide +kernel⟩
theorem gw_488 : Cond.code yX5_tableProperty cX5_tableProperty 3 (some .int) ∈ GW := List.mem_filter.mpr ⟨List.mem_append_right _ (List.mem_of_getElem? (i := 488) (by decide +kernel)), by decide +kernel⟩
theorem gw_487 : Cond.instanceMethod yX5_tableProperty ∈ GW := List.mem_filter.mpr ⟨List.mem_append_right _ (List.mem_of_getElem? (i := 487) (by decide +kernel)), by decide +kernel⟩
theorem gwp_22 : Cond.selects RX5 yX5_tableProperty yX5_tableProperty ∈ GW := List.mem_filter.mpr ⟨List.mem_append_left _ (List.mem_of_getElem? (i := 22) (by decide +kernel)), by decide +kernel⟩
theorem gw_772 : Cond.methodLink RX5 158 yX5_requireTable ∈ GW := List.mem_filter.mpr ⟨List.mem_append_right _ (List.mem_of_getElem? (i := 772) (by decide +kernel)), by decide +kernel⟩
theorem gw_485 : Cond.methodLink RX5 161 yX5_tableProperty ∈ GW := List.mem_filter.mpr ⟨List.mem_append_right _ (List.mem_of_getElem? (i := 485) (by decide +kernel)), by decide +kernel⟩
theorem gw_771 : Cond.code yX5_table cX5_table 3 (some .int) ∈ GW := List.mem_filter.mpr ⟨List.mem_append_right _ (List.mem_of_getElem? (i := 771) (by decide +kernel)), by decide +kernel⟩
theorem gw_769 : Cond.instanceMethod yX5_table ∈ GW := List.mem_filter.mpr ⟨List.mem_append_right _ (List.mem_of_getElem? (i := 769) (by decide +kernel)), by decide +kernel⟩
theorem gw_770 : Cond.selects RX5 yX5_table yX5_table ∈ GW := List.mem_filter.mpr ⟨List.mem_append_right _ (List.mem_of_getElem? (i := 770) (by decide +kernel)), by decide +kernel⟩
theorem gw_492 : Cond.methodLink RX5 167 yX1_sizeOf ∈ GW := List.mem_filter.mpr ⟨List.mem_append_right _ (List.mem_of_getElem? (i := 492) (by decide +kernel)), by decide +kernel⟩
theorem gw_783 : Cond.code yX5_size cX5_size 5 (some .int) ∈ GW := List.mem_filter.mpr ⟨List.mem_append_right _ (List.mem_of_getElem? (i := 783) (by decide +kernel)), by decide +kernel⟩
theorem gw_781 : Cond.instanceMethod yX5_size ∈ GW := List.mem_filter.mpr ⟨List.mem_append_right _ (List.mem_of_getElem? (i := 781) (by decide +kernel)), by decide +kernel⟩
theorem gw_782 : Cond.selects RX5 yX5_size yX5_size ∈ GW := List.mem_filter.mpr ⟨List.mem_append_right _ (List.mem_of_getElem? (i := 782) (by decide +kernel)), by decide +kernel⟩
theorem gw_466 : Cond.code yX1_isJoined cX1_isJoined 4 (some .boolean) ∈ GW := List.mem_filter.mpr ⟨List.mem_append_right _ (List.mem_of_getElem? (i := 466) (by decide +kernel)), by decide +kernel⟩
theorem gw_465 : Cond.instanceMethod yX1_isJoined ∈ GW := List.mem_filter.mpr ⟨List.mem_append_right _ (List.mem_of_getElem? (i := 465) (by decide +kernel)), by decide +kernel⟩
theorem gwp_20 : Cond.selects RX1 yX1_isJoined yX1_isJoined ∈ GW := List.mem_filter.mpr ⟨List.mem_append_left _ (List.mem_of_getElem? (i := 20) (by decide +kernel)), by decide +kernel⟩
theorem gw_463 : Cond.methodLink RX1 186 yX1_isJoined ∈ GW := List.mem_filter.mpr ⟨List.mem_append_right _ (List.mem_of_getElem? (i := 463) (by decide +kernel)), by decide +kernel⟩
theorem gw_462 : Cond.code yX1_pageOf cX1_pageOf 8 (some .int) ∈ GW := List.mem_filter.mpr ⟨List.mem_append_right _ (List.mem_of_getElem? (i := 462) (by decide +kernel)), by decide +kernel⟩
theorem gw_460 : Cond.instanceMethod yX1_pageOf ∈ GW := List.mem_filter.mpr ⟨List.mem_append_right _ (List.mem_of_getElem? (i := 460) (by decide +kernel)), by decide +kernel⟩
theorem gw_461 : Cond.selects RX1 yX1_pageOf yX1_pageOf ∈ GW := List.mem_filter.mpr ⟨List.mem_append_right _ (List.mem_of_getElem? (i := 461) (by decide +kernel)), by decide +kernel⟩
theorem gw_540 : Cond.methodLink RX5 170 yX1_pageOf ∈ GW := List.mem_filter.mpr ⟨List.mem_append_right _ (List.mem_of_getElem? (i := 540) (by decide +kernel)), by decide +kernel⟩
theorem gw_524 : Cond.code yX5_page cX5_page 2 (some .int) ∈ GW := List.mem_filter.mpr ⟨List.mem_append_right _ (List.mem_of_getElem? (i := 524) (by decide +kernel)), by decide +kernel⟩
theorem gw_522 : Cond.instanceMethod yX5_page ∈ GW := List.mem_filter.mpr ⟨List.mem_append_right _ (List.mem_of_getElem? (i := 522) (by decide +kernel)), by decide +kernel⟩
theorem gw_523 : Cond.selects RX5 yX5_page yX5_page ∈ GW := List.mem_filter.mpr ⟨List.mem_append_right _ (List.mem_of_getElem? (i := 523) (by decide +kernel)), by decide +kernel⟩
theorem gw_373 : Cond.code yX4_countCells cX4_countCells 3 (some .int) ∈ GW := List.mem_filter.mpr ⟨List.mem_append_right _ (List.mem_of_getElem? (i := 373) (by decide +kernel)), by decide +kernel⟩
theorem gw_371 : Cond.instanceMethod yX4_countCells ∈ GW := List.mem_filter.mpr ⟨List.mem_append_right _ (List.mem_of_getElem? (i := 371) (by decide +kernel)), by decide +kernel⟩
theorem gw_372 : Cond.selects RX4 yX4_countCells yX4_countCells ∈ GW := List.mem_filter.mpr ⟨List.mem_append_right _ (List.mem_of_getElem? (i := 372) (by decide +kernel)), by decide +kernel⟩
theorem gw_459 : Cond.methodLink RX1 183 yX1_pageOf ∈ GW := List.mem_filter.mpr ⟨List.mem_append_right _ (List.mem_of_getElem? (i := 459) (by decide +kernel)), by decide +kernel⟩
theorem gw_458 : Cond.code yX1_countPages cX1_countPages 2 (some .int) ∈ GW := List.mem_filter.mpr ⟨List.mem_append_right _ (List.mem_of_getElem? (i := 458) (by decide +kernel)), by decide +kernel⟩
theorem gw_456 : Cond.instanceMethod yX1_countPages ∈ GW := List.mem_filter.mpr ⟨List.mem_append_right _ (List.mem_of_getElem? (i := 456) (by decide +kernel)), by decide +kernel⟩
theorem gw_457 : Cond.selects RX1 yX1_countPages yX1_countPages ∈ GW := List.mem_filter.mpr ⟨List.mem_append_right _ (List.mem_of_getElem? (i := 457) (by decide +kernel)), by decide +kernel⟩
theorem gw_471 : Cond.methodLink RX1 179 yX4_squaresEnd ∈ GW := List.mem_filter.mpr ⟨List.mem_append_right _ (List.mem_of_getElem? (i := 471) (by decide +kernel)), by decide +kernel⟩
theorem gw_470 : Cond.code yX1_countEdges cX1_countEdges 5 (some .int) ∈ GW := List.mem_filter.mpr ⟨List.mem_append_right _ (List.mem_of_getElem? (i := 470) (by decide +kernel)), by decide +kernel⟩
theorem gw_468 : Cond.instanceMethod yX1_countEdges ∈ GW := List.mem_filter.mpr ⟨List.mem_append_right _ (List.mem_of_getElem? (i := 468) (by decide +kernel)), by decide +kernel⟩
theorem gw_469 : Cond.selects RX1 yX1_countEdges yX1_countEdges ∈ GW := List.mem_filter.mpr ⟨List.mem_append_right _ (List.mem_of_getElem? (i := 469) (by decide +kernel)), by decide +kernel⟩
theorem gw_475 : Cond.code yX4_countSquares cX4_countSquares 3 (some .int) ∈ GW := List.mem_filter.mpr ⟨List.mem_append_right _ (List.mem_of_getElem? (i := 475) (by decide +kernel)), by decide +kernel⟩
theorem gw_473 : Cond.instanceMethod yX4_countSquares ∈ GW := List.mem_filter.mpr ⟨List.mem_append_right _ (List.mem_of_getElem? (i := 473) (by decide +kernel)), by decide +kernel⟩
theorem gw_474 : Cond.selects RX4 yX4_countSquares yX4_countSquares ∈ GW := List.mem_filter.mpr ⟨List.mem_append_right _ (List.mem_of_getElem? (i := 474) (by decide +kernel)), by decide +kernel⟩
theorem gw_378 : Cond.code yX4_countKind cX4_countKind 4 (some .int) ∈ GW := List.mem_filter.mpr ⟨List.mem_append_right _ (List.mem_of_getElem? (i := 378) (by decide +kernel)), by decide +kernel⟩
theorem gw_376 : Cond.instanceMethod yX4_countKind ∈ GW := List.mem_filter.mpr ⟨List.mem_append_right _ (List.mem_of_getElem? (i := 376) (by decide +kernel)), by decide +kernel⟩
theorem gw_377 : Cond.selects RX4 yX4_countKind yX4_countKind ∈ GW := List.mem_filter.mpr ⟨List.mem_append_right _ (List.mem_of_getElem? (i := 377) (by decide +kernel)), by decide +kernel⟩
theorem gw_370 : Cond.methodLink RX5 173 yX4_countCells ∈ GW := List.mem_filter.mpr ⟨List.mem_append_right _ (List.mem_of_getElem? (i := 370) (by decide +kernel)), by decide +kernel⟩
theorem gw_375 : Cond.methodLink RX5 185 yX4_countKind ∈ GW := List.mem_filter.mpr ⟨List.mem_append_right _ (List.mem_of_getElem? (i := 375) (by decide +kernel)), by decide +kernel⟩
theorem gw_455 : Cond.methodLink RX5 176 yX1_countPages ∈ GW := List.mem_filter.mpr ⟨List.mem_append_right _ (List.mem_of_getElem? (i := 455) (by decide +kernel)), by decide +kernel⟩
theorem gw_467 : Cond.methodLink RX5 179 yX1_countEdges ∈ GW := List.mem_filter.mpr ⟨List.mem_append_right _ (List.mem_of_getElem? (i := 467) (by decide +kernel)), by decide +kernel⟩
theorem gw_472 : Cond.methodLink RX5 182 yX4_countSquares ∈ GW := List.mem_filter.mpr ⟨List.mem_append_right _ (List.mem_of_getElem? (i := 472) (by decide +kernel)), by decide +kernel⟩
theorem gw_387 : Cond.code yX5_count cX5_count 2 (some .int) ∈ GW := List.mem_filter.mpr ⟨List.mem_append_right _ (List.mem_of_getElem? (i := 387) (by decide +kernel)), by decide +kernel⟩
theorem gw_385 : Cond.instanceMethod yX5_count ∈ GW := List.mem_filter.mpr ⟨List.mem_append_right _ (List.mem_of_getElem? (i := 385) (by decide +kernel)), by decide +kernel⟩
theorem gw_386 : Cond.selects RX5 yX5_count yX5_count ∈ GW := List.mem_filter.mpr ⟨List.mem_append_right _ (List.mem_of_getElem? (i := 386) (by decide +kernel)), by decide +kernel⟩
theorem gw_329 : Cond.fieldLink RX5 21 "NestedSums" "trial" "LNestedSums$Layout;" ∈ GW := List.mem_filter.mpr ⟨List.mem_append_right _ (List.mem_of_getElem? (i := 329) (by decide +kernel)), by decide +kernel⟩
theorem gw_545 : Cond.methodLink RX5 281 yX4_copyFrom ∈ GW := List.mem_filter.mpr ⟨List.mem_append_right _ (List.mem_of_getElem? (i := 545) (by decide +kernel)), by decide +kernel⟩
theorem gw_544 : Cond.code yX5_tryNumber cX5_tryNumber 3 (some .boolean) ∈ GW := List.mem_filter.mpr ⟨List.mem_append_right _ (List.mem_of_getElem? (i := 544) (by decide +kernel)), by decide +kernel⟩
theorem gw_543 : Cond.instanceMethod yX5_tryNumber ∈ GW := List.mem_filter.mpr ⟨List.mem_append_right _ (List.mem_of_getElem? (i := 543) (by decide +kernel)), by decide +kernel⟩
theorem gwp_26 : Cond.selects RX5 yX5_tryNumber yX5_tryNumber ∈ GW := List.mem_filter.mpr ⟨List.mem_append_left _ (List.mem_of_getElem? (i := 26) (by decide +kernel)), by decide +kernel⟩
theorem gw_571 : Cond.methodLink RX5 287 yX4_squaresEnd ∈ GW := List.mem_filter.mpr ⟨List.mem_append_right _ (List.mem_of_getElem? (i := 571) (by decide +kernel)), by decide +kernel⟩
theorem gw_570 : Cond.code yX5_countChangedSums cX5_countChangedSums 5 (some .int) ∈ GW := List.mem_filter.mpr ⟨List.mem_append_right _ (List.mem_of_getElem? (i := 570) (by decide +kernel)), by decide +kernel⟩
theorem gw_569 : Cond.instanceMethod yX5_countChangedSums ∈ GW := List.mem_filter.mpr ⟨List.mem_append_right _ (List.mem_of_getElem? (i := 569) (by decide +kernel)), by decide +kernel⟩
theorem gwp_28 : Cond.selects RX5 yX5_countChangedSums yX5_countChangedSums ∈ GW := List.mem_filter.mpr ⟨List.mem_append_left _ (List.mem_of_getElem? (i := 28) (by decide +kernel)), by decide +kernel⟩
theorem gw_567 : Cond.methodLink RX5 284 yX5_countChangedSums ∈ GW := List.mem_filter.mpr ⟨List.mem_append_right _ (List.mem_of_getElem? (i := 567) (by decide +kernel)), by decide +kernel⟩
theorem gw_566 : Cond.code yX5_trialAnswer cX5_trialAnswer 3 (some .int) ∈ GW := List.mem_filter.mpr ⟨List.mem_append_right _ (List.mem_of_getElem? (i := 566) (by decide +kernel)), by decide +kernel⟩
theorem gw_565 : Cond.instanceMethod yX5_trialAnswer ∈ GW := List.mem_filter.mpr ⟨List.mem_append_right _ (List.mem_of_getElem? (i := 565) (by decide +kernel)), by decide +kernel⟩
theorem gwp_27 : Cond.selects RX5 yX5_trialAnswer yX5_trialAnswer ∈ GW := List.mem_filter.mpr ⟨List.mem_append_left _ (List.mem_of_getElem? (i := 27) (by decide +kernel)), by decide +kernel⟩
theorem gw_541 : Cond.methodLink RX5 188 yX5_tryNumber ∈ GW := List.mem_filter.mpr ⟨List.mem_append_right _ (List.mem_of_getElem? (i := 541) (by decide +kernel)), by decide +kernel⟩
theorem gw_563 : Cond.methodLink RX5 191 yX5_trialAnswer ∈ GW := List.mem_filter.mpr ⟨List.mem_append_right _ (List.mem_of_getElem? (i := 563) (by decide +kernel)), by decide +kernel⟩
theorem gw_798 : Cond.code yX5_ifPut cX5_ifPut 7 (some .int) ∈ GW := List.mem_filter.mpr ⟨List.mem_append_right _ (List.mem_of_getElem? (i := 798) (by decide +kernel)), by decide +kernel⟩
theorem gw_796 : Cond.instanceMethod yX5_ifPut ∈ GW := List.mem_filter.mpr ⟨List.mem_append_right _ (List.mem_of_getElem? (i := 796) (by decide +kernel)), by decide +kernel⟩
theorem gw_797 : Cond.selects RX5 yX5_ifPut yX5_ifPut ∈ GW := List.mem_filter.mpr ⟨List.mem_append_right _ (List.mem_of_getElem? (i := 797) (by decide +kernel)), by decide +kernel⟩
theorem gw_520 : Cond.code yX1_countSumsOf cX1_countSumsOf 5 (some .int) ∈ GW := List.mem_filter.mpr ⟨List.mem_append_right _ (List.mem_of_getElem? (i := 520) (by decide +kernel)), by decide +kernel⟩
theorem gw_518 : Cond.instanceMethod yX1_countSumsOf ∈ GW := List.mem_filter.mpr ⟨List.mem_append_right _ (List.mem_of_getElem? (i := 518) (by decide +kernel)), by decide +kernel⟩
theorem gw_519 : Cond.selects RX1 yX1_countSumsOf yX1_countSumsOf ∈ GW := List.mem_filter.mpr ⟨List.mem_append_right _ (List.mem_of_getElem? (i := 519) (by decide +kernel)), by decide +kernel⟩
theorem gw_517 : Cond.methodLink RX5 290 yX1_countSumsOf ∈ GW := List.mem_filter.mpr ⟨List.mem_append_right _ (List.mem_of_getElem? (i := 517) (by decide +kernel)), by decide +kernel⟩
theorem gw_515 : Cond.code yX5_countingSums cX5_countingSums 5 (some .int) ∈ GW := List.mem_filter.mpr ⟨List.mem_append_right _ (List.mem_of_getElem? (i := 515) (by decide +kernel)), by decide +kernel⟩
theorem gw_514 : Cond.instanceMethod yX5_countingSums ∈ GW := List.mem_filter.mpr ⟨List.mem_append_right _ (List.mem_of_getElem? (i := 514) (by decide +kernel)), by decide +kernel⟩
theorem gwp_25 : Cond.selects RX5 yX5_countingSums yX5_countingSums ∈ GW := List.mem_filter.mpr ⟨List.mem_append_left _ (List.mem_of_getElem? (i := 25) (by decide +kernel)), by decide +kernel⟩
theorem gw_512 : Cond.methodLink RX5 194 yX5_countingSums ∈ GW := List.mem_filter.mpr ⟨List.mem_append_right _ (List.mem_of_getElem? (i := 512) (by decide +kernel)), by decide +kernel⟩
theorem gw_805 : Cond.code yX5_countedBy cX5_countedBy 5 (some .int) ∈ GW := List.mem_filter.mpr ⟨List.mem_append_right _ (List.mem_of_getElem? (i := 805) (by decide +kernel)), by decide +kernel⟩
theorem gw_803 : Cond.instanceMethod yX5_countedBy ∈ GW := List.mem_filter.mpr ⟨List.mem_append_right _ (List.mem_of_getElem? (i := 803) (by decide +kernel)), by decide +kernel⟩
theorem gw_804 : Cond.selects RX5 yX5_countedBy yX5_countedBy ∈ GW := List.mem_filter.mpr ⟨List.mem_append_right _ (List.mem_of_getElem? (i := 804) (by decide +kernel)), by decide +kernel⟩
theorem gw_576 : Cond.code yX5_heightFor cX5_heightFor 3 (some .int) ∈ GW := List.mem_filter.mpr ⟨List.mem_append_right _ (List.mem_of_getElem? (i := 576) (by decide +kernel)), by decide +kernel⟩
theorem gw_574 : Cond.instanceMethod yX5_heightFor ∈ GW := List.mem_filter.mpr ⟨List.mem_append_right _ (List.mem_of_getElem? (i := 574) (by decide +kernel)), by decide +kernel⟩
theorem gw_575 : Cond.selects RX5 yX5_heightFor yX5_heightFor ∈ GW := List.mem_filter.mpr ⟨List.mem_append_right _ (List.mem_of_getElem? (i := 575) (by decide +kernel)), by decide +kernel⟩
theorem gw_369 : Cond.code yX5_filledShare cX5_filledShare 3 (some .double) ∈ GW := List.mem_filter.mpr ⟨List.mem_append_right _ (List.mem_of_getElem? (i := 369) (by decide +kernel)), by decide +kernel⟩
theorem gw_367 : Cond.instanceMethod yX5_filledShare ∈ GW := List.mem_filter.mpr ⟨List.mem_append_right _ (List.mem_of_getElem? (i := 367) (by decide +kernel)), by decide +kernel⟩
theorem gw_368 : Cond.selects RX5 yX5_filledShare yX5_filledShare ∈ GW := List.mem_filter.mpr ⟨List.mem_append_right _ (List.mem_of_getElem? (i := 368) (by decide +kernel)), by decide +kernel⟩
theorem gw_480 : Cond.constantLong RX5 293 (31) ∈ GW := List.mem_filter.mpr ⟨List.mem_append_right _ (List.mem_of_getElem? (i := 480) (by decide +kernel)), by decide +kernel⟩
theorem gw_479 : Cond.code yX5_mix cX5_mix 4 (some .long) ∈ GW := List.mem_filter.mpr ⟨List.mem_append_right _ (List.mem_of_getElem? (i := 479) (by decide +kernel)), by decide +kernel⟩
theorem gw_478 : Cond.static yX5_mix ∈ GW := List.mem_filter.mpr ⟨List.mem_append_right _ (List.mem_of_getElem? (i := 478) (by decide +kernel)), by decide +kernel⟩
theorem gw_477 : Cond.methodLink RX5 202 yX5_mix ∈ GW := List.mem_filter.mpr ⟨List.mem_append_right _ (List.mem_of_getElem? (i := 477) (by decide +kernel)), by decide +kernel⟩
theorem gw_504 : Cond.code yX5_mixSquare cX5_mixSquare 7 (some .long) ∈ GW := List.mem_filter.mpr ⟨List.mem_append_right _ (List.mem_of_getElem? (i := 504) (by decide +kernel)), by decide +kernel⟩
theorem gw_503 : Cond.instanceMethod yX5_mixSquare ∈ GW := List.mem_filter.mpr ⟨List.mem_append_right _ (List.mem_of_getElem? (i := 503) (by decide +kernel)), by decide +kernel⟩
theorem gwp_23 : Cond.selects RX5 yX5_mixSquare yX5_mixSquare ∈ GW := List.mem_filter.mpr ⟨List.mem_append_left _ (List.mem_of_getElem? (i := 23) (by decide +kernel)), by decide +kernel⟩
theorem gw_501 : Cond.methodLink RX5 295 yX5_mixSquare ∈ GW := List.mem_filter.mpr ⟨List.mem_append_right _ (List.mem_of_getElem? (i := 501) (by decide +kernel)), by decide +kernel⟩
theorem gw_484 : Cond.code yX5_mixTable cX5_mixTable 8 (some .long) ∈ GW := List.mem_filter.mpr ⟨List.mem_append_right _ (List.mem_of_getElem? (i := 484) (by decide +kernel)), by decide +kernel⟩
theorem gw_483 : Cond.instanceMethod yX5_mixTable ∈ GW := List.mem_filter.mpr ⟨List.mem_append_right _ (List.mem_of_getElem? (i := 483) (by decide +kernel)), by decide +kernel⟩
theorem gwp_21 : Cond.selects RX5 yX5_mixTable yX5_mixTable ∈ GW := List.mem_filter.mpr ⟨List.mem_append_left _ (List.mem_of_getElem? (i := 21) (by decide +kernel)), by decide +kernel⟩
theorem gw_581 : Cond.constantLong RX5 298 (1023) ∈ GW := List.mem_filter.mpr ⟨List.mem_append_right _ (List.mem_of_getElem? (i := 581) (by decide +kernel)), by decide +kernel⟩
theorem gw_582 : Cond.constantDouble RX5 300 (4611686018427387904) ∈ GW := List.mem_filter.mpr ⟨List.mem_append_right _ (List.mem_of_getElem? (i := 582) (by decide +kernel)), by decide +kernel⟩
theorem gw_583 : Cond.constantDouble RX5 302 (4841369599423283200) ∈ GW := List.mem_filter.mpr ⟨List.mem_append_right _ (List.mem_of_getElem? (i := 583) (by decide +kernel)), by decide +kernel⟩
theorem gw_580 : Cond.code yX5_bitsOf cX5_bitsOf 7 (some .long) ∈ GW := List.mem_filter.mpr ⟨List.mem_append_right _ (List.mem_of_getElem? (i := 580) (by decide +kernel)), by decide +kernel⟩
theorem gw_579 : Cond.static yX5_bitsOf ∈ GW := List.mem_filter.mpr ⟨List.mem_append_right _ (List.mem_of_getElem? (i := 579) (by decide +kernel)), by decide +kernel⟩
theorem gw_383 : Cond.constantLong RX5 197 (2887) ∈ GW := List.mem_filter.mpr ⟨List.mem_append_right _ (List.mem_of_getElem? (i := 383) (by decide +kernel)), by decide +kernel⟩
theorem gw_384 : Cond.methodLink RX5 199 yX5_count ∈ GW := List.mem_filter.mpr ⟨List.mem_append_right _ (List.mem_of_getElem? (i := 384) (by decide +kernel)), by decide +kernel⟩
theorem gw_481 : Cond.methodLink RX5 206 yX5_mixTable ∈ GW := List.mem_filter.mpr ⟨List.mem_append_right _ (List.mem_of_getElem? (i := 481) (by decide +kernel)), by decide +kernel⟩
theorem gw_521 : Cond.methodLink RX5 210 yX5_page ∈ GW := List.mem_filter.mpr ⟨List.mem_append_right _ (List.mem_of_getElem? (i := 521) (by decide +kernel)), by decide +kernel⟩
theorem gw_572 : Cond.constantLong RX5 213 (-1) ∈ GW := List.mem_filter.mpr ⟨List.mem_append_right _ (List.mem_of_getElem? (i := 572) (by decide +kernel)), by decide +kernel⟩
theorem gw_573 : Cond.methodLink RX5 215 yX5_heightFor ∈ GW := List.mem_filter.mpr ⟨List.mem_append_right _ (List.mem_of_getElem? (i := 573) (by decide +kernel)), by decide +kernel⟩
theorem gw_577 : Cond.methodLink RX5 218 yX5_filledShare ∈ GW := List.mem_filter.mpr ⟨List.mem_append_right _ (List.mem_of_getElem? (i := 577) (by decide +kernel)), by decide +kernel⟩
theorem gw_578 : Cond.methodLink RX5 222 yX5_bitsOf ∈ GW := List.mem_filter.mpr ⟨List.mem_append_right _ (List.mem_of_getElem? (i := 578) (by decide +kernel)), by decide +kernel⟩
theorem gw_382 : Cond.code yX5_digest cX5_digest 5 (some .long) ∈ GW := List.mem_filter.mpr ⟨List.mem_append_right _ (List.mem_of_getElem? (i := 382) (by decide +kernel)), by decide +kernel⟩
theorem gw_380 : Cond.instanceMethod yX5_digest ∈ GW := List.mem_filter.mpr ⟨List.mem_append_right _ (List.mem_of_getElem? (i := 380) (by decide +kernel)), by decide +kernel⟩
theorem gw_381 : Cond.selects RX5 yX5_digest yX5_digest ∈ GW := List.mem_filter.mpr ⟨List.mem_append_right _ (List.mem_of_getElem? (i := 381) (by decide +kernel)), by decide +kernel⟩
theorem gw_826 : Cond.code yX6_empties cX6_empties 3 none ∈ GW := List.mem_filter.mpr ⟨List.mem_append_right _ (List.mem_of_getElem? (i := 826) (by decide +kernel)), by decide +kernel⟩
theorem gw_9 : Cond.initialized RX6 ∈ GW := List.mem_filter.mpr ⟨List.mem_append_right _ (List.mem_of_getElem? (i := 9) (by decide +kernel)), by decide +kernel⟩
theorem gw_825 : Cond.static yX6_empties ∈ GW := List.mem_filter.mpr ⟨List.mem_append_right _ (List.mem_of_getElem? (i := 825) (by decide +kernel)), by decide +kernel⟩
theorem gw_827 : Cond.fieldLink RX6 7 "NestedSumsModel" "now" "[I" ∈ GW := List.mem_filter.mpr ⟨List.mem_append_right _ (List.mem_of_getElem? (i := 827) (by decide +kernel)), by decide +kernel⟩
theorem inGW_6 : ∀ w ∈ u_ws RX6 TX6 24, w ∈ GW := by
  have h1 : ∀ w ∈ u_ws RX6 TX6 24, w ∈ tables_1 := by decide +kernel
  have h2 : ∀ w ∈ u_ws RX6 TX6 24, goodWord w = true := by decide +kernel
  exact fun w hw => List.mem_filter.mpr ⟨List.mem_append_right _ (h1 w hw), h2 w hw⟩
theorem gw_824 : Cond.methodLink RX6 92 yX6_empties ∈ GW := List.mem_filter.mpr ⟨List.mem_append_right _ (List.mem_of_getElem? (i := 824) (by decide +kernel)), by decide +kernel⟩
theorem gw_823 : Cond.code yX6_comes cX6_comes 5 (some .int) ∈ GW := List.mem_filter.mpr ⟨List.mem_append_right _ (List.mem_of_getElem? (i := 823) (by decide +kernel)), by decide +kernel⟩
theorem gw_822 : Cond.instanceMethod yX6_comes ∈ GW := List.mem_filter.mpr ⟨List.mem_append_right _ (List.mem_of_getElem? (i := 822) (by decide +kernel)), by decide +kernel⟩
theorem gwp_36 : Cond.selects RX6 yX6_comes yX6_comes ∈ GW := List.mem_filter.mpr ⟨List.mem_append_left _ (List.mem_of_getElem? (i := 36) (by decide +kernel)), by decide +kernel⟩
theorem gw_820 : Cond.methodLink RX6 96 yX6_comes ∈ GW := List.mem_filter.mpr ⟨List.mem_append_right _ (List.mem_of_getElem? (i := 820) (by decide +kernel)), by decide +kernel⟩
theorem gw_819 : Cond.code yX6_begins cX6_begins 3 none ∈ GW := List.mem_filter.mpr ⟨List.mem_append_right _ (List.mem_of_getElem? (i := 819) (by decide +kernel)), by decide +kernel⟩
theorem gw_818 : Cond.instanceMethod yX6_begins ∈ GW := List.mem_filter.mpr ⟨List.mem_append_right _ (List.mem_of_getElem? (i := 818) (by decide +kernel)), by decide +kernel⟩
theorem gwp_35 : Cond.selects RX6 yX6_begins yX6_begins ∈ GW := List.mem_filter.mpr ⟨List.mem_append_left _ (List.mem_of_getElem? (i := 35) (by decide +kernel)), by decide +kernel⟩
theorem gw_833 : Cond.fieldLink RX6 62 "NestedSumsModel" "thrown" "I" ∈ GW := List.mem_filter.mpr ⟨List.mem_append_right _ (List.mem_of_getElem? (i := 833) (by decide +kernel)), by decide +kernel⟩
theorem gw_903 : Cond.code yX6_thrown cX6_thrown 1 (some .int) ∈ GW := List.mem_filter.mpr ⟨List.mem_append_right _ (List.mem_of_getElem? (i := 903) (by decide +kernel)), by decide +kernel⟩
theorem gw_901 : Cond.instanceMethod yX6_thrown ∈ GW := List.mem_filter.mpr ⟨List.mem_append_right _ (List.mem_of_getElem? (i := 901) (by decide +kernel)), by decide +kernel⟩
theorem gw_902 : Cond.selects RX6 yX6_thrown yX6_thrown ∈ GW := List.mem_filter.mpr ⟨List.mem_append_right _ (List.mem_of_getElem? (i := 902) (by decide +kernel)), by decide +kernel⟩
theorem gw_911 : Cond.code yX6_fails cX6_fails 2 (some .int) ∈ GW := List.mem_filter.mpr ⟨List.mem_append_right _ (List.mem_of_getElem? (i := 911) (by decide +kernel)), by decide +kernel⟩
theorem gw_910 : Cond.instanceMethod yX6_fails ∈ GW := List.mem_filter.mpr ⟨List.mem_append_right _ (List.mem_of_getElem? (i := 910) (by decide +kernel)), by decide +kernel⟩
theorem gwp_37 : Cond.selects RX6 yX6_fails yX6_fails ∈ GW := List.mem_filter.mpr ⟨List.mem_append_left _ (List.mem_of_getElem? (i := 37) (by decide +kernel)), by decide +kernel⟩
theorem gw_921 : Cond.code yX6_in cX6_in 3 (some .boolean) ∈ GW := List.mem_filter.mpr ⟨List.mem_append_right _ (List.mem_of_getElem? (i := 921) (by decide +kernel)), by decide +kernel⟩
theorem gw_920 : Cond.static yX6_in ∈ GW := List.mem_filter.mpr ⟨List.mem_append_right _ (List.mem_of_getElem? (i := 920) (by decide +kernel)), by decide +kernel⟩
theorem gw_919 : Cond.methodLink RX6 66 yX6_in ∈ GW := List.mem_filter.mpr ⟨List.mem_append_right _ (List.mem_of_getElem? (i := 919) (by decide +kernel)), by decide +kernel⟩
theorem gw_936 : Cond.code yX6_isTable cX6_isTable 2 (some .boolean) ∈ GW := List.mem_filter.mpr ⟨List.mem_append_right _ (List.mem_of_getElem? (i := 936) (by decide +kernel)), by decide +kernel⟩
theorem gw_935 : Cond.static yX6_isTable ∈ GW := List.mem_filter.mpr ⟨List.mem_append_right _ (List.mem_of_getElem? (i := 935) (by decide +kernel)), by decide +kernel⟩
theorem gw_934 : Cond.methodLink RX6 70 yX6_isTable ∈ GW := List.mem_filter.mpr ⟨List.mem_append_right _ (List.mem_of_getElem? (i := 934) (by decide +kernel)), by decide +kernel⟩
theorem gw_933 : Cond.code yX6_isSquare cX6_isSquare 4 (some .boolean) ∈ GW := List.mem_filter.mpr ⟨List.mem_append_right _ (List.mem_of_getElem? (i := 933) (by decide +kernel)), by decide +kernel⟩
theorem gw_932 : Cond.instanceMethod yX6_isSquare ∈ GW := List.mem_filter.mpr ⟨List.mem_append_right _ (List.mem_of_getElem? (i := 932) (by decide +kernel)), by decide +kernel⟩
theorem gwp_39 : Cond.selects RX6 yX6_isSquare yX6_isSquare ∈ GW := List.mem_filter.mpr ⟨List.mem_append_left _ (List.mem_of_getElem? (i := 39) (by decide +kernel)), by decide +kernel⟩
theorem gw_939 : Cond.code yX6_square cX6_square 3 (some .int) ∈ GW := List.mem_filter.mpr ⟨List.mem_append_right _ (List.mem_of_getElem? (i := 939) (by decide +kernel)), by decide +kernel⟩
theorem gw_938 : Cond.static yX6_square ∈ GW := List.mem_filter.mpr ⟨List.mem_append_right _ (List.mem_of_getElem? (i := 938) (by decide +kernel)), by decide +kernel⟩
theorem gw_945 : Cond.code yX6_isOf cX6_isOf 2 (some .boolean) ∈ GW := List.mem_filter.mpr ⟨List.mem_append_right _ (List.mem_of_getElem? (i := 945) (by decide +kernel)), by decide +kernel⟩
theorem gw_944 : Cond.static yX6_isOf ∈ GW := List.mem_filter.mpr ⟨List.mem_append_right _ (List.mem_of_getElem? (i := 944) (by decide +kernel)), by decide +kernel⟩
theorem gw_943 : Cond.methodLink RX6 74 yX6_isOf ∈ GW := List.mem_filter.mpr ⟨List.mem_append_right _ (List.mem_of_getElem? (i := 943) (by decide +kernel)), by decide +kernel⟩
theorem gw_942 : Cond.code yX6_isCell cX6_isCell 2 (some .boolean) ∈ GW := List.mem_filter.mpr ⟨List.mem_append_right _ (List.mem_of_getElem? (i := 942) (by decide +kernel)), by decide +kernel⟩
theorem gw_941 : Cond.static yX6_isCell ∈ GW := List.mem_filter.mpr ⟨List.mem_append_right _ (List.mem_of_getElem? (i := 941) (by decide +kernel)), by decide +kernel⟩
theorem gw_1042 : Cond.code yX6_isSum cX6_isSum 2 (some .boolean) ∈ GW := List.mem_filter.mpr ⟨List.mem_append_right _ (List.mem_of_getElem? (i := 1042) (by decide +kernel)), by decide +kernel⟩
theorem gw_1041 : Cond.static yX6_isSum ∈ GW := List.mem_filter.mpr ⟨List.mem_append_right _ (List.mem_of_getElem? (i := 1041) (by decide +kernel)), by decide +kernel⟩
theorem gw_914 : Cond.code yX6_copies cX6_copies 5 none ∈ GW := List.mem_filter.mpr ⟨List.mem_append_right _ (List.mem_of_getElem? (i := 914) (by decide +kernel)), by decide +kernel⟩
theorem gw_913 : Cond.static yX6_copies ∈ GW := List.mem_filter.mpr ⟨List.mem_append_right _ (List.mem_of_getElem? (i := 913) (by decide +kernel)), by decide +kernel⟩
theorem gw_839 : Cond.fieldLink RX6 77 "NestedSumsModel" "isLaid" "Z" ∈ GW := List.mem_filter.mpr ⟨List.mem_append_right _ (List.mem_of_getElem? (i := 839) (by decide +kernel)), by decide +kernel⟩
theorem gw_830 : Cond.fieldLink RX6 81 "NestedSumsModel" "kept" "I" ∈ GW := List.mem_filter.mpr ⟨List.mem_append_right _ (List.mem_of_getElem? (i := 830) (by decide +kernel)), by decide +kernel⟩
theorem gw_829 : Cond.fieldLink RX6 16 "NestedSumsModel" "past" "[I" ∈ GW := List.mem_filter.mpr ⟨List.mem_append_right _ (List.mem_of_getElem? (i := 829) (by decide +kernel)), by decide +kernel⟩
theorem gw_912 : Cond.methodLink RX6 84 yX6_copies ∈ GW := List.mem_filter.mpr ⟨List.mem_append_right _ (List.mem_of_getElem? (i := 912) (by decide +kernel)), by decide +kernel⟩
theorem gw_925 : Cond.code yX6_saves cX6_saves 2 none ∈ GW := List.mem_filter.mpr ⟨List.mem_append_right _ (List.mem_of_getElem? (i := 925) (by decide +kernel)), by decide +kernel⟩
theorem gw_924 : Cond.instanceMethod yX6_saves ∈ GW := List.mem_filter.mpr ⟨List.mem_append_right _ (List.mem_of_getElem? (i := 924) (by decide +kernel)), by decide +kernel⟩
theorem gwp_38 : Cond.selects RX6 yX6_saves yX6_saves ∈ GW := List.mem_filter.mpr ⟨List.mem_append_left _ (List.mem_of_getElem? (i := 38) (by decide +kernel)), by decide +kernel⟩
theorem gw_908 : Cond.methodLink RX6 88 yX6_fails ∈ GW := List.mem_filter.mpr ⟨List.mem_append_right _ (List.mem_of_getElem? (i := 908) (by decide +kernel)), by decide +kernel⟩
theorem gw_907 : Cond.code yX6_undo cX6_undo 1 (some .int) ∈ GW := List.mem_filter.mpr ⟨List.mem_append_right _ (List.mem_of_getElem? (i := 907) (by decide +kernel)), by decide +kernel⟩
theorem gw_905 : Cond.instanceMethod yX6_undo ∈ GW := List.mem_filter.mpr ⟨List.mem_append_right _ (List.mem_of_getElem? (i := 905) (by decide +kernel)), by decide +kernel⟩
theorem gw_906 : Cond.selects RX6 yX6_undo yX6_undo ∈ GW := List.mem_filter.mpr ⟨List.mem_append_right _ (List.mem_of_getElem? (i := 906) (by decide +kernel)), by decide +kernel⟩
theorem gw_1055 : Cond.code yX6_rowOf cX6_rowOf 1 (some .int) ∈ GW := List.mem_filter.mpr ⟨List.mem_append_right _ (List.mem_of_getElem? (i := 1055) (by decide +kernel)), by decide +kernel⟩
theorem gw_1054 : Cond.static yX6_rowOf ∈ GW := List.mem_filter.mpr ⟨List.mem_append_right _ (List.mem_of_getElem? (i := 1054) (by decide +kernel)), by decide +kernel⟩
theorem gw_1053 : Cond.methodLink RX6 100 yX6_rowOf ∈ GW := List.mem_filter.mpr ⟨List.mem_append_right _ (List.mem_of_getElem? (i := 1053) (by decide +kernel)), by decide +kernel⟩
theorem gw_1052 : Cond.code yX6_meet cX6_meet 8 (some .boolean) ∈ GW := List.mem_filter.mpr ⟨List.mem_append_right _ (List.mem_of_getElem? (i := 1052) (by decide +kernel)), by decide +kernel⟩
theorem gw_1051 : Cond.static yX6_meet ∈ GW := List.mem_filter.mpr ⟨List.mem_append_right _ (List.mem_of_getElem? (i := 1051) (by decide +kernel)), by decide +kernel⟩
theorem gw_1058 : Cond.code yX6_along cX6_along 2 (some .int) ∈ GW := List.mem_filter.mpr ⟨List.mem_append_right _ (List.mem_of_getElem? (i := 1058) (by decide +kernel)), by decide +kernel⟩
theorem gw_1057 : Cond.static yX6_along ∈ GW := List.mem_filter.mpr ⟨List.mem_append_right _ (List.mem_of_getElem? (i := 1057) (by decide +kernel)), by decide +kernel⟩
theorem gw_940 : Cond.methodLink RX6 103 yX6_isCell ∈ GW := List.mem_filter.mpr ⟨List.mem_append_right _ (List.mem_of_getElem? (i := 940) (by decide +kernel)), by decide +kernel⟩
theorem gw_1056 : Cond.methodLink RX6 110 yX6_along ∈ GW := List.mem_filter.mpr ⟨List.mem_append_right _ (List.mem_of_getElem? (i := 1056) (by decide +kernel)), by decide +kernel⟩
theorem gw_1050 : Cond.methodLink RX6 106 yX6_meet ∈ GW := List.mem_filter.mpr ⟨List.mem_append_right _ (List.mem_of_getElem? (i := 1050) (by decide +kernel)), by decide +kernel⟩
theorem gw_1061 : Cond.code yX6_from cX6_from 7 (some .int) ∈ GW := List.mem_filter.mpr ⟨List.mem_append_right _ (List.mem_of_getElem? (i := 1061) (by decide +kernel)), by decide +kernel⟩
theorem gw_1060 : Cond.static yX6_from ∈ GW := List.mem_filter.mpr ⟨List.mem_append_right _ (List.mem_of_getElem? (i := 1060) (by decide +kernel)), by decide +kernel⟩
theorem gw_1059 : Cond.methodLink RX6 114 yX6_from ∈ GW := List.mem_filter.mpr ⟨List.mem_append_right _ (List.mem_of_getElem? (i := 1059) (by decide +kernel)), by decide +kernel⟩
theorem gw_1049 : Cond.code yX6_counts cX6_counts 4 (some .boolean) ∈ GW := List.mem_filter.mpr ⟨List.mem_append_right _ (List.mem_of_getElem? (i := 1049) (by decide +kernel)), by decide +kernel⟩
theorem gw_1048 : Cond.static yX6_counts ∈ GW := List.mem_filter.mpr ⟨List.mem_append_right _ (List.mem_of_getElem? (i := 1048) (by decide +kernel)), by decide +kernel⟩
theorem gw_840 : Cond.fieldLink RX6 25 "NestedSumsModel" "values" "[I" ∈ GW := List.mem_filter.mpr ⟨List.mem_append_right _ (List.mem_of_getElem? (i := 840) (by decide +kernel)), by decide +kernel⟩
theorem gw_1039 : Cond.code yX6_valueOf cX6_valueOf 3 (some .int) ∈ GW := List.mem_filter.mpr ⟨List.mem_append_right _ (List.mem_of_getElem? (i := 1039) (by decide +kernel)), by decide +kernel⟩
theorem gw_1038 : Cond.instanceMethod yX6_valueOf ∈ GW := List.mem_filter.mpr ⟨List.mem_append_right _ (List.mem_of_getElem? (i := 1038) (by decide +kernel)), by decide +kernel⟩
theorem gwp_52 : Cond.selects RX6 yX6_valueOf yX6_valueOf ∈ GW := List.mem_filter.mpr ⟨List.mem_append_left _ (List.mem_of_getElem? (i := 52) (by decide +kernel)), by decide +kernel⟩
theorem gw_1047 : Cond.methodLink RX6 118 yX6_counts ∈ GW := List.mem_filter.mpr ⟨List.mem_append_right _ (List.mem_of_getElem? (i := 1047) (by decide +kernel)), by decide +kernel⟩
theorem gw_1036 : Cond.methodLink RX6 122 yX6_valueOf ∈ GW := List.mem_filter.mpr ⟨List.mem_append_right _ (List.mem_of_getElem? (i := 1036) (by decide +kernel)), by decide +kernel⟩
theorem gw_1046 : Cond.code yX6_summed cX6_summed 6 (some .int) ∈ GW := List.mem_filter.mpr ⟨List.mem_append_right _ (List.mem_of_getElem? (i := 1046) (by decide +kernel)), by decide +kernel⟩
theorem gw_1045 : Cond.instanceMethod yX6_summed ∈ GW := List.mem_filter.mpr ⟨List.mem_append_right _ (List.mem_of_getElem? (i := 1045) (by decide +kernel)), by decide +kernel⟩
theorem gwp_53 : Cond.selects RX6 yX6_summed yX6_summed ∈ GW := List.mem_filter.mpr ⟨List.mem_append_left _ (List.mem_of_getElem? (i := 53) (by decide +kernel)), by decide +kernel⟩
theorem gw_937 : Cond.methodLink RX6 125 yX6_square ∈ GW := List.mem_filter.mpr ⟨List.mem_append_right _ (List.mem_of_getElem? (i := 937) (by decide +kernel)), by decide +kernel⟩
theorem gw_1072 : Cond.code yX6_beside cX6_beside 6 (some .int) ∈ GW := List.mem_filter.mpr ⟨List.mem_append_right _ (List.mem_of_getElem? (i := 1072) (by decide +kernel)), by decide +kernel⟩
theorem gw_1071 : Cond.static yX6_beside ∈ GW := List.mem_filter.mpr ⟨List.mem_append_right _ (List.mem_of_getElem? (i := 1071) (by decide +kernel)), by decide +kernel⟩
theorem gw_1070 : Cond.methodLink RX6 129 yX6_beside ∈ GW := List.mem_filter.mpr ⟨List.mem_append_right _ (List.mem_of_getElem? (i := 1070) (by decide +kernel)), by decide +kernel⟩
theorem gw_847 : Cond.fieldLink RX6 46 "NestedSumsModel" "rules" "[I" ∈ GW := List.mem_filter.mpr ⟨List.mem_append_right _ (List.mem_of_getElem? (i := 847) (by decide +kernel)), by decide +kernel⟩
theorem gw_1076 : Cond.code yX6_edgeOf cX6_edgeOf 7 (some .int) ∈ GW := List.mem_filter.mpr ⟨List.mem_append_right _ (List.mem_of_getElem? (i := 1076) (by decide +kernel)), by decide +kernel⟩
theorem gw_1075 : Cond.instanceMethod yX6_edgeOf ∈ GW := List.mem_filter.mpr ⟨List.mem_append_right _ (List.mem_of_getElem? (i := 1075) (by decide +kernel)), by decide +kernel⟩
theorem gwp_56 : Cond.selects RX6 yX6_edgeOf yX6_edgeOf ∈ GW := List.mem_filter.mpr ⟨List.mem_append_left _ (List.mem_of_getElem? (i := 56) (by decide +kernel)), by decide +kernel⟩
theorem gw_1073 : Cond.methodLink RX6 133 yX6_edgeOf ∈ GW := List.mem_filter.mpr ⟨List.mem_append_right _ (List.mem_of_getElem? (i := 1073) (by decide +kernel)), by decide +kernel⟩
theorem gw_1069 : Cond.code yX6_border cX6_border 7 (some .int) ∈ GW := List.mem_filter.mpr ⟨List.mem_append_right _ (List.mem_of_getElem? (i := 1069) (by decide +kernel)), by decide +kernel⟩
theorem gw_1068 : Cond.instanceMethod yX6_border ∈ GW := List.mem_filter.mpr ⟨List.mem_append_right _ (List.mem_of_getElem? (i := 1068) (by decide +kernel)), by decide +kernel⟩
theorem gwp_55 : Cond.selects RX6 yX6_border yX6_border ∈ GW := List.mem_filter.mpr ⟨List.mem_append_left _ (List.mem_of_getElem? (i := 55) (by decide +kernel)), by decide +kernel⟩
theorem gw_1066 : Cond.methodLink RX6 136 yX6_border ∈ GW := List.mem_filter.mpr ⟨List.mem_append_right _ (List.mem_of_getElem? (i := 1066) (by decide +kernel)), by decide +kernel⟩
theorem gw_1065 : Cond.code yX6_laysRules cX6_laysRules 7 none ∈ GW := List.mem_filter.mpr ⟨List.mem_append_right _ (List.mem_of_getElem? (i := 1065) (by decide +kernel)), by decide +kernel⟩
theorem gw_1064 : Cond.instanceMethod yX6_laysRules ∈ GW := List.mem_filter.mpr ⟨List.mem_append_right _ (List.mem_of_getElem? (i := 1064) (by decide +kernel)), by decide +kernel⟩
theorem gwp_54 : Cond.selects RX6 yX6_laysRules yX6_laysRules ∈ GW := List.mem_filter.mpr ⟨List.mem_append_left _ (List.mem_of_getElem? (i := 54) (by decide +kernel)), by decide +kernel⟩
theorem gw_1080 : Cond.code yX6_lines cX6_lines 13 (some .int) ∈ GW := List.mem_filter.mpr ⟨List.mem_append_right _ (List.mem_of_getElem? (i := 1080) (by decide +kernel)), by decide +kernel⟩
theorem gw_1079 : Cond.instanceMethod yX6_lines ∈ GW := List.mem_filter.mpr ⟨List.mem_append_right _ (List.mem_of_getElem? (i := 1079) (by decide +kernel)), by decide +kernel⟩
theorem gwp_57 : Cond.selects RX6 yX6_lines yX6_lines ∈ GW := List.mem_filter.mpr ⟨List.mem_append_left _ (List.mem_of_getElem? (i := 57) (by decide +kernel)), by decide +kernel⟩
theorem gw_1091 : Cond.code yX6_signs cX6_signs 3 (some .int) ∈ GW := List.mem_filter.mpr ⟨List.mem_append_right _ (List.mem_of_getElem? (i := 1091) (by decide +kernel)), by decide +kernel⟩
theorem gw_1090 : Cond.static yX6_signs ∈ GW := List.mem_filter.mpr ⟨List.mem_append_right _ (List.mem_of_getElem? (i := 1090) (by decide +kernel)), by decide +kernel⟩
theorem gw_1089 : Cond.methodLink RX6 139 yX6_signs ∈ GW := List.mem_filter.mpr ⟨List.mem_append_right _ (List.mem_of_getElem? (i := 1089) (by decide +kernel)), by decide +kernel⟩
theorem gw_841 : Cond.fieldLink RX6 28 "NestedSumsModel" "widths" "[I" ∈ GW := List.mem_filter.mpr ⟨List.mem_append_right _ (List.mem_of_getElem? (i := 841) (by decide +kernel)), by decide +kernel⟩
theorem gw_845 : Cond.fieldLink RX6 40 "NestedSumsModel" "shown" "[I" ∈ GW := List.mem_filter.mpr ⟨List.mem_append_right _ (List.mem_of_getElem? (i := 845) (by decide +kernel)), by decide +kernel⟩
theorem gw_1088 : Cond.code yX6_widthOf cX6_widthOf 3 (some .int) ∈ GW := List.mem_filter.mpr ⟨List.mem_append_right _ (List.mem_of_getElem? (i := 1088) (by decide +kernel)), by decide +kernel⟩
theorem gw_1087 : Cond.instanceMethod yX6_widthOf ∈ GW := List.mem_filter.mpr ⟨List.mem_append_right _ (List.mem_of_getElem? (i := 1087) (by decide +kernel)), by decide +kernel⟩
theorem gwp_59 : Cond.selects RX6 yX6_widthOf yX6_widthOf ∈ GW := List.mem_filter.mpr ⟨List.mem_append_left _ (List.mem_of_getElem? (i := 59) (by decide +kernel)), by decide +kernel⟩
theorem gw_842 : Cond.fieldLink RX6 31 "NestedSumsModel" "heights" "[I" ∈ GW := List.mem_filter.mpr ⟨List.mem_append_right _ (List.mem_of_getElem? (i := 842) (by decide +kernel)), by decide +kernel⟩
theorem gw_1099 : Cond.code yX6_heightOf cX6_heightOf 3 (some .int) ∈ GW := List.mem_filter.mpr ⟨List.mem_append_right _ (List.mem_of_getElem? (i := 1099) (by decide +kernel)), by decide +kernel⟩
theorem gw_1098 : Cond.instanceMethod yX6_heightOf ∈ GW := List.mem_filter.mpr ⟨List.mem_append_right _ (List.mem_of_getElem? (i := 1098) (by decide +kernel)), by decide +kernel⟩
theorem gwp_61 : Cond.selects RX6 yX6_heightOf yX6_heightOf ∈ GW := List.mem_filter.mpr ⟨List.mem_append_left _ (List.mem_of_getElem? (i := 61) (by decide +kernel)), by decide +kernel⟩
theorem gw_848 : Cond.fieldLink RX6 49 "NestedSumsModel" "columns" "[I" ∈ GW := List.mem_filter.mpr ⟨List.mem_append_right _ (List.mem_of_getElem? (i := 848) (by decide +kernel)), by decide +kernel⟩
theorem gw_1085 : Cond.methodLink RX6 142 yX6_widthOf ∈ GW := List.mem_filter.mpr ⟨List.mem_append_right _ (List.mem_of_getElem? (i := 1085) (by decide +kernel)), by decide +kernel⟩
theorem gw_1084 : Cond.code yX6_laysColumns cX6_laysColumns 9 none ∈ GW := List.mem_filter.mpr ⟨List.mem_append_right _ (List.mem_of_getElem? (i := 1084) (by decide +kernel)), by decide +kernel⟩
theorem gw_1083 : Cond.instanceMethod yX6_laysColumns ∈ GW := List.mem_filter.mpr ⟨List.mem_append_right _ (List.mem_of_getElem? (i := 1083) (by decide +kernel)), by decide +kernel⟩
theorem gwp_58 : Cond.selects RX6 yX6_laysColumns yX6_laysColumns ∈ GW := List.mem_filter.mpr ⟨List.mem_append_left _ (List.mem_of_getElem? (i := 58) (by decide +kernel)), by decide +kernel⟩
theorem gw_849 : Cond.fieldLink RX6 52 "NestedSumsModel" "rows" "[I" ∈ GW := List.mem_filter.mpr ⟨List.mem_append_right _ (List.mem_of_getElem? (i := 849) (by decide +kernel)), by decide +kernel⟩
theorem gw_1096 : Cond.methodLink RX6 145 yX6_heightOf ∈ GW := List.mem_filter.mpr ⟨List.mem_append_right _ (List.mem_of_getElem? (i := 1096) (by decide +kernel)), by decide +kernel⟩
theorem gw_1095 : Cond.code yX6_laysRows cX6_laysRows 9 none ∈ GW := List.mem_filter.mpr ⟨List.mem_append_right _ (List.mem_of_getElem? (i := 1095) (by decide +kernel)), by decide +kernel⟩
theorem gw_1094 : Cond.instanceMethod yX6_laysRows ∈ GW := List.mem_filter.mpr ⟨List.mem_append_right _ (List.mem_of_getElem? (i := 1094) (by decide +kernel)), by decide +kernel⟩
theorem gwp_60 : Cond.selects RX6 yX6_laysRows yX6_laysRows ∈ GW := List.mem_filter.mpr ⟨List.mem_append_left _ (List.mem_of_getElem? (i := 60) (by decide +kernel)), by decide +kernel⟩
theorem gw_1040 : Cond.methodLink RX6 148 yX6_isSum ∈ GW := List.mem_filter.mpr ⟨List.mem_append_right _ (List.mem_of_getElem? (i := 1040) (by decide +kernel)), by decide +kernel⟩
theorem gw_1043 : Cond.methodLink RX6 151 yX6_summed ∈ GW := List.mem_filter.mpr ⟨List.mem_append_right _ (List.mem_of_getElem? (i := 1043) (by decide +kernel)), by decide +kernel⟩
theorem gw_1062 : Cond.methodLink RX6 154 yX6_laysRules ∈ GW := List.mem_filter.mpr ⟨List.mem_append_right _ (List.mem_of_getElem? (i := 1062) (by decide +kernel)), by decide +kernel⟩
theorem gw_843 : Cond.fieldLink RX6 34 "NestedSumsModel" "downs" "[I" ∈ GW := List.mem_filter.mpr ⟨List.mem_append_right _ (List.mem_of_getElem? (i := 843) (by decide +kernel)), by decide +kernel⟩
theorem gw_1077 : Cond.methodLink RX6 157 yX6_lines ∈ GW := List.mem_filter.mpr ⟨List.mem_append_right _ (List.mem_of_getElem? (i := 1077) (by decide +kernel)), by decide +kernel⟩
theorem gw_844 : Cond.fieldLink RX6 37 "NestedSumsModel" "acrosses" "[I" ∈ GW := List.mem_filter.mpr ⟨List.mem_append_right _ (List.mem_of_getElem? (i := 844) (by decide +kernel)), by decide +kernel⟩
theorem gw_1081 : Cond.methodLink RX6 161 yX6_laysColumns ∈ GW := List.mem_filter.mpr ⟨List.mem_append_right _ (List.mem_of_getElem? (i := 1081) (by decide +kernel)), by decide +kernel⟩
theorem gw_1092 : Cond.methodLink RX6 164 yX6_laysRows ∈ GW := List.mem_filter.mpr ⟨List.mem_append_right _ (List.mem_of_getElem? (i := 1092) (by decide +kernel)), by decide +kernel⟩
theorem gw_1035 : Cond.code yX6_laysTable cX6_laysTable 5 none ∈ GW := List.mem_filter.mpr ⟨List.mem_append_right _ (List.mem_of_getElem? (i := 1035) (by decide +kernel)), by decide +kernel⟩
theorem gw_1034 : Cond.instanceMethod yX6_laysTable ∈ GW := List.mem_filter.mpr ⟨List.mem_append_right _ (List.mem_of_getElem? (i := 1034) (by decide +kernel)), by decide +kernel⟩
theorem gwp_51 : Cond.selects RX6 yX6_laysTable yX6_laysTable ∈ GW := List.mem_filter.mpr ⟨List.mem_append_left _ (List.mem_of_getElem? (i := 51) (by decide +kernel)), by decide +kernel⟩
theorem gw_1032 : Cond.methodLink RX6 167 yX6_laysTable ∈ GW := List.mem_filter.mpr ⟨List.mem_append_right _ (List.mem_of_getElem? (i := 1032) (by decide +kernel)), by decide +kernel⟩
theorem gw_1031 : Cond.code yX6_lays cX6_lays 3 none ∈ GW := List.mem_filter.mpr ⟨List.mem_append_right _ (List.mem_of_getElem? (i := 1031) (by decide +kernel)), by decide +kernel⟩
theorem gw_1030 : Cond.instanceMethod yX6_lays ∈ GW := List.mem_filter.mpr ⟨List.mem_append_right _ (List.mem_of_getElem? (i := 1030) (by decide +kernel)), by decide +kernel⟩
theorem gwp_50 : Cond.selects RX6 yX6_lays yX6_lays ∈ GW := List.mem_filter.mpr ⟨List.mem_append_left _ (List.mem_of_getElem? (i := 50) (by decide +kernel)), by decide +kernel⟩
theorem gw_1028 : Cond.methodLink RX6 170 yX6_lays ∈ GW := List.mem_filter.mpr ⟨List.mem_append_right _ (List.mem_of_getElem? (i := 1028) (by decide +kernel)), by decide +kernel⟩
theorem gw_1027 : Cond.code yX6_laysNow cX6_laysNow 1 none ∈ GW := List.mem_filter.mpr ⟨List.mem_append_right _ (List.mem_of_getElem? (i := 1027) (by decide +kernel)), by decide +kernel⟩
theorem gw_1026 : Cond.instanceMethod yX6_laysNow ∈ GW := List.mem_filter.mpr ⟨List.mem_append_right _ (List.mem_of_getElem? (i := 1026) (by decide +kernel)), by decide +kernel⟩
theorem gwp_49 : Cond.selects RX6 yX6_laysNow yX6_laysNow ∈ GW := List.mem_filter.mpr ⟨List.mem_append_left _ (List.mem_of_getElem? (i := 49) (by decide +kernel)), by decide +kernel⟩
theorem gw_1133 : Cond.code yX6_isParted cX6_isParted 4 (some .boolean) ∈ GW := List.mem_filter.mpr ⟨List.mem_append_right _ (List.mem_of_getElem? (i := 1133) (by decide +kernel)), by decide +kernel⟩
theorem gw_1132 : Cond.static yX6_isParted ∈ GW := List.mem_filter.mpr ⟨List.mem_append_right _ (List.mem_of_getElem? (i := 1132) (by decide +kernel)), by decide +kernel⟩
theorem gw_1131 : Cond.methodLink RX6 174 yX6_isParted ∈ GW := List.mem_filter.mpr ⟨List.mem_append_right _ (List.mem_of_getElem? (i := 1131) (by decide +kernel)), by decide +kernel⟩
theorem gw_850 : Cond.fieldLink RX6 55 "NestedSumsModel" "pages" "[I" ∈ GW := List.mem_filter.mpr ⟨List.mem_append_right _ (List.mem_of_getElem? (i := 850) (by decide +kernel)), by decide +kernel⟩
theorem gw_1130 : Cond.code yX6_laysPages cX6_laysPages 10 (some .int) ∈ GW := List.mem_filter.mpr ⟨List.mem_append_right _ (List.mem_of_getElem? (i := 1130) (by decide +kernel)), by decide +kernel⟩
theorem gw_1129 : Cond.instanceMethod yX6_laysPages ∈ GW := List.mem_filter.mpr ⟨List.mem_append_right _ (List.mem_of_getElem? (i := 1129) (by decide +kernel)), by decide +kernel⟩
theorem gwp_64 : Cond.selects RX6 yX6_laysPages yX6_laysPages ∈ GW := List.mem_filter.mpr ⟨List.mem_append_left _ (List.mem_of_getElem? (i := 64) (by decide +kernel)), by decide +kernel⟩
theorem gw_922 : Cond.methodLink RX6 177 yX6_saves ∈ GW := List.mem_filter.mpr ⟨List.mem_append_right _ (List.mem_of_getElem? (i := 922) (by decide +kernel)), by decide +kernel⟩
theorem gw_816 : Cond.methodLink RX6 58 yX6_begins ∈ GW := List.mem_filter.mpr ⟨List.mem_append_right _ (List.mem_of_getElem? (i := 816) (by decide +kernel)), by decide +kernel⟩
theorem gw_918 : Cond.code yX6_begin cX6_begin 3 (some .int) ∈ GW := List.mem_filter.mpr ⟨List.mem_append_right _ (List.mem_of_getElem? (i := 918) (by decide +kernel)), by decide +kernel⟩
theorem gw_916 : Cond.instanceMethod yX6_begin ∈ GW := List.mem_filter.mpr ⟨List.mem_append_right _ (List.mem_of_getElem? (i := 916) (by decide +kernel)), by decide +kernel⟩
theorem gw_917 : Cond.selects RX6 yX6_begin yX6_begin ∈ GW := List.mem_filter.mpr ⟨List.mem_append_right _ (List.mem_of_getElem? (i := 917) (by decide +kernel)), by decide +kernel⟩
theorem gw_930 : Cond.methodLink RX6 180 yX6_isSquare ∈ GW := List.mem_filter.mpr ⟨List.mem_append_right _ (List.mem_of_getElem? (i := 930) (by decide +kernel)), by decide +kernel⟩
theorem gw_929 : Cond.code yX6_nest cX6_nest 7 (some .int) ∈ GW := List.mem_filter.mpr ⟨List.mem_append_right _ (List.mem_of_getElem? (i := 929) (by decide +kernel)), by decide +kernel⟩
theorem gw_927 : Cond.instanceMethod yX6_nest ∈ GW := List.mem_filter.mpr ⟨List.mem_append_right _ (List.mem_of_getElem? (i := 927) (by decide +kernel)), by decide +kernel⟩
theorem gw_928 : Cond.selects RX6 yX6_nest yX6_nest ∈ GW := List.mem_filter.mpr ⟨List.mem_append_right _ (List.mem_of_getElem? (i := 928) (by decide +kernel)), by decide +kernel⟩
theorem gw_956 : Cond.code yX6_isKind cX6_isKind 2 (some .boolean) ∈ GW := List.mem_filter.mpr ⟨List.mem_append_right _ (List.mem_of_getElem? (i := 956) (by decide +kernel)), by decide +kernel⟩
theorem gw_955 : Cond.static yX6_isKind ∈ GW := List.mem_filter.mpr ⟨List.mem_append_right _ (List.mem_of_getElem? (i := 955) (by decide +kernel)), by decide +kernel⟩
theorem gw_954 : Cond.methodLink RX6 183 yX6_isKind ∈ GW := List.mem_filter.mpr ⟨List.mem_append_right _ (List.mem_of_getElem? (i := 954) (by decide +kernel)), by decide +kernel⟩
theorem gw_953 : Cond.code yX6_mayPut cX6_mayPut 7 (some .int) ∈ GW := List.mem_filter.mpr ⟨List.mem_append_right _ (List.mem_of_getElem? (i := 953) (by decide +kernel)), by decide +kernel⟩
theorem gw_952 : Cond.instanceMethod yX6_mayPut ∈ GW := List.mem_filter.mpr ⟨List.mem_append_right _ (List.mem_of_getElem? (i := 952) (by decide +kernel)), by decide +kernel⟩
theorem gwp_40 : Cond.selects RX6 yX6_mayPut yX6_mayPut ∈ GW := List.mem_filter.mpr ⟨List.mem_append_left _ (List.mem_of_getElem? (i := 40) (by decide +kernel)), by decide +kernel⟩
theorem gw_959 : Cond.code yX6_puts cX6_puts 5 (some .int) ∈ GW := List.mem_filter.mpr ⟨List.mem_append_right _ (List.mem_of_getElem? (i := 959) (by decide +kernel)), by decide +kernel⟩
theorem gw_958 : Cond.static yX6_puts ∈ GW := List.mem_filter.mpr ⟨List.mem_append_right _ (List.mem_of_getElem? (i := 958) (by decide +kernel)), by decide +kernel⟩
theorem gw_950 : Cond.methodLink RX6 187 yX6_mayPut ∈ GW := List.mem_filter.mpr ⟨List.mem_append_right _ (List.mem_of_getElem? (i := 950) (by decide +kernel)), by decide +kernel⟩
theorem gw_957 : Cond.methodLink RX6 191 yX6_puts ∈ GW := List.mem_filter.mpr ⟨List.mem_append_right _ (List.mem_of_getElem? (i := 957) (by decide +kernel)), by decide +kernel⟩
theorem gw_949 : Cond.code yX6_put cX6_put 6 (some .int) ∈ GW := List.mem_filter.mpr ⟨List.mem_append_right _ (List.mem_of_getElem? (i := 949) (by decide +kernel)), by decide +kernel⟩
theorem gw_947 : Cond.instanceMethod yX6_put ∈ GW := List.mem_filter.mpr ⟨List.mem_append_right _ (List.mem_of_getElem? (i := 947) (by decide +kernel)), by decide +kernel⟩
theorem gw_948 : Cond.selects RX6 yX6_put yX6_put ∈ GW := List.mem_filter.mpr ⟨List.mem_append_right _ (List.mem_of_getElem? (i := 948) (by decide +kernel)), by decide +kernel⟩
theorem gw_967 : Cond.code yX6_canSpan cX6_canSpan 7 (some .boolean) ∈ GW := List.mem_filter.mpr ⟨List.mem_append_right _ (List.mem_of_getElem? (i := 967) (by decide +kernel)), by decide +kernel⟩
theorem gw_966 : Cond.instanceMethod yX6_canSpan ∈ GW := List.mem_filter.mpr ⟨List.mem_append_right _ (List.mem_of_getElem? (i := 966) (by decide +kernel)), by decide +kernel⟩
theorem gwp_41 : Cond.selects RX6 yX6_canSpan yX6_canSpan ∈ GW := List.mem_filter.mpr ⟨List.mem_append_left _ (List.mem_of_getElem? (i := 41) (by decide +kernel)), by decide +kernel⟩
theorem gw_964 : Cond.methodLink RX6 195 yX6_canSpan ∈ GW := List.mem_filter.mpr ⟨List.mem_append_right _ (List.mem_of_getElem? (i := 964) (by decide +kernel)), by decide +kernel⟩
theorem gw_963 : Cond.code yX6_span cX6_span 10 (some .int) ∈ GW := List.mem_filter.mpr ⟨List.mem_append_right _ (List.mem_of_getElem? (i := 963) (by decide +kernel)), by decide +kernel⟩
theorem gw_961 : Cond.instanceMethod yX6_span ∈ GW := List.mem_filter.mpr ⟨List.mem_append_right _ (List.mem_of_getElem? (i := 961) (by decide +kernel)), by decide +kernel⟩
theorem gw_962 : Cond.selects RX6 yX6_span yX6_span ∈ GW := List.mem_filter.mpr ⟨List.mem_append_right _ (List.mem_of_getElem? (i := 962) (by decide +kernel)), by decide +kernel⟩
theorem gw_971 : Cond.code yX6_rule cX6_rule 8 (some .int) ∈ GW := List.mem_filter.mpr ⟨List.mem_append_right _ (List.mem_of_getElem? (i := 971) (by decide +kernel)), by decide +kernel⟩
theorem gw_969 : Cond.instanceMethod yX6_rule ∈ GW := List.mem_filter.mpr ⟨List.mem_append_right _ (List.mem_of_getElem? (i := 969) (by decide +kernel)), by decide +kernel⟩
theorem gw_970 : Cond.selects RX6 yX6_rule yX6_rule ∈ GW := List.mem_filter.mpr ⟨List.mem_append_right _ (List.mem_of_getElem? (i := 970) (by decide +kernel)), by decide +kernel⟩
theorem gw_975 : Cond.code yX6_set cX6_set 3 (some .int) ∈ GW := List.mem_filter.mpr ⟨List.mem_append_right _ (List.mem_of_getElem? (i := 975) (by decide +kernel)), by decide +kernel⟩
theorem gw_973 : Cond.instanceMethod yX6_set ∈ GW := List.mem_filter.mpr ⟨List.mem_append_right _ (List.mem_of_getElem? (i := 973) (by decide +kernel)), by decide +kernel⟩
theorem gw_974 : Cond.selects RX6 yX6_set yX6_set ∈ GW := List.mem_filter.mpr ⟨List.mem_append_right _ (List.mem_of_getElem? (i := 974) (by decide +kernel)), by decide +kernel⟩
theorem gw_832 : Cond.fieldLink RX6 198 "NestedSumsModel" "typed" "I" ∈ GW := List.mem_filter.mpr ⟨List.mem_append_right _ (List.mem_of_getElem? (i := 832) (by decide +kernel)), by decide +kernel⟩
theorem gw_831 : Cond.fieldLink RX6 19 "NestedSumsModel" "text" "[I" ∈ GW := List.mem_filter.mpr ⟨List.mem_append_right _ (List.mem_of_getElem? (i := 831) (by decide +kernel)), by decide +kernel⟩
theorem gw_979 : Cond.code yX6_append cX6_append 2 (some .int) ∈ GW := List.mem_filter.mpr ⟨List.mem_append_right _ (List.mem_of_getElem? (i := 979) (by decide +kernel)), by decide +kernel⟩
theorem gw_977 : Cond.instanceMethod yX6_append ∈ GW := List.mem_filter.mpr ⟨List.mem_append_right _ (List.mem_of_getElem? (i := 977) (by decide +kernel)), by decide +kernel⟩
theorem gw_978 : Cond.selects RX6 yX6_append yX6_append ∈ GW := List.mem_filter.mpr ⟨List.mem_append_right _ (List.mem_of_getElem? (i := 978) (by decide +kernel)), by decide +kernel⟩
theorem gw_983 : Cond.code yX6_clearBuffer cX6_clearBuffer 2 (some .int) ∈ GW := List.mem_filter.mpr ⟨List.mem_append_right _ (List.mem_of_getElem? (i := 983) (by decide +kernel)), by decide +kernel⟩
theorem gw_981 : Cond.instanceMethod yX6_clearBuffer ∈ GW := List.mem_filter.mpr ⟨List.mem_append_right _ (List.mem_of_getElem? (i := 981) (by decide +kernel)), by decide +kernel⟩
theorem gw_982 : Cond.selects RX6 yX6_clearBuffer yX6_clearBuffer ∈ GW := List.mem_filter.mpr ⟨List.mem_append_right _ (List.mem_of_getElem? (i := 982) (by decide +kernel)), by decide +kernel⟩
theorem gw_834 : Cond.fieldLink RX6 201 "NestedSumsModel" "at" "I" ∈ GW := List.mem_filter.mpr ⟨List.mem_append_right _ (List.mem_of_getElem? (i := 834) (by decide +kernel)), by decide +kernel⟩
theorem gw_1003 : Cond.code yX6_isAt cX6_isAt 3 (some .boolean) ∈ GW := List.mem_filter.mpr ⟨List.mem_append_right _ (List.mem_of_getElem? (i := 1003) (by decide +kernel)), by decide +kernel⟩
theorem gw_1002 : Cond.instanceMethod yX6_isAt ∈ GW := List.mem_filter.mpr ⟨List.mem_append_right _ (List.mem_of_getElem? (i := 1002) (by decide +kernel)), by decide +kernel⟩
theorem gwp_45 : Cond.selects RX6 yX6_isAt yX6_isAt ∈ GW := List.mem_filter.mpr ⟨List.mem_append_left _ (List.mem_of_getElem? (i := 45) (by decide +kernel)), by decide +kernel⟩
theorem gw_835 : Cond.fieldLink RX6 204 "NestedSumsModel" "isFault" "Z" ∈ GW := List.mem_filter.mpr ⟨List.mem_append_right _ (List.mem_of_getElem? (i := 835) (by decide +kernel)), by decide +kernel⟩
theorem gw_1007 : Cond.code yX6_stops cX6_stops 1 (some .boolean) ∈ GW := List.mem_filter.mpr ⟨List.mem_append_right _ (List.mem_of_getElem? (i := 1007) (by decide +kernel)), by decide +kernel⟩
theorem gw_1006 : Cond.instanceMethod yX6_stops ∈ GW := List.mem_filter.mpr ⟨List.mem_append_right _ (List.mem_of_getElem? (i := 1006) (by decide +kernel)), by decide +kernel⟩
theorem gwp_46 : Cond.selects RX6 yX6_stops yX6_stops ∈ GW := List.mem_filter.mpr ⟨List.mem_append_left _ (List.mem_of_getElem? (i := 46) (by decide +kernel)), by decide +kernel⟩
theorem gw_1000 : Cond.methodLink RX6 207 yX6_isAt ∈ GW := List.mem_filter.mpr ⟨List.mem_append_right _ (List.mem_of_getElem? (i := 1000) (by decide +kernel)), by decide +kernel⟩
theorem gw_837 : Cond.fieldLink RX6 22 "NestedSumsModel" "told" "[I" ∈ GW := List.mem_filter.mpr ⟨List.mem_append_right _ (List.mem_of_getElem? (i := 837) (by decide +kernel)), by decide +kernel⟩
theorem gw_838 : Cond.fieldLink RX6 214 "NestedSumsModel" "tolds" "I" ∈ GW := List.mem_filter.mpr ⟨List.mem_append_right _ (List.mem_of_getElem? (i := 838) (by decide +kernel)), by decide +kernel⟩
theorem gw_1004 : Cond.methodLink RX6 210 yX6_stops ∈ GW := List.mem_filter.mpr ⟨List.mem_append_right _ (List.mem_of_getElem? (i := 1004) (by decide +kernel)), by decide +kernel⟩
theorem gw_999 : Cond.code yX6_isFigure cX6_isFigure 4 (some .boolean) ∈ GW := List.mem_filter.mpr ⟨List.mem_append_right _ (List.mem_of_getElem? (i := 999) (by decide +kernel)), by decide +kernel⟩
theorem gw_998 : Cond.instanceMethod yX6_isFigure ∈ GW := List.mem_filter.mpr ⟨List.mem_append_right _ (List.mem_of_getElem? (i := 998) (by decide +kernel)), by decide +kernel⟩
theorem gwp_44 : Cond.selects RX6 yX6_isFigure yX6_isFigure ∈ GW := List.mem_filter.mpr ⟨List.mem_append_left _ (List.mem_of_getElem? (i := 44) (by decide +kernel)), by decide +kernel⟩
theorem gw_836 : Cond.fieldLink RX6 217 "NestedSumsModel" "value" "I" ∈ GW := List.mem_filter.mpr ⟨List.mem_append_right _ (List.mem_of_getElem? (i := 836) (by decide +kernel)), by decide +kernel⟩
theorem gw_1011 : Cond.code yX6_isNumber cX6_isNumber 3 (some .boolean) ∈ GW := List.mem_filter.mpr ⟨List.mem_append_right _ (List.mem_of_getElem? (i := 1011) (by decide +kernel)), by decide +kernel⟩
theorem gw_1010 : Cond.instanceMethod yX6_isNumber ∈ GW := List.mem_filter.mpr ⟨List.mem_append_right _ (List.mem_of_getElem? (i := 1010) (by decide +kernel)), by decide +kernel⟩
theorem gwp_47 : Cond.selects RX6 yX6_isNumber yX6_isNumber ∈ GW := List.mem_filter.mpr ⟨List.mem_append_left _ (List.mem_of_getElem? (i := 47) (by decide +kernel)), by decide +kernel⟩
theorem gw_996 : Cond.methodLink RX6 220 yX6_isFigure ∈ GW := List.mem_filter.mpr ⟨List.mem_append_right _ (List.mem_of_getElem? (i := 996) (by decide +kernel)), by decide +kernel⟩
theorem gw_1008 : Cond.methodLink RX6 223 yX6_isNumber ∈ GW := List.mem_filter.mpr ⟨List.mem_append_right _ (List.mem_of_getElem? (i := 1008) (by decide +kernel)), by decide +kernel⟩
theorem gw_995 : Cond.code yX6_isOrder cX6_isOrder 4 (some .boolean) ∈ GW := List.mem_filter.mpr ⟨List.mem_append_right _ (List.mem_of_getElem? (i := 995) (by decide +kernel)), by decide +kernel⟩
theorem gw_994 : Cond.instanceMethod yX6_isOrder ∈ GW := List.mem_filter.mpr ⟨List.mem_append_right _ (List.mem_of_getElem? (i := 994) (by decide +kernel)), by decide +kernel⟩
theorem gwp_43 : Cond.selects RX6 yX6_isOrder yX6_isOrder ∈ GW := List.mem_filter.mpr ⟨List.mem_append_left _ (List.mem_of_getElem? (i := 43) (by decide +kernel)), by decide +kernel⟩
theorem gw_992 : Cond.methodLink RX6 226 yX6_isOrder ∈ GW := List.mem_filter.mpr ⟨List.mem_append_right _ (List.mem_of_getElem? (i := 992) (by decide +kernel)), by decide +kernel⟩
theorem gw_991 : Cond.code yX6_isText cX6_isText 2 (some .boolean) ∈ GW := List.mem_filter.mpr ⟨List.mem_append_right _ (List.mem_of_getElem? (i := 991) (by decide +kernel)), by decide +kernel⟩
theorem gw_990 : Cond.instanceMethod yX6_isText ∈ GW := List.mem_filter.mpr ⟨List.mem_append_right _ (List.mem_of_getElem? (i := 990) (by decide +kernel)), by decide +kernel⟩
theorem gwp_42 : Cond.selects RX6 yX6_isText yX6_isText ∈ GW := List.mem_filter.mpr ⟨List.mem_append_left _ (List.mem_of_getElem? (i := 42) (by decide +kernel)), by decide +kernel⟩
theorem gw_988 : Cond.methodLink RX6 229 yX6_isText ∈ GW := List.mem_filter.mpr ⟨List.mem_append_right _ (List.mem_of_getElem? (i := 988) (by decide +kernel)), by decide +kernel⟩
theorem gw_987 : Cond.code yX6_firstError cX6_firstError 2 (some .int) ∈ GW := List.mem_filter.mpr ⟨List.mem_append_right _ (List.mem_of_getElem? (i := 987) (by decide +kernel)), by decide +kernel⟩
theorem gw_985 : Cond.instanceMethod yX6_firstError ∈ GW := List.mem_filter.mpr ⟨List.mem_append_right _ (List.mem_of_getElem? (i := 985) (by decide +kernel)), by decide +kernel⟩
theorem gw_986 : Cond.selects RX6 yX6_firstError yX6_firstError ∈ GW := List.mem_filter.mpr ⟨List.mem_append_right _ (List.mem_of_getElem? (i := 986) (by decide +kernel)), by decide +kernel⟩
theorem gw_1019 : Cond.code yX6_does cX6_does 6 (some .boolean) ∈ GW := List.mem_filter.mpr ⟨List.mem_append_right _ (List.mem_of_getElem? (i := 1019) (by decide +kernel)), by decide +kernel⟩
theorem gw_1018 : Cond.instanceMethod yX6_does ∈ GW := List.mem_filter.mpr ⟨List.mem_append_right _ (List.mem_of_getElem? (i := 1018) (by decide +kernel)), by decide +kernel⟩
theorem gwp_48 : Cond.selects RX6 yX6_does yX6_does ∈ GW := List.mem_filter.mpr ⟨List.mem_append_left _ (List.mem_of_getElem? (i := 48) (by decide +kernel)), by decide +kernel⟩
theorem gw_1016 : Cond.methodLink RX6 232 yX6_does ∈ GW := List.mem_filter.mpr ⟨List.mem_append_right _ (List.mem_of_getElem? (i := 1016) (by decide +kernel)), by decide +kernel⟩
theorem gw_1015 : Cond.code yX6_run cX6_run 2 (some .int) ∈ GW := List.mem_filter.mpr ⟨List.mem_append_right _ (List.mem_of_getElem? (i := 1015) (by decide +kernel)), by decide +kernel⟩
theorem gw_1013 : Cond.instanceMethod yX6_run ∈ GW := List.mem_filter.mpr ⟨List.mem_append_right _ (List.mem_of_getElem? (i := 1013) (by decide +kernel)), by decide +kernel⟩
theorem gw_1014 : Cond.selects RX6 yX6_run yX6_run ∈ GW := List.mem_filter.mpr ⟨List.mem_append_right _ (List.mem_of_getElem? (i := 1014) (by decide +kernel)), by decide +kernel⟩
theorem gw_1103 : Cond.code yX6_ofCell cX6_ofCell 3 (some .int) ∈ GW := List.mem_filter.mpr ⟨List.mem_append_right _ (List.mem_of_getElem? (i := 1103) (by decide +kernel)), by decide +kernel⟩
theorem gw_1102 : Cond.instanceMethod yX6_ofCell ∈ GW := List.mem_filter.mpr ⟨List.mem_append_right _ (List.mem_of_getElem? (i := 1102) (by decide +kernel)), by decide +kernel⟩
theorem gwp_62 : Cond.selects RX6 yX6_ofCell yX6_ofCell ∈ GW := List.mem_filter.mpr ⟨List.mem_append_left _ (List.mem_of_getElem? (i := 62) (by decide +kernel)), by decide +kernel⟩
theorem gw_1024 : Cond.methodLink RX6 236 yX6_laysNow ∈ GW := List.mem_filter.mpr ⟨List.mem_append_right _ (List.mem_of_getElem? (i := 1024) (by decide +kernel)), by decide +kernel⟩
theorem gw_1100 : Cond.methodLink RX6 239 yX6_ofCell ∈ GW := List.mem_filter.mpr ⟨List.mem_append_right _ (List.mem_of_getElem? (i := 1100) (by decide +kernel)), by decide +kernel⟩
theorem gw_1023 : Cond.code yX6_cell cX6_cell 5 (some .int) ∈ GW := List.mem_filter.mpr ⟨List.mem_append_right _ (List.mem_of_getElem? (i := 1023) (by decide +kernel)), by decide +kernel⟩
theorem gw_1021 : Cond.instanceMethod yX6_cell ∈ GW := List.mem_filter.mpr ⟨List.mem_append_right _ (List.mem_of_getElem? (i := 1021) (by decide +kernel)), by decide +kernel⟩
theorem gw_1022 : Cond.selects RX6 yX6_cell yX6_cell ∈ GW := List.mem_filter.mpr ⟨List.mem_append_right _ (List.mem_of_getElem? (i := 1022) (by decide +kernel)), by decide +kernel⟩
theorem gw_1107 : Cond.code yX6_edge cX6_edge 5 (some .int) ∈ GW := List.mem_filter.mpr ⟨List.mem_append_right _ (List.mem_of_getElem? (i := 1107) (by decide +kernel)), by decide +kernel⟩
theorem gw_1105 : Cond.instanceMethod yX6_edge ∈ GW := List.mem_filter.mpr ⟨List.mem_append_right _ (List.mem_of_getElem? (i := 1105) (by decide +kernel)), by decide +kernel⟩
theorem gw_1106 : Cond.selects RX6 yX6_edge yX6_edge ∈ GW := List.mem_filter.mpr ⟨List.mem_append_right _ (List.mem_of_getElem? (i := 1106) (by decide +kernel)), by decide +kernel⟩
theorem gw_1118 : Cond.code yX6_around cX6_around 4 (some .int) ∈ GW := List.mem_filter.mpr ⟨List.mem_append_right _ (List.mem_of_getElem? (i := 1118) (by decide +kernel)), by decide +kernel⟩
theorem gw_1117 : Cond.static yX6_around ∈ GW := List.mem_filter.mpr ⟨List.mem_append_right _ (List.mem_of_getElem? (i := 1117) (by decide +kernel)), by decide +kernel⟩
theorem gw_1116 : Cond.methodLink RX6 242 yX6_around ∈ GW := List.mem_filter.mpr ⟨List.mem_append_right _ (List.mem_of_getElem? (i := 1116) (by decide +kernel)), by decide +kernel⟩
theorem gw_1115 : Cond.code yX6_ofTable cX6_ofTable 3 (some .int) ∈ GW := List.mem_filter.mpr ⟨List.mem_append_right _ (List.mem_of_getElem? (i := 1115) (by decide +kernel)), by decide +kernel⟩
theorem gw_1114 : Cond.instanceMethod yX6_ofTable ∈ GW := List.mem_filter.mpr ⟨List.mem_append_right _ (List.mem_of_getElem? (i := 1114) (by decide +kernel)), by decide +kernel⟩
theorem gwp_63 : Cond.selects RX6 yX6_ofTable yX6_ofTable ∈ GW := List.mem_filter.mpr ⟨List.mem_append_left _ (List.mem_of_getElem? (i := 63) (by decide +kernel)), by decide +kernel⟩
theorem gw_1112 : Cond.methodLink RX6 245 yX6_ofTable ∈ GW := List.mem_filter.mpr ⟨List.mem_append_right _ (List.mem_of_getElem? (i := 1112) (by decide +kernel)), by decide +kernel⟩
theorem gw_1111 : Cond.code yX6_table cX6_table 3 (some .int) ∈ GW := List.mem_filter.mpr ⟨List.mem_append_right _ (List.mem_of_getElem? (i := 1111) (by decide +kernel)), by decide +kernel⟩
theorem gw_1109 : Cond.instanceMethod yX6_table ∈ GW := List.mem_filter.mpr ⟨List.mem_append_right _ (List.mem_of_getElem? (i := 1109) (by decide +kernel)), by decide +kernel⟩
theorem gw_1110 : Cond.selects RX6 yX6_table yX6_table ∈ GW := List.mem_filter.mpr ⟨List.mem_append_right _ (List.mem_of_getElem? (i := 1110) (by decide +kernel)), by decide +kernel⟩
theorem gw_1122 : Cond.code yX6_size cX6_size 4 (some .int) ∈ GW := List.mem_filter.mpr ⟨List.mem_append_right _ (List.mem_of_getElem? (i := 1122) (by decide +kernel)), by decide +kernel⟩
theorem gw_1120 : Cond.instanceMethod yX6_size ∈ GW := List.mem_filter.mpr ⟨List.mem_append_right _ (List.mem_of_getElem? (i := 1120) (by decide +kernel)), by decide +kernel⟩
theorem gw_1121 : Cond.selects RX6 yX6_size yX6_size ∈ GW := List.mem_filter.mpr ⟨List.mem_append_right _ (List.mem_of_getElem? (i := 1121) (by decide +kernel)), by decide +kernel⟩
theorem gw_1127 : Cond.methodLink RX6 248 yX6_laysPages ∈ GW := List.mem_filter.mpr ⟨List.mem_append_right _ (List.mem_of_getElem? (i := 1127) (by decide +kernel)), by decide +kernel⟩
theorem gw_1126 : Cond.code yX6_page cX6_page 2 (some .int) ∈ GW := List.mem_filter.mpr ⟨List.mem_append_right _ (List.mem_of_getElem? (i := 1126) (by decide +kernel)), by decide +kernel⟩
theorem gw_1124 : Cond.instanceMethod yX6_page ∈ GW := List.mem_filter.mpr ⟨List.mem_append_right _ (List.mem_of_getElem? (i := 1124) (by decide +kernel)), by decide +kernel⟩
theorem gw_1125 : Cond.selects RX6 yX6_page yX6_page ∈ GW := List.mem_filter.mpr ⟨List.mem_append_right _ (List.mem_of_getElem? (i := 1125) (by decide +kernel)), by decide +kernel⟩
theorem gw_1145 : Cond.code yX6_cells cX6_cells 4 (some .int) ∈ GW := List.mem_filter.mpr ⟨List.mem_append_right _ (List.mem_of_getElem? (i := 1145) (by decide +kernel)), by decide +kernel⟩
theorem gw_1144 : Cond.instanceMethod yX6_cells ∈ GW := List.mem_filter.mpr ⟨List.mem_append_right _ (List.mem_of_getElem? (i := 1144) (by decide +kernel)), by decide +kernel⟩
theorem gwp_66 : Cond.selects RX6 yX6_cells yX6_cells ∈ GW := List.mem_filter.mpr ⟨List.mem_append_left _ (List.mem_of_getElem? (i := 66) (by decide +kernel)), by decide +kernel⟩
theorem gw_1153 : Cond.code yX6_squares cX6_squares 3 (some .int) ∈ GW := List.mem_filter.mpr ⟨List.mem_append_right _ (List.mem_of_getElem? (i := 1153) (by decide +kernel)), by decide +kernel⟩
theorem gw_1152 : Cond.instanceMethod yX6_squares ∈ GW := List.mem_filter.mpr ⟨List.mem_append_right _ (List.mem_of_getElem? (i := 1152) (by decide +kernel)), by decide +kernel⟩
theorem gwp_68 : Cond.selects RX6 yX6_squares yX6_squares ∈ GW := List.mem_filter.mpr ⟨List.mem_append_left _ (List.mem_of_getElem? (i := 68) (by decide +kernel)), by decide +kernel⟩
theorem gw_1149 : Cond.code yX6_edges cX6_edges 5 (some .int) ∈ GW := List.mem_filter.mpr ⟨List.mem_append_right _ (List.mem_of_getElem? (i := 1149) (by decide +kernel)), by decide +kernel⟩
theorem gw_1148 : Cond.instanceMethod yX6_edges ∈ GW := List.mem_filter.mpr ⟨List.mem_append_right _ (List.mem_of_getElem? (i := 1148) (by decide +kernel)), by decide +kernel⟩
theorem gwp_67 : Cond.selects RX6 yX6_edges yX6_edges ∈ GW := List.mem_filter.mpr ⟨List.mem_append_left _ (List.mem_of_getElem? (i := 67) (by decide +kernel)), by decide +kernel⟩
theorem gw_1150 : Cond.methodLink RX6 258 yX6_squares ∈ GW := List.mem_filter.mpr ⟨List.mem_append_right _ (List.mem_of_getElem? (i := 1150) (by decide +kernel)), by decide +kernel⟩
theorem gw_1142 : Cond.methodLink RX6 251 yX6_cells ∈ GW := List.mem_filter.mpr ⟨List.mem_append_right _ (List.mem_of_getElem? (i := 1142) (by decide +kernel)), by decide +kernel⟩
theorem gw_1146 : Cond.methodLink RX6 254 yX6_edges ∈ GW := List.mem_filter.mpr ⟨List.mem_append_right _ (List.mem_of_getElem? (i := 1146) (by decide +kernel)), by decide +kernel⟩
theorem gw_1141 : Cond.code yX6_counted cX6_counted 2 (some .int) ∈ GW := List.mem_filter.mpr ⟨List.mem_append_right _ (List.mem_of_getElem? (i := 1141) (by decide +kernel)), by decide +kernel⟩
theorem gw_1140 : Cond.instanceMethod yX6_counted ∈ GW := List.mem_filter.mpr ⟨List.mem_append_right _ (List.mem_of_getElem? (i := 1140) (by decide +kernel)), by decide +kernel⟩
theorem gwp_65 : Cond.selects RX6 yX6_counted yX6_counted ∈ GW := List.mem_filter.mpr ⟨List.mem_append_left _ (List.mem_of_getElem? (i := 65) (by decide +kernel)), by decide +kernel⟩
theorem gw_1138 : Cond.methodLink RX6 261 yX6_counted ∈ GW := List.mem_filter.mpr ⟨List.mem_append_right _ (List.mem_of_getElem? (i := 1138) (by decide +kernel)), by decide +kernel⟩
theorem gw_1137 : Cond.code yX6_count cX6_count 2 (some .int) ∈ GW := List.mem_filter.mpr ⟨List.mem_append_right _ (List.mem_of_getElem? (i := 1137) (by decide +kernel)), by decide +kernel⟩
theorem gw_1135 : Cond.instanceMethod yX6_count ∈ GW := List.mem_filter.mpr ⟨List.mem_append_right _ (List.mem_of_getElem? (i := 1135) (by decide +kernel)), by decide +kernel⟩
theorem gw_1136 : Cond.selects RX6 yX6_count yX6_count ∈ GW := List.mem_filter.mpr ⟨List.mem_append_right _ (List.mem_of_getElem? (i := 1136) (by decide +kernel)), by decide +kernel⟩
theorem gw_846 : Cond.fieldLink RX6 43 "NestedSumsModel" "had" "[I" ∈ GW := List.mem_filter.mpr ⟨List.mem_append_right _ (List.mem_of_getElem? (i := 846) (by decide +kernel)), by decide +kernel⟩
theorem gw_828 : Cond.fieldLink RX6 13 "NestedSumsModel" "then" "[I" ∈ GW := List.mem_filter.mpr ⟨List.mem_append_right _ (List.mem_of_getElem? (i := 828) (by decide +kernel)), by decide +kernel⟩
theorem gw_1161 : Cond.code yX6_byPutting cX6_byPutting 6 (some .int) ∈ GW := List.mem_filter.mpr ⟨List.mem_append_right _ (List.mem_of_getElem? (i := 1161) (by decide +kernel)), by decide +kernel⟩
theorem gw_1160 : Cond.instanceMethod yX6_byPutting ∈ GW := List.mem_filter.mpr ⟨List.mem_append_right _ (List.mem_of_getElem? (i := 1160) (by decide +kernel)), by decide +kernel⟩
theorem gwp_69 : Cond.selects RX6 yX6_byPutting yX6_byPutting ∈ GW := List.mem_filter.mpr ⟨List.mem_append_left _ (List.mem_of_getElem? (i := 69) (by decide +kernel)), by decide +kernel⟩
theorem gw_1158 : Cond.methodLink RX6 264 yX6_byPutting ∈ GW := List.mem_filter.mpr ⟨List.mem_append_right _ (List.mem_of_getElem? (i := 1158) (by decide +kernel)), by decide +kernel⟩
theorem gw_1157 : Cond.code yX6_ifPut cX6_ifPut 6 (some .int) ∈ GW := List.mem_filter.mpr ⟨List.mem_append_right _ (List.mem_of_getElem? (i := 1157) (by decide +kernel)), by decide +kernel⟩
theorem gw_1155 : Cond.instanceMethod yX6_ifPut ∈ GW := List.mem_filter.mpr ⟨List.mem_append_right _ (List.mem_of_getElem? (i := 1155) (by decide +kernel)), by decide +kernel⟩
theorem gw_1156 : Cond.selects RX6 yX6_ifPut yX6_ifPut ∈ GW := List.mem_filter.mpr ⟨List.mem_append_right _ (List.mem_of_getElem? (i := 1156) (by decide +kernel)), by decide +kernel⟩
theorem gw_1169 : Cond.code yX6_counters cX6_counters 7 (some .int) ∈ GW := List.mem_filter.mpr ⟨List.mem_append_right _ (List.mem_of_getElem? (i := 1169) (by decide +kernel)), by decide +kernel⟩
theorem gw_1168 : Cond.instanceMethod yX6_counters ∈ GW := List.mem_filter.mpr ⟨List.mem_append_right _ (List.mem_of_getElem? (i := 1168) (by decide +kernel)), by decide +kernel⟩
theorem gwp_70 : Cond.selects RX6 yX6_counters yX6_counters ∈ GW := List.mem_filter.mpr ⟨List.mem_append_left _ (List.mem_of_getElem? (i := 70) (by decide +kernel)), by decide +kernel⟩
theorem gw_1166 : Cond.methodLink RX6 267 yX6_counters ∈ GW := List.mem_filter.mpr ⟨List.mem_append_right _ (List.mem_of_getElem? (i := 1166) (by decide +kernel)), by decide +kernel⟩
theorem gw_1165 : Cond.code yX6_countedBy cX6_countedBy 4 (some .int) ∈ GW := List.mem_filter.mpr ⟨List.mem_append_right _ (List.mem_of_getElem? (i := 1165) (by decide +kernel)), by decide +kernel⟩
theorem gw_1163 : Cond.instanceMethod yX6_countedBy ∈ GW := List.mem_filter.mpr ⟨List.mem_append_right _ (List.mem_of_getElem? (i := 1163) (by decide +kernel)), by decide +kernel⟩
theorem gw_1164 : Cond.selects RX6 yX6_countedBy yX6_countedBy ∈ GW := List.mem_filter.mpr ⟨List.mem_append_right _ (List.mem_of_getElem? (i := 1164) (by decide +kernel)), by decide +kernel⟩
theorem gw_1177 : Cond.code yX6_leastFor cX6_leastFor 3 (some .int) ∈ GW := List.mem_filter.mpr ⟨List.mem_append_right _ (List.mem_of_getElem? (i := 1177) (by decide +kernel)), by decide +kernel⟩
theorem gw_1176 : Cond.instanceMethod yX6_leastFor ∈ GW := List.mem_filter.mpr ⟨List.mem_append_right _ (List.mem_of_getElem? (i := 1176) (by decide +kernel)), by decide +kernel⟩
theorem gwp_71 : Cond.selects RX6 yX6_leastFor yX6_leastFor ∈ GW := List.mem_filter.mpr ⟨List.mem_append_left _ (List.mem_of_getElem? (i := 71) (by decide +kernel)), by decide +kernel⟩
theorem gw_1174 : Cond.methodLink RX6 270 yX6_leastFor ∈ GW := List.mem_filter.mpr ⟨List.mem_append_right _ (List.mem_of_getElem? (i := 1174) (by decide +kernel)), by decide +kernel⟩
theorem gw_1173 : Cond.code yX6_heightFor cX6_heightFor 2 (some .int) ∈ GW := List.mem_filter.mpr ⟨List.mem_append_right _ (List.mem_of_getElem? (i := 1173) (by decide +kernel)), by decide +kernel⟩
theorem gw_1171 : Cond.instanceMethod yX6_heightFor ∈ GW := List.mem_filter.mpr ⟨List.mem_append_right _ (List.mem_of_getElem? (i := 1171) (by decide +kernel)), by decide +kernel⟩
theorem gw_1172 : Cond.selects RX6 yX6_heightFor yX6_heightFor ∈ GW := List.mem_filter.mpr ⟨List.mem_append_right _ (List.mem_of_getElem? (i := 1172) (by decide +kernel)), by decide +kernel⟩
theorem gw_1185 : Cond.code yX6_share cX6_share 2 (some .double) ∈ GW := List.mem_filter.mpr ⟨List.mem_append_right _ (List.mem_of_getElem? (i := 1185) (by decide +kernel)), by decide +kernel⟩
theorem gw_1184 : Cond.instanceMethod yX6_share ∈ GW := List.mem_filter.mpr ⟨List.mem_append_right _ (List.mem_of_getElem? (i := 1184) (by decide +kernel)), by decide +kernel⟩
theorem gwp_72 : Cond.selects RX6 yX6_share yX6_share ∈ GW := List.mem_filter.mpr ⟨List.mem_append_left _ (List.mem_of_getElem? (i := 72) (by decide +kernel)), by decide +kernel⟩
theorem gw_1182 : Cond.methodLink RX6 273 yX6_share ∈ GW := List.mem_filter.mpr ⟨List.mem_append_right _ (List.mem_of_getElem? (i := 1182) (by decide +kernel)), by decide +kernel⟩
theorem gw_1181 : Cond.code yX6_filledShare cX6_filledShare 1 (some .double) ∈ GW := List.mem_filter.mpr ⟨List.mem_append_right _ (List.mem_of_getElem? (i := 1181) (by decide +kernel)), by decide +kernel⟩
theorem gw_1179 : Cond.instanceMethod yX6_filledShare ∈ GW := List.mem_filter.mpr ⟨List.mem_append_right _ (List.mem_of_getElem? (i := 1179) (by decide +kernel)), by decide +kernel⟩
theorem gw_1180 : Cond.selects RX6 yX6_filledShare yX6_filledShare ∈ GW := List.mem_filter.mpr ⟨List.mem_append_right _ (List.mem_of_getElem? (i := 1180) (by decide +kernel)), by decide +kernel⟩
theorem gw_1197 : Cond.code yJxe99ae_isNaN_b9ae7 cJxe99ae_isNaN_b9ae7 2 (some .boolean) ∈ GW := List.mem_filter.mpr ⟨List.mem_append_right _ (List.mem_of_getElem? (i := 1197) (by decide +kernel)), by decide +kernel⟩
theorem gw_18 : Cond.initialized RJxe99ae ∈ GW := List.mem_filter.mpr ⟨List.mem_append_right _ (List.mem_of_getElem? (i := 18) (by decide +kernel)), by decide +kernel⟩
theorem gw_1196 : Cond.static yJxe99ae_isNaN_b9ae7 ∈ GW := List.mem_filter.mpr ⟨List.mem_append_right _ (List.mem_of_getElem? (i := 1196) (by decide +kernel)), by decide +kernel⟩
theorem gw_1195 : Cond.methodLink RJxe99ae 122 yJxe99ae_isNaN_b9ae7 ∈ GW := List.mem_filter.mpr ⟨List.mem_append_right _ (List.mem_of_getElem? (i := 1195) (by decide +kernel)), by decide +kernel⟩
theorem gw_1201 : Cond.constantLong RJxe99ae 137 (9221120237041090560) ∈ GW := List.mem_filter.mpr ⟨List.mem_append_right _ (List.mem_of_getElem? (i := 1201) (by decide +kernel)), by decide +kernel⟩
theorem gw_1198 : Cond.methodLink RJxe99ae 134 ⟨"java/lang/Double", "doubleToRawLongBits", "(D)J"⟩ ∈ GW := List.mem_filter.mpr ⟨List.mem_append_right _ (List.mem_of_getElem? (i := 1198) (by decide +kernel)), by decide +kernel⟩
theorem gw_1200 : Cond.native ⟨"java/lang/Double", "doubleToRawLongBits", "(D)J"⟩ ∈ GW := List.mem_filter.mpr ⟨List.mem_append_right _ (List.mem_of_getElem? (i := 1200) (by decide +kernel)), by decide +kernel⟩
theorem gw_1199 : Cond.static ⟨"java/lang/Double", "doubleToRawLongBits", "(D)J"⟩ ∈ GW := List.mem_filter.mpr ⟨List.mem_append_right _ (List.mem_of_getElem? (i := 1199) (by decide +kernel)), by decide +kernel⟩
theorem gw_1194 : Cond.code yJxe99ae_doubleToLongBits_ccdee cJxe99ae_doubleToLongBits_ccdee 2 (some .long) ∈ GW := List.mem_filter.mpr ⟨List.mem_append_right _ (List.mem_of_getElem? (i := 1194) (by decide +kernel)), by decide +kernel⟩
theorem gw_1193 : Cond.static yJxe99ae_doubleToLongBits_ccdee ∈ GW := List.mem_filter.mpr ⟨List.mem_append_right _ (List.mem_of_getElem? (i := 1193) (by decide +kernel)), by decide +kernel⟩
theorem gw_1190 : Cond.constantLong RX6 277 (2887) ∈ GW := List.mem_filter.mpr ⟨List.mem_append_right _ (List.mem_of_getElem? (i := 1190) (by decide +kernel)), by decide +kernel⟩
theorem gw_1191 : Cond.constantLong RX6 279 (31) ∈ GW := List.mem_filter.mpr ⟨List.mem_append_right _ (List.mem_of_getElem? (i := 1191) (by decide +kernel)), by decide +kernel⟩
theorem gw_1192 : Cond.methodLink RX6 281 yJxe99ae_doubleToLongBits_ccdee ∈ GW := List.mem_filter.mpr ⟨List.mem_append_right _ (List.mem_of_getElem? (i := 1192) (by decide +kernel)), by decide +kernel⟩
theorem gw_1189 : Cond.code yX6_digest cX6_digest 7 (some .long) ∈ GW := List.mem_filter.mpr ⟨List.mem_append_right _ (List.mem_of_getElem? (i := 1189) (by decide +kernel)), by decide +kernel⟩
theorem gw_1187 : Cond.instanceMethod yX6_digest ∈ GW := List.mem_filter.mpr ⟨List.mem_append_right _ (List.mem_of_getElem? (i := 1187) (by decide +kernel)), by decide +kernel⟩
theorem gw_1188 : Cond.selects RX6 yX6_digest yX6_digest ∈ GW := List.mem_filter.mpr ⟨List.mem_append_right _ (List.mem_of_getElem? (i := 1188) (by decide +kernel)), by decide +kernel⟩
