set_option maxRecDepth 100000 in
theorem lc_0 {nm : String} {et : List ExceptionTableEntry} {b L i k n : Nat} {xs : Nat → Int32} {T : Tb} {σ : Mm} {I : Mm → Prop} (hst : StW I cs_begin (F_X5_begin (xs (i + 1)) (xs (i + 2))) (F_X6_begin (xs (i + 1)) (xs (i + 2)))) (hL : i + 6 ≤ L) (hL2 : L ≤ 3072) (hk : k + 1 ≤ 601024) (hn : n + 6 ≤ 7293034) (hN : isNS T) (hM : isMod T) (hO : T[185]? = some (1, 1, [])) (hI : I σ) (KK : ∀ σ1, I σ1 → Lw nm et b L xs false (k + 1) (n + 6) T 1609 (loI b i) [] σ1) : Lw nm et b L xs false k n T 144 (loI b i) [] σ := by
  unfold loI at *
  obtain ⟨o, σ1, h1, v, σ3, h3, hI3, hR⟩ := hst σ hI
  obtain ⟨c, hev, hc, hz⟩ := wq_begin T hN hO (xs (i + 1)) (xs (i + 2)) σ σ1 σ3 o v h1 hR
  refine rn_aload_n (pc := 144) (i := 1) dL_law_144 rfl rfl ?_
  refine lr_rd (pc := 145) (i := i) (j := 1) (jv := 1) rfl rfl (by decide) (by omega) hL2 dL_law_145 dL_law_146 dL_law_148 dL_law_149 dL_law_150 rfl rfl ?_
  refine lr_rd (pc := 151) (i := i) (j := 2) (jv := 2) rfl rfl (by decide) (by omega) hL2 dL_law_151 dL_law_152 dL_law_154 dL_law_155 dL_law_156 rfl rfl ?_
  refine rn_aload_n (pc := 157) (i := 3) dL_law_157 rfl rfl ?_
  refine rn_callSH (pc := 158) (r := some (.int c)) (as := [.ref 0, .int (xs (i + 1)), .int (xs (i + 2)), .ref 185]) (rm' := rmW) kw_begin gw_584 hev rfl rfl (Nat.le_of_ble_eq_true rfl) (Nat.le_of_ble_eq_true rfl) (Nat.le_of_ble_eq_true rfl) hk hn (fun h => by cases h) dL_law_158 ?_
  refine rn_istore (pc := 161) (i := 5) (lo' := [some (.retAddr b), some (.ref 0), some (.ref 168), some (.ref 185), some (.int (Int32.ofNat i)), some (.int c), none, none, none]) dL_law_161 (by decide) rfl ?_
  refine rn_aload_n (pc := 163) (i := 2) dL_law_163 rfl rfl ?_
  refine lr_rd (pc := 164) (i := i) (j := 1) (jv := 1) rfl rfl (by decide) (by omega) hL2 dL_law_164 dL_law_165 dL_law_167 dL_law_168 dL_law_169 rfl rfl ?_
  refine lr_rd (pc := 170) (i := i) (j := 2) (jv := 2) rfl rfl (by decide) (by omega) hL2 dL_law_170 dL_law_171 dL_law_173 dL_law_174 dL_law_175 rfl rfl ?_
  refine rn_callV (pc := 176) (r := some (.int v)) (as := [.int (xs (i + 1)), .int (xs (i + 2))]) hM.1 ⟨_, _, rfl⟩ k_X6_begin.1 k_X6_begin.2.1 k_X6_begin.2.2.1 gw_915 (c_X6_begin T (xs (i + 1)) (xs (i + 2)) hM _ _ _ h3) rfl rfl (Nat.le_of_ble_eq_true rfl) (Nat.le_of_ble_eq_true rfl) (Nat.le_of_ble_eq_true rfl) hk hn (fun h => by cases h) dL_law_176 ?_
  refine rn_istore (pc := 179) (i := 6) (lo' := [some (.retAddr b), some (.ref 0), some (.ref 168), some (.ref 185), some (.int (Int32.ofNat i)), some (.int c), some (.int v), none, none]) dL_law_179 (by decide) rfl ?_
  refine rn_aload_n (pc := 181) (i := 2) dL_law_181 rfl rfl ?_
  refine rn_callV (pc := 182) (r := some (.int (σ3 168 6))) (as := []) hM.1 ⟨_, _, rfl⟩ k_X6_thrown.1 k_X6_thrown.2.1 k_X6_thrown.2.2.1 gw_900 (c_X6_thrown T hM σ3 (.inl (σ3 168 6)) σ3 rfl) rfl rfl (Nat.le_of_ble_eq_true rfl) (Nat.le_of_ble_eq_true rfl) (Nat.le_of_ble_eq_true rfl) hk hn (fun h => by cases h) dL_law_182 ?_
  refine rn_iload (pc := 185) (i := 5) dL_law_185 rfl ?_
  refine rn_icmp_eq (pc := 187) (tgt := 192) dL_law_187 rfl (fun _ => ?_) (fun h => absurd hc h)
  refine rn_iload (pc := 192) (i := 5) dL_law_192 rfl ?_
  have KE := rn_goto (pc := 209) (tgt := 1609) (lo := [some (.retAddr b), some (.ref 0), some (.ref 168), some (.ref 185), some (.int (Int32.ofNat i)), some (.int c), some (.int v), none, none]) dL_law_209 rfl (rn_sub (KK σ3 hI3) ⟨rfl, rfl, rfl, rfl, rfl, trivial⟩)
  refine rn_if_ne (pc := 194) (tgt := 209) dL_law_194 rfl (fun _ => KE) (fun h0 => ?_)
  refine rn_aload_n (pc := 197) (i := 3) dL_law_197 rfl rfl ?_
  refine rn_iconst (pc := 198) (v := 0) dL_law_198 (by decide) ?_
  refine rn_lald (pc := 199) hO (by unfold vp_in; decide) dL_law_199 ?_
  refine rn_iload (pc := 200) (i := 6) dL_law_200 rfl ?_
  refine rn_i2l (pc := 202) dL_law_202 ?_
  refine rn_lcmp (pc := 203) dL_law_203 ?_
  exact rn_if_eq (pc := 204) (tgt := 209) dL_law_204 rfl (fun _ => KE) (fun h => absurd (lr_lc (congrArg Int32.toInt64 (hz h0))) h)
set_option maxRecDepth 100000 in
theorem lc_1 {nm : String} {et : List ExceptionTableEntry} {b L i k n : Nat} {xs : Nat → Int32} {T : Tb} {σ : Mm} {I : Mm → Prop} (hst : StW I cs_nest (F_X5_nest (xs (i + 1)) (xs (i + 2)) (xs (i + 3)) (xs (i + 4)) (xs (i + 5))) (F_X6_nest (xs (i + 1)) (xs (i + 2)) (xs (i + 3)) (xs (i + 4)) (xs (i + 5)))) (hL : i + 6 ≤ L) (hL2 : L ≤ 3072) (hk : k + 1 ≤ 601024) (hn : n + 6 ≤ 7293034) (hN : isNS T) (hM : isMod T) (hO : T[185]? = some (1, 1, [])) (hI : I σ) (KK : ∀ σ1, I σ1 → Lw nm et b L xs false (k + 1) (n + 6) T 1609 (loI b i) [] σ1) : Lw nm et b L xs false k n T 212 (loI b i) [] σ := by
  unfold loI at *
  obtain ⟨o, σ1, h1, v, σ3, h3, hI3, hR⟩ := hst σ hI
  obtain ⟨c, hev, hc, hz⟩ := wq_nest T hN hO (xs (i + 1)) (xs (i + 2)) (xs (i + 3)) (xs (i + 4)) (xs (i + 5)) σ σ1 σ3 o v h1 hR
  refine rn_aload_n (pc := 212) (i := 1) dL_law_212 rfl rfl ?_
  refine lr_rd (pc := 213) (i := i) (j := 1) (jv := 1) rfl rfl (by decide) (by omega) hL2 dL_law_213 dL_law_214 dL_law_216 dL_law_217 dL_law_218 rfl rfl ?_
  refine lr_rd (pc := 219) (i := i) (j := 2) (jv := 2) rfl rfl (by decide) (by omega) hL2 dL_law_219 dL_law_220 dL_law_222 dL_law_223 dL_law_224 rfl rfl ?_
  refine lr_rd (pc := 225) (i := i) (j := 3) (jv := 3) rfl rfl (by decide) (by omega) hL2 dL_law_225 dL_law_226 dL_law_228 dL_law_229 dL_law_230 rfl rfl ?_
  refine lr_rd (pc := 231) (i := i) (j := 4) (jv := 4) rfl rfl (by decide) (by omega) hL2 dL_law_231 dL_law_232 dL_law_234 dL_law_235 dL_law_236 rfl rfl ?_
  refine lr_rd (pc := 237) (i := i) (j := 5) (jv := 5) rfl rfl (by decide) (by omega) hL2 dL_law_237 dL_law_238 dL_law_240 dL_law_241 dL_law_242 rfl rfl ?_
  refine rn_aload_n (pc := 243) (i := 3) dL_law_243 rfl rfl ?_
  refine rn_callSH (pc := 244) (r := some (.int c)) (as := [.ref 0, .int (xs (i + 1)), .int (xs (i + 2)), .int (xs (i + 3)), .int (xs (i + 4)), .int (xs (i + 5)), .ref 185]) (rm' := rmW) kw_nest gw_604 hev rfl rfl (Nat.le_of_ble_eq_true rfl) (Nat.le_of_ble_eq_true rfl) (Nat.le_of_ble_eq_true rfl) hk hn (fun h => by cases h) dL_law_244 ?_
  refine rn_istore (pc := 247) (i := 5) (lo' := [some (.retAddr b), some (.ref 0), some (.ref 168), some (.ref 185), some (.int (Int32.ofNat i)), some (.int c), none, none, none]) dL_law_247 (by decide) rfl ?_
  refine rn_aload_n (pc := 249) (i := 2) dL_law_249 rfl rfl ?_
  refine lr_rd (pc := 250) (i := i) (j := 1) (jv := 1) rfl rfl (by decide) (by omega) hL2 dL_law_250 dL_law_251 dL_law_253 dL_law_254 dL_law_255 rfl rfl ?_
  refine lr_rd (pc := 256) (i := i) (j := 2) (jv := 2) rfl rfl (by decide) (by omega) hL2 dL_law_256 dL_law_257 dL_law_259 dL_law_260 dL_law_261 rfl rfl ?_
  refine lr_rd (pc := 262) (i := i) (j := 3) (jv := 3) rfl rfl (by decide) (by omega) hL2 dL_law_262 dL_law_263 dL_law_265 dL_law_266 dL_law_267 rfl rfl ?_
  refine lr_rd (pc := 268) (i := i) (j := 4) (jv := 4) rfl rfl (by decide) (by omega) hL2 dL_law_268 dL_law_269 dL_law_271 dL_law_272 dL_law_273 rfl rfl ?_
  refine lr_rd (pc := 274) (i := i) (j := 5) (jv := 5) rfl rfl (by decide) (by omega) hL2 dL_law_274 dL_law_275 dL_law_277 dL_law_278 dL_law_279 rfl rfl ?_
  refine rn_callV (pc := 280) (r := some (.int v)) (as := [.int (xs (i + 1)), .int (xs (i + 2)), .int (xs (i + 3)), .int (xs (i + 4)), .int (xs (i + 5))]) hM.1 ⟨_, _, rfl⟩ k_X6_nest.1 k_X6_nest.2.1 k_X6_nest.2.2.1 gw_926 (c_X6_nest T (xs (i + 1)) (xs (i + 2)) (xs (i + 3)) (xs (i + 4)) (xs (i + 5)) hM _ _ _ h3) rfl rfl (Nat.le_of_ble_eq_true rfl) (Nat.le_of_ble_eq_true rfl) (Nat.le_of_ble_eq_true rfl) hk hn (fun h => by cases h) dL_law_280 ?_
  refine rn_istore (pc := 283) (i := 6) (lo' := [some (.retAddr b), some (.ref 0), some (.ref 168), some (.ref 185), some (.int (Int32.ofNat i)), some (.int c), some (.int v), none, none]) dL_law_283 (by decide) rfl ?_
  refine rn_aload_n (pc := 285) (i := 2) dL_law_285 rfl rfl ?_
  refine rn_callV (pc := 286) (r := some (.int (σ3 168 6))) (as := []) hM.1 ⟨_, _, rfl⟩ k_X6_thrown.1 k_X6_thrown.2.1 k_X6_thrown.2.2.1 gw_900 (c_X6_thrown T hM σ3 (.inl (σ3 168 6)) σ3 rfl) rfl rfl (Nat.le_of_ble_eq_true rfl) (Nat.le_of_ble_eq_true rfl) (Nat.le_of_ble_eq_true rfl) hk hn (fun h => by cases h) dL_law_286 ?_
  refine rn_iload (pc := 289) (i := 5) dL_law_289 rfl ?_
  refine rn_icmp_eq (pc := 291) (tgt := 296) dL_law_291 rfl (fun _ => ?_) (fun h => absurd hc h)
  refine rn_iload (pc := 296) (i := 5) dL_law_296 rfl ?_
  have KE := rn_goto (pc := 313) (tgt := 1609) (lo := [some (.retAddr b), some (.ref 0), some (.ref 168), some (.ref 185), some (.int (Int32.ofNat i)), some (.int c), some (.int v), none, none]) dL_law_313 rfl (rn_sub (KK σ3 hI3) ⟨rfl, rfl, rfl, rfl, rfl, trivial⟩)
  refine rn_if_ne (pc := 298) (tgt := 313) dL_law_298 rfl (fun _ => KE) (fun h0 => ?_)
  refine rn_aload_n (pc := 301) (i := 3) dL_law_301 rfl rfl ?_
  refine rn_iconst (pc := 302) (v := 0) dL_law_302 (by decide) ?_
  refine rn_lald (pc := 303) hO (by unfold vp_in; decide) dL_law_303 ?_
  refine rn_iload (pc := 304) (i := 6) dL_law_304 rfl ?_
  refine rn_i2l (pc := 306) dL_law_306 ?_
  refine rn_lcmp (pc := 307) dL_law_307 ?_
  exact rn_if_eq (pc := 308) (tgt := 313) dL_law_308 rfl (fun _ => KE) (fun h => absurd (lr_lc (congrArg Int32.toInt64 (hz h0))) h)
set_option maxRecDepth 100000 in
theorem lc_2 {nm : String} {et : List ExceptionTableEntry} {b L i k n : Nat} {xs : Nat → Int32} {T : Tb} {σ : Mm} {I : Mm → Prop} (hst : StW I cs_put (F_X5_put (xs (i + 1)) (xs (i + 2)) (xs (i + 3)) (xs (i + 4)) (xs (i + 5))) (F_X6_put (xs (i + 1)) (xs (i + 2)) (xs (i + 3)) (xs (i + 4)) (xs (i + 5)))) (hL : i + 6 ≤ L) (hL2 : L ≤ 3072) (hk : k + 1 ≤ 601024) (hn : n + 6 ≤ 7293034) (hN : isNS T) (hM : isMod T) (hO : T[185]? = some (1, 1, [])) (hI : I σ) (KK : ∀ σ1, I σ1 → Lw nm et b L xs false (k + 1) (n + 6) T 1609 (loI b i) [] σ1) : Lw nm et b L xs false k n T 316 (loI b i) [] σ := by
  unfold loI at *
  obtain ⟨o, σ1, h1, v, σ3, h3, hI3, hR⟩ := hst σ hI
  obtain ⟨c, hev, hc, hz⟩ := wq_put T hN hO (xs (i + 1)) (xs (i + 2)) (xs (i + 3)) (xs (i + 4)) (xs (i + 5)) σ σ1 σ3 o v h1 hR
  refine rn_aload_n (pc := 316) (i := 1) dL_law_316 rfl rfl ?_
  refine lr_rd (pc := 317) (i := i) (j := 1) (jv := 1) rfl rfl (by decide) (by omega) hL2 dL_law_317 dL_law_318 dL_law_320 dL_law_321 dL_law_322 rfl rfl ?_
  refine lr_rd (pc := 323) (i := i) (j := 2) (jv := 2) rfl rfl (by decide) (by omega) hL2 dL_law_323 dL_law_324 dL_law_326 dL_law_327 dL_law_328 rfl rfl ?_
  refine lr_rd (pc := 329) (i := i) (j := 3) (jv := 3) rfl rfl (by decide) (by omega) hL2 dL_law_329 dL_law_330 dL_law_332 dL_law_333 dL_law_334 rfl rfl ?_
  refine lr_rd (pc := 335) (i := i) (j := 4) (jv := 4) rfl rfl (by decide) (by omega) hL2 dL_law_335 dL_law_336 dL_law_338 dL_law_339 dL_law_340 rfl rfl ?_
  refine lr_rd (pc := 341) (i := i) (j := 5) (jv := 5) rfl rfl (by decide) (by omega) hL2 dL_law_341 dL_law_342 dL_law_344 dL_law_345 dL_law_346 rfl rfl ?_
  refine rn_aload_n (pc := 347) (i := 3) dL_law_347 rfl rfl ?_
  refine rn_callSH (pc := 348) (r := some (.int c)) (as := [.ref 0, .int (xs (i + 1)), .int (xs (i + 2)), .int (xs (i + 3)), .int (xs (i + 4)), .int (xs (i + 5)), .ref 185]) (rm' := rmW) kw_put gw_636 hev rfl rfl (Nat.le_of_ble_eq_true rfl) (Nat.le_of_ble_eq_true rfl) (Nat.le_of_ble_eq_true rfl) hk hn (fun h => by cases h) dL_law_348 ?_
  refine rn_istore (pc := 351) (i := 5) (lo' := [some (.retAddr b), some (.ref 0), some (.ref 168), some (.ref 185), some (.int (Int32.ofNat i)), some (.int c), none, none, none]) dL_law_351 (by decide) rfl ?_
  refine rn_aload_n (pc := 353) (i := 2) dL_law_353 rfl rfl ?_
  refine lr_rd (pc := 354) (i := i) (j := 1) (jv := 1) rfl rfl (by decide) (by omega) hL2 dL_law_354 dL_law_355 dL_law_357 dL_law_358 dL_law_359 rfl rfl ?_
  refine lr_rd (pc := 360) (i := i) (j := 2) (jv := 2) rfl rfl (by decide) (by omega) hL2 dL_law_360 dL_law_361 dL_law_363 dL_law_364 dL_law_365 rfl rfl ?_
  refine lr_rd (pc := 366) (i := i) (j := 3) (jv := 3) rfl rfl (by decide) (by omega) hL2 dL_law_366 dL_law_367 dL_law_369 dL_law_370 dL_law_371 rfl rfl ?_
  refine lr_rd (pc := 372) (i := i) (j := 4) (jv := 4) rfl rfl (by decide) (by omega) hL2 dL_law_372 dL_law_373 dL_law_375 dL_law_376 dL_law_377 rfl rfl ?_
  refine lr_rd (pc := 378) (i := i) (j := 5) (jv := 5) rfl rfl (by decide) (by omega) hL2 dL_law_378 dL_law_379 dL_law_381 dL_law_382 dL_law_383 rfl rfl ?_
  refine rn_callV (pc := 384) (r := some (.int v)) (as := [.int (xs (i + 1)), .int (xs (i + 2)), .int (xs (i + 3)), .int (xs (i + 4)), .int (xs (i + 5))]) hM.1 ⟨_, _, rfl⟩ k_X6_put.1 k_X6_put.2.1 k_X6_put.2.2.1 gw_946 (c_X6_put T (xs (i + 1)) (xs (i + 2)) (xs (i + 3)) (xs (i + 4)) (xs (i + 5)) hM _ _ _ h3) rfl rfl (Nat.le_of_ble_eq_true rfl) (Nat.le_of_ble_eq_true rfl) (Nat.le_of_ble_eq_true rfl) hk hn (fun h => by cases h) dL_law_384 ?_
  refine rn_istore (pc := 387) (i := 6) (lo' := [some (.retAddr b), some (.ref 0), some (.ref 168), some (.ref 185), some (.int (Int32.ofNat i)), some (.int c), some (.int v), none, none]) dL_law_387 (by decide) rfl ?_
  refine rn_aload_n (pc := 389) (i := 2) dL_law_389 rfl rfl ?_
  refine rn_callV (pc := 390) (r := some (.int (σ3 168 6))) (as := []) hM.1 ⟨_, _, rfl⟩ k_X6_thrown.1 k_X6_thrown.2.1 k_X6_thrown.2.2.1 gw_900 (c_X6_thrown T hM σ3 (.inl (σ3 168 6)) σ3 rfl) rfl rfl (Nat.le_of_ble_eq_true rfl) (Nat.le_of_ble_eq_true rfl) (Nat.le_of_ble_eq_true rfl) hk hn (fun h => by cases h) dL_law_390 ?_
  refine rn_iload (pc := 393) (i := 5) dL_law_393 rfl ?_
  refine rn_icmp_eq (pc := 395) (tgt := 400) dL_law_395 rfl (fun _ => ?_) (fun h => absurd hc h)
  refine rn_iload (pc := 400) (i := 5) dL_law_400 rfl ?_
  have KE := rn_goto (pc := 417) (tgt := 1609) (lo := [some (.retAddr b), some (.ref 0), some (.ref 168), some (.ref 185), some (.int (Int32.ofNat i)), some (.int c), some (.int v), none, none]) dL_law_417 rfl (rn_sub (KK σ3 hI3) ⟨rfl, rfl, rfl, rfl, rfl, trivial⟩)
  refine rn_if_ne (pc := 402) (tgt := 417) dL_law_402 rfl (fun _ => KE) (fun h0 => ?_)
  refine rn_aload_n (pc := 405) (i := 3) dL_law_405 rfl rfl ?_
  refine rn_iconst (pc := 406) (v := 0) dL_law_406 (by decide) ?_
  refine rn_lald (pc := 407) hO (by unfold vp_in; decide) dL_law_407 ?_
  refine rn_iload (pc := 408) (i := 6) dL_law_408 rfl ?_
  refine rn_i2l (pc := 410) dL_law_410 ?_
  refine rn_lcmp (pc := 411) dL_law_411 ?_
  exact rn_if_eq (pc := 412) (tgt := 417) dL_law_412 rfl (fun _ => KE) (fun h => absurd (lr_lc (congrArg Int32.toInt64 (hz h0))) h)
set_option maxRecDepth 100000 in
theorem lc_3 {nm : String} {et : List ExceptionTableEntry} {b L i k n : Nat} {xs : Nat → Int32} {T : Tb} {σ : Mm} {I : Mm → Prop} (hst : StW I cs_span (F_X5_span (xs (i + 1)) (xs (i + 2)) (xs (i + 3)) (xs (i + 4)) (xs (i + 5))) (F_X6_span (xs (i + 1)) (xs (i + 2)) (xs (i + 3)) (xs (i + 4)) (xs (i + 5)))) (hL : i + 6 ≤ L) (hL2 : L ≤ 3072) (hk : k + 1 ≤ 601024) (hn : n + 6 ≤ 7293034) (hN : isNS T) (hM : isMod T) (hO : T[185]? = some (1, 1, [])) (hI : I σ) (KK : ∀ σ1, I σ1 → Lw nm et b L xs false (k + 1) (n + 6) T 1609 (loI b i) [] σ1) : Lw nm et b L xs false k n T 420 (loI b i) [] σ := by
  unfold loI at *
  obtain ⟨o, σ1, h1, v, σ3, h3, hI3, hR⟩ := hst σ hI
  obtain ⟨c, hev, hc, hz⟩ := wq_span T hN hO (xs (i + 1)) (xs (i + 2)) (xs (i + 3)) (xs (i + 4)) (xs (i + 5)) σ σ1 σ3 o v h1 hR
  refine rn_aload_n (pc := 420) (i := 1) dL_law_420 rfl rfl ?_
  refine lr_rd (pc := 421) (i := i) (j := 1) (jv := 1) rfl rfl (by decide) (by omega) hL2 dL_law_421 dL_law_422 dL_law_424 dL_law_425 dL_law_426 rfl rfl ?_
  refine lr_rd (pc := 427) (i := i) (j := 2) (jv := 2) rfl rfl (by decide) (by omega) hL2 dL_law_427 dL_law_428 dL_law_430 dL_law_431 dL_law_432 rfl rfl ?_
  refine lr_rd (pc := 433) (i := i) (j := 3) (jv := 3) rfl rfl (by decide) (by omega) hL2 dL_law_433 dL_law_434 dL_law_436 dL_law_437 dL_law_438 rfl rfl ?_
  refine lr_rd (pc := 439) (i := i) (j := 4) (jv := 4) rfl rfl (by decide) (by omega) hL2 dL_law_439 dL_law_440 dL_law_442 dL_law_443 dL_law_444 rfl rfl ?_
  refine lr_rd (pc := 445) (i := i) (j := 5) (jv := 5) rfl rfl (by decide) (by omega) hL2 dL_law_445 dL_law_446 dL_law_448 dL_law_449 dL_law_450 rfl rfl ?_
  refine rn_aload_n (pc := 451) (i := 3) dL_law_451 rfl rfl ?_
  refine rn_callSH (pc := 452) (r := some (.int c)) (as := [.ref 0, .int (xs (i + 1)), .int (xs (i + 2)), .int (xs (i + 3)), .int (xs (i + 4)), .int (xs (i + 5)), .ref 185]) (rm' := rmW) kw_span gw_650 hev rfl rfl (Nat.le_of_ble_eq_true rfl) (Nat.le_of_ble_eq_true rfl) (Nat.le_of_ble_eq_true rfl) hk hn (fun h => by cases h) dL_law_452 ?_
  refine rn_istore (pc := 455) (i := 5) (lo' := [some (.retAddr b), some (.ref 0), some (.ref 168), some (.ref 185), some (.int (Int32.ofNat i)), some (.int c), none, none, none]) dL_law_455 (by decide) rfl ?_
  refine rn_aload_n (pc := 457) (i := 2) dL_law_457 rfl rfl ?_
  refine lr_rd (pc := 458) (i := i) (j := 1) (jv := 1) rfl rfl (by decide) (by omega) hL2 dL_law_458 dL_law_459 dL_law_461 dL_law_462 dL_law_463 rfl rfl ?_
  refine lr_rd (pc := 464) (i := i) (j := 2) (jv := 2) rfl rfl (by decide) (by omega) hL2 dL_law_464 dL_law_465 dL_law_467 dL_law_468 dL_law_469 rfl rfl ?_
  refine lr_rd (pc := 470) (i := i) (j := 3) (jv := 3) rfl rfl (by decide) (by omega) hL2 dL_law_470 dL_law_471 dL_law_473 dL_law_474 dL_law_475 rfl rfl ?_
  refine lr_rd (pc := 476) (i := i) (j := 4) (jv := 4) rfl rfl (by decide) (by omega) hL2 dL_law_476 dL_law_477 dL_law_479 dL_law_480 dL_law_481 rfl rfl ?_
  refine lr_rd (pc := 482) (i := i) (j := 5) (jv := 5) rfl rfl (by decide) (by omega) hL2 dL_law_482 dL_law_483 dL_law_485 dL_law_486 dL_law_487 rfl rfl ?_
  refine rn_callV (pc := 488) (r := some (.int v)) (as := [.int (xs (i + 1)), .int (xs (i + 2)), .int (xs (i + 3)), .int (xs (i + 4)), .int (xs (i + 5))]) hM.1 ⟨_, _, rfl⟩ k_X6_span.1 k_X6_span.2.1 k_X6_span.2.2.1 gw_960 (c_X6_span T (xs (i + 1)) (xs (i + 2)) (xs (i + 3)) (xs (i + 4)) (xs (i + 5)) hM _ _ _ h3) rfl rfl (Nat.le_of_ble_eq_true rfl) (Nat.le_of_ble_eq_true rfl) (Nat.le_of_ble_eq_true rfl) hk hn (fun h => by cases h) dL_law_488 ?_
  refine rn_istore (pc := 491) (i := 6) (lo' := [some (.retAddr b), some (.ref 0), some (.ref 168), some (.ref 185), some (.int (Int32.ofNat i)), some (.int c), some (.int v), none, none]) dL_law_491 (by decide) rfl ?_
  refine rn_aload_n (pc := 493) (i := 2) dL_law_493 rfl rfl ?_
  refine rn_callV (pc := 494) (r := some (.int (σ3 168 6))) (as := []) hM.1 ⟨_, _, rfl⟩ k_X6_thrown.1 k_X6_thrown.2.1 k_X6_thrown.2.2.1 gw_900 (c_X6_thrown T hM σ3 (.inl (σ3 168 6)) σ3 rfl) rfl rfl (Nat.le_of_ble_eq_true rfl) (Nat.le_of_ble_eq_true rfl) (Nat.le_of_ble_eq_true rfl) hk hn (fun h => by cases h) dL_law_494 ?_
  refine rn_iload (pc := 497) (i := 5) dL_law_497 rfl ?_
  refine rn_icmp_eq (pc := 499) (tgt := 504) dL_law_499 rfl (fun _ => ?_) (fun h => absurd hc h)
  refine rn_iload (pc := 504) (i := 5) dL_law_504 rfl ?_
  have KE := rn_goto (pc := 521) (tgt := 1609) (lo := [some (.retAddr b), some (.ref 0), some (.ref 168), some (.ref 185), some (.int (Int32.ofNat i)), some (.int c), some (.int v), none, none]) dL_law_521 rfl (rn_sub (KK σ3 hI3) ⟨rfl, rfl, rfl, rfl, rfl, trivial⟩)
  refine rn_if_ne (pc := 506) (tgt := 521) dL_law_506 rfl (fun _ => KE) (fun h0 => ?_)
  refine rn_aload_n (pc := 509) (i := 3) dL_law_509 rfl rfl ?_
  refine rn_iconst (pc := 510) (v := 0) dL_law_510 (by decide) ?_
  refine rn_lald (pc := 511) hO (by unfold vp_in; decide) dL_law_511 ?_
  refine rn_iload (pc := 512) (i := 6) dL_law_512 rfl ?_
  refine rn_i2l (pc := 514) dL_law_514 ?_
  refine rn_lcmp (pc := 515) dL_law_515 ?_
  exact rn_if_eq (pc := 516) (tgt := 521) dL_law_516 rfl (fun _ => KE) (fun h => absurd (lr_lc (congrArg Int32.toInt64 (hz h0))) h)
set_option maxRecDepth 100000 in
theorem lc_4 {nm : String} {et : List ExceptionTableEntry} {b L i k n : Nat} {xs : Nat → Int32} {T : Tb} {σ : Mm} {I : Mm → Prop} (hst : StW I cs_rule (F_X5_rule (xs (i + 1)) (xs (i + 2)) (xs (i + 3)) (xs (i + 4)) (xs (i + 5))) (F_X6_rule (xs (i + 1)) (xs (i + 2)) (xs (i + 3)) (xs (i + 4)) (xs (i + 5)))) (hL : i + 6 ≤ L) (hL2 : L ≤ 3072) (hk : k + 1 ≤ 601024) (hn : n + 6 ≤ 7293034) (hN : isNS T) (hM : isMod T) (hO : T[185]? = some (1, 1, [])) (hI : I σ) (KK : ∀ σ1, I σ1 → Lw nm et b L xs false (k + 1) (n + 6) T 1609 (loI b i) [] σ1) : Lw nm et b L xs false k n T 524 (loI b i) [] σ := by
  unfold loI at *
  obtain ⟨o, σ1, h1, v, σ3, h3, hI3, hR⟩ := hst σ hI
  obtain ⟨c, hev, hc, hz⟩ := wq_rule T hN hO (xs (i + 1)) (xs (i + 2)) (xs (i + 3)) (xs (i + 4)) (xs (i + 5)) σ σ1 σ3 o v h1 hR
  refine rn_aload_n (pc := 524) (i := 1) dL_law_524 rfl rfl ?_
  refine lr_rd (pc := 525) (i := i) (j := 1) (jv := 1) rfl rfl (by decide) (by omega) hL2 dL_law_525 dL_law_526 dL_law_528 dL_law_529 dL_law_530 rfl rfl ?_
  refine lr_rd (pc := 531) (i := i) (j := 2) (jv := 2) rfl rfl (by decide) (by omega) hL2 dL_law_531 dL_law_532 dL_law_534 dL_law_535 dL_law_536 rfl rfl ?_
  refine lr_rd (pc := 537) (i := i) (j := 3) (jv := 3) rfl rfl (by decide) (by omega) hL2 dL_law_537 dL_law_538 dL_law_540 dL_law_541 dL_law_542 rfl rfl ?_
  refine lr_rd (pc := 543) (i := i) (j := 4) (jv := 4) rfl rfl (by decide) (by omega) hL2 dL_law_543 dL_law_544 dL_law_546 dL_law_547 dL_law_548 rfl rfl ?_
  refine lr_rd (pc := 549) (i := i) (j := 5) (jv := 5) rfl rfl (by decide) (by omega) hL2 dL_law_549 dL_law_550 dL_law_552 dL_law_553 dL_law_554 rfl rfl ?_
  refine rn_aload_n (pc := 555) (i := 3) dL_law_555 rfl rfl ?_
  refine rn_callSH (pc := 556) (r := some (.int c)) (as := [.ref 0, .int (xs (i + 1)), .int (xs (i + 2)), .int (xs (i + 3)), .int (xs (i + 4)), .int (xs (i + 5)), .ref 185]) (rm' := rmW) kw_rule gw_674 hev rfl rfl (Nat.le_of_ble_eq_true rfl) (Nat.le_of_ble_eq_true rfl) (Nat.le_of_ble_eq_true rfl) hk hn (fun h => by cases h) dL_law_556 ?_
  refine rn_istore (pc := 559) (i := 5) (lo' := [some (.retAddr b), some (.ref 0), some (.ref 168), some (.ref 185), some (.int (Int32.ofNat i)), some (.int c), none, none, none]) dL_law_559 (by decide) rfl ?_
  refine rn_aload_n (pc := 561) (i := 2) dL_law_561 rfl rfl ?_
  refine lr_rd (pc := 562) (i := i) (j := 1) (jv := 1) rfl rfl (by decide) (by omega) hL2 dL_law_562 dL_law_563 dL_law_565 dL_law_566 dL_law_567 rfl rfl ?_
  refine lr_rd (pc := 568) (i := i) (j := 2) (jv := 2) rfl rfl (by decide) (by omega) hL2 dL_law_568 dL_law_569 dL_law_571 dL_law_572 dL_law_573 rfl rfl ?_
  refine lr_rd (pc := 574) (i := i) (j := 3) (jv := 3) rfl rfl (by decide) (by omega) hL2 dL_law_574 dL_law_575 dL_law_577 dL_law_578 dL_law_579 rfl rfl ?_
  refine lr_rd (pc := 580) (i := i) (j := 4) (jv := 4) rfl rfl (by decide) (by omega) hL2 dL_law_580 dL_law_581 dL_law_583 dL_law_584 dL_law_585 rfl rfl ?_
  refine lr_rd (pc := 586) (i := i) (j := 5) (jv := 5) rfl rfl (by decide) (by omega) hL2 dL_law_586 dL_law_587 dL_law_589 dL_law_590 dL_law_591 rfl rfl ?_
  refine rn_callV (pc := 592) (r := some (.int v)) (as := [.int (xs (i + 1)), .int (xs (i + 2)), .int (xs (i + 3)), .int (xs (i + 4)), .int (xs (i + 5))]) hM.1 ⟨_, _, rfl⟩ k_X6_rule.1 k_X6_rule.2.1 k_X6_rule.2.2.1 gw_968 (c_X6_rule T (xs (i + 1)) (xs (i + 2)) (xs (i + 3)) (xs (i + 4)) (xs (i + 5)) hM _ _ _ h3) rfl rfl (Nat.le_of_ble_eq_true rfl) (Nat.le_of_ble_eq_true rfl) (Nat.le_of_ble_eq_true rfl) hk hn (fun h => by cases h) dL_law_592 ?_
  refine rn_istore (pc := 595) (i := 6) (lo' := [some (.retAddr b), some (.ref 0), some (.ref 168), some (.ref 185), some (.int (Int32.ofNat i)), some (.int c), some (.int v), none, none]) dL_law_595 (by decide) rfl ?_
  refine rn_aload_n (pc := 597) (i := 2) dL_law_597 rfl rfl ?_
  refine rn_callV (pc := 598) (r := some (.int (σ3 168 6))) (as := []) hM.1 ⟨_, _, rfl⟩ k_X6_thrown.1 k_X6_thrown.2.1 k_X6_thrown.2.2.1 gw_900 (c_X6_thrown T hM σ3 (.inl (σ3 168 6)) σ3 rfl) rfl rfl (Nat.le_of_ble_eq_true rfl) (Nat.le_of_ble_eq_true rfl) (Nat.le_of_ble_eq_true rfl) hk hn (fun h => by cases h) dL_law_598 ?_
  refine rn_iload (pc := 601) (i := 5) dL_law_601 rfl ?_
  refine rn_icmp_eq (pc := 603) (tgt := 608) dL_law_603 rfl (fun _ => ?_) (fun h => absurd hc h)
  refine rn_iload (pc := 608) (i := 5) dL_law_608 rfl ?_
  have KE := rn_goto (pc := 625) (tgt := 1609) (lo := [some (.retAddr b), some (.ref 0), some (.ref 168), some (.ref 185), some (.int (Int32.ofNat i)), some (.int c), some (.int v), none, none]) dL_law_625 rfl (rn_sub (KK σ3 hI3) ⟨rfl, rfl, rfl, rfl, rfl, trivial⟩)
  refine rn_if_ne (pc := 610) (tgt := 625) dL_law_610 rfl (fun _ => KE) (fun h0 => ?_)
  refine rn_aload_n (pc := 613) (i := 3) dL_law_613 rfl rfl ?_
  refine rn_iconst (pc := 614) (v := 0) dL_law_614 (by decide) ?_
  refine rn_lald (pc := 615) hO (by unfold vp_in; decide) dL_law_615 ?_
  refine rn_iload (pc := 616) (i := 6) dL_law_616 rfl ?_
  refine rn_i2l (pc := 618) dL_law_618 ?_
  refine rn_lcmp (pc := 619) dL_law_619 ?_
  exact rn_if_eq (pc := 620) (tgt := 625) dL_law_620 rfl (fun _ => KE) (fun h => absurd (lr_lc (congrArg Int32.toInt64 (hz h0))) h)
set_option maxRecDepth 100000 in
theorem lc_5 {nm : String} {et : List ExceptionTableEntry} {b L i k n : Nat} {xs : Nat → Int32} {T : Tb} {σ : Mm} {I : Mm → Prop} (hst : StW I cs_set (F_X5_set (xs (i + 1))) (F_X6_set (xs (i + 1)))) (hL : i + 6 ≤ L) (hL2 : L ≤ 3072) (hk : k + 1 ≤ 601024) (hn : n + 6 ≤ 7293034) (hN : isNS T) (hM : isMod T) (hO : T[185]? = some (1, 1, [])) (hI : I σ) (KK : ∀ σ1, I σ1 → Lw nm et b L xs false (k + 1) (n + 6) T 1609 (loI b i) [] σ1) : Lw nm et b L xs false k n T 628 (loI b i) [] σ := by
  unfold loI at *
  obtain ⟨o, σ1, h1, v, σ3, h3, hI3, hR⟩ := hst σ hI
  obtain ⟨c, hev, hc, hz⟩ := wq_set T hN hO (xs (i + 1)) σ σ1 σ3 o v h1 hR
  refine rn_aload_n (pc := 628) (i := 1) dL_law_628 rfl rfl ?_
  refine lr_rd (pc := 629) (i := i) (j := 1) (jv := 1) rfl rfl (by decide) (by omega) hL2 dL_law_629 dL_law_630 dL_law_632 dL_law_633 dL_law_634 rfl rfl ?_
  refine rn_aload_n (pc := 635) (i := 3) dL_law_635 rfl rfl ?_
  refine rn_callSH (pc := 636) (r := some (.int c)) (as := [.ref 0, .int (xs (i + 1)), .ref 185]) (rm' := rmW) kw_set gw_682 hev rfl rfl (Nat.le_of_ble_eq_true rfl) (Nat.le_of_ble_eq_true rfl) (Nat.le_of_ble_eq_true rfl) hk hn (fun h => by cases h) dL_law_636 ?_
  refine rn_istore (pc := 639) (i := 5) (lo' := [some (.retAddr b), some (.ref 0), some (.ref 168), some (.ref 185), some (.int (Int32.ofNat i)), some (.int c), none, none, none]) dL_law_639 (by decide) rfl ?_
  refine rn_aload_n (pc := 641) (i := 2) dL_law_641 rfl rfl ?_
  refine lr_rd (pc := 642) (i := i) (j := 1) (jv := 1) rfl rfl (by decide) (by omega) hL2 dL_law_642 dL_law_643 dL_law_645 dL_law_646 dL_law_647 rfl rfl ?_
  refine rn_callV (pc := 648) (r := some (.int v)) (as := [.int (xs (i + 1))]) hM.1 ⟨_, _, rfl⟩ k_X6_set.1 k_X6_set.2.1 k_X6_set.2.2.1 gw_972 (c_X6_set T (xs (i + 1)) hM _ _ _ h3) rfl rfl (Nat.le_of_ble_eq_true rfl) (Nat.le_of_ble_eq_true rfl) (Nat.le_of_ble_eq_true rfl) hk hn (fun h => by cases h) dL_law_648 ?_
  refine rn_istore (pc := 651) (i := 6) (lo' := [some (.retAddr b), some (.ref 0), some (.ref 168), some (.ref 185), some (.int (Int32.ofNat i)), some (.int c), some (.int v), none, none]) dL_law_651 (by decide) rfl ?_
  refine rn_aload_n (pc := 653) (i := 2) dL_law_653 rfl rfl ?_
  refine rn_callV (pc := 654) (r := some (.int (σ3 168 6))) (as := []) hM.1 ⟨_, _, rfl⟩ k_X6_thrown.1 k_X6_thrown.2.1 k_X6_thrown.2.2.1 gw_900 (c_X6_thrown T hM σ3 (.inl (σ3 168 6)) σ3 rfl) rfl rfl (Nat.le_of_ble_eq_true rfl) (Nat.le_of_ble_eq_true rfl) (Nat.le_of_ble_eq_true rfl) hk hn (fun h => by cases h) dL_law_654 ?_
  refine rn_iload (pc := 657) (i := 5) dL_law_657 rfl ?_
  refine rn_icmp_eq (pc := 659) (tgt := 664) dL_law_659 rfl (fun _ => ?_) (fun h => absurd hc h)
  refine rn_iload (pc := 664) (i := 5) dL_law_664 rfl ?_
  have KE := rn_goto (pc := 681) (tgt := 1609) (lo := [some (.retAddr b), some (.ref 0), some (.ref 168), some (.ref 185), some (.int (Int32.ofNat i)), some (.int c), some (.int v), none, none]) dL_law_681 rfl (rn_sub (KK σ3 hI3) ⟨rfl, rfl, rfl, rfl, rfl, trivial⟩)
  refine rn_if_ne (pc := 666) (tgt := 681) dL_law_666 rfl (fun _ => KE) (fun h0 => ?_)
  refine rn_aload_n (pc := 669) (i := 3) dL_law_669 rfl rfl ?_
  refine rn_iconst (pc := 670) (v := 0) dL_law_670 (by decide) ?_
  refine rn_lald (pc := 671) hO (by unfold vp_in; decide) dL_law_671 ?_
  refine rn_iload (pc := 672) (i := 6) dL_law_672 rfl ?_
  refine rn_i2l (pc := 674) dL_law_674 ?_
  refine rn_lcmp (pc := 675) dL_law_675 ?_
  exact rn_if_eq (pc := 676) (tgt := 681) dL_law_676 rfl (fun _ => KE) (fun h => absurd (lr_lc (congrArg Int32.toInt64 (hz h0))) h)
set_option maxRecDepth 100000 in
theorem lc_6 {nm : String} {et : List ExceptionTableEntry} {b L i k n : Nat} {xs : Nat → Int32} {T : Tb} {σ : Mm} {I : Mm → Prop} (hst : StW I cs_append (F_X5_append (xs (i + 1))) (F_X6_append (xs (i + 1)))) (hL : i + 6 ≤ L) (hL2 : L ≤ 3072) (hk : k + 1 ≤ 601024) (hn : n + 6 ≤ 7293034) (hN : isNS T) (hM : isMod T) (hO : T[185]? = some (1, 1, [])) (hI : I σ) (KK : ∀ σ1, I σ1 → Lw nm et b L xs false (k + 1) (n + 6) T 1609 (loI b i) [] σ1) : Lw nm et b L xs false k n T 684 (loI b i) [] σ := by
  unfold loI at *
  obtain ⟨o, σ1, h1, v, σ3, h3, hI3, hR⟩ := hst σ hI
  obtain ⟨c, hev, hc, hz⟩ := wq_append T hN hO (xs (i + 1)) σ σ1 σ3 o v h1 hR
  refine rn_aload_n (pc := 684) (i := 1) dL_law_684 rfl rfl ?_
  refine lr_rd (pc := 685) (i := i) (j := 1) (jv := 1) rfl rfl (by decide) (by omega) hL2 dL_law_685 dL_law_686 dL_law_688 dL_law_689 dL_law_690 rfl rfl ?_
  refine rn_aload_n (pc := 691) (i := 3) dL_law_691 rfl rfl ?_
  refine rn_callSH (pc := 692) (r := some (.int c)) (as := [.ref 0, .int (xs (i + 1)), .ref 185]) (rm' := rmW) kw_append gw_689 hev rfl rfl (Nat.le_of_ble_eq_true rfl) (Nat.le_of_ble_eq_true rfl) (Nat.le_of_ble_eq_true rfl) hk hn (fun h => by cases h) dL_law_692 ?_
  refine rn_istore (pc := 695) (i := 5) (lo' := [some (.retAddr b), some (.ref 0), some (.ref 168), some (.ref 185), some (.int (Int32.ofNat i)), some (.int c), none, none, none]) dL_law_695 (by decide) rfl ?_
  refine rn_aload_n (pc := 697) (i := 2) dL_law_697 rfl rfl ?_
  refine lr_rd (pc := 698) (i := i) (j := 1) (jv := 1) rfl rfl (by decide) (by omega) hL2 dL_law_698 dL_law_699 dL_law_701 dL_law_702 dL_law_703 rfl rfl ?_
  refine rn_callV (pc := 704) (r := some (.int v)) (as := [.int (xs (i + 1))]) hM.1 ⟨_, _, rfl⟩ k_X6_append.1 k_X6_append.2.1 k_X6_append.2.2.1 gw_976 (c_X6_append T (xs (i + 1)) hM _ _ _ h3) rfl rfl (Nat.le_of_ble_eq_true rfl) (Nat.le_of_ble_eq_true rfl) (Nat.le_of_ble_eq_true rfl) hk hn (fun h => by cases h) dL_law_704 ?_
  refine rn_istore (pc := 707) (i := 6) (lo' := [some (.retAddr b), some (.ref 0), some (.ref 168), some (.ref 185), some (.int (Int32.ofNat i)), some (.int c), some (.int v), none, none]) dL_law_707 (by decide) rfl ?_
  refine rn_aload_n (pc := 709) (i := 2) dL_law_709 rfl rfl ?_
  refine rn_callV (pc := 710) (r := some (.int (σ3 168 6))) (as := []) hM.1 ⟨_, _, rfl⟩ k_X6_thrown.1 k_X6_thrown.2.1 k_X6_thrown.2.2.1 gw_900 (c_X6_thrown T hM σ3 (.inl (σ3 168 6)) σ3 rfl) rfl rfl (Nat.le_of_ble_eq_true rfl) (Nat.le_of_ble_eq_true rfl) (Nat.le_of_ble_eq_true rfl) hk hn (fun h => by cases h) dL_law_710 ?_
  refine rn_iload (pc := 713) (i := 5) dL_law_713 rfl ?_
  refine rn_icmp_eq (pc := 715) (tgt := 720) dL_law_715 rfl (fun _ => ?_) (fun h => absurd hc h)
  refine rn_iload (pc := 720) (i := 5) dL_law_720 rfl ?_
  have KE := rn_goto (pc := 737) (tgt := 1609) (lo := [some (.retAddr b), some (.ref 0), some (.ref 168), some (.ref 185), some (.int (Int32.ofNat i)), some (.int c), some (.int v), none, none]) dL_law_737 rfl (rn_sub (KK σ3 hI3) ⟨rfl, rfl, rfl, rfl, rfl, trivial⟩)
  refine rn_if_ne (pc := 722) (tgt := 737) dL_law_722 rfl (fun _ => KE) (fun h0 => ?_)
  refine rn_aload_n (pc := 725) (i := 3) dL_law_725 rfl rfl ?_
  refine rn_iconst (pc := 726) (v := 0) dL_law_726 (by decide) ?_
  refine rn_lald (pc := 727) hO (by unfold vp_in; decide) dL_law_727 ?_
  refine rn_iload (pc := 728) (i := 6) dL_law_728 rfl ?_
  refine rn_i2l (pc := 730) dL_law_730 ?_
  refine rn_lcmp (pc := 731) dL_law_731 ?_
  exact rn_if_eq (pc := 732) (tgt := 737) dL_law_732 rfl (fun _ => KE) (fun h => absurd (lr_lc (congrArg Int32.toInt64 (hz h0))) h)
set_option maxRecDepth 100000 in
theorem lc_7 {nm : String} {et : List ExceptionTableEntry} {b L i k n : Nat} {xs : Nat → Int32} {T : Tb} {σ : Mm} {I : Mm → Prop} (hst : StP (fun _ => True) I F_X5_clearBuffer F_X6_clearBuffer) (hL : i + 6 ≤ L) (hL2 : L ≤ 3072) (hk : k + 1 ≤ 601024) (hn : n + 6 ≤ 7293034) (hN : isNS T) (hM : isMod T) (hO : T[185]? = some (1, 1, [])) (hI : I σ) (KK : ∀ σ1, I σ1 → Lw nm et b L xs false (k + 1) (n + 6) T 1609 (loI b i) [] σ1) : Lw nm et b L xs false k n T 740 (loI b i) [] σ := by
  unfold loI at *
  obtain ⟨v, σ1, h1, σ3, h3, hI3, hE⟩ := hst σ hI
  refine rn_aload_n (pc := 740) (i := 1) dL_law_740 rfl rfl ?_
  refine rn_callV (pc := 741) (r := some (.int v)) (as := []) hN.1 ⟨_, _, rfl⟩ k_X5_clearBuffer.1 k_X5_clearBuffer.2.1 k_X5_clearBuffer.2.2.1 gw_343 (c_X5_clearBuffer T hN _ _ _ h1) rfl rfl (Nat.le_of_ble_eq_true rfl) (Nat.le_of_ble_eq_true rfl) (Nat.le_of_ble_eq_true rfl) (Nat.le_of_succ_le hk) (Nat.le_trans (Nat.le_add_right _ _) hn) (fun h => by cases h) dL_law_741 ?_
  refine rn_aload_n (pc := 744) (i := 2) dL_law_744 rfl rfl ?_
  refine rn_callV (pc := 745) (r := some (.int v)) (as := []) hM.1 ⟨_, _, rfl⟩ k_X6_clearBuffer.1 k_X6_clearBuffer.2.1 k_X6_clearBuffer.2.2.1 gw_980 (c_X6_clearBuffer T hM _ _ _ h3) rfl rfl (Nat.le_of_ble_eq_true rfl) (Nat.le_of_ble_eq_true rfl) (Nat.le_of_ble_eq_true rfl) (Nat.le_of_succ_le hk) (Nat.le_trans (Nat.le_add_right _ _) hn) (fun h => by cases h) dL_law_745 ?_
  exact rn_icmp_eq (pc := 748) (tgt := 1609) dL_law_748 rfl (fun _ => lr_wid (KK σ3 hI3) (Nat.le_add_right _ _) (Nat.le_add_right _ _)) (fun h => absurd rfl h)
set_option maxRecDepth 100000 in
theorem lc_8 {nm : String} {et : List ExceptionTableEntry} {b L i k n : Nat} {xs : Nat → Int32} {T : Tb} {σ : Mm} {I : Mm → Prop} (hst : StP (fun _ => True) I F_X5_firstError F_X6_firstError) (hL : i + 6 ≤ L) (hL2 : L ≤ 3072) (hk : k + 1 ≤ 601024) (hn : n + 6 ≤ 7293034) (hN : isNS T) (hM : isMod T) (hO : T[185]? = some (1, 1, [])) (hI : I σ) (KK : ∀ σ1, I σ1 → Lw nm et b L xs false (k + 1) (n + 6) T 1609 (loI b i) [] σ1) : Lw nm et b L xs false k n T 753 (loI b i) [] σ := by
  unfold loI at *
  obtain ⟨v, σ1, h1, σ3, h3, hI3, hE⟩ := hst σ hI
  refine rn_aload_n (pc := 753) (i := 1) dL_law_753 rfl rfl ?_
  refine rn_callV (pc := 754) (r := some (.int v)) (as := []) hN.1 ⟨_, _, rfl⟩ k_X5_firstError.1 k_X5_firstError.2.1 k_X5_firstError.2.2.1 gw_347 (c_X5_firstError T hN _ _ _ h1) rfl rfl (Nat.le_of_ble_eq_true rfl) (Nat.le_of_ble_eq_true rfl) (Nat.le_of_ble_eq_true rfl) (Nat.le_of_succ_le hk) (Nat.le_trans (Nat.le_add_right _ _) hn) (fun h => by cases h) dL_law_754 ?_
  refine rn_aload_n (pc := 757) (i := 2) dL_law_757 rfl rfl ?_
  refine rn_callV (pc := 758) (r := some (.int v)) (as := []) hM.1 ⟨_, _, rfl⟩ k_X6_firstError.1 k_X6_firstError.2.1 k_X6_firstError.2.2.1 gw_984 (c_X6_firstError T hM _ _ _ h3) rfl rfl (Nat.le_of_ble_eq_true rfl) (Nat.le_of_ble_eq_true rfl) (Nat.le_of_ble_eq_true rfl) (Nat.le_of_succ_le hk) (Nat.le_trans (Nat.le_add_right _ _) hn) (fun h => by cases h) dL_law_758 ?_
  exact rn_icmp_eq (pc := 761) (tgt := 1609) dL_law_761 rfl (fun _ => lr_wid (KK σ3 hI3) (Nat.le_add_right _ _) (Nat.le_add_right _ _)) (fun h => absurd rfl h)
set_option maxRecDepth 100000 in
theorem lc_9 {nm : String} {et : List ExceptionTableEntry} {b L i k n : Nat} {xs : Nat → Int32} {T : Tb} {σ : Mm} {I : Mm → Prop} (hst : StW I cs_run (F_X5_run ) (F_X6_run )) (hL : i + 6 ≤ L) (hL2 : L ≤ 3072) (hk : k + 1 ≤ 601024) (hn : n + 6 ≤ 7293034) (hN : isNS T) (hM : isMod T) (hO : T[185]? = some (1, 1, [])) (hI : I σ) (KK : ∀ σ1, I σ1 → Lw nm et b L xs false (k + 1) (n + 6) T 1609 (loI b i) [] σ1) : Lw nm et b L xs false k n T 766 (loI b i) [] σ := by
  unfold loI at *
  obtain ⟨o, σ1, h1, v, σ3, h3, hI3, hR⟩ := hst σ hI
  obtain ⟨c, hev, hc, hz⟩ := wq_run T hN hO  σ σ1 σ3 o v h1 hR
  refine rn_aload_n (pc := 766) (i := 1) dL_law_766 rfl rfl ?_
  refine rn_aload_n (pc := 767) (i := 3) dL_law_767 rfl rfl ?_
  refine rn_callSH (pc := 768) (r := some (.int c)) (as := [.ref 0, .ref 185]) (rm' := rmW) kw_run gw_701 hev rfl rfl (Nat.le_of_ble_eq_true rfl) (Nat.le_of_ble_eq_true rfl) (Nat.le_of_ble_eq_true rfl) hk hn (fun h => by cases h) dL_law_768 ?_
  refine rn_istore (pc := 771) (i := 5) (lo' := [some (.retAddr b), some (.ref 0), some (.ref 168), some (.ref 185), some (.int (Int32.ofNat i)), some (.int c), none, none, none]) dL_law_771 (by decide) rfl ?_
  refine rn_aload_n (pc := 773) (i := 2) dL_law_773 rfl rfl ?_
  refine rn_callV (pc := 774) (r := some (.int v)) (as := []) hM.1 ⟨_, _, rfl⟩ k_X6_run.1 k_X6_run.2.1 k_X6_run.2.2.1 gw_1012 (c_X6_run T  hM _ _ _ h3) rfl rfl (Nat.le_of_ble_eq_true rfl) (Nat.le_of_ble_eq_true rfl) (Nat.le_of_ble_eq_true rfl) hk hn (fun h => by cases h) dL_law_774 ?_
  refine rn_istore (pc := 777) (i := 6) (lo' := [some (.retAddr b), some (.ref 0), some (.ref 168), some (.ref 185), some (.int (Int32.ofNat i)), some (.int c), some (.int v), none, none]) dL_law_777 (by decide) rfl ?_
  refine rn_aload_n (pc := 779) (i := 2) dL_law_779 rfl rfl ?_
  refine rn_callV (pc := 780) (r := some (.int (σ3 168 6))) (as := []) hM.1 ⟨_, _, rfl⟩ k_X6_thrown.1 k_X6_thrown.2.1 k_X6_thrown.2.2.1 gw_900 (c_X6_thrown T hM σ3 (.inl (σ3 168 6)) σ3 rfl) rfl rfl (Nat.le_of_ble_eq_true rfl) (Nat.le_of_ble_eq_true rfl) (Nat.le_of_ble_eq_true rfl) hk hn (fun h => by cases h) dL_law_780 ?_
  refine rn_iload (pc := 783) (i := 5) dL_law_783 rfl ?_
  refine rn_icmp_eq (pc := 785) (tgt := 790) dL_law_785 rfl (fun _ => ?_) (fun h => absurd hc h)
  refine rn_iload (pc := 790) (i := 5) dL_law_790 rfl ?_
  have KE := rn_goto (pc := 807) (tgt := 1609) (lo := [some (.retAddr b), some (.ref 0), some (.ref 168), some (.ref 185), some (.int (Int32.ofNat i)), some (.int c), some (.int v), none, none]) dL_law_807 rfl (rn_sub (KK σ3 hI3) ⟨rfl, rfl, rfl, rfl, rfl, trivial⟩)
  refine rn_if_ne (pc := 792) (tgt := 807) dL_law_792 rfl (fun _ => KE) (fun h0 => ?_)
  refine rn_aload_n (pc := 795) (i := 3) dL_law_795 rfl rfl ?_
  refine rn_iconst (pc := 796) (v := 0) dL_law_796 (by decide) ?_
  refine rn_lald (pc := 797) hO (by unfold vp_in; decide) dL_law_797 ?_
  refine rn_iload (pc := 798) (i := 6) dL_law_798 rfl ?_
  refine rn_i2l (pc := 800) dL_law_800 ?_
  refine rn_lcmp (pc := 801) dL_law_801 ?_
  exact rn_if_eq (pc := 802) (tgt := 807) dL_law_802 rfl (fun _ => KE) (fun h => absurd (lr_lc (congrArg Int32.toInt64 (hz h0))) h)
set_option maxRecDepth 100000 in
theorem lc_10 {nm : String} {et : List ExceptionTableEntry} {b L i k n : Nat} {xs : Nat → Int32} {T : Tb} {σ : Mm} {I : Mm → Prop} (hst : StW I cs_undo (F_X5_undo ) (F_X6_undo )) (hL : i + 6 ≤ L) (hL2 : L ≤ 3072) (hk : k + 1 ≤ 601024) (hn : n + 6 ≤ 7293034) (hN : isNS T) (hM : isMod T) (hO : T[185]? = some (1, 1, [])) (hI : I σ) (KK : ∀ σ1, I σ1 → Lw nm et b L xs false (k + 1) (n + 6) T 1609 (loI b i) [] σ1) : Lw nm et b L xs false k n T 810 (loI b i) [] σ := by
  unfold loI at *
  obtain ⟨o, σ1, h1, v, σ3, h3, hI3, hR⟩ := hst σ hI
  obtain ⟨c, hev, hc, hz⟩ := wq_undo T hN hO  σ σ1 σ3 o v h1 hR
  refine rn_aload_n (pc := 810) (i := 1) dL_law_810 rfl rfl ?_
  refine rn_aload_n (pc := 811) (i := 3) dL_law_811 rfl rfl ?_
  refine rn_callSH (pc := 812) (r := some (.int c)) (as := [.ref 0, .ref 185]) (rm' := rmW) kw_undo gw_740 hev rfl rfl (Nat.le_of_ble_eq_true rfl) (Nat.le_of_ble_eq_true rfl) (Nat.le_of_ble_eq_true rfl) hk hn (fun h => by cases h) dL_law_812 ?_
  refine rn_istore (pc := 815) (i := 5) (lo' := [some (.retAddr b), some (.ref 0), some (.ref 168), some (.ref 185), some (.int (Int32.ofNat i)), some (.int c), none, none, none]) dL_law_815 (by decide) rfl ?_
  refine rn_aload_n (pc := 817) (i := 2) dL_law_817 rfl rfl ?_
  refine rn_callV (pc := 818) (r := some (.int v)) (as := []) hM.1 ⟨_, _, rfl⟩ k_X6_undo.1 k_X6_undo.2.1 k_X6_undo.2.2.1 gw_904 (c_X6_undo T  hM _ _ _ h3) rfl rfl (Nat.le_of_ble_eq_true rfl) (Nat.le_of_ble_eq_true rfl) (Nat.le_of_ble_eq_true rfl) hk hn (fun h => by cases h) dL_law_818 ?_
  refine rn_istore (pc := 821) (i := 6) (lo' := [some (.retAddr b), some (.ref 0), some (.ref 168), some (.ref 185), some (.int (Int32.ofNat i)), some (.int c), some (.int v), none, none]) dL_law_821 (by decide) rfl ?_
  refine rn_aload_n (pc := 823) (i := 2) dL_law_823 rfl rfl ?_
  refine rn_callV (pc := 824) (r := some (.int (σ3 168 6))) (as := []) hM.1 ⟨_, _, rfl⟩ k_X6_thrown.1 k_X6_thrown.2.1 k_X6_thrown.2.2.1 gw_900 (c_X6_thrown T hM σ3 (.inl (σ3 168 6)) σ3 rfl) rfl rfl (Nat.le_of_ble_eq_true rfl) (Nat.le_of_ble_eq_true rfl) (Nat.le_of_ble_eq_true rfl) hk hn (fun h => by cases h) dL_law_824 ?_
  refine rn_iload (pc := 827) (i := 5) dL_law_827 rfl ?_
  refine rn_icmp_eq (pc := 829) (tgt := 834) dL_law_829 rfl (fun _ => ?_) (fun h => absurd hc h)
  refine rn_iload (pc := 834) (i := 5) dL_law_834 rfl ?_
  have KE := rn_goto (pc := 851) (tgt := 1609) (lo := [some (.retAddr b), some (.ref 0), some (.ref 168), some (.ref 185), some (.int (Int32.ofNat i)), some (.int c), some (.int v), none, none]) dL_law_851 rfl (rn_sub (KK σ3 hI3) ⟨rfl, rfl, rfl, rfl, rfl, trivial⟩)
  refine rn_if_ne (pc := 836) (tgt := 851) dL_law_836 rfl (fun _ => KE) (fun h0 => ?_)
  refine rn_aload_n (pc := 839) (i := 3) dL_law_839 rfl rfl ?_
  refine rn_iconst (pc := 840) (v := 0) dL_law_840 (by decide) ?_
  refine rn_lald (pc := 841) hO (by unfold vp_in; decide) dL_law_841 ?_
  refine rn_iload (pc := 842) (i := 6) dL_law_842 rfl ?_
  refine rn_i2l (pc := 844) dL_law_844 ?_
  refine rn_lcmp (pc := 845) dL_law_845 ?_
  exact rn_if_eq (pc := 846) (tgt := 851) dL_law_846 rfl (fun _ => KE) (fun h => absurd (lr_lc (congrArg Int32.toInt64 (hz h0))) h)
set_option maxRecDepth 100000 in
theorem lc_11 {nm : String} {et : List ExceptionTableEntry} {b L i k n : Nat} {xs : Nat → Int32} {T : Tb} {σ : Mm} {I : Mm → Prop} (hst : StW I cs_cell (F_X5_cell (xs (i + 1)) (xs (i + 2)) (xs (i + 3)) (xs (i + 4))) (F_X6_cell (xs (i + 1)) (xs (i + 2)) (xs (i + 3)) (xs (i + 4)))) (hL : i + 6 ≤ L) (hL2 : L ≤ 3072) (hk : k + 1 ≤ 601024) (hn : n + 6 ≤ 7293034) (hN : isNS T) (hM : isMod T) (hO : T[185]? = some (1, 1, [])) (hI : I σ) (KK : ∀ σ1, I σ1 → Lw nm et b L xs false (k + 1) (n + 6) T 1609 (loI b i) [] σ1) : Lw nm et b L xs false k n T 854 (loI b i) [] σ := by
  unfold loI at *
  obtain ⟨o, σ1, h1, v, σ3, h3, hI3, hR⟩ := hst σ hI
  obtain ⟨c, hev, hc, hz⟩ := wq_cell T hN hO (xs (i + 1)) (xs (i + 2)) (xs (i + 3)) (xs (i + 4)) σ σ1 σ3 o v h1 hR
  refine rn_aload_n (pc := 854) (i := 1) dL_law_854 rfl rfl ?_
  refine lr_rd (pc := 855) (i := i) (j := 1) (jv := 1) rfl rfl (by decide) (by omega) hL2 dL_law_855 dL_law_856 dL_law_858 dL_law_859 dL_law_860 rfl rfl ?_
  refine lr_rd (pc := 861) (i := i) (j := 2) (jv := 2) rfl rfl (by decide) (by omega) hL2 dL_law_861 dL_law_862 dL_law_864 dL_law_865 dL_law_866 rfl rfl ?_
  refine lr_rd (pc := 867) (i := i) (j := 3) (jv := 3) rfl rfl (by decide) (by omega) hL2 dL_law_867 dL_law_868 dL_law_870 dL_law_871 dL_law_872 rfl rfl ?_
  refine lr_rd (pc := 873) (i := i) (j := 4) (jv := 4) rfl rfl (by decide) (by omega) hL2 dL_law_873 dL_law_874 dL_law_876 dL_law_877 dL_law_878 rfl rfl ?_
  refine rn_aload_n (pc := 879) (i := 3) dL_law_879 rfl rfl ?_
  refine rn_callSH (pc := 880) (r := some (.int c)) (as := [.ref 0, .int (xs (i + 1)), .int (xs (i + 2)), .int (xs (i + 3)), .int (xs (i + 4)), .ref 185]) (rm' := rmW) kw_cell gw_751 hev rfl rfl (Nat.le_of_ble_eq_true rfl) (Nat.le_of_ble_eq_true rfl) (Nat.le_of_ble_eq_true rfl) hk hn (fun h => by cases h) dL_law_880 ?_
  refine rn_istore (pc := 883) (i := 5) (lo' := [some (.retAddr b), some (.ref 0), some (.ref 168), some (.ref 185), some (.int (Int32.ofNat i)), some (.int c), none, none, none]) dL_law_883 (by decide) rfl ?_
  refine rn_aload_n (pc := 885) (i := 2) dL_law_885 rfl rfl ?_
  refine lr_rd (pc := 886) (i := i) (j := 1) (jv := 1) rfl rfl (by decide) (by omega) hL2 dL_law_886 dL_law_887 dL_law_889 dL_law_890 dL_law_891 rfl rfl ?_
  refine lr_rd (pc := 892) (i := i) (j := 2) (jv := 2) rfl rfl (by decide) (by omega) hL2 dL_law_892 dL_law_893 dL_law_895 dL_law_896 dL_law_897 rfl rfl ?_
  refine lr_rd (pc := 898) (i := i) (j := 3) (jv := 3) rfl rfl (by decide) (by omega) hL2 dL_law_898 dL_law_899 dL_law_901 dL_law_902 dL_law_903 rfl rfl ?_
  refine lr_rd (pc := 904) (i := i) (j := 4) (jv := 4) rfl rfl (by decide) (by omega) hL2 dL_law_904 dL_law_905 dL_law_907 dL_law_908 dL_law_909 rfl rfl ?_
  refine rn_callV (pc := 910) (r := some (.int v)) (as := [.int (xs (i + 1)), .int (xs (i + 2)), .int (xs (i + 3)), .int (xs (i + 4))]) hM.1 ⟨_, _, rfl⟩ k_X6_cell.1 k_X6_cell.2.1 k_X6_cell.2.2.1 gw_1020 (c_X6_cell T (xs (i + 1)) (xs (i + 2)) (xs (i + 3)) (xs (i + 4)) hM _ _ _ h3) rfl rfl (Nat.le_of_ble_eq_true rfl) (Nat.le_of_ble_eq_true rfl) (Nat.le_of_ble_eq_true rfl) hk hn (fun h => by cases h) dL_law_910 ?_
  refine rn_istore (pc := 913) (i := 6) (lo' := [some (.retAddr b), some (.ref 0), some (.ref 168), some (.ref 185), some (.int (Int32.ofNat i)), some (.int c), some (.int v), none, none]) dL_law_913 (by decide) rfl ?_
  refine rn_aload_n (pc := 915) (i := 2) dL_law_915 rfl rfl ?_
  refine rn_callV (pc := 916) (r := some (.int (σ3 168 6))) (as := []) hM.1 ⟨_, _, rfl⟩ k_X6_thrown.1 k_X6_thrown.2.1 k_X6_thrown.2.2.1 gw_900 (c_X6_thrown T hM σ3 (.inl (σ3 168 6)) σ3 rfl) rfl rfl (Nat.le_of_ble_eq_true rfl) (Nat.le_of_ble_eq_true rfl) (Nat.le_of_ble_eq_true rfl) hk hn (fun h => by cases h) dL_law_916 ?_
  refine rn_iload (pc := 919) (i := 5) dL_law_919 rfl ?_
  refine rn_icmp_eq (pc := 921) (tgt := 926) dL_law_921 rfl (fun _ => ?_) (fun h => absurd hc h)
  refine rn_iload (pc := 926) (i := 5) dL_law_926 rfl ?_
  have KE := rn_goto (pc := 943) (tgt := 1609) (lo := [some (.retAddr b), some (.ref 0), some (.ref 168), some (.ref 185), some (.int (Int32.ofNat i)), some (.int c), some (.int v), none, none]) dL_law_943 rfl (rn_sub (KK σ3 hI3) ⟨rfl, rfl, rfl, rfl, rfl, trivial⟩)
  refine rn_if_ne (pc := 928) (tgt := 943) dL_law_928 rfl (fun _ => KE) (fun h0 => ?_)
  refine rn_aload_n (pc := 931) (i := 3) dL_law_931 rfl rfl ?_
  refine rn_iconst (pc := 932) (v := 0) dL_law_932 (by decide) ?_
  refine rn_lald (pc := 933) hO (by unfold vp_in; decide) dL_law_933 ?_
  refine rn_iload (pc := 934) (i := 6) dL_law_934 rfl ?_
  refine rn_i2l (pc := 936) dL_law_936 ?_
  refine rn_lcmp (pc := 937) dL_law_937 ?_
  exact rn_if_eq (pc := 938) (tgt := 943) dL_law_938 rfl (fun _ => KE) (fun h => absurd (lr_lc (congrArg Int32.toInt64 (hz h0))) h)
set_option maxRecDepth 100000 in
theorem lc_12 {nm : String} {et : List ExceptionTableEntry} {b L i k n : Nat} {xs : Nat → Int32} {T : Tb} {σ : Mm} {I : Mm → Prop} (hst : StW I cs_edge (F_X5_edge (xs (i + 1)) (xs (i + 2)) (xs (i + 3)) (xs (i + 4))) (F_X6_edge (xs (i + 1)) (xs (i + 2)) (xs (i + 3)) (xs (i + 4)))) (hL : i + 6 ≤ L) (hL2 : L ≤ 3072) (hk : k + 1 ≤ 601024) (hn : n + 6 ≤ 7293034) (hN : isNS T) (hM : isMod T) (hO : T[185]? = some (1, 1, [])) (hI : I σ) (KK : ∀ σ1, I σ1 → Lw nm et b L xs false (k + 1) (n + 6) T 1609 (loI b i) [] σ1) : Lw nm et b L xs false k n T 946 (loI b i) [] σ := by
  unfold loI at *
  obtain ⟨o, σ1, h1, v, σ3, h3, hI3, hR⟩ := hst σ hI
  obtain ⟨c, hev, hc, hz⟩ := wq_edge T hN hO (xs (i + 1)) (xs (i + 2)) (xs (i + 3)) (xs (i + 4)) σ σ1 σ3 o v h1 hR
  refine rn_aload_n (pc := 946) (i := 1) dL_law_946 rfl rfl ?_
  refine lr_rd (pc := 947) (i := i) (j := 1) (jv := 1) rfl rfl (by decide) (by omega) hL2 dL_law_947 dL_law_948 dL_law_950 dL_law_951 dL_law_952 rfl rfl ?_
  refine lr_rd (pc := 953) (i := i) (j := 2) (jv := 2) rfl rfl (by decide) (by omega) hL2 dL_law_953 dL_law_954 dL_law_956 dL_law_957 dL_law_958 rfl rfl ?_
  refine lr_rd (pc := 959) (i := i) (j := 3) (jv := 3) rfl rfl (by decide) (by omega) hL2 dL_law_959 dL_law_960 dL_law_962 dL_law_963 dL_law_964 rfl rfl ?_
  refine lr_rd (pc := 965) (i := i) (j := 4) (jv := 4) rfl rfl (by decide) (by omega) hL2 dL_law_965 dL_law_966 dL_law_968 dL_law_969 dL_law_970 rfl rfl ?_
  refine rn_aload_n (pc := 971) (i := 3) dL_law_971 rfl rfl ?_
  refine rn_callSH (pc := 972) (r := some (.int c)) (as := [.ref 0, .int (xs (i + 1)), .int (xs (i + 2)), .int (xs (i + 3)), .int (xs (i + 4)), .ref 185]) (rm' := rmW) kw_edge gw_758 hev rfl rfl (Nat.le_of_ble_eq_true rfl) (Nat.le_of_ble_eq_true rfl) (Nat.le_of_ble_eq_true rfl) hk hn (fun h => by cases h) dL_law_972 ?_
  refine rn_istore (pc := 975) (i := 5) (lo' := [some (.retAddr b), some (.ref 0), some (.ref 168), some (.ref 185), some (.int (Int32.ofNat i)), some (.int c), none, none, none]) dL_law_975 (by decide) rfl ?_
  refine rn_aload_n (pc := 977) (i := 2) dL_law_977 rfl rfl ?_
  refine lr_rd (pc := 978) (i := i) (j := 1) (jv := 1) rfl rfl (by decide) (by omega) hL2 dL_law_978 dL_law_979 dL_law_981 dL_law_982 dL_law_983 rfl rfl ?_
  refine lr_rd (pc := 984) (i := i) (j := 2) (jv := 2) rfl rfl (by decide) (by omega) hL2 dL_law_984 dL_law_985 dL_law_987 dL_law_988 dL_law_989 rfl rfl ?_
  refine lr_rd (pc := 990) (i := i) (j := 3) (jv := 3) rfl rfl (by decide) (by omega) hL2 dL_law_990 dL_law_991 dL_law_993 dL_law_994 dL_law_995 rfl rfl ?_
  refine lr_rd (pc := 996) (i := i) (j := 4) (jv := 4) rfl rfl (by decide) (by omega) hL2 dL_law_996 dL_law_997 dL_law_999 dL_law_1000 dL_law_1001 rfl rfl ?_
  refine rn_callV (pc := 1002) (r := some (.int v)) (as := [.int (xs (i + 1)), .int (xs (i + 2)), .int (xs (i + 3)), .int (xs (i + 4))]) hM.1 ⟨_, _, rfl⟩ k_X6_edge.1 k_X6_edge.2.1 k_X6_edge.2.2.1 gw_1104 (c_X6_edge T (xs (i + 1)) (xs (i + 2)) (xs (i + 3)) (xs (i + 4)) hM _ _ _ h3) rfl rfl (Nat.le_of_ble_eq_true rfl) (Nat.le_of_ble_eq_true rfl) (Nat.le_of_ble_eq_true rfl) hk hn (fun h => by cases h) dL_law_1002 ?_
  refine rn_istore (pc := 1005) (i := 6) (lo' := [some (.retAddr b), some (.ref 0), some (.ref 168), some (.ref 185), some (.int (Int32.ofNat i)), some (.int c), some (.int v), none, none]) dL_law_1005 (by decide) rfl ?_
  refine rn_aload_n (pc := 1007) (i := 2) dL_law_1007 rfl rfl ?_
  refine rn_callV (pc := 1008) (r := some (.int (σ3 168 6))) (as := []) hM.1 ⟨_, _, rfl⟩ k_X6_thrown.1 k_X6_thrown.2.1 k_X6_thrown.2.2.1 gw_900 (c_X6_thrown T hM σ3 (.inl (σ3 168 6)) σ3 rfl) rfl rfl (Nat.le_of_ble_eq_true rfl) (Nat.le_of_ble_eq_true rfl) (Nat.le_of_ble_eq_true rfl) hk hn (fun h => by cases h) dL_law_1008 ?_
  refine rn_iload (pc := 1011) (i := 5) dL_law_1011 rfl ?_
  refine rn_icmp_eq (pc := 1013) (tgt := 1018) dL_law_1013 rfl (fun _ => ?_) (fun h => absurd hc h)
  refine rn_iload (pc := 1018) (i := 5) dL_law_1018 rfl ?_
  have KE := rn_goto (pc := 1035) (tgt := 1609) (lo := [some (.retAddr b), some (.ref 0), some (.ref 168), some (.ref 185), some (.int (Int32.ofNat i)), some (.int c), some (.int v), none, none]) dL_law_1035 rfl (rn_sub (KK σ3 hI3) ⟨rfl, rfl, rfl, rfl, rfl, trivial⟩)
  refine rn_if_ne (pc := 1020) (tgt := 1035) dL_law_1020 rfl (fun _ => KE) (fun h0 => ?_)
  refine rn_aload_n (pc := 1023) (i := 3) dL_law_1023 rfl rfl ?_
  refine rn_iconst (pc := 1024) (v := 0) dL_law_1024 (by decide) ?_
  refine rn_lald (pc := 1025) hO (by unfold vp_in; decide) dL_law_1025 ?_
  refine rn_iload (pc := 1026) (i := 6) dL_law_1026 rfl ?_
  refine rn_i2l (pc := 1028) dL_law_1028 ?_
  refine rn_lcmp (pc := 1029) dL_law_1029 ?_
  exact rn_if_eq (pc := 1030) (tgt := 1035) dL_law_1030 rfl (fun _ => KE) (fun h => absurd (lr_lc (congrArg Int32.toInt64 (hz h0))) h)
set_option maxRecDepth 100000 in
theorem lc_13 {nm : String} {et : List ExceptionTableEntry} {b L i k n : Nat} {xs : Nat → Int32} {T : Tb} {σ : Mm} {I : Mm → Prop} (hst : StW I cs_table (F_X5_table (xs (i + 1)) (xs (i + 2))) (F_X6_table (xs (i + 1)) (xs (i + 2)))) (hL : i + 6 ≤ L) (hL2 : L ≤ 3072) (hk : k + 1 ≤ 601024) (hn : n + 6 ≤ 7293034) (hN : isNS T) (hM : isMod T) (hO : T[185]? = some (1, 1, [])) (hI : I σ) (KK : ∀ σ1, I σ1 → Lw nm et b L xs false (k + 1) (n + 6) T 1609 (loI b i) [] σ1) : Lw nm et b L xs false k n T 1038 (loI b i) [] σ := by
  unfold loI at *
  obtain ⟨o, σ1, h1, v, σ3, h3, hI3, hR⟩ := hst σ hI
  obtain ⟨c, hev, hc, hz⟩ := wq_table T hN hO (xs (i + 1)) (xs (i + 2)) σ σ1 σ3 o v h1 hR
  refine rn_aload_n (pc := 1038) (i := 1) dL_law_1038 rfl rfl ?_
  refine lr_rd (pc := 1039) (i := i) (j := 1) (jv := 1) rfl rfl (by decide) (by omega) hL2 dL_law_1039 dL_law_1040 dL_law_1042 dL_law_1043 dL_law_1044 rfl rfl ?_
  refine lr_rd (pc := 1045) (i := i) (j := 2) (jv := 2) rfl rfl (by decide) (by omega) hL2 dL_law_1045 dL_law_1046 dL_law_1048 dL_law_1049 dL_law_1050 rfl rfl ?_
  refine rn_aload_n (pc := 1051) (i := 3) dL_law_1051 rfl rfl ?_
  refine rn_callSH (pc := 1052) (r := some (.int c)) (as := [.ref 0, .int (xs (i + 1)), .int (xs (i + 2)), .ref 185]) (rm' := rmW) kw_table gw_765 hev rfl rfl (Nat.le_of_ble_eq_true rfl) (Nat.le_of_ble_eq_true rfl) (Nat.le_of_ble_eq_true rfl) hk hn (fun h => by cases h) dL_law_1052 ?_
  refine rn_istore (pc := 1055) (i := 5) (lo' := [some (.retAddr b), some (.ref 0), some (.ref 168), some (.ref 185), some (.int (Int32.ofNat i)), some (.int c), none, none, none]) dL_law_1055 (by decide) rfl ?_
  refine rn_aload_n (pc := 1057) (i := 2) dL_law_1057 rfl rfl ?_
  refine lr_rd (pc := 1058) (i := i) (j := 1) (jv := 1) rfl rfl (by decide) (by omega) hL2 dL_law_1058 dL_law_1059 dL_law_1061 dL_law_1062 dL_law_1063 rfl rfl ?_
  refine lr_rd (pc := 1064) (i := i) (j := 2) (jv := 2) rfl rfl (by decide) (by omega) hL2 dL_law_1064 dL_law_1065 dL_law_1067 dL_law_1068 dL_law_1069 rfl rfl ?_
  refine rn_callV (pc := 1070) (r := some (.int v)) (as := [.int (xs (i + 1)), .int (xs (i + 2))]) hM.1 ⟨_, _, rfl⟩ k_X6_table.1 k_X6_table.2.1 k_X6_table.2.2.1 gw_1108 (c_X6_table T (xs (i + 1)) (xs (i + 2)) hM _ _ _ h3) rfl rfl (Nat.le_of_ble_eq_true rfl) (Nat.le_of_ble_eq_true rfl) (Nat.le_of_ble_eq_true rfl) hk hn (fun h => by cases h) dL_law_1070 ?_
  refine rn_istore (pc := 1073) (i := 6) (lo' := [some (.retAddr b), some (.ref 0), some (.ref 168), some (.ref 185), some (.int (Int32.ofNat i)), some (.int c), some (.int v), none, none]) dL_law_1073 (by decide) rfl ?_
  refine rn_aload_n (pc := 1075) (i := 2) dL_law_1075 rfl rfl ?_
  refine rn_callV (pc := 1076) (r := some (.int (σ3 168 6))) (as := []) hM.1 ⟨_, _, rfl⟩ k_X6_thrown.1 k_X6_thrown.2.1 k_X6_thrown.2.2.1 gw_900 (c_X6_thrown T hM σ3 (.inl (σ3 168 6)) σ3 rfl) rfl rfl (Nat.le_of_ble_eq_true rfl) (Nat.le_of_ble_eq_true rfl) (Nat.le_of_ble_eq_true rfl) hk hn (fun h => by cases h) dL_law_1076 ?_
  refine rn_iload (pc := 1079) (i := 5) dL_law_1079 rfl ?_
  refine rn_icmp_eq (pc := 1081) (tgt := 1086) dL_law_1081 rfl (fun _ => ?_) (fun h => absurd hc h)
  refine rn_iload (pc := 1086) (i := 5) dL_law_1086 rfl ?_
  have KE := rn_goto (pc := 1103) (tgt := 1609) (lo := [some (.retAddr b), some (.ref 0), some (.ref 168), some (.ref 185), some (.int (Int32.ofNat i)), some (.int c), some (.int v), none, none]) dL_law_1103 rfl (rn_sub (KK σ3 hI3) ⟨rfl, rfl, rfl, rfl, rfl, trivial⟩)
  refine rn_if_ne (pc := 1088) (tgt := 1103) dL_law_1088 rfl (fun _ => KE) (fun h0 => ?_)
  refine rn_aload_n (pc := 1091) (i := 3) dL_law_1091 rfl rfl ?_
  refine rn_iconst (pc := 1092) (v := 0) dL_law_1092 (by decide) ?_
  refine rn_lald (pc := 1093) hO (by unfold vp_in; decide) dL_law_1093 ?_
  refine rn_iload (pc := 1094) (i := 6) dL_law_1094 rfl ?_
  refine rn_i2l (pc := 1096) dL_law_1096 ?_
  refine rn_lcmp (pc := 1097) dL_law_1097 ?_
  exact rn_if_eq (pc := 1098) (tgt := 1103) dL_law_1098 rfl (fun _ => KE) (fun h => absurd (lr_lc (congrArg Int32.toInt64 (hz h0))) h)
set_option maxRecDepth 100000 in
theorem lc_14 {nm : String} {et : List ExceptionTableEntry} {b L i k n : Nat} {xs : Nat → Int32} {T : Tb} {σ : Mm} {I : Mm → Prop} (hst : StW I cs_size (F_X5_size (xs (i + 1)) (if xs (i + 2) = 0 then 0 else 1) (xs (i + 3))) (F_X6_size (xs (i + 1)) (if xs (i + 2) = 0 then 0 else 1) (xs (i + 3)))) (hL : i + 6 ≤ L) (hL2 : L ≤ 3072) (hk : k + 1 ≤ 601024) (hn : n + 6 ≤ 7293034) (hN : isNS T) (hM : isMod T) (hO : T[185]? = some (1, 1, [])) (hI : I σ) (KK : ∀ σ1, I σ1 → Lw nm et b L xs false (k + 1) (n + 6) T 1609 (loI b i) [] σ1) : Lw nm et b L xs false k n T 1106 (loI b i) [] σ := by
  unfold loI at *
  obtain ⟨o, σ1, h1, v, σ3, h3, hI3, hR⟩ := hst σ hI
  obtain ⟨c, hev, hc, hz⟩ := wq_size T hN hO (xs (i + 1)) (if xs (i + 2) = 0 then 0 else 1) (xs (i + 3)) σ σ1 σ3 o v h1 hR
  refine rn_aload_n (pc := 1106) (i := 1) dL_law_1106 rfl rfl ?_
  refine lr_rd (pc := 1107) (i := i) (j := 1) (jv := 1) rfl rfl (by decide) (by omega) hL2 dL_law_1107 dL_law_1108 dL_law_1110 dL_law_1111 dL_law_1112 rfl rfl ?_
  refine lr_rd (pc := 1113) (i := i) (j := 2) (jv := 2) rfl rfl (by decide) (by omega) hL2 dL_law_1113 dL_law_1114 dL_law_1116 dL_law_1117 dL_law_1118 rfl rfl ?_
  refine lr_bool (pc := 1119) (tgt := 1126) (c1 := 1122) (g1 := 1123) (c0 := 1126) (jn := 1127) dL_law_1119 (by decide) dL_law_1122 dL_law_1123 (by decide) dL_law_1126 rfl rfl ⟨rfl, rfl⟩ ?_
  refine lr_rd (pc := 1127) (i := i) (j := 3) (jv := 3) rfl rfl (by decide) (by omega) hL2 dL_law_1127 dL_law_1128 dL_law_1130 dL_law_1131 dL_law_1132 rfl rfl ?_
  refine rn_aload_n (pc := 1133) (i := 3) dL_law_1133 rfl rfl ?_
  refine rn_callSH (pc := 1134) (r := some (.int c)) (as := [.ref 0, .int (xs (i + 1)), .int (if xs (i + 2) = 0 then 0 else 1), .int (xs (i + 3)), .ref 185]) (rm' := rmW) kw_size gw_777 hev rfl rfl (Nat.le_of_ble_eq_true rfl) (Nat.le_of_ble_eq_true rfl) (Nat.le_of_ble_eq_true rfl) hk hn (fun h => by cases h) dL_law_1134 ?_
  refine rn_istore (pc := 1137) (i := 5) (lo' := [some (.retAddr b), some (.ref 0), some (.ref 168), some (.ref 185), some (.int (Int32.ofNat i)), some (.int c), none, none, none]) dL_law_1137 (by decide) rfl ?_
  refine rn_aload_n (pc := 1139) (i := 2) dL_law_1139 rfl rfl ?_
  refine lr_rd (pc := 1140) (i := i) (j := 1) (jv := 1) rfl rfl (by decide) (by omega) hL2 dL_law_1140 dL_law_1141 dL_law_1143 dL_law_1144 dL_law_1145 rfl rfl ?_
  refine lr_rd (pc := 1146) (i := i) (j := 2) (jv := 2) rfl rfl (by decide) (by omega) hL2 dL_law_1146 dL_law_1147 dL_law_1149 dL_law_1150 dL_law_1151 rfl rfl ?_
  refine lr_bool (pc := 1152) (tgt := 1159) (c1 := 1155) (g1 := 1156) (c0 := 1159) (jn := 1160) dL_law_1152 (by decide) dL_law_1155 dL_law_1156 (by decide) dL_law_1159 rfl rfl ⟨rfl, rfl⟩ ?_
  refine lr_rd (pc := 1160) (i := i) (j := 3) (jv := 3) rfl rfl (by decide) (by omega) hL2 dL_law_1160 dL_law_1161 dL_law_1163 dL_law_1164 dL_law_1165 rfl rfl ?_
  refine rn_callV (pc := 1166) (r := some (.int v)) (as := [.int (xs (i + 1)), .int (if xs (i + 2) = 0 then 0 else 1), .int (xs (i + 3))]) hM.1 ⟨_, _, rfl⟩ k_X6_size.1 k_X6_size.2.1 k_X6_size.2.2.1 gw_1119 (c_X6_size T (xs (i + 1)) (if xs (i + 2) = 0 then 0 else 1) (xs (i + 3)) hM _ _ _ h3) rfl rfl (Nat.le_of_ble_eq_true rfl) (Nat.le_of_ble_eq_true rfl) (Nat.le_of_ble_eq_true rfl) hk hn (fun h => by cases h) dL_law_1166 ?_
  refine rn_istore (pc := 1169) (i := 6) (lo' := [some (.retAddr b), some (.ref 0), some (.ref 168), some (.ref 185), some (.int (Int32.ofNat i)), some (.int c), some (.int v), none, none]) dL_law_1169 (by decide) rfl ?_
  refine rn_aload_n (pc := 1171) (i := 2) dL_law_1171 rfl rfl ?_
  refine rn_callV (pc := 1172) (r := some (.int (σ3 168 6))) (as := []) hM.1 ⟨_, _, rfl⟩ k_X6_thrown.1 k_X6_thrown.2.1 k_X6_thrown.2.2.1 gw_900 (c_X6_thrown T hM σ3 (.inl (σ3 168 6)) σ3 rfl) rfl rfl (Nat.le_of_ble_eq_true rfl) (Nat.le_of_ble_eq_true rfl) (Nat.le_of_ble_eq_true rfl) hk hn (fun h => by cases h) dL_law_1172 ?_
  refine rn_iload (pc := 1175) (i := 5) dL_law_1175 rfl ?_
  refine rn_icmp_eq (pc := 1177) (tgt := 1182) dL_law_1177 rfl (fun _ => ?_) (fun h => absurd hc h)
  refine rn_iload (pc := 1182) (i := 5) dL_law_1182 rfl ?_
  have KE := rn_goto (pc := 1199) (tgt := 1609) (lo := [some (.retAddr b), some (.ref 0), some (.ref 168), some (.ref 185), some (.int (Int32.ofNat i)), some (.int c), some (.int v), none, none]) dL_law_1199 rfl (rn_sub (KK σ3 hI3) ⟨rfl, rfl, rfl, rfl, rfl, trivial⟩)
  refine rn_if_ne (pc := 1184) (tgt := 1199) dL_law_1184 rfl (fun _ => KE) (fun h0 => ?_)
  refine rn_aload_n (pc := 1187) (i := 3) dL_law_1187 rfl rfl ?_
  refine rn_iconst (pc := 1188) (v := 0) dL_law_1188 (by decide) ?_
  refine rn_lald (pc := 1189) hO (by unfold vp_in; decide) dL_law_1189 ?_
  refine rn_iload (pc := 1190) (i := 6) dL_law_1190 rfl ?_
  refine rn_i2l (pc := 1192) dL_law_1192 ?_
  refine rn_lcmp (pc := 1193) dL_law_1193 ?_
  exact rn_if_eq (pc := 1194) (tgt := 1199) dL_law_1194 rfl (fun _ => KE) (fun h => absurd (lr_lc (congrArg Int32.toInt64 (hz h0))) h)
set_option maxRecDepth 100000 in
theorem lc_15 {nm : String} {et : List ExceptionTableEntry} {b L i k n : Nat} {xs : Nat → Int32} {T : Tb} {σ : Mm} {I : Mm → Prop} (hst : StW I cs_page (F_X5_page (xs (i + 1))) (F_X6_page (xs (i + 1)))) (hL : i + 6 ≤ L) (hL2 : L ≤ 3072) (hk : k + 1 ≤ 601024) (hn : n + 6 ≤ 7293034) (hN : isNS T) (hM : isMod T) (hO : T[185]? = some (1, 1, [])) (hI : I σ) (KK : ∀ σ1, I σ1 → Lw nm et b L xs false (k + 1) (n + 6) T 1609 (loI b i) [] σ1) : Lw nm et b L xs false k n T 1202 (loI b i) [] σ := by
  unfold loI at *
  obtain ⟨o, σ1, h1, v, σ3, h3, hI3, hR⟩ := hst σ hI
  obtain ⟨c, hev, hc, hz⟩ := wq_page T hN hO (xs (i + 1)) σ σ1 σ3 o v h1 hR
  refine rn_aload_n (pc := 1202) (i := 1) dL_law_1202 rfl rfl ?_
  refine lr_rd (pc := 1203) (i := i) (j := 1) (jv := 1) rfl rfl (by decide) (by omega) hL2 dL_law_1203 dL_law_1204 dL_law_1206 dL_law_1207 dL_law_1208 rfl rfl ?_
  refine rn_aload_n (pc := 1209) (i := 3) dL_law_1209 rfl rfl ?_
  refine rn_callSH (pc := 1210) (r := some (.int c)) (as := [.ref 0, .int (xs (i + 1)), .ref 185]) (rm' := rmW) kw_page gw_784 hev rfl rfl (Nat.le_of_ble_eq_true rfl) (Nat.le_of_ble_eq_true rfl) (Nat.le_of_ble_eq_true rfl) hk hn (fun h => by cases h) dL_law_1210 ?_
  refine rn_istore (pc := 1213) (i := 5) (lo' := [some (.retAddr b), some (.ref 0), some (.ref 168), some (.ref 185), some (.int (Int32.ofNat i)), some (.int c), none, none, none]) dL_law_1213 (by decide) rfl ?_
  refine rn_aload_n (pc := 1215) (i := 2) dL_law_1215 rfl rfl ?_
  refine lr_rd (pc := 1216) (i := i) (j := 1) (jv := 1) rfl rfl (by decide) (by omega) hL2 dL_law_1216 dL_law_1217 dL_law_1219 dL_law_1220 dL_law_1221 rfl rfl ?_
  refine rn_callV (pc := 1222) (r := some (.int v)) (as := [.int (xs (i + 1))]) hM.1 ⟨_, _, rfl⟩ k_X6_page.1 k_X6_page.2.1 k_X6_page.2.2.1 gw_1123 (c_X6_page T (xs (i + 1)) hM _ _ _ h3) rfl rfl (Nat.le_of_ble_eq_true rfl) (Nat.le_of_ble_eq_true rfl) (Nat.le_of_ble_eq_true rfl) hk hn (fun h => by cases h) dL_law_1222 ?_
  refine rn_istore (pc := 1225) (i := 6) (lo' := [some (.retAddr b), some (.ref 0), some (.ref 168), some (.ref 185), some (.int (Int32.ofNat i)), some (.int c), some (.int v), none, none]) dL_law_1225 (by decide) rfl ?_
  refine rn_aload_n (pc := 1227) (i := 2) dL_law_1227 rfl rfl ?_
  refine rn_callV (pc := 1228) (r := some (.int (σ3 168 6))) (as := []) hM.1 ⟨_, _, rfl⟩ k_X6_thrown.1 k_X6_thrown.2.1 k_X6_thrown.2.2.1 gw_900 (c_X6_thrown T hM σ3 (.inl (σ3 168 6)) σ3 rfl) rfl rfl (Nat.le_of_ble_eq_true rfl) (Nat.le_of_ble_eq_true rfl) (Nat.le_of_ble_eq_true rfl) hk hn (fun h => by cases h) dL_law_1228 ?_
  refine rn_iload (pc := 1231) (i := 5) dL_law_1231 rfl ?_
  refine rn_icmp_eq (pc := 1233) (tgt := 1238) dL_law_1233 rfl (fun _ => ?_) (fun h => absurd hc h)
  refine rn_iload (pc := 1238) (i := 5) dL_law_1238 rfl ?_
  have KE := rn_goto (pc := 1255) (tgt := 1609) (lo := [some (.retAddr b), some (.ref 0), some (.ref 168), some (.ref 185), some (.int (Int32.ofNat i)), some (.int c), some (.int v), none, none]) dL_law_1255 rfl (rn_sub (KK σ3 hI3) ⟨rfl, rfl, rfl, rfl, rfl, trivial⟩)
  refine rn_if_ne (pc := 1240) (tgt := 1255) dL_law_1240 rfl (fun _ => KE) (fun h0 => ?_)
  refine rn_aload_n (pc := 1243) (i := 3) dL_law_1243 rfl rfl ?_
  refine rn_iconst (pc := 1244) (v := 0) dL_law_1244 (by decide) ?_
  refine rn_lald (pc := 1245) hO (by unfold vp_in; decide) dL_law_1245 ?_
  refine rn_iload (pc := 1246) (i := 6) dL_law_1246 rfl ?_
  refine rn_i2l (pc := 1248) dL_law_1248 ?_
  refine rn_lcmp (pc := 1249) dL_law_1249 ?_
  exact rn_if_eq (pc := 1250) (tgt := 1255) dL_law_1250 rfl (fun _ => KE) (fun h => absurd (lr_lc (congrArg Int32.toInt64 (hz h0))) h)
set_option maxRecDepth 100000 in
theorem lc_16 {nm : String} {et : List ExceptionTableEntry} {b L i k n : Nat} {xs : Nat → Int32} {T : Tb} {σ : Mm} {I : Mm → Prop} (hst : StW I cs_count (F_X5_count (xs (i + 1))) (F_X6_count (xs (i + 1)))) (hL : i + 6 ≤ L) (hL2 : L ≤ 3072) (hk : k + 1 ≤ 601024) (hn : n + 6 ≤ 7293034) (hN : isNS T) (hM : isMod T) (hO : T[185]? = some (1, 1, [])) (hI : I σ) (KK : ∀ σ1, I σ1 → Lw nm et b L xs false (k + 1) (n + 6) T 1609 (loI b i) [] σ1) : Lw nm et b L xs false k n T 1258 (loI b i) [] σ := by
  unfold loI at *
  obtain ⟨o, σ1, h1, v, σ3, h3, hI3, hR⟩ := hst σ hI
  obtain ⟨c, hev, hc, hz⟩ := wq_count T hN hO (xs (i + 1)) σ σ1 σ3 o v h1 hR
  refine rn_aload_n (pc := 1258) (i := 1) dL_law_1258 rfl rfl ?_
  refine lr_rd (pc := 1259) (i := i) (j := 1) (jv := 1) rfl rfl (by decide) (by omega) hL2 dL_law_1259 dL_law_1260 dL_law_1262 dL_law_1263 dL_law_1264 rfl rfl ?_
  refine rn_aload_n (pc := 1265) (i := 3) dL_law_1265 rfl rfl ?_
  refine rn_callSH (pc := 1266) (r := some (.int c)) (as := [.ref 0, .int (xs (i + 1)), .ref 185]) (rm' := rmW) kw_count gw_788 hev rfl rfl (Nat.le_of_ble_eq_true rfl) (Nat.le_of_ble_eq_true rfl) (Nat.le_of_ble_eq_true rfl) hk hn (fun h => by cases h) dL_law_1266 ?_
  refine rn_istore (pc := 1269) (i := 5) (lo' := [some (.retAddr b), some (.ref 0), some (.ref 168), some (.ref 185), some (.int (Int32.ofNat i)), some (.int c), none, none, none]) dL_law_1269 (by decide) rfl ?_
  refine rn_aload_n (pc := 1271) (i := 2) dL_law_1271 rfl rfl ?_
  refine lr_rd (pc := 1272) (i := i) (j := 1) (jv := 1) rfl rfl (by decide) (by omega) hL2 dL_law_1272 dL_law_1273 dL_law_1275 dL_law_1276 dL_law_1277 rfl rfl ?_
  refine rn_callV (pc := 1278) (r := some (.int v)) (as := [.int (xs (i + 1))]) hM.1 ⟨_, _, rfl⟩ k_X6_count.1 k_X6_count.2.1 k_X6_count.2.2.1 gw_1134 (c_X6_count T (xs (i + 1)) hM _ _ _ h3) rfl rfl (Nat.le_of_ble_eq_true rfl) (Nat.le_of_ble_eq_true rfl) (Nat.le_of_ble_eq_true rfl) hk hn (fun h => by cases h) dL_law_1278 ?_
  refine rn_istore (pc := 1281) (i := 6) (lo' := [some (.retAddr b), some (.ref 0), some (.ref 168), some (.ref 185), some (.int (Int32.ofNat i)), some (.int c), some (.int v), none, none]) dL_law_1281 (by decide) rfl ?_
  refine rn_aload_n (pc := 1283) (i := 2) dL_law_1283 rfl rfl ?_
  refine rn_callV (pc := 1284) (r := some (.int (σ3 168 6))) (as := []) hM.1 ⟨_, _, rfl⟩ k_X6_thrown.1 k_X6_thrown.2.1 k_X6_thrown.2.2.1 gw_900 (c_X6_thrown T hM σ3 (.inl (σ3 168 6)) σ3 rfl) rfl rfl (Nat.le_of_ble_eq_true rfl) (Nat.le_of_ble_eq_true rfl) (Nat.le_of_ble_eq_true rfl) hk hn (fun h => by cases h) dL_law_1284 ?_
  refine rn_iload (pc := 1287) (i := 5) dL_law_1287 rfl ?_
  refine rn_icmp_eq (pc := 1289) (tgt := 1294) dL_law_1289 rfl (fun _ => ?_) (fun h => absurd hc h)
  refine rn_iload (pc := 1294) (i := 5) dL_law_1294 rfl ?_
  have KE := rn_goto (pc := 1311) (tgt := 1609) (lo := [some (.retAddr b), some (.ref 0), some (.ref 168), some (.ref 185), some (.int (Int32.ofNat i)), some (.int c), some (.int v), none, none]) dL_law_1311 rfl (rn_sub (KK σ3 hI3) ⟨rfl, rfl, rfl, rfl, rfl, trivial⟩)
  refine rn_if_ne (pc := 1296) (tgt := 1311) dL_law_1296 rfl (fun _ => KE) (fun h0 => ?_)
  refine rn_aload_n (pc := 1299) (i := 3) dL_law_1299 rfl rfl ?_
  refine rn_iconst (pc := 1300) (v := 0) dL_law_1300 (by decide) ?_
  refine rn_lald (pc := 1301) hO (by unfold vp_in; decide) dL_law_1301 ?_
  refine rn_iload (pc := 1302) (i := 6) dL_law_1302 rfl ?_
  refine rn_i2l (pc := 1304) dL_law_1304 ?_
  refine rn_lcmp (pc := 1305) dL_law_1305 ?_
  exact rn_if_eq (pc := 1306) (tgt := 1311) dL_law_1306 rfl (fun _ => KE) (fun h => absurd (lr_lc (congrArg Int32.toInt64 (hz h0))) h)
set_option maxRecDepth 100000 in
theorem lc_17 {nm : String} {et : List ExceptionTableEntry} {b L i k n : Nat} {xs : Nat → Int32} {T : Tb} {σ : Mm} {I : Mm → Prop} (hst : StW I cs_ifPut (F_X5_ifPut (xs (i + 1)) (xs (i + 2)) (xs (i + 3)) (xs (i + 4)) (xs (i + 5))) (F_X6_ifPut (xs (i + 1)) (xs (i + 2)) (xs (i + 3)) (xs (i + 4)) (xs (i + 5)))) (hL : i + 6 ≤ L) (hL2 : L ≤ 3072) (hk : k + 1 ≤ 601024) (hn : n + 6 ≤ 7293034) (hN : isNS T) (hM : isMod T) (hO : T[185]? = some (1, 1, [])) (hI : I σ) (KK : ∀ σ1, I σ1 → Lw nm et b L xs false (k + 1) (n + 6) T 1609 (loI b i) [] σ1) : Lw nm et b L xs false k n T 1314 (loI b i) [] σ := by
  unfold loI at *
  obtain ⟨o, σ1, h1, v, σ3, h3, hI3, hR⟩ := hst σ hI
  obtain ⟨c, hev, hc, hz⟩ := wq_ifPut T hN hO (xs (i + 1)) (xs (i + 2)) (xs (i + 3)) (xs (i + 4)) (xs (i + 5)) σ σ1 σ3 o v h1 hR
  refine rn_aload_n (pc := 1314) (i := 1) dL_law_1314 rfl rfl ?_
  refine lr_rd (pc := 1315) (i := i) (j := 1) (jv := 1) rfl rfl (by decide) (by omega) hL2 dL_law_1315 dL_law_1316 dL_law_1318 dL_law_1319 dL_law_1320 rfl rfl ?_
  refine lr_rd (pc := 1321) (i := i) (j := 2) (jv := 2) rfl rfl (by decide) (by omega) hL2 dL_law_1321 dL_law_1322 dL_law_1324 dL_law_1325 dL_law_1326 rfl rfl ?_
  refine lr_rd (pc := 1327) (i := i) (j := 3) (jv := 3) rfl rfl (by decide) (by omega) hL2 dL_law_1327 dL_law_1328 dL_law_1330 dL_law_1331 dL_law_1332 rfl rfl ?_
  refine lr_rd (pc := 1333) (i := i) (j := 4) (jv := 4) rfl rfl (by decide) (by omega) hL2 dL_law_1333 dL_law_1334 dL_law_1336 dL_law_1337 dL_law_1338 rfl rfl ?_
  refine lr_rd (pc := 1339) (i := i) (j := 5) (jv := 5) rfl rfl (by decide) (by omega) hL2 dL_law_1339 dL_law_1340 dL_law_1342 dL_law_1343 dL_law_1344 rfl rfl ?_
  refine rn_aload_n (pc := 1345) (i := 3) dL_law_1345 rfl rfl ?_
  refine rn_callSH (pc := 1346) (r := some (.int c)) (as := [.ref 0, .int (xs (i + 1)), .int (xs (i + 2)), .int (xs (i + 3)), .int (xs (i + 4)), .int (xs (i + 5)), .ref 185]) (rm' := rmW) kw_ifPut gw_792 hev rfl rfl (Nat.le_of_ble_eq_true rfl) (Nat.le_of_ble_eq_true rfl) (Nat.le_of_ble_eq_true rfl) hk hn (fun h => by cases h) dL_law_1346 ?_
  refine rn_istore (pc := 1349) (i := 5) (lo' := [some (.retAddr b), some (.ref 0), some (.ref 168), some (.ref 185), some (.int (Int32.ofNat i)), some (.int c), none, none, none]) dL_law_1349 (by decide) rfl ?_
  refine rn_aload_n (pc := 1351) (i := 2) dL_law_1351 rfl rfl ?_
  refine lr_rd (pc := 1352) (i := i) (j := 1) (jv := 1) rfl rfl (by decide) (by omega) hL2 dL_law_1352 dL_law_1353 dL_law_1355 dL_law_1356 dL_law_1357 rfl rfl ?_
  refine lr_rd (pc := 1358) (i := i) (j := 2) (jv := 2) rfl rfl (by decide) (by omega) hL2 dL_law_1358 dL_law_1359 dL_law_1361 dL_law_1362 dL_law_1363 rfl rfl ?_
  refine lr_rd (pc := 1364) (i := i) (j := 3) (jv := 3) rfl rfl (by decide) (by omega) hL2 dL_law_1364 dL_law_1365 dL_law_1367 dL_law_1368 dL_law_1369 rfl rfl ?_
  refine lr_rd (pc := 1370) (i := i) (j := 4) (jv := 4) rfl rfl (by decide) (by omega) hL2 dL_law_1370 dL_law_1371 dL_law_1373 dL_law_1374 dL_law_1375 rfl rfl ?_
  refine lr_rd (pc := 1376) (i := i) (j := 5) (jv := 5) rfl rfl (by decide) (by omega) hL2 dL_law_1376 dL_law_1377 dL_law_1379 dL_law_1380 dL_law_1381 rfl rfl ?_
  refine rn_callV (pc := 1382) (r := some (.int v)) (as := [.int (xs (i + 1)), .int (xs (i + 2)), .int (xs (i + 3)), .int (xs (i + 4)), .int (xs (i + 5))]) hM.1 ⟨_, _, rfl⟩ k_X6_ifPut.1 k_X6_ifPut.2.1 k_X6_ifPut.2.2.1 gw_1154 (c_X6_ifPut T (xs (i + 1)) (xs (i + 2)) (xs (i + 3)) (xs (i + 4)) (xs (i + 5)) hM _ _ _ h3) rfl rfl (Nat.le_of_ble_eq_true rfl) (Nat.le_of_ble_eq_true rfl) (Nat.le_of_ble_eq_true rfl) hk hn (fun h => by cases h) dL_law_1382 ?_
  refine rn_istore (pc := 1385) (i := 6) (lo' := [some (.retAddr b), some (.ref 0), some (.ref 168), some (.ref 185), some (.int (Int32.ofNat i)), some (.int c), some (.int v), none, none]) dL_law_1385 (by decide) rfl ?_
  refine rn_aload_n (pc := 1387) (i := 2) dL_law_1387 rfl rfl ?_
  refine rn_callV (pc := 1388) (r := some (.int (σ3 168 6))) (as := []) hM.1 ⟨_, _, rfl⟩ k_X6_thrown.1 k_X6_thrown.2.1 k_X6_thrown.2.2.1 gw_900 (c_X6_thrown T hM σ3 (.inl (σ3 168 6)) σ3 rfl) rfl rfl (Nat.le_of_ble_eq_true rfl) (Nat.le_of_ble_eq_true rfl) (Nat.le_of_ble_eq_true rfl) hk hn (fun h => by cases h) dL_law_1388 ?_
  refine rn_iload (pc := 1391) (i := 5) dL_law_1391 rfl ?_
  refine rn_icmp_eq (pc := 1393) (tgt := 1398) dL_law_1393 rfl (fun _ => ?_) (fun h => absurd hc h)
  refine rn_iload (pc := 1398) (i := 5) dL_law_1398 rfl ?_
  have KE := rn_goto (pc := 1415) (tgt := 1609) (lo := [some (.retAddr b), some (.ref 0), some (.ref 168), some (.ref 185), some (.int (Int32.ofNat i)), some (.int c), some (.int v), none, none]) dL_law_1415 rfl (rn_sub (KK σ3 hI3) ⟨rfl, rfl, rfl, rfl, rfl, trivial⟩)
  refine rn_if_ne (pc := 1400) (tgt := 1415) dL_law_1400 rfl (fun _ => KE) (fun h0 => ?_)
  refine rn_aload_n (pc := 1403) (i := 3) dL_law_1403 rfl rfl ?_
  refine rn_iconst (pc := 1404) (v := 0) dL_law_1404 (by decide) ?_
  refine rn_lald (pc := 1405) hO (by unfold vp_in; decide) dL_law_1405 ?_
  refine rn_iload (pc := 1406) (i := 6) dL_law_1406 rfl ?_
  refine rn_i2l (pc := 1408) dL_law_1408 ?_
  refine rn_lcmp (pc := 1409) dL_law_1409 ?_
  exact rn_if_eq (pc := 1410) (tgt := 1415) dL_law_1410 rfl (fun _ => KE) (fun h => absurd (lr_lc (congrArg Int32.toInt64 (hz h0))) h)
set_option maxRecDepth 100000 in
theorem lc_18 {nm : String} {et : List ExceptionTableEntry} {b L i k n : Nat} {xs : Nat → Int32} {T : Tb} {σ : Mm} {I : Mm → Prop} (hst : StW I cs_countedBy (F_X5_countedBy (xs (i + 1)) (xs (i + 2)) (xs (i + 3))) (F_X6_countedBy (xs (i + 1)) (xs (i + 2)) (xs (i + 3)))) (hL : i + 6 ≤ L) (hL2 : L ≤ 3072) (hk : k + 1 ≤ 601024) (hn : n + 6 ≤ 7293034) (hN : isNS T) (hM : isMod T) (hO : T[185]? = some (1, 1, [])) (hI : I σ) (KK : ∀ σ1, I σ1 → Lw nm et b L xs false (k + 1) (n + 6) T 1609 (loI b i) [] σ1) : Lw nm et b L xs false k n T 1418 (loI b i) [] σ := by
  unfold loI at *
  obtain ⟨o, σ1, h1, v, σ3, h3, hI3, hR⟩ := hst σ hI
  obtain ⟨c, hev, hc, hz⟩ := wq_countedBy T hN hO (xs (i + 1)) (xs (i + 2)) (xs (i + 3)) σ σ1 σ3 o v h1 hR
  refine rn_aload_n (pc := 1418) (i := 1) dL_law_1418 rfl rfl ?_
  refine lr_rd (pc := 1419) (i := i) (j := 1) (jv := 1) rfl rfl (by decide) (by omega) hL2 dL_law_1419 dL_law_1420 dL_law_1422 dL_law_1423 dL_law_1424 rfl rfl ?_
  refine lr_rd (pc := 1425) (i := i) (j := 2) (jv := 2) rfl rfl (by decide) (by omega) hL2 dL_law_1425 dL_law_1426 dL_law_1428 dL_law_1429 dL_law_1430 rfl rfl ?_
  refine lr_rd (pc := 1431) (i := i) (j := 3) (jv := 3) rfl rfl (by decide) (by omega) hL2 dL_law_1431 dL_law_1432 dL_law_1434 dL_law_1435 dL_law_1436 rfl rfl ?_
  refine rn_aload_n (pc := 1437) (i := 3) dL_law_1437 rfl rfl ?_
  refine rn_callSH (pc := 1438) (r := some (.int c)) (as := [.ref 0, .int (xs (i + 1)), .int (xs (i + 2)), .int (xs (i + 3)), .ref 185]) (rm' := rmW) kw_countedBy gw_799 hev rfl rfl (Nat.le_of_ble_eq_true rfl) (Nat.le_of_ble_eq_true rfl) (Nat.le_of_ble_eq_true rfl) hk hn (fun h => by cases h) dL_law_1438 ?_
  refine rn_istore (pc := 1441) (i := 5) (lo' := [some (.retAddr b), some (.ref 0), some (.ref 168), some (.ref 185), some (.int (Int32.ofNat i)), some (.int c), none, none, none]) dL_law_1441 (by decide) rfl ?_
  refine rn_aload_n (pc := 1443) (i := 2) dL_law_1443 rfl rfl ?_
  refine lr_rd (pc := 1444) (i := i) (j := 1) (jv := 1) rfl rfl (by decide) (by omega) hL2 dL_law_1444 dL_law_1445 dL_law_1447 dL_law_1448 dL_law_1449 rfl rfl ?_
  refine lr_rd (pc := 1450) (i := i) (j := 2) (jv := 2) rfl rfl (by decide) (by omega) hL2 dL_law_1450 dL_law_1451 dL_law_1453 dL_law_1454 dL_law_1455 rfl rfl ?_
  refine lr_rd (pc := 1456) (i := i) (j := 3) (jv := 3) rfl rfl (by decide) (by omega) hL2 dL_law_1456 dL_law_1457 dL_law_1459 dL_law_1460 dL_law_1461 rfl rfl ?_
  refine rn_callV (pc := 1462) (r := some (.int v)) (as := [.int (xs (i + 1)), .int (xs (i + 2)), .int (xs (i + 3))]) hM.1 ⟨_, _, rfl⟩ k_X6_countedBy.1 k_X6_countedBy.2.1 k_X6_countedBy.2.2.1 gw_1162 (c_X6_countedBy T (xs (i + 1)) (xs (i + 2)) (xs (i + 3)) hM _ _ _ h3) rfl rfl (Nat.le_of_ble_eq_true rfl) (Nat.le_of_ble_eq_true rfl) (Nat.le_of_ble_eq_true rfl) hk hn (fun h => by cases h) dL_law_1462 ?_
  refine rn_istore (pc := 1465) (i := 6) (lo' := [some (.retAddr b), some (.ref 0), some (.ref 168), some (.ref 185), some (.int (Int32.ofNat i)), some (.int c), some (.int v), none, none]) dL_law_1465 (by decide) rfl ?_
  refine rn_aload_n (pc := 1467) (i := 2) dL_law_1467 rfl rfl ?_
  refine rn_callV (pc := 1468) (r := some (.int (σ3 168 6))) (as := []) hM.1 ⟨_, _, rfl⟩ k_X6_thrown.1 k_X6_thrown.2.1 k_X6_thrown.2.2.1 gw_900 (c_X6_thrown T hM σ3 (.inl (σ3 168 6)) σ3 rfl) rfl rfl (Nat.le_of_ble_eq_true rfl) (Nat.le_of_ble_eq_true rfl) (Nat.le_of_ble_eq_true rfl) hk hn (fun h => by cases h) dL_law_1468 ?_
  refine rn_iload (pc := 1471) (i := 5) dL_law_1471 rfl ?_
  refine rn_icmp_eq (pc := 1473) (tgt := 1478) dL_law_1473 rfl (fun _ => ?_) (fun h => absurd hc h)
  refine rn_iload (pc := 1478) (i := 5) dL_law_1478 rfl ?_
  have KE := rn_goto (pc := 1495) (tgt := 1609) (lo := [some (.retAddr b), some (.ref 0), some (.ref 168), some (.ref 185), some (.int (Int32.ofNat i)), some (.int c), some (.int v), none, none]) dL_law_1495 rfl (rn_sub (KK σ3 hI3) ⟨rfl, rfl, rfl, rfl, rfl, trivial⟩)
  refine rn_if_ne (pc := 1480) (tgt := 1495) dL_law_1480 rfl (fun _ => KE) (fun h0 => ?_)
  refine rn_aload_n (pc := 1483) (i := 3) dL_law_1483 rfl rfl ?_
  refine rn_iconst (pc := 1484) (v := 0) dL_law_1484 (by decide) ?_
  refine rn_lald (pc := 1485) hO (by unfold vp_in; decide) dL_law_1485 ?_
  refine rn_iload (pc := 1486) (i := 6) dL_law_1486 rfl ?_
  refine rn_i2l (pc := 1488) dL_law_1488 ?_
  refine rn_lcmp (pc := 1489) dL_law_1489 ?_
  exact rn_if_eq (pc := 1490) (tgt := 1495) dL_law_1490 rfl (fun _ => KE) (fun h => absurd (lr_lc (congrArg Int32.toInt64 (hz h0))) h)
set_option maxRecDepth 100000 in
theorem lc_19 {nm : String} {et : List ExceptionTableEntry} {b L i k n : Nat} {xs : Nat → Int32} {T : Tb} {σ : Mm} {I : Mm → Prop} (hst : StW I cs_heightFor (F_X5_heightFor (xs (i + 1))) (F_X6_heightFor (xs (i + 1)))) (hL : i + 6 ≤ L) (hL2 : L ≤ 3072) (hk : k + 1 ≤ 601024) (hn : n + 6 ≤ 7293034) (hN : isNS T) (hM : isMod T) (hO : T[185]? = some (1, 1, [])) (hI : I σ) (KK : ∀ σ1, I σ1 → Lw nm et b L xs false (k + 1) (n + 6) T 1609 (loI b i) [] σ1) : Lw nm et b L xs false k n T 1498 (loI b i) [] σ := by
  unfold loI at *
  obtain ⟨o, σ1, h1, v, σ3, h3, hI3, hR⟩ := hst σ hI
  obtain ⟨c, hev, hc, hz⟩ := wq_heightFor T hN hO (xs (i + 1)) σ σ1 σ3 o v h1 hR
  refine rn_aload_n (pc := 1498) (i := 1) dL_law_1498 rfl rfl ?_
  refine lr_rd (pc := 1499) (i := i) (j := 1) (jv := 1) rfl rfl (by decide) (by omega) hL2 dL_law_1499 dL_law_1500 dL_law_1502 dL_law_1503 dL_law_1504 rfl rfl ?_
  refine rn_aload_n (pc := 1505) (i := 3) dL_law_1505 rfl rfl ?_
  refine rn_callSH (pc := 1506) (r := some (.int c)) (as := [.ref 0, .int (xs (i + 1)), .ref 185]) (rm' := rmW) kw_heightFor gw_806 hev rfl rfl (Nat.le_of_ble_eq_true rfl) (Nat.le_of_ble_eq_true rfl) (Nat.le_of_ble_eq_true rfl) hk hn (fun h => by cases h) dL_law_1506 ?_
  refine rn_istore (pc := 1509) (i := 5) (lo' := [some (.retAddr b), some (.ref 0), some (.ref 168), some (.ref 185), some (.int (Int32.ofNat i)), some (.int c), none, none, none]) dL_law_1509 (by decide) rfl ?_
  refine rn_aload_n (pc := 1511) (i := 2) dL_law_1511 rfl rfl ?_
  refine lr_rd (pc := 1512) (i := i) (j := 1) (jv := 1) rfl rfl (by decide) (by omega) hL2 dL_law_1512 dL_law_1513 dL_law_1515 dL_law_1516 dL_law_1517 rfl rfl ?_
  refine rn_callV (pc := 1518) (r := some (.int v)) (as := [.int (xs (i + 1))]) hM.1 ⟨_, _, rfl⟩ k_X6_heightFor.1 k_X6_heightFor.2.1 k_X6_heightFor.2.2.1 gw_1170 (c_X6_heightFor T (xs (i + 1)) hM _ _ _ h3) rfl rfl (Nat.le_of_ble_eq_true rfl) (Nat.le_of_ble_eq_true rfl) (Nat.le_of_ble_eq_true rfl) hk hn (fun h => by cases h) dL_law_1518 ?_
  refine rn_istore (pc := 1521) (i := 6) (lo' := [some (.retAddr b), some (.ref 0), some (.ref 168), some (.ref 185), some (.int (Int32.ofNat i)), some (.int c), some (.int v), none, none]) dL_law_1521 (by decide) rfl ?_
  refine rn_aload_n (pc := 1523) (i := 2) dL_law_1523 rfl rfl ?_
  refine rn_callV (pc := 1524) (r := some (.int (σ3 168 6))) (as := []) hM.1 ⟨_, _, rfl⟩ k_X6_thrown.1 k_X6_thrown.2.1 k_X6_thrown.2.2.1 gw_900 (c_X6_thrown T hM σ3 (.inl (σ3 168 6)) σ3 rfl) rfl rfl (Nat.le_of_ble_eq_true rfl) (Nat.le_of_ble_eq_true rfl) (Nat.le_of_ble_eq_true rfl) hk hn (fun h => by cases h) dL_law_1524 ?_
  refine rn_iload (pc := 1527) (i := 5) dL_law_1527 rfl ?_
  refine rn_icmp_eq (pc := 1529) (tgt := 1534) dL_law_1529 rfl (fun _ => ?_) (fun h => absurd hc h)
  refine rn_iload (pc := 1534) (i := 5) dL_law_1534 rfl ?_
  have KE := rn_goto (pc := 1551) (tgt := 1609) (lo := [some (.retAddr b), some (.ref 0), some (.ref 168), some (.ref 185), some (.int (Int32.ofNat i)), some (.int c), some (.int v), none, none]) dL_law_1551 rfl (rn_sub (KK σ3 hI3) ⟨rfl, rfl, rfl, rfl, rfl, trivial⟩)
  refine rn_if_ne (pc := 1536) (tgt := 1551) dL_law_1536 rfl (fun _ => KE) (fun h0 => ?_)
  refine rn_aload_n (pc := 1539) (i := 3) dL_law_1539 rfl rfl ?_
  refine rn_iconst (pc := 1540) (v := 0) dL_law_1540 (by decide) ?_
  refine rn_lald (pc := 1541) hO (by unfold vp_in; decide) dL_law_1541 ?_
  refine rn_iload (pc := 1542) (i := 6) dL_law_1542 rfl ?_
  refine rn_i2l (pc := 1544) dL_law_1544 ?_
  refine rn_lcmp (pc := 1545) dL_law_1545 ?_
  exact rn_if_eq (pc := 1546) (tgt := 1551) dL_law_1546 rfl (fun _ => KE) (fun h => absurd (lr_lc (congrArg Int32.toInt64 (hz h0))) h)
set_option maxRecDepth 100000 in
theorem lc_20 {nm : String} {et : List ExceptionTableEntry} {b L i k n : Nat} {xs : Nat → Int32} {T : Tb} {σ : Mm} {I : Mm → Prop} (hst : StP (fun v : UInt64 => Op.cmpValue (FP.dcmp v v) CmpOp.l = 0) I F_X5_filledShare F_X6_filledShare) (hL : i + 6 ≤ L) (hL2 : L ≤ 3072) (hk : k + 1 ≤ 601024) (hn : n + 6 ≤ 7293034) (hN : isNS T) (hM : isMod T) (hO : T[185]? = some (1, 1, [])) (hI : I σ) (KK : ∀ σ1, I σ1 → Lw nm et b L xs false (k + 1) (n + 6) T 1609 (loI b i) [] σ1) : Lw nm et b L xs false k n T 1554 (loI b i) [] σ := by
  unfold loI at *
  obtain ⟨v, σ1, h1, σ3, h3, hI3, hE⟩ := hst σ hI
  refine rn_aload_n (pc := 1554) (i := 1) dL_law_1554 rfl rfl ?_
  refine rn_callV (pc := 1555) (r := some (.double v)) (as := []) hN.1 ⟨_, _, rfl⟩ k_X5_filledShare.1 k_X5_filledShare.2.1 k_X5_filledShare.2.2.1 gw_366 (c_X5_filledShare T hN _ _ _ h1) rfl rfl (Nat.le_of_ble_eq_true rfl) (Nat.le_of_ble_eq_true rfl) (Nat.le_of_ble_eq_true rfl) (Nat.le_of_succ_le hk) (Nat.le_trans (Nat.le_add_right _ _) hn) (fun h => by cases h) dL_law_1555 ?_
  refine rn_dstore (pc := 1558) (i := 5) (lo' := [some (.retAddr b), some (.ref 0), some (.ref 168), some (.ref 185), some (.int (Int32.ofNat i)), some (.double v), none, none, none]) dL_law_1558 (by decide) rfl ?_
  refine rn_aload_n (pc := 1560) (i := 2) dL_law_1560 rfl rfl ?_
  refine rn_callV (pc := 1561) (r := some (.double v)) (as := []) hM.1 ⟨_, _, rfl⟩ k_X6_filledShare.1 k_X6_filledShare.2.1 k_X6_filledShare.2.2.1 gw_1178 (c_X6_filledShare T hM _ _ _ h3) rfl rfl (Nat.le_of_ble_eq_true rfl) (Nat.le_of_ble_eq_true rfl) (Nat.le_of_ble_eq_true rfl) (Nat.le_of_succ_le hk) (Nat.le_trans (Nat.le_add_right _ _) hn) (fun h => by cases h) dL_law_1561 ?_
  refine rn_dstore (pc := 1564) (i := 7) (lo' := [some (.retAddr b), some (.ref 0), some (.ref 168), some (.ref 185), some (.int (Int32.ofNat i)), some (.double v), none, some (.double v), none]) dL_law_1564 (by decide) rfl ?_
  refine rn_dload (pc := 1566) (i := 5) dL_law_1566 rfl ?_
  refine rn_dload (pc := 1568) (i := 7) dL_law_1568 rfl ?_
  refine rn_dcmp (pc := 1570) dL_law_1570 ?_
  refine rn_if_eq (pc := 1571) (tgt := 1592) dL_law_1571 rfl (fun _ => ?_) (fun h => absurd hE h)
  exact rn_goto (pc := 1592) (tgt := 1609) dL_law_1592 rfl (rn_sub (lr_wid (KK σ3 hI3) (Nat.le_add_right _ _) (Nat.le_add_right _ _)) ⟨rfl, rfl, rfl, rfl, rfl, trivial⟩)
set_option maxRecDepth 100000 in
theorem lc_21 {nm : String} {et : List ExceptionTableEntry} {b L i k n : Nat} {xs : Nat → Int32} {T : Tb} {σ : Mm} {I : Mm → Prop} (hst : StP (fun _ => True) I F_X5_digest F_X6_digest) (hL : i + 6 ≤ L) (hL2 : L ≤ 3072) (hk : k + 1 ≤ 601024) (hn : n + 6 ≤ 7293034) (hN : isNS T) (hM : isMod T) (hO : T[185]? = some (1, 1, [])) (hI : I σ) (KK : ∀ σ1, I σ1 → Lw nm et b L xs false (k + 1) (n + 6) T 1609 (loI b i) [] σ1) : Lw nm et b L xs false k n T 1595 (loI b i) [] σ := by
  unfold loI at *
  obtain ⟨v, σ1, h1, σ3, h3, hI3, hE⟩ := hst σ hI
  refine rn_aload_n (pc := 1595) (i := 1) dL_law_1595 rfl rfl ?_
  refine rn_callV (pc := 1596) (r := some (.long v)) (as := []) hN.1 ⟨_, _, rfl⟩ k_X5_digest.1 k_X5_digest.2.1 k_X5_digest.2.2.1 gw_379 (c_X5_digest T hN _ _ _ h1) rfl rfl (Nat.le_of_ble_eq_true rfl) (Nat.le_of_ble_eq_true rfl) (Nat.le_of_ble_eq_true rfl) (Nat.le_of_succ_le hk) (Nat.le_trans (Nat.le_add_right _ _) hn) (fun h => by cases h) dL_law_1596 ?_
  refine rn_aload_n (pc := 1599) (i := 2) dL_law_1599 rfl rfl ?_
  refine rn_callV (pc := 1600) (r := some (.long v)) (as := []) hM.1 ⟨_, _, rfl⟩ k_X6_digest.1 k_X6_digest.2.1 k_X6_digest.2.2.1 gw_1186 (c_X6_digest T hM _ _ _ h3) rfl rfl (Nat.le_of_ble_eq_true rfl) (Nat.le_of_ble_eq_true rfl) (Nat.le_of_ble_eq_true rfl) (Nat.le_of_succ_le hk) (Nat.le_trans (Nat.le_add_right _ _) hn) (fun h => by cases h) dL_law_1600 ?_
  refine rn_lcmp (pc := 1603) dL_law_1603 ?_
  exact rn_if_eq (pc := 1604) (tgt := 1609) dL_law_1604 rfl (fun _ => lr_wid (KK σ3 hI3) (Nat.le_add_right _ _) (Nat.le_add_right _ _)) (fun h => absurd (lr_lc rfl) h)
/-- all that a step of the law asks -/
def LawSteps (I : Mm → Prop) : Prop := (∀ (xs : Nat → Int32) (i : Nat), StW I cs_begin (F_X5_begin (xs (i + 1)) (xs (i + 2))) (F_X6_begin (xs (i + 1)) (xs (i + 2)))) ∧ (∀ (xs : Nat → Int32) (i : Nat), StW I cs_nest (F_X5_nest (xs (i + 1)) (xs (i + 2)) (xs (i + 3)) (xs (i + 4)) (xs (i + 5))) (F_X6_nest (xs (i + 1)) (xs (i + 2)) (xs (i + 3)) (xs (i + 4)) (xs (i + 5)))) ∧ (∀ (xs : Nat → Int32) (i : Nat), StW I cs_put (F_X5_put (xs (i + 1)) (xs (i + 2)) (xs (i + 3)) (xs (i + 4)) (xs (i + 5))) (F_X6_put (xs (i + 1)) (xs (i + 2)) (xs (i + 3)) (xs (i + 4)) (xs (i + 5)))) ∧ (∀ (xs : Nat → Int32) (i : Nat), StW I cs_span (F_X5_span (xs (i + 1)) (xs (i + 2)) (xs (i + 3)) (xs (i + 4)) (xs (i + 5))) (F_X6_span (xs (i + 1)) (xs (i + 2)) (xs (i + 3)) (xs (i + 4)) (xs (i + 5)))) ∧ (∀ (xs : Nat → Int32) (i : Nat), StW I cs_rule (F_X5_rule (xs (i + 1)) (xs (i + 2)) (xs (i + 3)) (xs (i + 4)) (xs (i + 5))) (F_X6_rule (xs (i + 1)) (xs (i + 2)) (xs (i + 3)) (xs (i + 4)) (xs (i + 5)))) ∧ (∀ (xs : Nat → Int32) (i : Nat), StW I cs_set (F_X5_set (xs (i + 1))) (F_X6_set (xs (i + 1)))) ∧ (∀ (xs : Nat → Int32) (i : Nat), StW I cs_append (F_X5_append (xs (i + 1))) (F_X6_append (xs (i + 1)))) ∧ (∀ (xs : Nat → Int32) (i : Nat), StP (fun _ => True) I F_X5_clearBuffer F_X6_clearBuffer) ∧ (∀ (xs : Nat → Int32) (i : Nat), StP (fun _ => True) I F_X5_firstError F_X6_firstError) ∧ (∀ (xs : Nat → Int32) (i : Nat), StW I cs_run (F_X5_run ) (F_X6_run )) ∧ (∀ (xs : Nat → Int32) (i : Nat), StW I cs_undo (F_X5_undo ) (F_X6_undo )) ∧ (∀ (xs : Nat → Int32) (i : Nat), StW I cs_cell (F_X5_cell (xs (i + 1)) (xs (i + 2)) (xs (i + 3)) (xs (i + 4))) (F_X6_cell (xs (i + 1)) (xs (i + 2)) (xs (i + 3)) (xs (i + 4)))) ∧ (∀ (xs : Nat → Int32) (i : Nat), StW I cs_edge (F_X5_edge (xs (i + 1)) (xs (i + 2)) (xs (i + 3)) (xs (i + 4))) (F_X6_edge (xs (i + 1)) (xs (i + 2)) (xs (i + 3)) (xs (i + 4)))) ∧ (∀ (xs : Nat → Int32) (i : Nat), StW I cs_table (F_X5_table (xs (i + 1)) (xs (i + 2))) (F_X6_table (xs (i + 1)) (xs (i + 2)))) ∧ (∀ (xs : Nat → Int32) (i : Nat), StW I cs_size (F_X5_size (xs (i + 1)) (if xs (i + 2) = 0 then 0 else 1) (xs (i + 3))) (F_X6_size (xs (i + 1)) (if xs (i + 2) = 0 then 0 else 1) (xs (i + 3)))) ∧ (∀ (xs : Nat → Int32) (i : Nat), StW I cs_page (F_X5_page (xs (i + 1))) (F_X6_page (xs (i + 1)))) ∧ (∀ (xs : Nat → Int32) (i : Nat), StW I cs_count (F_X5_count (xs (i + 1))) (F_X6_count (xs (i + 1)))) ∧ (∀ (xs : Nat → Int32) (i : Nat), StW I cs_ifPut (F_X5_ifPut (xs (i + 1)) (xs (i + 2)) (xs (i + 3)) (xs (i + 4)) (xs (i + 5))) (F_X6_ifPut (xs (i + 1)) (xs (i + 2)) (xs (i + 3)) (xs (i + 4)) (xs (i + 5)))) ∧ (∀ (xs : Nat → Int32) (i : Nat), StW I cs_countedBy (F_X5_countedBy (xs (i + 1)) (xs (i + 2)) (xs (i + 3))) (F_X6_countedBy (xs (i + 1)) (xs (i + 2)) (xs (i + 3)))) ∧ (∀ (xs : Nat → Int32) (i : Nat), StW I cs_heightFor (F_X5_heightFor (xs (i + 1))) (F_X6_heightFor (xs (i + 1)))) ∧ (∀ (xs : Nat → Int32) (i : Nat), StP (fun v : UInt64 => Op.cmpValue (FP.dcmp v v) CmpOp.l = 0) I F_X5_filledShare F_X6_filledShare) ∧ (∀ (xs : Nat → Int32) (i : Nat), StP (fun _ => True) I F_X5_digest F_X6_digest)
theorem lr_gt {i L : Nat} (hL : L ≤ 3072) (hi : i ≤ 3078) (h : L < i + 6) : Int32.ofNat L - 6 < Int32.ofNat i := by
  rw [Int32.lt_iff_toInt_lt, Int32.toInt_sub, lr_ofN (by omega), lr_ofN (by omega)]
  have h6 : (6 : Int32).toInt = 6 := rfl
  rw [h6, Int.bmod_eq_of_le (by omega) (by omega)]
  omega
theorem law_loop {nm : String} {et : List ExceptionTableEntry} {b L : Nat} {xs : Nat → Int32} {T : Tb} {I : Mm → Prop} (hst : LawSteps I) (hL2 : L ≤ 3072) (hN : isNS T) (hM : isMod T) (hO : T[185]? = some (1, 1, [])) : ∀ (r i k n : Nat) (σ : Mm), I σ → L < i + 6 * r + 6 → i ≤ 3078 → k + r ≤ 601024 → n + 6 * r ≤ 7293034 → Lw nm et b L xs false k n T 23 (loI b i) [] σ := by
  obtain ⟨s0, s1, s2, s3, s4, s5, s6, s7, s8, s9, s10, s11, s12, s13, s14, s15, s16, s17, s18, s19, s20, s21⟩ := hst
  intro r
  induction r with
  | zero =>
    intro i k n σ hI hr hi hk hn
    refine rn_iload (pc := 23) (i := 4) dL_law_23 rfl ?_
    refine rn_aload_nA (pc := 25) (i := 0) dL_law_25 rfl rfl ?_
    refine lr_slen (pc := 26) dL_law_26 ?_
    refine rn_bipush (pc := 27) (v := 6) dL_law_27 (by decide) ?_
    refine rn_isub (pc := 29) dL_law_29 ?_
    refine rn_icmp_gt (pc := 30) (tgt := 1615) dL_law_30 rfl (fun _ => ?_) (fun hlt => ?_)
    · refine rn_iconst (pc := 1615) (v := 1) dL_law_1615 (by decide) ?_
      exact lr_end (by omega) (by omega) dL_law_1616
    · exact absurd (lr_gt hL2 hi (by omega)) hlt
  | succ r ih =>
    intro i k n σ hI hr hi hk hn
    refine rn_iload (pc := 23) (i := 4) dL_law_23 rfl ?_
    refine rn_aload_nA (pc := 25) (i := 0) dL_law_25 rfl rfl ?_
    refine lr_slen (pc := 26) dL_law_26 ?_
    refine rn_bipush (pc := 27) (v := 6) dL_law_27 (by decide) ?_
    refine rn_isub (pc := 29) dL_law_29 ?_
    refine rn_icmp_gt (pc := 30) (tgt := 1615) dL_law_30 rfl (fun _ => ?_) (fun hlt => ?_)
    · refine rn_iconst (pc := 1615) (v := 1) dL_law_1615 (by decide) ?_
      exact lr_end (by omega) (by omega) dL_law_1616
    · have hL : i + 6 ≤ L := by
        by_cases hq : i + 6 ≤ L
        · exact hq
        · exact absurd (lr_gt hL2 hi (by omega)) hlt
      have KK : ∀ σ1, I σ1 → Lw nm et b L xs false (k + 1) (n + 6) T 1609 (loI b i) [] σ1 := by
        intro σ1 hI1
        refine rn_iinc (pc := 1609) (i := 4) (v := Int32.ofNat (i + 6)) (lo' := loI b (i + 6)) dL_law_1609 rfl (lr_add (a := i) (j := 6) (by omega)) (by decide) rfl ?_
        refine rn_goto (pc := 1612) (tgt := 23) dL_law_1612 rfl ?_
        exact ih (i + 6) (k + 1) (n + 6) σ1 hI1 (by omega) (by omega) (by omega) (by omega)
      refine rn_aload_nA (pc := 33) (i := 0) dL_law_33 rfl rfl ?_
      refine rn_iload (pc := 34) (i := 4) dL_law_34 rfl ?_
      refine lr_sld (pc := 36) (lr_in (by omega) hL2) dL_law_36 ?_
      refine rn_bipush (pc := 37) (v := 31) dL_law_37 (by decide) ?_
      refine rn_iand (pc := 39) dL_law_39 ?_
      obtain ⟨x, hx⟩ : ∃ x, x = xs (Int32.ofNat i).toNatClampNeg &&& (31 : Int32) := ⟨_, rfl⟩
      rw [← hx]
      by_cases ho : x.toInt < 0 ∨ 21 < x.toInt
      · refine lr_tout (pc := 40) (tgt := 1609) dL_law_40 ho (by decide) ?_
        exact lr_wid (KK σ hI) (Nat.le_add_right _ _) (Nat.le_add_right _ _)
      · obtain ⟨z, hz, hz2⟩ : ∃ z : Nat, x.toInt = (z : Int) ∧ z ≤ 21 := ⟨x.toInt.toNat, by omega, by omega⟩
        have h1 : ¬ x.toInt < 0 := by omega
        have h2 : ¬ 21 < x.toInt := by omega
        have hz3 : z = 0 ∨ z = 1 ∨ z = 2 ∨ z = 3 ∨ z = 4 ∨ z = 5 ∨ z = 6 ∨ z = 7 ∨ z = 8 ∨ z = 9 ∨ z = 10 ∨ z = 11 ∨ z = 12 ∨ z = 13 ∨ z = 14 ∨ z = 15 ∨ z = 16 ∨ z = 17 ∨ z = 18 ∨ z = 19 ∨ z = 20 ∨ z = 21 := by omega
        rcases hz3 with h3 | h3 | h3 | h3 | h3 | h3 | h3 | h3 | h3 | h3 | h3 | h3 | h3 | h3 | h3 | h3 | h3 | h3 | h3 | h3 | h3 | h3
        · subst h3
          refine lr_tin (pc := 40) (tgt := 144) dL_law_40 h1 h2 (by rw [hz]; rfl) (by decide) ?_
          exact lc_0 (s0 xs i) hL hL2 (by omega) (by omega) hN hM hO hI KK
        · subst h3
          refine lr_tin (pc := 40) (tgt := 212) dL_law_40 h1 h2 (by rw [hz]; rfl) (by decide) ?_
          exact lc_1 (s1 xs i) hL hL2 (by omega) (by omega) hN hM hO hI KK
        · subst h3
          refine lr_tin (pc := 40) (tgt := 316) dL_law_40 h1 h2 (by rw [hz]; rfl) (by decide) ?_
          exact lc_2 (s2 xs i) hL hL2 (by omega) (by omega) hN hM hO hI KK
        · subst h3
          refine lr_tin (pc := 40) (tgt := 420) dL_law_40 h1 h2 (by rw [hz]; rfl) (by decide) ?_
          exact lc_3 (s3 xs i) hL hL2 (by omega) (by omega) hN hM hO hI KK
        · subst h3
          refine lr_tin (pc := 40) (tgt := 524) dL_law_40 h1 h2 (by rw [hz]; rfl) (by decide) ?_
          exact lc_4 (s4 xs i) hL hL2 (by omega) (by omega) hN hM hO hI KK
        · subst h3
          refine lr_tin (pc := 40) (tgt := 628) dL_law_40 h1 h2 (by rw [hz]; rfl) (by decide) ?_
          exact lc_5 (s5 xs i) hL hL2 (by omega) (by omega) hN hM hO hI KK
        · subst h3
          refine lr_tin (pc := 40) (tgt := 684) dL_law_40 h1 h2 (by rw [hz]; rfl) (by decide) ?_
          exact lc_6 (s6 xs i) hL hL2 (by omega) (by omega) hN hM hO hI KK
        · subst h3
          refine lr_tin (pc := 40) (tgt := 740) dL_law_40 h1 h2 (by rw [hz]; rfl) (by decide) ?_
          exact lc_7 (s7 xs i) hL hL2 (by omega) (by omega) hN hM hO hI KK
        · subst h3
          refine lr_tin (pc := 40) (tgt := 753) dL_law_40 h1 h2 (by rw [hz]; rfl) (by decide) ?_
          exact lc_8 (s8 xs i) hL hL2 (by omega) (by omega) hN hM hO hI KK
        · subst h3
          refine lr_tin (pc := 40) (tgt := 766) dL_law_40 h1 h2 (by rw [hz]; rfl) (by decide) ?_
          exact lc_9 (s9 xs i) hL hL2 (by omega) (by omega) hN hM hO hI KK
        · subst h3
          refine lr_tin (pc := 40) (tgt := 810) dL_law_40 h1 h2 (by rw [hz]; rfl) (by decide) ?_
          exact lc_10 (s10 xs i) hL hL2 (by omega) (by omega) hN hM hO hI KK
        · subst h3
          refine lr_tin (pc := 40) (tgt := 854) dL_law_40 h1 h2 (by rw [hz]; rfl) (by decide) ?_
          exact lc_11 (s11 xs i) hL hL2 (by omega) (by omega) hN hM hO hI KK
        · subst h3
          refine lr_tin (pc := 40) (tgt := 946) dL_law_40 h1 h2 (by rw [hz]; rfl) (by decide) ?_
          exact lc_12 (s12 xs i) hL hL2 (by omega) (by omega) hN hM hO hI KK
        · subst h3
          refine lr_tin (pc := 40) (tgt := 1038) dL_law_40 h1 h2 (by rw [hz]; rfl) (by decide) ?_
          exact lc_13 (s13 xs i) hL hL2 (by omega) (by omega) hN hM hO hI KK
        · subst h3
          refine lr_tin (pc := 40) (tgt := 1106) dL_law_40 h1 h2 (by rw [hz]; rfl) (by decide) ?_
          exact lc_14 (s14 xs i) hL hL2 (by omega) (by omega) hN hM hO hI KK
        · subst h3
          refine lr_tin (pc := 40) (tgt := 1202) dL_law_40 h1 h2 (by rw [hz]; rfl) (by decide) ?_
          exact lc_15 (s15 xs i) hL hL2 (by omega) (by omega) hN hM hO hI KK
        · subst h3
          refine lr_tin (pc := 40) (tgt := 1258) dL_law_40 h1 h2 (by rw [hz]; rfl) (by decide) ?_
          exact lc_16 (s16 xs i) hL hL2 (by omega) (by omega) hN hM hO hI KK
        · subst h3
          refine lr_tin (pc := 40) (tgt := 1314) dL_law_40 h1 h2 (by rw [hz]; rfl) (by decide) ?_
          exact lc_17 (s17 xs i) hL hL2 (by omega) (by omega) hN hM hO hI KK
        · subst h3
          refine lr_tin (pc := 40) (tgt := 1418) dL_law_40 h1 h2 (by rw [hz]; rfl) (by decide) ?_
          exact lc_18 (s18 xs i) hL hL2 (by omega) (by omega) hN hM hO hI KK
        · subst h3
          refine lr_tin (pc := 40) (tgt := 1498) dL_law_40 h1 h2 (by rw [hz]; rfl) (by decide) ?_
          exact lc_19 (s19 xs i) hL hL2 (by omega) (by omega) hN hM hO hI KK
        · subst h3
          refine lr_tin (pc := 40) (tgt := 1554) dL_law_40 h1 h2 (by rw [hz]; rfl) (by decide) ?_
          exact lc_20 (s20 xs i) hL hL2 (by omega) (by omega) hN hM hO hI KK
        · subst h3
          refine lr_tin (pc := 40) (tgt := 1595) dL_law_40 h1 h2 (by rw [hz]; rfl) (by decide) ?_
          exact lc_21 (s21 xs i) hL hL2 (by omega) (by omega) hN hM hO hI KK
