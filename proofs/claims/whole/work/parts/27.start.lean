theorem gw_20 : Cond.instantiable RX5 5 ∈ GW := List.mem_filter.mpr ⟨List.mem_append_right _ (List.mem_of_getElem? (i := 20) (by decide +kernel)), by decide +kernel⟩
theorem gw_811 : Cond.instantiable RX6 24 ∈ GW := List.mem_filter.mpr ⟨List.mem_append_right _ (List.mem_of_getElem? (i := 811) (by decide +kernel)), by decide +kernel⟩
theorem gw_19 : Cond.classLink RL 8 "NestedSums" ∈ GW := List.mem_filter.mpr ⟨List.mem_append_right _ (List.mem_of_getElem? (i := 19) (by decide +kernel)), by decide +kernel⟩
theorem gw_22 : Cond.instanceMethod yX5_init ∈ GW := List.mem_filter.mpr ⟨List.mem_append_right _ (List.mem_of_getElem? (i := 22) (by decide +kernel)), by decide +kernel⟩
theorem gw_21 : Cond.methodLink RL 76 yX5_init ∈ GW := List.mem_filter.mpr ⟨List.mem_append_right _ (List.mem_of_getElem? (i := 21) (by decide +kernel)), by decide +kernel⟩
theorem gw_810 : Cond.classLink RL 77 "NestedSumsModel" ∈ GW := List.mem_filter.mpr ⟨List.mem_append_right _ (List.mem_of_getElem? (i := 810) (by decide +kernel)), by decide +kernel⟩
theorem gw_813 : Cond.instanceMethod yX6_init ∈ GW := List.mem_filter.mpr ⟨List.mem_append_right _ (List.mem_of_getElem? (i := 813) (by decide +kernel)), by decide +kernel⟩
theorem gw_812 : Cond.methodLink RL 79 yX6_init ∈ GW := List.mem_filter.mpr ⟨List.mem_append_right _ (List.mem_of_getElem? (i := 812) (by decide +kernel)), by decide +kernel⟩
theorem gw_1202 : Cond.arrayClass .long ∈ GW := List.mem_filter.mpr ⟨List.mem_append_right _ (List.mem_of_getElem? (i := 1202) (by decide +kernel)), by decide +kernel⟩
theorem tnf_0 : Cond.fieldLinkNest "NestedSums" 121 "NestedSums$Sheet" "pageHeight" "I" "NestedSums" ∈ lw_tbl := List.mem_append_right _ (List.mem_of_getElem? (i := 54) (by decide +kernel))
theorem tnf_1 : Cond.fieldLinkNest "NestedSums" 72 "NestedSums$Sheet" "tables" "I" "NestedSums" ∈ lw_tbl := List.mem_append_right _ (List.mem_of_getElem? (i := 56) (by decide +kernel))
theorem tnf_2 : Cond.fieldLinkNest "NestedSums$Layout" 65 "NestedSums$Sheet" "tables" "I" "NestedSums" ∈ lw_tbl := List.mem_append_right _ (List.mem_of_getElem? (i := 57) (by decide +kernel))
theorem tnf_3 : Cond.fieldLinkNest "NestedSums" 275 "NestedSums$Sheet" "homes" "LNestedSums$Numbers;" "NestedSums" ∈ lw_tbl := List.mem_append_right _ (List.mem_of_getElem? (i := 60) (by decide +kernel))
theorem tnf_4 : Cond.fieldLinkNest "NestedSums$Layout" 158 "NestedSums$Sheet" "owners" "LNestedSums$Numbers;" "NestedSums" ∈ lw_tbl := List.mem_append_right _ (List.mem_of_getElem? (i := 62) (by decide +kernel))
theorem tnf_5 : Cond.fieldLinkNest "NestedSums" 62 "NestedSums$Sheet" "kinds" "LNestedSums$Numbers;" "NestedSums" ∈ lw_tbl := List.mem_append_right _ (List.mem_of_getElem? (i := 64) (by decide +kernel))
theorem tnf_6 : Cond.fieldLinkNest "NestedSums$Layout" 107 "NestedSums$Sheet" "kinds" "LNestedSums$Numbers;" "NestedSums" ∈ lw_tbl := List.mem_append_right _ (List.mem_of_getElem? (i := 65) (by decide +kernel))
theorem tnf_7 : Cond.fieldLinkNest "NestedSums$Layout" 110 "NestedSums$Sheet" "contents" "LNestedSums$Numbers;" "NestedSums" ∈ lw_tbl := List.mem_append_right _ (List.mem_of_getElem? (i := 67) (by decide +kernel))
theorem tnf_8 : Cond.fieldLinkNest "NestedSums$Layout" 138 "NestedSums$Sheet" "spans" "LNestedSums$Numbers;" "NestedSums" ∈ lw_tbl := List.mem_append_right _ (List.mem_of_getElem? (i := 69) (by decide +kernel))
theorem tnf_9 : Cond.fieldLinkNest "NestedSums" 115 "NestedSums$Sheet" "rules" "LNestedSums$Numbers;" "NestedSums" ∈ lw_tbl := List.mem_append_right _ (List.mem_of_getElem? (i := 71) (by decide +kernel))
theorem tnf_10 : Cond.fieldLinkNest "NestedSums$Layout" 147 "NestedSums$Sheet" "rules" "LNestedSums$Numbers;" "NestedSums" ∈ lw_tbl := List.mem_append_right _ (List.mem_of_getElem? (i := 72) (by decide +kernel))
theorem tnf_11 : Cond.fieldLinkNest "NestedSums" 16 "NestedSums$Layout" "sheet" "LNestedSums$Sheet;" "NestedSums" ∈ lw_tbl := List.mem_append_right _ (List.mem_of_getElem? (i := 95) (by decide +kernel))
theorem tnf_12 : Cond.fieldLinkNest "NestedSums" 250 "NestedSums$Layout" "values" "LNestedSums$Numbers;" "NestedSums" ∈ lw_tbl := List.mem_append_right _ (List.mem_of_getElem? (i := 97) (by decide +kernel))
theorem tnf_13 : Cond.fieldLinkNest "NestedSums" 253 "NestedSums$Layout" "shown" "LNestedSums$Numbers;" "NestedSums" ∈ lw_tbl := List.mem_append_right _ (List.mem_of_getElem? (i := 99) (by decide +kernel))
theorem tnf_14 : Cond.fieldLinkNest "NestedSums" 259 "NestedSums$Layout" "wants" "LNestedSums$Numbers;" "NestedSums" ∈ lw_tbl := List.mem_append_right _ (List.mem_of_getElem? (i := 102) (by decide +kernel))
theorem tnf_15 : Cond.fieldLinkNest "NestedSums" 265 "NestedSums$Layout" "rules" "LNestedSums$Numbers;" "NestedSums" ∈ lw_tbl := List.mem_append_right _ (List.mem_of_getElem? (i := 104) (by decide +kernel))
theorem tnf_16 : Cond.fieldLinkNest "NestedSums" 155 "NestedSums$Layout" "edges" "LNestedSums$Numbers;" "NestedSums" ∈ lw_tbl := List.mem_append_right _ (List.mem_of_getElem? (i := 106) (by decide +kernel))
theorem tnf_17 : Cond.fieldLinkNest "NestedSums" 272 "NestedSums$Layout" "drawn" "LNestedSums$Numbers;" "NestedSums" ∈ lw_tbl := List.mem_append_right _ (List.mem_of_getElem? (i := 109) (by decide +kernel))
theorem tnf_18 : Cond.fieldLinkNest "NestedSums" 269 "NestedSums$Layout" "tableSizes" "LNestedSums$Numbers;" "NestedSums" ∈ lw_tbl := List.mem_append_right _ (List.mem_of_getElem? (i := 111) (by decide +kernel))
theorem tnf_19 : Cond.fieldLinkNest "NestedSums" 266 "NestedSums$Layout" "tableValues" "LNestedSums$Numbers;" "NestedSums" ∈ lw_tbl := List.mem_append_right _ (List.mem_of_getElem? (i := 113) (by decide +kernel))
theorem tnf_20 : Cond.fieldLinkNest "NestedSums" 145 "NestedSums$History" "saved" "I" "NestedSums" ∈ lw_tbl := List.mem_append_right _ (List.mem_of_getElem? (i := 149) (by decide +kernel))
theorem tnf_21 : Cond.fieldLinkNest "NestedSums" 226 "NestedSums$OrderText" "codes" "LNestedSums$Numbers;" "NestedSums" ∈ lw_tbl := List.mem_append_right _ (List.mem_of_getElem? (i := 166) (by decide +kernel))
theorem tnf_22 : Cond.fieldLinkNest "NestedSums" 124 "NestedSums$OrderText" "length" "I" "NestedSums" ∈ lw_tbl := List.mem_append_right _ (List.mem_of_getElem? (i := 168) (by decide +kernel))
theorem tnm_0 : Cond.methodLinkNest "NestedSums" 11 ⟨"NestedSums$Layout", "<init>", "()V"⟩ "NestedSums" ∈ lw_tbl := List.mem_append_right _ (List.mem_of_getElem? (i := 29) (by decide +kernel))
theorem tnm_1 : Cond.methodLinkNest "NestedSums$Layout" 11 ⟨"NestedSums$Sheet", "<init>", "()V"⟩ "NestedSums" ∈ lw_tbl := List.mem_append_right _ (List.mem_of_getElem? (i := 35) (by decide +kernel))
theorem tnm_2 : Cond.methodLinkNest "NestedSums$History" 17 ⟨"NestedSums$Sheet", "<init>", "()V"⟩ "NestedSums" ∈ lw_tbl := List.mem_append_right _ (List.mem_of_getElem? (i := 145) (by decide +kernel))
theorem tnm_3 : Cond.methodLinkNest "NestedSums" 33 ⟨"NestedSums$OrderText", "<init>", "()V"⟩ "NestedSums" ∈ lw_tbl := List.mem_append_right _ (List.mem_of_getElem? (i := 159) (by decide +kernel))
theorem tnm_4 : Cond.methodLinkNest "NestedSums$Sheet" 64 ⟨"NestedSums", "placeOf", "(II)I"⟩ "NestedSums" ∈ lw_tbl := List.mem_append_right _ (List.mem_of_getElem? (i := 194) (by decide +kernel))
theorem tnm_5 : Cond.methodLinkNest "NestedSums$Layout" 113 ⟨"NestedSums", "isSum", "(I)Z"⟩ "NestedSums" ∈ lw_tbl := List.mem_append_right _ (List.mem_of_getElem? (i := 233) (by decide +kernel))
theorem tnm_6 : Cond.methodLinkNest "NestedSums$Layout" 122 ⟨"NestedSums", "tableOf", "(I)I"⟩ "NestedSums" ∈ lw_tbl := List.mem_append_right _ (List.mem_of_getElem? (i := 240) (by decide +kernel))
theorem tnm_7 : Cond.methodLinkNest "NestedSums$Layout" 129 ⟨"NestedSums", "placeOf", "(II)I"⟩ "NestedSums" ∈ lw_tbl := List.mem_append_right _ (List.mem_of_getElem? (i := 247) (by decide +kernel))
theorem tnm_8 : Cond.methodLinkNest "NestedSums$Sheet" 79 ⟨"NestedSums", "isBetween", "(III)Z"⟩ "NestedSums" ∈ lw_tbl := List.mem_append_right _ (List.mem_of_getElem? (i := 285) (by decide +kernel))
theorem tnm_9 : Cond.methodLinkNest "NestedSums$Sheet" 83 ⟨"NestedSums", "tableOf", "(I)I"⟩ "NestedSums" ∈ lw_tbl := List.mem_append_right _ (List.mem_of_getElem? (i := 288) (by decide +kernel))
theorem tnm_10 : Cond.methodLinkNest "NestedSums$Layout" 167 ⟨"NestedSums", "signsOf", "(I)I"⟩ "NestedSums" ∈ lw_tbl := List.mem_append_right _ (List.mem_of_getElem? (i := 297) (by decide +kernel))
theorem tnm_11 : Cond.methodLinkNest "NestedSums$OrderText" 36 ⟨"NestedSums", "isBetween", "(III)Z"⟩ "NestedSums" ∈ lw_tbl := List.mem_append_right _ (List.mem_of_getElem? (i := 359) (by decide +kernel))
theorem tnx_0 : Cond.declares ⟨"java/lang/RuntimeException", "<init>", "()V"⟩ ∈ lw_tbl := List.mem_append_right _ (List.mem_of_getElem? (i := 395) (by decide +kernel))
theorem tnx_1 : Cond.declares ⟨"java/lang/Exception", "<init>", "()V"⟩ ∈ lw_tbl := List.mem_append_right _ (List.mem_of_getElem? (i := 397) (by decide +kernel))
theorem tnx_2 : Cond.declares ⟨"java/lang/Throwable", "<init>", "()V"⟩ ∈ lw_tbl := List.mem_append_right _ (List.mem_of_getElem? (i := 399) (by decide +kernel))
theorem tnx_3 : Cond.castable "java/lang/IndexOutOfBoundsException" "java/lang/IndexOutOfBoundsException" ∈ lw_tbl := List.mem_append_right _ (List.mem_of_getElem? (i := 527) (by decide +kernel))
theorem tnx_4 : Cond.castable "java/lang/IllegalArgumentException" "java/lang/IllegalArgumentException" ∈ lw_tbl := List.mem_append_right _ (List.mem_of_getElem? (i := 394) (by decide +kernel))
theorem tnx_5 : Cond.castable "java/lang/IllegalStateException" "java/lang/IllegalStateException" ∈ lw_tbl := List.mem_append_right _ (List.mem_of_getElem? (i := 619) (by decide +kernel))
theorem tlU : Cond.laysStatic Bundle.tN "UNASSIGNED_STACK" Bundle.steD ∈ lw_tbl := List.mem_append_right _ (List.mem_of_getElem? (i := 419) (by decide +kernel))
theorem tlN : Cond.laysStatic Bundle.tN "SUPPRESSED_SENTINEL" Bundle.listD ∈ lw_tbl := List.mem_append_right _ (List.mem_of_getElem? (i := 421) (by decide +kernel))
theorem tiT : Cond.initialized Bundle.tN ∈ lw_tbl := List.mem_append_right _ (List.mem_of_getElem? (i := 10) (by decide +kernel))
theorem taI : Cond.arrayClass .int ∈ lw_tbl := List.mem_append_right _ (List.mem_of_getElem? (i := 52) (by decide +kernel))
theorem taL : Cond.arrayClass .long ∈ lw_tbl := List.mem_append_right _ (List.mem_of_getElem? (i := 1202) (by decide +kernel))
theorem taS : Cond.arrayOver (.object RX4) ∈ lw_tbl := List.mem_append_right _ (List.mem_of_getElem? (i := 144) (by decide +kernel))
theorem tnf_all : ∀ q ∈ nestF, Cond.fieldLinkNest q.1 q.2.1 q.2.2.1 q.2.2.2.1 q.2.2.2.2.1 q.2.2.2.2.2 ∈ lw_tbl := List.forall_mem_cons.mpr ⟨tnf_0, List.forall_mem_cons.mpr ⟨tnf_1, List.forall_mem_cons.mpr ⟨tnf_2, List.forall_mem_cons.mpr ⟨tnf_3, List.forall_mem_cons.mpr ⟨tnf_4, List.forall_mem_cons.mpr ⟨tnf_5, List.forall_mem_cons.mpr ⟨tnf_6, List.forall_mem_cons.mpr ⟨tnf_7, List.forall_mem_cons.mpr ⟨tnf_8, List.forall_mem_cons.mpr ⟨tnf_9, List.forall_mem_cons.mpr ⟨tnf_10, List.forall_mem_cons.mpr ⟨tnf_11, List.forall_mem_cons.mpr ⟨tnf_12, List.forall_mem_cons.mpr ⟨tnf_13, List.forall_mem_cons.mpr ⟨tnf_14, List.forall_mem_cons.mpr ⟨tnf_15, List.forall_mem_cons.mpr ⟨tnf_16, List.forall_mem_cons.mpr ⟨tnf_17, List.forall_mem_cons.mpr ⟨tnf_18, List.forall_mem_cons.mpr ⟨tnf_19, List.forall_mem_cons.mpr ⟨tnf_20, List.forall_mem_cons.mpr ⟨tnf_21, List.forall_mem_cons.mpr ⟨tnf_22, (fun _ h => absurd h List.not_mem_nil)⟩⟩⟩⟩⟩⟩⟩⟩⟩⟩⟩⟩⟩⟩⟩⟩⟩⟩⟩⟩⟩⟩⟩
theorem tnm_all : ∀ q ∈ nestM, Cond.methodLinkNest q.1 q.2.1 q.2.2.1 q.2.2.2 ∈ lw_tbl := List.forall_mem_cons.mpr ⟨tnm_0, List.forall_mem_cons.mpr ⟨tnm_1, List.forall_mem_cons.mpr ⟨tnm_2, List.forall_mem_cons.mpr ⟨tnm_3, List.forall_mem_cons.mpr ⟨tnm_4, List.forall_mem_cons.mpr ⟨tnm_5, List.forall_mem_cons.mpr ⟨tnm_6, List.forall_mem_cons.mpr ⟨tnm_7, List.forall_mem_cons.mpr ⟨tnm_8, List.forall_mem_cons.mpr ⟨tnm_9, List.forall_mem_cons.mpr ⟨tnm_10, List.forall_mem_cons.mpr ⟨tnm_11, (fun _ h => absurd h List.not_mem_nil)⟩⟩⟩⟩⟩⟩⟩⟩⟩⟩⟩⟩
theorem tnx_all : ∀ w ∈ xwL, w ∈ lw_tbl := List.forall_mem_cons.mpr ⟨tnx_0, List.forall_mem_cons.mpr ⟨tnx_1, List.forall_mem_cons.mpr ⟨tnx_2, List.forall_mem_cons.mpr ⟨tnx_3, List.forall_mem_cons.mpr ⟨tnx_4, List.forall_mem_cons.mpr ⟨tnx_5, (fun _ h => absurd h List.not_mem_nil)⟩⟩⟩⟩⟩⟩
theorem arr_cl {s : State} {args : Array Value} {t : FieldType} (hn : ∀ C, t ≠ .object C) (h : (Cond.arrayClass t).before args s = true) : ∃ cA, ArrOfT s cA t ∧ va_RA s cA t := by
  obtain ⟨cA, kA, comp, h1, h2, h3⟩ := Cond.arrayClass_spec h
  refine ⟨cA, fun n z => ⟨fun k h => (by cases h), kA, h2, comp, h3⟩, ?_⟩
  cases t with
  | object C => exact absurd rfl (hn C)
  | _ => exact h1
theorem arr_ov {s : State} {args : Array Value} {C : String} (h : (Cond.arrayOver (.object C)).before args s = true) : ∃ cA, ArrOfT s cA (.object C) ∧ va_RA s cA (.object C) := by
  obtain ⟨comp, cA, kA, h1, h2, h3, h4, h5⟩ := Cond.arrayOver_spec h
  exact ⟨cA, fun n z => ⟨fun k h => (by cases h), kA, h3, comp, h4⟩, kA, comp, h3, h4, h1, h5⟩
theorem lw_nc {b : Nat} {s : State} (hgv : (Jvm.Cond.and given_1 narrow_1).before #[Value.ref b] s = true) : ∀ E ∈ exL, ∀ F ∈ exL, E ≠ F → va_Nc E F s := by
  have hs := flat_of_before _ hgv
  have n_Inde_Arg := va_Nc.of (hs (Cond.not (Cond.castable "java/lang/IndexOutOfBoundsException" "java/lang/IllegalArgumentException")) (by decide +kernel))
  have n_Inde_Sta := va_Nc.of (hs (Cond.not (Cond.castable "java/lang/IndexOutOfBoundsException" "java/lang/IllegalStateException")) (by decide +kernel))
  have n_Arg_Inde := va_Nc.of (hs (Cond.not (Cond.castable "java/lang/IllegalArgumentException" "java/lang/IndexOutOfBoundsException")) (by decide +kernel))
  have n_Arg_Sta := va_Nc.of (hs (Cond.not (Cond.castable "java/lang/IllegalArgumentException" "java/lang/IllegalStateException")) (by decide +kernel))
  have n_Sta_Inde := va_Nc.of (hs (Cond.not (Cond.castable "java/lang/IllegalStateException" "java/lang/IndexOutOfBoundsException")) (by decide +kernel))
  have n_Sta_Arg := va_Nc.of (hs (Cond.not (Cond.castable "java/lang/IllegalStateException" "java/lang/IllegalArgumentException")) (by decide +kernel))
  intro E hE F hF hne
  simp only [exL, List.mem_cons, List.not_mem_nil, or_false] at hE hF
  rcases hE with rfl | rfl | rfl <;> rcases hF with rfl | rfl | rfl <;> first | exact absurd rfl hne | assumption
theorem lw_known {s : State} {args : Array Value} (hts : ∀ w ∈ GW, w.before args s = true) : ∃ D : va_G, ∀ (c : Nat) (q : vw_C), vwCl[c]? = some q → u_Kn s q.1 q.2.1 q.2.2 (D.1 c) (D.2 c) := by
  obtain ⟨c0, i0, k0⟩ := u_known (C := RX0) (T := TX0) (N := 3) (n := 3) hts inGW_0 (hts _ gw_138)
  obtain ⟨c1, i1, k1⟩ := u_known (C := RX1) (T := TX1) (N := 11) (n := 11) hts inGW_1 (hts _ gw_28)
  obtain ⟨c2, i2, k2⟩ := u_known (C := RX2) (T := TX2) (N := 1) (n := 1) hts inGW_2 (hts _ gw_40)
  obtain ⟨c3, i3, k3⟩ := u_known (C := RX3) (T := TX3) (N := 2) (n := 2) hts inGW_3 (hts _ gw_158)
  obtain ⟨c4, i4, k4⟩ := u_known (C := RX4) (T := TX4) (N := 9) (n := 9) hts inGW_4 (hts _ gw_34)
  obtain ⟨c5, i5, k5⟩ := u_known (C := RX5) (T := TX5) (N := 5) (n := 5) hts inGW_5 (hts _ gw_20)
  obtain ⟨c6, i6, k6⟩ := u_known (C := RX6) (T := TX6) (N := 24) (n := 24) hts inGW_6 (hts _ gw_811)
  refine ⟨(fun k => match k with | 0 => c0 | 1 => c1 | 2 => c2 | 3 => c3 | 4 => c4 | 5 => c5 | _ => c6, fun k => match k with | 0 => i0 | 1 => i1 | 2 => i2 | 3 => i3 | 4 => i4 | 5 => i5 | _ => i6), ?_⟩
  intro c q hq
  match c, hq with
  | 0, hq => cases hq; exact k0
  | 1, hq => cases hq; exact k1
  | 2, hq => cases hq; exact k2
  | 3, hq => cases hq; exact k3
  | 4, hq => cases hq; exact k4
  | 5, hq => cases hq; exact k5
  | 6, hq => cases hq; exact k6
  | c + 7, hq => simp [vwCl] at hq
def tabF : Tb := (tabR [] ++ tabM) ++ [(1, 1, [])]
theorem tabF_eq : tabF = tabR (tabM ++ [(1, 1, [])]) := by simp only [tabF, tabR, List.append_assoc, List.nil_append]
theorem tabF_NS : isNS tabF := tabF_eq ▸ isNS_of (tabM ++ [(1, 1, [])])
theorem tabF_M : isMod tabF := by unfold isMod; exact ⟨rfl, rfl, rfl, rfl, rfl, rfl, rfl, rfl, rfl, rfl, rfl, rfl, rfl, rfl, rfl, rfl, rfl⟩
theorem tabF_O : tabF[185]? = some (1, 1, []) := rfl
/-- the start of both sides -/
def LawInit (I : Mm → Prop) : Prop := ∃ σa σb σc : Mm, F_X4_startAnew 2 3 3 (upM (upM (upM (upM (upM (upM (upM (upM (fun _ _ => 0) 2 0 (10 : Int32)) 38 0 (10 : Int32)) 75 0 (10 : Int32)) 90 0 (10 : Int32)) 105 0 (10 : Int32)) 120 0 (10 : Int32)) 135 0 (10 : Int32)) 150 0 (10 : Int32)) = some (.inl (), σa) ∧ F_X1_measure 1 σa = some (.inl (), σb) ∧ (∀ k, 168 ≤ k → σb k = fun _ => 0) ∧ F_X6_begins 3 3 (upM σb 169 (Int32.toNatClampNeg (1 : Int32)) (10 : Int32)) = some (.inl (), σc) ∧ σc 185 = (fun _ => 0) ∧ I σc
theorem hfl_gen {N : Nat} {ty : Nat → FieldType} {fl : List Nat} (h : ∀ j, j < N → ∃ r, fl[j]? = some r ∧ ∀ hs : Nat, defaultValue (ty j) = fval hs (fun _ => 0) j r) : ∀ (hs j : Nat), j < N → defaultValue (ty j) = vp_V (fvs hs (fun _ => 0) fl) j := by
  intro hs j hj
  obtain ⟨r, h1, h2⟩ := h j hj
  rw [h2 hs]
  unfold vp_V
  rw [List.getD_eq_getElem?_getD, fvs_get h1]
  rfl
theorem hg_5 : ∀ (hs j : Nat), j < 5 → defaultValue (tyX5 j) = vp_V (fvs hs (fun _ => 0) [1, 1, 1, 1, 1]) j := hfl_gen (fun j hj => match j, hj with
  | 0, _ => ⟨1, rfl, fun _ => rfl⟩
  | 1, _ => ⟨1, rfl, fun _ => rfl⟩
  | 2, _ => ⟨1, rfl, fun _ => rfl⟩
  | 3, _ => ⟨1, rfl, fun _ => rfl⟩
  | 4, _ => ⟨1, rfl, fun _ => rfl⟩
  | j + 5, h => absurd h (by omega))
theorem hg_6 : ∀ (hs j : Nat), j < 24 → defaultValue (tyX6 j) = vp_V (fvs hs (fun _ => 0) [1, 1, 1, 0, 1, 0, 0, 0, 0, 0, 1, 0, 0, 1, 1, 1, 1, 1, 1, 1, 1, 1, 1, 1]) j := hfl_gen (fun j hj => match j, hj with
  | 0, _ => ⟨1, rfl, fun _ => rfl⟩
  | 1, _ => ⟨1, rfl, fun _ => rfl⟩
  | 2, _ => ⟨1, rfl, fun _ => rfl⟩
  | 3, _ => ⟨0, rfl, fun _ => rfl⟩
  | 4, _ => ⟨1, rfl, fun _ => rfl⟩
  | 5, _ => ⟨0, rfl, fun _ => rfl⟩
  | 6, _ => ⟨0, rfl, fun _ => rfl⟩
  | 7, _ => ⟨0, rfl, fun _ => rfl⟩
  | 8, _ => ⟨0, rfl, fun _ => rfl⟩
  | 9, _ => ⟨0, rfl, fun _ => rfl⟩
  | 10, _ => ⟨1, rfl, fun _ => rfl⟩
  | 11, _ => ⟨0, rfl, fun _ => rfl⟩
  | 12, _ => ⟨0, rfl, fun _ => rfl⟩
  | 13, _ => ⟨1, rfl, fun _ => rfl⟩
  | 14, _ => ⟨1, rfl, fun _ => rfl⟩
  | 15, _ => ⟨1, rfl, fun _ => rfl⟩
  | 16, _ => ⟨1, rfl, fun _ => rfl⟩
  | 17, _ => ⟨1, rfl, fun _ => rfl⟩
  | 18, _ => ⟨1, rfl, fun _ => rfl⟩
  | 19, _ => ⟨1, rfl, fun _ => rfl⟩
  | 20, _ => ⟨1, rfl, fun _ => rfl⟩
  | 21, _ => ⟨1, rfl, fun _ => rfl⟩
  | 22, _ => ⟨1, rfl, fun _ => rfl⟩
  | 23, _ => ⟨1, rfl, fun _ => rfl⟩
  | j + 24, h => absurd h (by omega))
theorem law_from0 {nm : String} {et : List ExceptionTableEntry} {b L : Nat} {xs : Nat → Int32} {I : Mm → Prop} (hst : LawSteps I) (hin : LawInit I) (hL2 : L ≤ 3072) : Lw nm et b L xs true 0 0 [] 0 [some (.retAddr b), none, none, none, none, none, none, none, none] [] (fun _ _ => 0) := by
  obtain ⟨σa, σb, σc, h1, h2, hz, h3, hz2, hI⟩ := hin
  refine rc_new (pc := 0) (q := 0) (T1 := [(3, 5, [1, 1, 1, 1, 1])]) (ci := 5) (N := 5) rfl inGW_5 tyX5_ok gw_19 gw_20 gw_1 rfl hg_5 rfl rfl (Nat.le_of_ble_eq_true rfl) (Nat.le_of_ble_eq_true rfl) dL_law_0 ?_
  refine rn_dup (pc := 3) dL_law_3 rfl ?_
  refine rc_callI (pc := 4) (T1 := tabR []) k_X5_init gw_22 rfl (Or.inl gw_21) (cc_NS (fun _ _ => 0) σa σb (fun _ => rfl) h1 h2) rfl rfl (Nat.le_of_ble_eq_true rfl) (Nat.le_of_ble_eq_true rfl) (Nat.le_of_ble_eq_true rfl) (Nat.le_of_ble_eq_true rfl) (Nat.le_of_ble_eq_true rfl) (by decide +kernel) dL_law_4 ?_
  refine rn_astore_n (pc := 7) (i := 1) (lo' := [some (.retAddr b), some (.ref 0), none, none, none, none, none, none, none]) dL_law_7 rfl (by decide) rfl ?_
  refine rc_new (pc := 8) (q := 168) (T1 := tabR [] ++ [(3, 6, [1, 1, 1, 0, 1, 0, 0, 0, 0, 0, 1, 0, 0, 1, 1, 1, 1, 1, 1, 1, 1, 1, 1, 1])]) (ci := 6) (N := 24) rfl inGW_6 tyX6_ok gw_810 gw_811 gw_9 (hz 168 (Nat.le_refl _)) hg_6 rfl rfl (Nat.le_of_ble_eq_true rfl) (Nat.le_of_ble_eq_true rfl) dL_law_8 ?_
  refine rn_dup (pc := 11) dL_law_11 rfl ?_
  refine rc_callI (pc := 12) (T1 := tabR [] ++ tabM) k_X6_init gw_813 rfl (Or.inl gw_812) (cc_Model (tabR []) rfl σb σc (fun k hk => hz k (Nat.le_of_lt hk)) h3) rfl rfl (Nat.le_of_ble_eq_true rfl) (Nat.le_of_ble_eq_true rfl) (Nat.le_of_ble_eq_true rfl) (Nat.le_of_ble_eq_true rfl) (Nat.le_of_ble_eq_true rfl) (by decide +kernel) dL_law_12 ?_
  refine rn_astore_n (pc := 15) (i := 2) (lo' := [some (.retAddr b), some (.ref 0), some (.ref 168), none, none, none, none, none, none]) dL_law_15 rfl (by decide) rfl ?_
  refine rn_iconst (pc := 16) (v := 1) dL_law_16 (by decide) ?_
  refine rc_newl (pc := 17) (q := 185) (N := 1) (T1 := tabF) gw_1202 hz2 (by decide) rfl (by decide) rfl rfl (Nat.le_of_ble_eq_true rfl) (Nat.le_of_ble_eq_true rfl) dL_law_17 ?_
  refine rn_astore_n (pc := 19) (i := 3) (lo' := [some (.retAddr b), some (.ref 0), some (.ref 168), some (.ref 185), none, none, none, none, none]) dL_law_19 rfl (by decide) rfl ?_
  refine rn_iconst (pc := 20) (v := 0) dL_law_20 (by decide) ?_
  refine rn_istore (pc := 21) (i := 4) (lo' := loI b 0) dL_law_21 (by decide) rfl ?_
  refine lr_exf ?_
  exact law_loop hst hL2 tabF_NS tabF_M tabF_O 512 0 _ _ σc hI (by omega) (by omega) (Nat.le_of_ble_eq_true rfl) (Nat.le_of_ble_eq_true rfl)
theorem law_start {p : Program} {e : Env} {s : State} {m : MethodId} {below : List Frame} {meth : Method} {c : Code} (l : Launch) (hflags : l.flags = flags0) {b L : Nat} {xs : Nat → Int32} (hL : L ≤ 3072) (C0 : lw_At p s m meth c b L xs) {I : Mm → Prop} (hst : LawSteps I) (hin : LawInit I) : W p l e room_1 s m #[Value.ref b] below meth c s.heap [] 0 0 (lw_Z below #[Value.ref b] s) (entryFrame m ([Value.ref b] : List Value).toArray 9) := by
  obtain ⟨hx, hb, hr, hml, hown, htb, hX, hbl, hlocks, hgv⟩ := C0
  have hts : ∀ w ∈ GW, w.before #[Value.ref b] s = true := fun w hw => htb w (List.mem_filter.mp hw).1
  have hsf := flat_of_before _ hgv
  have hA : ∀ a : Nat, a < s.heap.size → ¬ s.heap.size ≤ a := fun a h => Nat.not_le.mpr h
  have htr : l.stackTraces = false := by unfold Launch.stackTraces; rw [hflags]; decide
  obtain ⟨D, hD⟩ := lw_known hts
  obtain ⟨cI, i1, i2⟩ := arr_cl (fun C h => by cases h) (htb _ taI)
  obtain ⟨cL, l1, l2⟩ := arr_cl (fun C h => by cases h) (htb _ taL)
  obtain ⟨cS, s1, s2⟩ := arr_ov (htb _ taS)
  have hK : va_K D vwCl [(cI, .int), (cL, .long), (cS, .object RX4)] s := by
    refine ⟨hD, fun k q hk => ?_⟩
    match k, hk with
    | 0, hk => cases hk; exact ⟨i1, i2⟩
    | 1, hk => cases hk; exact ⟨l1, l2⟩
    | 2, hk => cases hk; exact ⟨s1, s2⟩
    | k + 3, hk => simp at hk
  have hWK : WK D cI cL cS s := ⟨hK, fun q hq => va_Nw.of rfl (htb _ (tnf_all q hq)), fun q hq => va_Nw.of rfl (htb _ (tnm_all q hq)), lw_nc hgv, fun w hw => va_Nw.of (xw_tab hw) (htb _ (tnx_all w hw)), va_AO.of (htb _ taS)⟩
  have hWZ : WZ s.heap.size s s.heap := ⟨vx_Zqof (htb _ tlU) (htb _ tiT) (hsf (Cond.isRef (.static Bundle.tN "UNASSIGNED_STACK" Bundle.steD)) (by decide +kernel)) hA, vx_Zqof (htb _ tlN) (htb _ tiT) (hsf (Cond.isRef (.static Bundle.tN "SUPPRESSED_SENTINEL" Bundle.listD)) (by decide +kernel)) hA⟩
  have hl := lv_entry ([.ref b]) (n := 9) (Nat.le_of_ble_eq_true rfl)
  rw [lg_entry_eq]
  generalize (lg_sl ([.ref b]) ++ List.replicate (9 - (lg_sl ([.ref b])).length) Slot.unset).toArray = ls at hl ⊢
  refine law_from0 (nm := meth.name) (et := c.exceptionTable.toList) (b := b) (xs := xs) hst hin hL p l e s m _ below meth c s.heap.size D cI cL cS s.heap [] ls ⟨hx, hb, hr, hml, hown, hts, hlocks, htr, hWK, hWZ, Nat.le_refl _, rfl, rfl⟩ ⟨hX, hbl, rfl⟩ (fun _ => rfl) (fun k q h => by simp [wsO] at h) va_S.rf ⟨hl.1, hl.2.1, fun i v hi => ?_⟩
  match i, hi with
  | 0, hi => cases hi; exact hl.2.2 _ List.mem_cons_self
  | i + 1, hi =>
    exfalso
    rcases i with _ | _ | _ | _ | _ | _ | _ | _ | i <;> simp at hi
