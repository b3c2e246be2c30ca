theorem gw_17 : Cond.instantiable RX5 5 ∈ GW := List.mem_filter.mpr ⟨List.mem_append_right _ (List.mem_of_getElem? (i := 17) (by decide +kernel)), by decide +kernel⟩
theorem gw_16 : Cond.classLink RL 10 "NestedSums" ∈ GW := List.mem_filter.mpr ⟨List.mem_append_right _ (List.mem_of_getElem? (i := 16) (by decide +kernel)), by decide +kernel⟩
theorem gw_19 : Cond.instanceMethod yX5_init ∈ GW := List.mem_filter.mpr ⟨List.mem_append_right _ (List.mem_of_getElem? (i := 19) (by decide +kernel)), by decide +kernel⟩
theorem gw_18 : Cond.methodLink RL 83 yX5_init ∈ GW := List.mem_filter.mpr ⟨List.mem_append_right _ (List.mem_of_getElem? (i := 18) (by decide +kernel)), by decide +kernel⟩
theorem tnf_0 : Cond.fieldLinkNest "NestedSums" 121 "NestedSums$Sheet" "pageHeight" "I" "NestedSums" ∈ lw_tbl := List.mem_append_right _ (List.mem_of_getElem? (i := 51) (by decide +kernel))
theorem tnf_1 : Cond.fieldLinkNest "NestedSums" 72 "NestedSums$Sheet" "tables" "I" "NestedSums" ∈ lw_tbl := List.mem_append_right _ (List.mem_of_getElem? (i := 53) (by decide +kernel))
theorem tnf_2 : Cond.fieldLinkNest "NestedSums$Layout" 65 "NestedSums$Sheet" "tables" "I" "NestedSums" ∈ lw_tbl := List.mem_append_right _ (List.mem_of_getElem? (i := 54) (by decide +kernel))
theorem tnf_3 : Cond.fieldLinkNest "NestedSums" 275 "NestedSums$Sheet" "homes" "LNestedSums$Numbers;" "NestedSums" ∈ lw_tbl := List.mem_append_right _ (List.mem_of_getElem? (i := 57) (by decide +kernel))
theorem tnf_4 : Cond.fieldLinkNest "NestedSums$Layout" 158 "NestedSums$Sheet" "owners" "LNestedSums$Numbers;" "NestedSums" ∈ lw_tbl := List.mem_append_right _ (List.mem_of_getElem? (i := 59) (by decide +kernel))
theorem tnf_5 : Cond.fieldLinkNest "NestedSums" 62 "NestedSums$Sheet" "kinds" "LNestedSums$Numbers;" "NestedSums" ∈ lw_tbl := List.mem_append_right _ (List.mem_of_getElem? (i := 61) (by decide +kernel))
theorem tnf_6 : Cond.fieldLinkNest "NestedSums$Layout" 107 "NestedSums$Sheet" "kinds" "LNestedSums$Numbers;" "NestedSums" ∈ lw_tbl := List.mem_append_right _ (List.mem_of_getElem? (i := 62) (by decide +kernel))
theorem tnf_7 : Cond.fieldLinkNest "NestedSums$Layout" 110 "NestedSums$Sheet" "contents" "LNestedSums$Numbers;" "NestedSums" ∈ lw_tbl := List.mem_append_right _ (List.mem_of_getElem? (i := 64) (by decide +kernel))
theorem tnf_8 : Cond.fieldLinkNest "NestedSums$Layout" 138 "NestedSums$Sheet" "spans" "LNestedSums$Numbers;" "NestedSums" ∈ lw_tbl := List.mem_append_right _ (List.mem_of_getElem? (i := 66) (by decide +kernel))
theorem tnf_9 : Cond.fieldLinkNest "NestedSums" 115 "NestedSums$Sheet" "rules" "LNestedSums$Numbers;" "NestedSums" ∈ lw_tbl := List.mem_append_right _ (List.mem_of_getElem? (i := 68) (by decide +kernel))
theorem tnf_10 : Cond.fieldLinkNest "NestedSums$Layout" 147 "NestedSums$Sheet" "rules" "LNestedSums$Numbers;" "NestedSums" ∈ lw_tbl := List.mem_append_right _ (List.mem_of_getElem? (i := 69) (by decide +kernel))
theorem tnf_11 : Cond.fieldLinkNest "NestedSums" 16 "NestedSums$Layout" "sheet" "LNestedSums$Sheet;" "NestedSums" ∈ lw_tbl := List.mem_append_right _ (List.mem_of_getElem? (i := 92) (by decide +kernel))
theorem tnf_12 : Cond.fieldLinkNest "NestedSums" 250 "NestedSums$Layout" "values" "LNestedSums$Numbers;" "NestedSums" ∈ lw_tbl := List.mem_append_right _ (List.mem_of_getElem? (i := 94) (by decide +kernel))
theorem tnf_13 : Cond.fieldLinkNest "NestedSums" 253 "NestedSums$Layout" "shown" "LNestedSums$Numbers;" "NestedSums" ∈ lw_tbl := List.mem_append_right _ (List.mem_of_getElem? (i := 96) (by decide +kernel))
theorem tnf_14 : Cond.fieldLinkNest "NestedSums" 259 "NestedSums$Layout" "wants" "LNestedSums$Numbers;" "NestedSums" ∈ lw_tbl := List.mem_append_right _ (List.mem_of_getElem? (i := 99) (by decide +kernel))
theorem tnf_15 : Cond.fieldLinkNest "NestedSums" 265 "NestedSums$Layout" "rules" "LNestedSums$Numbers;" "NestedSums" ∈ lw_tbl := List.mem_append_right _ (List.mem_of_getElem? (i := 101) (by decide +kernel))
theorem tnf_16 : Cond.fieldLinkNest "NestedSums" 155 "NestedSums$Layout" "edges" "LNestedSums$Numbers;" "NestedSums" ∈ lw_tbl := List.mem_append_right _ (List.mem_of_getElem? (i := 103) (by decide +kernel))
theorem tnf_17 : Cond.fieldLinkNest "NestedSums" 272 "NestedSums$Layout" "drawn" "LNestedSums$Numbers;" "NestedSums" ∈ lw_tbl := List.mem_append_right _ (List.mem_of_getElem? (i := 106) (by decide +kernel))
theorem tnf_18 : Cond.fieldLinkNest "NestedSums" 269 "NestedSums$Layout" "tableSizes" "LNestedSums$Numbers;" "NestedSums" ∈ lw_tbl := List.mem_append_right _ (List.mem_of_getElem? (i := 108) (by decide +kernel))
theorem tnf_19 : Cond.fieldLinkNest "NestedSums" 266 "NestedSums$Layout" "tableValues" "LNestedSums$Numbers;" "NestedSums" ∈ lw_tbl := List.mem_append_right _ (List.mem_of_getElem? (i := 110) (by decide +kernel))
theorem tnf_20 : Cond.fieldLinkNest "NestedSums" 145 "NestedSums$History" "saved" "I" "NestedSums" ∈ lw_tbl := List.mem_append_right _ (List.mem_of_getElem? (i := 146) (by decide +kernel))
theorem tnm_0 : Cond.methodLinkNest "NestedSums" 11 ⟨"NestedSums$Layout", "<init>", "()V"⟩ "NestedSums" ∈ lw_tbl := List.mem_append_right _ (List.mem_of_getElem? (i := 26) (by decide +kernel))
theorem tnm_1 : Cond.methodLinkNest "NestedSums$Layout" 11 ⟨"NestedSums$Sheet", "<init>", "()V"⟩ "NestedSums" ∈ lw_tbl := List.mem_append_right _ (List.mem_of_getElem? (i := 32) (by decide +kernel))
theorem tnm_2 : Cond.methodLinkNest "NestedSums$History" 17 ⟨"NestedSums$Sheet", "<init>", "()V"⟩ "NestedSums" ∈ lw_tbl := List.mem_append_right _ (List.mem_of_getElem? (i := 142) (by decide +kernel))
theorem tnm_3 : Cond.methodLinkNest "NestedSums" 33 ⟨"NestedSums$OrderText", "<init>", "()V"⟩ "NestedSums" ∈ lw_tbl := List.mem_append_right _ (List.mem_of_getElem? (i := 156) (by decide +kernel))
theorem tnm_4 : Cond.methodLinkNest "NestedSums$Sheet" 64 ⟨"NestedSums", "placeOf", "(II)I"⟩ "NestedSums" ∈ lw_tbl := List.mem_append_right _ (List.mem_of_getElem? (i := 188) (by decide +kernel))
theorem tnm_5 : Cond.methodLinkNest "NestedSums$Layout" 113 ⟨"NestedSums", "isSum", "(I)Z"⟩ "NestedSums" ∈ lw_tbl := List.mem_append_right _ (List.mem_of_getElem? (i := 227) (by decide +kernel))
theorem tnm_6 : Cond.methodLinkNest "NestedSums$Layout" 122 ⟨"NestedSums", "tableOf", "(I)I"⟩ "NestedSums" ∈ lw_tbl := List.mem_append_right _ (List.mem_of_getElem? (i := 234) (by decide +kernel))
theorem tnm_7 : Cond.methodLinkNest "NestedSums$Layout" 129 ⟨"NestedSums", "placeOf", "(II)I"⟩ "NestedSums" ∈ lw_tbl := List.mem_append_right _ (List.mem_of_getElem? (i := 241) (by decide +kernel))
theorem tnm_8 : Cond.methodLinkNest "NestedSums$Sheet" 79 ⟨"NestedSums", "isBetween", "(III)Z"⟩ "NestedSums" ∈ lw_tbl := List.mem_append_right _ (List.mem_of_getElem? (i := 279) (by decide +kernel))
theorem tnm_9 : Cond.methodLinkNest "NestedSums$Sheet" 83 ⟨"NestedSums", "tableOf", "(I)I"⟩ "NestedSums" ∈ lw_tbl := List.mem_append_right _ (List.mem_of_getElem? (i := 282) (by decide +kernel))
theorem tnm_10 : Cond.methodLinkNest "NestedSums$Layout" 167 ⟨"NestedSums", "signsOf", "(I)I"⟩ "NestedSums" ∈ lw_tbl := List.mem_append_right _ (List.mem_of_getElem? (i := 291) (by decide +kernel))
theorem tnx_0 : Cond.declares ⟨"java/lang/RuntimeException", "<init>", "()V"⟩ ∈ lw_tbl := List.mem_append_right _ (List.mem_of_getElem? (i := 351) (by decide +kernel))
theorem tnx_1 : Cond.declares ⟨"java/lang/Exception", "<init>", "()V"⟩ ∈ lw_tbl := List.mem_append_right _ (List.mem_of_getElem? (i := 353) (by decide +kernel))
theorem tnx_2 : Cond.declares ⟨"java/lang/Throwable", "<init>", "()V"⟩ ∈ lw_tbl := List.mem_append_right _ (List.mem_of_getElem? (i := 355) (by decide +kernel))
theorem tnx_3 : Cond.castable "java/lang/IndexOutOfBoundsException" "java/lang/IndexOutOfBoundsException" ∈ lw_tbl := List.mem_append_right _ (List.mem_of_getElem? (i := 451) (by decide +kernel))
theorem tnx_4 : Cond.castable "java/lang/IllegalArgumentException" "java/lang/IllegalArgumentException" ∈ lw_tbl := List.mem_append_right _ (List.mem_of_getElem? (i := 350) (by decide +kernel))
theorem tnx_5 : Cond.castable "java/lang/IllegalStateException" "java/lang/IllegalStateException" ∈ lw_tbl := List.mem_append_right _ (List.mem_of_getElem? (i := 545) (by decide +kernel))
theorem tlU : Cond.laysStatic Bundle.tN "UNASSIGNED_STACK" Bundle.steD ∈ lw_tbl := List.mem_append_right _ (List.mem_of_getElem? (i := 375) (by decide +kernel))
theorem tlN : Cond.laysStatic Bundle.tN "SUPPRESSED_SENTINEL" Bundle.listD ∈ lw_tbl := List.mem_append_right _ (List.mem_of_getElem? (i := 377) (by decide +kernel))
theorem tiT : Cond.initialized Bundle.tN ∈ lw_tbl := List.mem_append_right _ (List.mem_of_getElem? (i := 9) (by decide +kernel))
theorem taI : Cond.arrayClass .int ∈ lw_tbl := List.mem_append_right _ (List.mem_of_getElem? (i := 49) (by decide +kernel))
theorem taS : Cond.arrayOver (.object RX4) ∈ lw_tbl := List.mem_append_right _ (List.mem_of_getElem? (i := 141) (by decide +kernel))
theorem tnf_all : ∀ q ∈ nestF, Cond.fieldLinkNest q.1 q.2.1 q.2.2.1 q.2.2.2.1 q.2.2.2.2.1 q.2.2.2.2.2 ∈ lw_tbl := List.forall_mem_cons.mpr ⟨tnf_0, List.forall_mem_cons.mpr ⟨tnf_1, List.forall_mem_cons.mpr ⟨tnf_2, List.forall_mem_cons.mpr ⟨tnf_3, List.forall_mem_cons.mpr ⟨tnf_4, List.forall_mem_cons.mpr ⟨tnf_5, List.forall_mem_cons.mpr ⟨tnf_6, List.forall_mem_cons.mpr ⟨tnf_7, List.forall_mem_cons.mpr ⟨tnf_8, List.forall_mem_cons.mpr ⟨tnf_9, List.forall_mem_cons.mpr ⟨tnf_10, List.forall_mem_cons.mpr ⟨tnf_11, List.forall_mem_cons.mpr ⟨tnf_12, List.forall_mem_cons.mpr ⟨tnf_13, List.forall_mem_cons.mpr ⟨tnf_14, List.forall_mem_cons.mpr ⟨tnf_15, List.forall_mem_cons.mpr ⟨tnf_16, List.forall_mem_cons.mpr ⟨tnf_17, List.forall_mem_cons.mpr ⟨tnf_18, List.forall_mem_cons.mpr ⟨tnf_19, List.forall_mem_cons.mpr ⟨tnf_20, (fun _ h => absurd h List.not_mem_nil)⟩⟩⟩⟩⟩⟩⟩⟩⟩⟩⟩⟩⟩⟩⟩⟩⟩⟩⟩⟩⟩
theorem tnm_all : ∀ q ∈ nestM, Cond.methodLinkNest q.1 q.2.1 q.2.2.1 q.2.2.2 ∈ lw_tbl := List.forall_mem_cons.mpr ⟨tnm_0, List.forall_mem_cons.mpr ⟨tnm_1, List.forall_mem_cons.mpr ⟨tnm_2, List.forall_mem_cons.mpr ⟨tnm_3, List.forall_mem_cons.mpr ⟨tnm_4, List.forall_mem_cons.mpr ⟨tnm_5, List.forall_mem_cons.mpr ⟨tnm_6, List.forall_mem_cons.mpr ⟨tnm_7, List.forall_mem_cons.mpr ⟨tnm_8, List.forall_mem_cons.mpr ⟨tnm_9, List.forall_mem_cons.mpr ⟨tnm_10, (fun _ h => absurd h List.not_mem_nil)⟩⟩⟩⟩⟩⟩⟩⟩⟩⟩⟩
theorem tnx_all : ∀ w ∈ xwL, w ∈ lw_tbl := List.forall_mem_cons.mpr ⟨tnx_0, List.forall_mem_cons.mpr ⟨tnx_1, List.forall_mem_cons.mpr ⟨tnx_2, List.forall_mem_cons.mpr ⟨tnx_3, List.forall_mem_cons.mpr ⟨tnx_4, List.forall_mem_cons.mpr ⟨tnx_5, (fun _ h => absurd h List.not_mem_nil)⟩⟩⟩⟩⟩⟩
theorem arr_cl {s : State} {args : Array Value} {t : FieldType} (hn : ∀ C, t ≠ .object C) (h : (Cond.arrayClass t).before args s = true) : ∃ cA, ArrOfT s cA t ∧ va_RA s cA t := by
  obtain ⟨cA, kA, comp, h1, h2, h3⟩ := Cond.arrayClass_spec h
  refine ⟨cA, fun n z => ⟨fun k h => (by cases h), kA, h2, comp, h3⟩, ?_⟩
  cases t with
  | object C => exact absurd rfl (hn C)
  | _ => exact h1
theorem arr_ov {s : State} {args : Array Value} {C : String} (h : (Cond.arrayOver (.object C)).before args s = true) : ∃ cA, ArrOfT s cA (.object C) ∧ va_RA s cA (.object C) := by
  obtain ⟨comp, cA, kA, h1, h2, h3, h4, h5⟩ := Cond.arrayOver_spec h
  exact ⟨cA, fun n z => ⟨fun k h => (by cases h), kA, h3, comp, h4⟩, kA, comp, h3, h4, h1, h5⟩
theorem lw_nc {b : Nat} {s : State} (hgv : (Jvm.Cond.and given_1 narrow_1).before #[Value.ref b] s = true) : ∀ E ∈ exL, ∀ F ∈ exF, E ≠ F → va_Nc E F s := by
  have hs := flat_of_before _ hgv
  have n_Inde_Sta := va_Nc.of (hs (Cond.not (Cond.castable "java/lang/IndexOutOfBoundsException" "java/lang/IllegalStateException")) (by decide +kernel))
  have n_Arg_Inde := va_Nc.of (hs (Cond.not (Cond.castable "java/lang/IllegalArgumentException" "java/lang/IndexOutOfBoundsException")) (by decide +kernel))
  have n_Arg_Sta := va_Nc.of (hs (Cond.not (Cond.castable "java/lang/IllegalArgumentException" "java/lang/IllegalStateException")) (by decide +kernel))
  have n_Sta_Inde := va_Nc.of (hs (Cond.not (Cond.castable "java/lang/IllegalStateException" "java/lang/IndexOutOfBoundsException")) (by decide +kernel))
  intro E hE F hF hne
  simp only [exL, exF, List.mem_cons, List.not_mem_nil, or_false] at hE hF
  rcases hE with rfl | rfl | rfl <;> rcases hF with rfl | rfl <;> first | exact absurd rfl hne | assumption
theorem lw_known {s : State} {args : Array Value} (hts : ∀ w ∈ GW, w.before args s = true) : ∃ D : va_G, ∀ (c : Nat) (q : vw_C), vwCl[c]? = some q → u_Kn s q.1 q.2.1 q.2.2 (D.1 c) (D.2 c) := by
  obtain ⟨c0, i0, k0⟩ := u_known (C := RX0) (T := TX0) (N := 3) (n := 3) hts inGW_0 (hts _ gw_135)
  obtain ⟨c1, i1, k1⟩ := u_known (C := RX1) (T := TX1) (N := 11) (n := 11) hts inGW_1 (hts _ gw_25)
  obtain ⟨c2, i2, k2⟩ := u_known (C := RX2) (T := TX2) (N := 1) (n := 1) hts inGW_2 (hts _ gw_37)
  obtain ⟨c3, i3, k3⟩ := u_known (C := RX3) (T := TX3) (N := 2) (n := 2) hts inGW_3 (hts _ gw_155)
  obtain ⟨c4, i4, k4⟩ := u_known (C := RX4) (T := TX4) (N := 9) (n := 9) hts inGW_4 (hts _ gw_31)
  obtain ⟨c5, i5, k5⟩ := u_known (C := RX5) (T := TX5) (N := 5) (n := 5) hts inGW_5 (hts _ gw_17)
  refine ⟨(fun k => match k with | 0 => c0 | 1 => c1 | 2 => c2 | 3 => c3 | 4 => c4 | _ => c5, fun k => match k with | 0 => i0 | 1 => i1 | 2 => i2 | 3 => i3 | 4 => i4 | _ => i5), ?_⟩
  intro c q hq
  match c, hq with
  | 0, hq => cases hq; exact k0
  | 1, hq => cases hq; exact k1
  | 2, hq => cases hq; exact k2
  | 3, hq => cases hq; exact k3
  | 4, hq => cases hq; exact k4
  | 5, hq => cases hq; exact k5
  | c + 6, hq => simp [vwCl] at hq
/-- the start -/
def LawInit (I : Mm → Prop) : Prop := ∃ σa σb : Mm, F_X4_startAnew 2 3 3 (upM (upM (upM (upM (upM (upM (upM (upM (fun _ _ => 0) 2 0 (10 : Int32)) 38 0 (10 : Int32)) 75 0 (10 : Int32)) 90 0 (10 : Int32)) 105 0 (10 : Int32)) 120 0 (10 : Int32)) 135 0 (10 : Int32)) 150 0 (10 : Int32)) = some (.inl (), σa) ∧ F_X1_measure 1 σa = some (.inl (), σb) ∧ I σb
theorem hfl_gen {N : Nat} {ty : Nat → FieldType} {fl : List Nat} (h : ∀ j, j < N → ∃ r, fl[j]? = some r ∧ ∀ hs : Nat, defaultValue (ty j) = fval hs (fun _ => 0) j r) : ∀ (hs j : Nat), j < N → defaultValue (ty j) = vp_V (fvs hs (fun _ => 0) fl) j := by
  intro hs j hj
  obtain ⟨r, h1, h2⟩ := h j hj
  rw [h2 hs]
  unfold vp_V
  rw [List.getD_eq_getElem?_getD, fvs_get h1]
  rfl
theorem hg_5 : ∀ (hs j : Nat), j < 5 → defaultValue (tyX5 j) = vp_V (fvs hs (fun _ => 0) [1, 1, 1, 1, 1]) j := hfl_gen (fun j hj => match j, hj with
  | 0, _ => ⟨1, rfl, fun _ => rfl⟩
  | 1, _ => ⟨1, rfl, fun _ => rfl⟩
  | 2, _ => ⟨1, rfl, fun _ => rfl⟩
  | 3, _ => ⟨1, rfl, fun _ => rfl⟩
  | 4, _ => ⟨1, rfl, fun _ => rfl⟩
  | j + 5, h => absurd h (by omega))
theorem lr_div {a : Nat} (h : a < 4000) : Int32.ofNat a / (5 : Int32) = Int32.ofNat (a / 5) := by
  have e5 : (5 : Int32).toInt = 5 := rfl
  rw [← Int32.toInt_inj, Int32.toInt_div_of_ne_left _ _ (fun e => by
    have := congrArg Int32.toInt e
    rw [lr_ofN h] at this
    have e2 : (Int32.minValue).toInt = -2147483648 := rfl
    omega), lr_ofN h, lr_ofN (by omega), e5]
  rw [Int.tdiv_eq_ediv_of_nonneg (by omega)]
  omega
theorem law_from0 {nm : String} {et : List ExceptionTableEntry} {b L : Nat} {xs : Nat → Int32} {I : Mm → Prop} (hst : LawSteps I) (hin : LawInit I) (hL2 : L ≤ 260) : Lw nm et b L xs true 0 0 [] 0 [some (.retAddr b), none, none, none, none, none, none, none, none, none, none] [] (fun _ _ => 0) := by
  obtain ⟨σa, σb, h1, h2, hI⟩ := hin
  refine rc_new (pc := 0) (q := 0) (T1 := [(3, 5, [1, 1, 1, 1, 1])]) (ci := 5) (N := 5) rfl inGW_5 tyX5_ok gw_16 gw_17 gw_1 rfl hg_5 rfl rfl (Nat.le_of_ble_eq_true rfl) (Nat.le_of_ble_eq_true rfl) dL_law_0 ?_
  refine rn_dup (pc := 3) dL_law_3 rfl ?_
  refine rc_callI (pc := 4) (T1 := tabR []) k_X5_init gw_19 rfl (Or.inl gw_18) (cc_NS (fun _ _ => 0) σa σb (fun _ => rfl) h1 h2) rfl rfl (Nat.le_of_ble_eq_true rfl) (Nat.le_of_ble_eq_true rfl) (Nat.le_of_ble_eq_true rfl) (Nat.le_of_ble_eq_true rfl) (Nat.le_of_ble_eq_true rfl) (by decide +kernel) dL_law_4 ?_
  refine rn_astore_n (pc := 7) (i := 1) (lo' := [some (.retAddr b), some (.ref 0), none, none, none, none, none, none, none, none, none]) dL_law_7 rfl (by decide) rfl ?_
  refine lr_exf ?_
  refine rn_iconst (pc := 8) (v := 1) dL_law_8 (by decide) ?_
  refine rn_istore_n (pc := 9) (i := 2) (lo' := [some (.retAddr b), some (.ref 0), some (.int 1), none, none, none, none, none, none, none, none]) dL_law_9 rfl (by decide) rfl ?_
  have KK : ∀ (N : Nat), N ≤ 24 → Lw nm et b L xs false 168 12767 (tabR []) 28 [some (.retAddr b), some (.ref 0), some (.int 1), none, none, none, none, none, none, none, none] [.int (Int32.ofNat N)] σb := by
    intro N hN24
    refine rn_istore_n (pc := 28) (i := 3) (lo' := [some (.retAddr b), some (.ref 0), some (.int 1), some (.int (Int32.ofNat N)), none, none, none, none, none, none, none]) dL_law_28 rfl (by decide) rfl ?_
    refine rn_iconst (pc := 29) (v := 0) dL_law_29 (by decide) ?_
    refine rn_istore (pc := 30) (i := 4) (lo' := loI b N 0) dL_law_30 (by decide) rfl ?_
    exact law_loop hst hL2 hN24 (isNS_of []) 24 0 _ _ σb hI (by omega) (by omega) (Nat.le_of_ble_eq_true rfl) (Nat.le_of_ble_eq_true rfl)
  refine rn_aload_nA (pc := 10) (i := 0) dL_law_10 rfl rfl ?_
  refine lr_slen (pc := 11) (fun _ _ h => h.1) dL_law_11 ?_
  refine rn_iconst (pc := 12) (v := 5) dL_law_12 (by decide) ?_
  refine rn_idiv (pc := 13) (by decide) dL_law_13 ?_
  rw [lr_div (by omega)]
  refine rn_bipush (pc := 14) (v := 24) dL_law_14 (by decide) ?_
  refine rn_icmp_le (pc := 16) (tgt := 24) dL_law_16 rfl (fun h => ?_) (fun _ => ?_)
  · rw [show (24 : Int32) = Int32.ofNat 24 from rfl, lr_le (by omega) (by omega)] at h
    refine rn_aload_nA (pc := 24) (i := 0) dL_law_24 rfl rfl ?_
    refine lr_slen (pc := 25) (fun _ _ h => h.1) dL_law_25 ?_
    refine rn_iconst (pc := 26) (v := 5) dL_law_26 (by decide) ?_
    refine rn_idiv (pc := 27) (by decide) dL_law_27 ?_
    rw [lr_div (by omega)]
    exact KK (L / 5) h
  · refine rn_bipush (pc := 19) (v := 24) dL_law_19 (by decide) ?_
    refine rn_goto (pc := 21) (tgt := 28) dL_law_21 rfl ?_
    exact KK 24 (Nat.le_refl _)
theorem law_start {p : Program} {e : Env} {s : State} {m : MethodId} {below : List Frame} {meth : Method} {c : Code} (l : Launch) (hflags : l.flags = flags0) {b L : Nat} {xs : Nat → Int32} (hL : L ≤ 260) (C0 : lw_At p s m meth c b L xs) {I : Mm → Prop} (hst : LawSteps I) (hin : LawInit I) : W p l e room_1 s m #[Value.ref b] below meth c s.heap [] 0 0 (lw_Z below #[Value.ref b] s) (entryFrame m ([Value.ref b] : List Value).toArray 11) := by
  obtain ⟨hx, hb, hr, hml, hown, htb, hX, hbl, hlocks, hgv⟩ := C0
  have hts : ∀ w ∈ GW, w.before #[Value.ref b] s = true := fun w hw => htb w (List.mem_filter.mp hw).1
  have hsf := flat_of_before _ hgv
  have hA : ∀ a : Nat, a < s.heap.size → ¬ s.heap.size ≤ a := fun a h => Nat.not_le.mpr h
  have htr : l.stackTraces = false := by unfold Launch.stackTraces; rw [hflags]; decide
  obtain ⟨D, hD⟩ := lw_known hts
  obtain ⟨cI, i1, i2⟩ := arr_cl (fun C h => by cases h) (htb _ taI)
  obtain ⟨cS, s1, s2⟩ := arr_ov (htb _ taS)
  have hK : va_K D vwCl [(cI, .int), (cI, .int), (cS, .object RX4)] s := by
    refine ⟨hD, fun k q hk => ?_⟩
    match k, hk with
    | 0, hk => cases hk; exact ⟨i1, i2⟩
    | 1, hk => cases hk; exact ⟨i1, i2⟩
    | 2, hk => cases hk; exact ⟨s1, s2⟩
    | k + 3, hk => simp at hk
  have hWK : WK D cI cI cS s := ⟨hK, fun q hq => va_Nw.of rfl (htb _ (tnf_all q hq)), fun q hq => va_Nw.of rfl (htb _ (tnm_all q hq)), lw_nc hgv, fun w hw => va_Nw.of (xw_tab hw) (htb _ (tnx_all w hw)), va_AO.of (htb _ taS)⟩
  have hWZ : WZ s.heap.size s s.heap := ⟨vx_Zqof (htb _ tlU) (htb _ tiT) (hsf (Cond.isRef (.static Bundle.tN "UNASSIGNED_STACK" Bundle.steD)) (by decide +kernel)) hA, vx_Zqof (htb _ tlN) (htb _ tiT) (hsf (Cond.isRef (.static Bundle.tN "SUPPRESSED_SENTINEL" Bundle.listD)) (by decide +kernel)) hA⟩
  have hl := lv_entry ([.ref b]) (n := 11) (Nat.le_of_ble_eq_true rfl)
  rw [lg_entry_eq]
  generalize (lg_sl ([.ref b]) ++ List.replicate (11 - (lg_sl ([.ref b])).length) Slot.unset).toArray = ls at hl ⊢
  refine law_from0 (nm := meth.name) (et := c.exceptionTable.toList) (b := b) (xs := xs) hst hin hL p l e s m _ below meth c s.heap.size D cI cI cS s.heap [] ls ⟨hx, hb, hr, hml, hown, hts, hlocks, htr, hWK, hWZ, Nat.le_refl _, rfl, rfl⟩ ⟨⟨hX, hbl⟩, rfl⟩ (fun _ => rfl) (fun k q h => by simp [wsO] at h) va_S.rf ⟨hl.1, hl.2.1, fun i v hi => ?_⟩
  match i, hi with
  | 0, hi => cases hi; exact hl.2.2 _ List.mem_cons_self
  | i + 1, hi =>
    exfalso
    rcases i with _ | _ | _ | _ | _ | _ | _ | _ | _ | _ | i <;> simp at hi
