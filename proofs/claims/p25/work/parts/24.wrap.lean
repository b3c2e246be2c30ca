theorem gw_519 : Cond.codeWith yL_put cL_put 7 (some .int) [(0, 11, 12, 15), (0, 11, 16, 17)] ∈ GW := List.mem_filter.mpr ⟨List.mem_append_right _ (List.mem_of_getElem? (i := 519) (by decide +kernel)), by decide +kernel⟩
theorem gw_518 : Cond.static yL_put ∈ GW := List.mem_filter.mpr ⟨List.mem_append_right _ (List.mem_of_getElem? (i := 518) (by decide +kernel)), by decide +kernel⟩
theorem gw_522 : Cond.methodLink RL 9 yX5_put ∈ GW := List.mem_filter.mpr ⟨List.mem_append_right _ (List.mem_of_getElem? (i := 522) (by decide +kernel)), by decide +kernel⟩
theorem gw_520 : Cond.classLink RL 15 "java/lang/IndexOutOfBoundsException" ∈ GW := List.mem_filter.mpr ⟨List.mem_append_right _ (List.mem_of_getElem? (i := 520) (by decide +kernel)), by decide +kernel⟩
theorem gw_521 : Cond.classLink RL 17 "java/lang/IllegalStateException" ∈ GW := List.mem_filter.mpr ⟨List.mem_append_right _ (List.mem_of_getElem? (i := 521) (by decide +kernel)), by decide +kernel⟩
theorem gw_589 : Cond.codeWith yL_nest cL_nest 7 (some .int) [(0, 11, 12, 15), (0, 11, 16, 17)] ∈ GW := List.mem_filter.mpr ⟨List.mem_append_right _ (List.mem_of_getElem? (i := 589) (by decide +kernel)), by decide +kernel⟩
theorem gw_588 : Cond.static yL_nest ∈ GW := List.mem_filter.mpr ⟨List.mem_append_right _ (List.mem_of_getElem? (i := 588) (by decide +kernel)), by decide +kernel⟩
theorem gw_590 : Cond.methodLink RL 19 yX5_nest ∈ GW := List.mem_filter.mpr ⟨List.mem_append_right _ (List.mem_of_getElem? (i := 590) (by decide +kernel)), by decide +kernel⟩
theorem gw_564 : Cond.codeWith yL_span cL_span 7 (some .int) [(0, 11, 12, 15), (0, 11, 16, 17)] ∈ GW := List.mem_filter.mpr ⟨List.mem_append_right _ (List.mem_of_getElem? (i := 564) (by decide +kernel)), by decide +kernel⟩
theorem gw_563 : Cond.static yL_span ∈ GW := List.mem_filter.mpr ⟨List.mem_append_right _ (List.mem_of_getElem? (i := 563) (by decide +kernel)), by decide +kernel⟩
theorem gw_565 : Cond.methodLink RL 22 yX5_span ∈ GW := List.mem_filter.mpr ⟨List.mem_append_right _ (List.mem_of_getElem? (i := 565) (by decide +kernel)), by decide +kernel⟩
theorem gw_600 : Cond.codeWith yL_rule cL_rule 7 (some .int) [(0, 11, 12, 15), (0, 11, 16, 17)] ∈ GW := List.mem_filter.mpr ⟨List.mem_append_right _ (List.mem_of_getElem? (i := 600) (by decide +kernel)), by decide +kernel⟩
theorem gw_599 : Cond.static yL_rule ∈ GW := List.mem_filter.mpr ⟨List.mem_append_right _ (List.mem_of_getElem? (i := 599) (by decide +kernel)), by decide +kernel⟩
theorem gw_601 : Cond.methodLink RL 25 yX5_rule ∈ GW := List.mem_filter.mpr ⟨List.mem_append_right _ (List.mem_of_getElem? (i := 601) (by decide +kernel)), by decide +kernel⟩
theorem gw_608 : Cond.codeWith yL_undo cL_undo 2 (some .int) [(0, 4, 5, 17)] ∈ GW := List.mem_filter.mpr ⟨List.mem_append_right _ (List.mem_of_getElem? (i := 608) (by decide +kernel)), by decide +kernel⟩
theorem gw_607 : Cond.static yL_undo ∈ GW := List.mem_filter.mpr ⟨List.mem_append_right _ (List.mem_of_getElem? (i := 607) (by decide +kernel)), by decide +kernel⟩
theorem gw_609 : Cond.methodLink RL 47 yX5_undo ∈ GW := List.mem_filter.mpr ⟨List.mem_append_right _ (List.mem_of_getElem? (i := 609) (by decide +kernel)), by decide +kernel⟩
theorem rn_aload_nA {yy : MethodName} {cc : ByteArray} {maxL : Nat} {ret : Option FieldType} {et : List ExceptionTableEntry} {rm : Room} {Qf : List Frame → Array Value → State → Nat → va_G → ClassId → ClassId → ClassId → State → Prop} {Xf : State → Nat → Prop} {ex : Bool} {k n : Nat} {T : Tb} {pc : Nat} {lo : List (Option Value)} {st : List Value} {σ : Mm} {j : Fin 4} {i : Nat} {x : Nat} (d : decode cc pc = .ok (.aload_n j, 1)) (hi : (j : Nat) = i) (hl : lo[i]? = some (some (.retAddr x))) (kk : RnQ yy cc maxL ret et rm Qf Xf ex k n T (pc + 1) lo (.retAddr x :: st) σ) : RnQ yy cc maxL ret et rm Qf Xf ex k n T pc lo st σ := fun p l e s m args below meth c hs D cI cL cS H locs ls hC hX hZ hP hS hL => lv_aload_n hC.x hC.b d hi (hL.at hl) (kk p l e s m args below meth c hs D cI cL cS H locs ls hC hX hZ hP hS hL)
theorem rn_astore_nA {yy : MethodName} {cc : ByteArray} {maxL : Nat} {ret : Option FieldType} {et : List ExceptionTableEntry} {rm : Room} {Qf : List Frame → Array Value → State → Nat → va_G → ClassId → ClassId → ClassId → State → Prop} {Xf : State → Nat → Prop} {ex : Bool} {k n : Nat} {T : Tb} {pc : Nat} {lo : List (Option Value)} {st : List Value} {σ : Mm} {j : Fin 4} {i : Nat} {x : Nat} {lo' : List (Option Value)} (d : decode cc pc = .ok (.astore_n j, 1)) (hi : (j : Nat) = i) (hn : i < maxL) (hl : sto lo i (.retAddr x) = lo') (kk : RnQ yy cc maxL ret et rm Qf Xf ex k n T (pc + 1) lo' st σ) : RnQ yy cc maxL ret et rm Qf Xf ex k n T pc lo (.retAddr x :: st) σ := fun p l e s m args below meth c hs D cI cL cS H locs ls hC hX hZ hP hS hL => lv_astore_n hC.x hC.b d hi hL.has hn rfl (fun ls' h => kk p l e s m args below meth c hs D cI cL cS H locs ls' hC hX hZ hP hS (hl ▸ Lr_sto (v := .retAddr x) h))
theorem rn_astoreA {yy : MethodName} {cc : ByteArray} {maxL : Nat} {ret : Option FieldType} {et : List ExceptionTableEntry} {rm : Room} {Qf : List Frame → Array Value → State → Nat → va_G → ClassId → ClassId → ClassId → State → Prop} {Xf : State → Nat → Prop} {ex : Bool} {k n : Nat} {T : Tb} {pc : Nat} {lo : List (Option Value)} {st : List Value} {σ : Mm} {i : Nat} {x : Nat} {lo' : List (Option Value)} (d : decode cc pc = .ok (.astore i, 2)) (hn : i < maxL) (hl : sto lo i (.retAddr x) = lo') (kk : RnQ yy cc maxL ret et rm Qf Xf ex k n T (pc + 2) lo' st σ) : RnQ yy cc maxL ret et rm Qf Xf ex k n T pc lo (.retAddr x :: st) σ := fun p l e s m args below meth c hs D cI cL cS H locs ls hC hX hZ hP hS hL => lv_astore hC.x hC.b d hL.has hn rfl (fun ls' h => kk p l e s m args below meth c hs D cI cL cS H locs ls' hC hX hZ hP hS (hl ▸ Lr_sto (v := .retAddr x) h))
/-- a call that throws, and the handler here -/
theorem rn_callVc {yy : MethodName} {cc : ByteArray} {maxL : Nat} {ret : Option FieldType} {et : List ExceptionTableEntry} {rm : Room} {Qf : List Frame → Array Value → State → Nat → va_G → ClassId → ClassId → ClassId → State → Prop} {Xf : State → Nat → Prop} {ex : Bool} {k n : Nat} {T : Tb} {pc : Nat} {lo : List (Option Value)} {st : List Value} {σ : Mm} {y' : MethodName} {bytes : ByteArray} {mL a idx : Nat} {rt : Option FieldType} {rm' : Room} {as st0 : List Value} {T1 : Tb} {σ1 : Mm} {er : Nat} {b ci : Nat} {fl : List Nat} (pre : List ExceptionTableEntry) (x : ExceptionTableEntry) (suf : List ExceptionTableEntry) (hT : T[b]? = some (3, ci, fl)) (hci : ∃ (TT : u_T) (N : Nat), vwCl[ci]? = some (y'.cls, TT, N)) (cal : Cal y' bytes mL rt a) (hin : Cond.instanceMethod y' ∈ GW) (hse : Cond.selects y'.cls y' y' ∈ GW) (hlk : Cond.methodLink yy.cls idx y' ∈ GW) (ev : Ev (.code y' bytes mL rt) y' rm' T (.ref b :: as) σ (.inr er) T1 σ1) (hlen : as.length = a) (hst : st0 = as.reverse ++ .ref b :: st) (hw : (st.map fun v => v.category).sum ≤ 8) (hfr : rm'.frames + 1 ≤ rm.frames) (hlo : 8 + (mL + 11) + rm'.locals ≤ rm.locals) (hc : k + rm'.cells ≤ rm.cells) (hs9 : n + rm'.slots ≤ rm.slots) (hx : ex = true → T1.length = T.length + rm'.cells) (hsplit : et = pre ++ x :: suf) (hpass : ∀ z ∈ pre, z.catchType ≠ 0 ∧ ∃ nm : String, Cond.classLink yy.cls z.catchType nm ∈ GW ∧ nm ∈ exF ∧ exName er ≠ nm) (hE : exName er ∈ exL) (hcov : covers x pc = true) (h0 : x.catchType ≠ 0) (hlink : Cond.classLink yy.cls x.catchType (exName er) ∈ GW) (hcast : Cond.castable (exName er) (exName er) ∈ xwL) (d : decode cc pc = .ok (.invokevirtual idx, 3)) (kk : ∀ q : Nat, RnQ yy cc maxL ret et rm Qf Xf ex (k + rm'.cells) (n + rm'.slots) T1 x.handlerPc lo [.retAddr q] σ1) : RnQ yy cc maxL ret et rm Qf Xf ex k n T pc lo st0 σ := by
  intro p l e s m args below meth c hs D cI cL cS H locs ls hC hX hZ hP hS hL
  obtain ⟨TT, N, hci⟩ := hci
  have run := vx_runV (p := p) (l := l) (e := e) (R := rm) (s := s) (m := m) (args := args) (below := below) (meth := meth) (c := c) (H := H) (locs := locs) (cells := k) (slots := n) (g := F0 m pc ls (st0.map (ge hs))) (As := as.map (ge hs)) (rest := st.map (ge hs)) ⟨hC.x, hC.b, hC.ml, hC.ow, hC.ts⟩ (ev l hC.st hs D cI cL cS) ⟨callB_of a hC.ts (gw_in cal.1) rfl rfl rfl (hC.ts _ cal.2.1) (hC.ts _ hlk) ⟨cal.2.2.1.1, cal.2.2.1.2, cal.2.2.2.1⟩ ⟨hfr, hlo⟩, hC.ts _ hin, hC.ts _ hse⟩ ⟨PreE.blind, va_recv hC.wk.1 hP hci (wsO_get hT), fun U hU hW => pre_of hC hP hS hU hW rfl⟩ rfl ((List.length_map _).trans hlen) hL.1 (stk_map hst) (lv_room (by rw [cat_map]; exact hw)) d ⟨hc, hs9⟩
  refine aft_thr run hS (fun H1 locs1 ce q9 hP1 hS1 h1 h2 h3 => ?_)
  exact vx_catch hC.ow pre x suf (by rw [hC.ex]; exact hsplit) (fun z hz => Or.inr ⟨(hpass z hz).1, by obtain ⟨nm, g1, g2, g3⟩ := (hpass z hz).2; exact ⟨nm, hC.ts _ g1, hC.wk.2.2.2.1 _ hE nm g2 g3⟩⟩) hcov h0 (hC.ts _ hlink) (va_Nw.use (xw_tab hcast) (hC.wk.2.2.2.2.1 _ hcast)) h1 h2 h3 (kk q9 p l e s m args below meth c hs D cI cL cS H1 locs1 ls hC hX (fun h => by rw [hx h]; have := hZ h; omega) hP1 hS1 hL)
/-- what a wrapper needs of the tables -/
def CalW (y : MethodName) (bytes : ByteArray) (mL : Nat) (hh : List (Nat × Nat × Nat × Nat)) (a : Nat) : Prop := Cond.codeWith y bytes mL (some .int) hh ∈ GW ∧ Cond.initialized y.cls ∈ GW ∧ (y.cls ≠ "java/lang/invoke/MethodHandle" ∧ y.cls ≠ "java/lang/invoke/VarHandle") ∧ (parseMethodDescriptor y.desc).map (fun d => d.parameters.length) = some a ∧ plainName y.cls = true ∧ Cond.static y ∈ GW
theorem ev_ofH {y : MethodName} {cc : ByteArray} {maxL a j : Nat} {hh : List (Nat × Nat × Nat × Nat)} {rm : Room} {o : Option Value ⊕ Nat} {T T' : Tb} {σ σ' : Mm} {as : List Value} {lo : List (Option Value)} (cal : CalW y cc maxL hh a) (hlo : lo = loA as ++ List.replicate j none) (hlen : ∀ hs : Nat, (lg_sl (as.map (ge hs))).length ≤ maxL) (h : Rn y cc maxL (some .int) (tableOf hh) rm o T' σ' false 0 0 T 0 lo [] σ) : Ev (.codeWith y cc maxL (some .int) hh) y rm T as σ o T' σ' := by
  intro l hl hs D cI cL cS
  refine vx_ofWH (cc := cc) (maxL := maxL) (ret := some .int) (hh := hh) cal.2.2.2.2.1 rfl ?_
  intro p e s m args below meth c s₁ B hml hv
  obtain ⟨rfl, hP, hWK, hWZ, hsz⟩ := hv
  have hts := atoms_spec (ws := .codeWith y cc maxL (some .int) hh :: GW) B.pre
  have hl0 := lv_entry (as.map (ge hs)) (n := maxL) (hlen hs)
  rw [lg_entry_eq]
  generalize (lg_sl (as.map (ge hs)) ++ List.replicate (maxL - (lg_sl (as.map (ge hs))).length) Slot.unset).toArray = ls at hl0 ⊢
  refine h p l e s m _ below meth c hs D cI cL cS s.heap [] ls ⟨B.exec, B.bytes, B.returns, hml, findClass_of_methodNamed B.named, fun w hw => hts w (List.mem_cons_of_mem _ hw), B.notSynchronized, hl, hWK, hWZ, hsz, vx_table (x := y) B (hts _ List.mem_cons_self), (name_of_methodNamed B.named B.method).1⟩ trivial (fun h => by cases h) hP va_S.rf ⟨hl0.1, hl0.2.1, fun i v hi => ?_⟩
  rw [hlo] at hi
  have h2 := loA_at (hs := hs) as 0 i v (loA_pad hi)
  rw [Nat.zero_add] at h2
  exact hl0.2.2 _ h2
theorem rn_callSH {yy : MethodName} {cc : ByteArray} {maxL : Nat} {ret : Option FieldType} {et : List ExceptionTableEntry} {rm : Room} {Qf : List Frame → Array Value → State → Nat → va_G → ClassId → ClassId → ClassId → State → Prop} {Xf : State → Nat → Prop} {ex : Bool} {k n : Nat} {T : Tb} {pc : Nat} {lo : List (Option Value)} {st : List Value} {σ : Mm} {y' : MethodName} {bytes : ByteArray} {mL a idx : Nat} {hh : List (Nat × Nat × Nat × Nat)} {rm' : Room} {as st0 : List Value} {T1 : Tb} {σ1 : Mm} {r : Option Value} (cal : CalW y' bytes mL hh a) (hlk : Cond.methodLink yy.cls idx y' ∈ GW) (ev : Ev (.codeWith y' bytes mL (some .int) hh) y' rm' T as σ (.inl r) T1 σ1) (hlen : as.length = a) (hst : st0 = as.reverse ++ st) (hw : (st.map fun v => v.category).sum ≤ 8) (hfr : rm'.frames + 1 ≤ rm.frames) (hlo : 8 + (mL + 11) + rm'.locals ≤ rm.locals) (hc : k + rm'.cells ≤ rm.cells) (hs9 : n + rm'.slots ≤ rm.slots) (hx : ex = true → T1.length = T.length + rm'.cells) (d : decode cc pc = .ok (.invokestatic idx, 3)) (kk : RnQ yy cc maxL ret et rm Qf Xf ex (k + rm'.cells) (n + rm'.slots) T1 (pc + 3) lo (r.toList ++ st) σ1) : RnQ yy cc maxL ret et rm Qf Xf ex k n T pc lo st0 σ := by
  intro p l e s m args below meth c hs D cI cL cS H locs ls hC hX hZ hP hS hL
  have hG : GoodIn GW (va_wsS yy.cls idx y' (.codeWith y' bytes mL (some .int) hh :: GW)) := by
    intro w hw9
    unfold va_wsS at hw9
    rcases List.mem_append.mp hw9 with h | h
    · simp only [List.mem_cons, List.not_mem_nil, or_false] at h
      rcases h with rfl | rfl | rfl
      · exact ⟨hlk, good_of_word (gw_good hlk)⟩
      · exact ⟨cal.2.2.2.2.2, good_of_word (gw_good cal.2.2.2.2.2)⟩
      · exact ⟨cal.2.1, good_of_word (gw_good cal.2.1)⟩
    · exact gw_in cal.1 w h
  have run := vx_runSX (p := p) (l := l) (e := e) (R := rm) (s := s) (m := m) (args := args) (below := below) (meth := meth) (c := c) (H := H) (locs := locs) (cells := k) (slots := n) (g := F0 m pc ls (st0.map (ge hs))) (As := as.map (ge hs)) (rest := st.map (ge hs)) ⟨hC.x, hC.b, hC.ml, hC.ow, hC.ts⟩ (ev l hC.st hs D cI cL cS) (vx_cwSW a hC.ts hG rfl rfl rfl ⟨cal.2.2.1.1, cal.2.2.1.2, cal.2.2.2.1⟩ ⟨hfr, hlo⟩) ⟨PreE.blind, fun U hU hW => pre_of hC hP hS hU hW rfl⟩ rfl ((List.length_map _).trans hlen) hL.1 (stk_mapS hst) (lv_room (by rw [cat_map]; exact hw)) d ⟨hc, hs9⟩
  exact aft_ret run hS (fun H1 locs1 hP1 hS1 => res_map (hs := hs) (r := r) (st := st) ▸ kk p l e s m args below meth c hs D cI cL cS H1 locs1 ls hC hX (fun h => by rw [hx h]; have := hZ h; omega) hP1 hS1 hL)
def rmW : Room := { frames := 9, cells := 1, slots := 6, locals := 396 }
def lkc : List (Nat × Int32) → Nat → Option Int32
  | [], _ => none
  | (a, c) :: t, e => if e = a then some c else lkc t e
/-- what is thrown is caught, and answered by a number -/
def ctM (hh : List (Nat × Int32)) (X : Dm Int32) : Dm Int32 := fun σ => match X σ with
  | some (.inl v, σ1) => some (.inl v, σ1)
  | some (.inr e, σ1) => (match lkc hh e with
    | some c => some (.inl c, σ1)
    | none => none)
  | none => none
theorem ctM_l {hh : List (Nat × Int32)} {X : Dm Int32} {σ σ1 : Mm} {v : Int32} (h : X σ = some (.inl v, σ1)) : ctM hh X σ = some (.inl v, σ1) := by
  unfold ctM
  rw [h]
theorem ctM_r {hh : List (Nat × Int32)} {X : Dm Int32} {σ σ1 : Mm} {e : Nat} {c : Int32} (h : X σ = some (.inr e, σ1)) (hc : lkc hh e = some c) : ctM hh X σ = some (.inl c, σ1) := by
  unfold ctM
  rw [h]
  show (match lkc hh e with | some c => some ((Sum.inl c : Int32 ⊕ Nat), σ1) | none => none) = _
  rw [hc]
theorem kw_put : CalW yL_put cL_put 7 [(0, 11, 12, 15), (0, 11, 16, 17)] 6 := ⟨gw_519, gw_0, ⟨by decide, by decide⟩, by decide +kernel, by decide +kernel, gw_518⟩
set_option maxRecDepth 100000 in
theorem wr_put (T : Tb) (hN : isNS T) (p0 : Int32) (p1 : Int32) (p2 : Int32) (p3 : Int32) (p4 : Int32) (σ : Mm) (r : Int32) (σ1 : Mm) (h : F_X5_put p0 p1 p2 p3 p4 σ = some (.inl r, σ1)) : Ev (.codeWith yL_put cL_put 7 (some .int) [(0, 11, 12, 15), (0, 11, 16, 17)]) yL_put rmW T [.ref 0, .int p0, .int p1, .int p2, .int p3, .int p4] σ (.inl (some (.int r))) T σ1 := by
  refine ev_ofH (lo := [some (.ref 0), some (.int p0), some (.int p1), some (.int p2), some (.int p3), some (.int p4), none]) (j := 1) kw_put rfl (fun _ => Nat.le_of_ble_eq_true rfl) ?_
  refine rn_aload_n (pc := 0) (i := 0) dL_put_0 rfl rfl ?_
  refine rn_iload_n (pc := 1) (i := 1) dL_put_1 rfl rfl ?_
  refine rn_iload_n (pc := 2) (i := 2) dL_put_2 rfl rfl ?_
  refine rn_iload_n (pc := 3) (i := 3) dL_put_3 rfl rfl ?_
  refine rn_iload (pc := 4) (i := 4) dL_put_4 rfl ?_
  refine rn_iload (pc := 6) (i := 5) dL_put_6 rfl ?_
  refine rn_callV (pc := 8) (r := some (.int r)) hN.1 ⟨_, _, rfl⟩ k_X5_put.1 k_X5_put.2.1 k_X5_put.2.2.1 gw_522 ((c_X5_put T p0 p1 p2 p3 p4 hN) σ _ σ1 h) rfl rfl (Nat.le_of_ble_eq_true rfl) (Nat.le_of_ble_eq_true rfl) (Nat.le_of_ble_eq_true rfl) (Nat.le_of_ble_eq_true rfl) (Nat.le_of_ble_eq_true rfl) (fun h => by cases h) dL_put_8 ?_
  exact rn_iret (pc := 11) (Nat.le_of_ble_eq_true rfl) (Nat.le_of_ble_eq_true rfl) dL_put_11
set_option maxRecDepth 100000 in
theorem wx_put_1 (T : Tb) (hN : isNS T) (p0 : Int32) (p1 : Int32) (p2 : Int32) (p3 : Int32) (p4 : Int32) (σ σ1 : Mm) (h : F_X5_put p0 p1 p2 p3 p4 σ = some (.inr 1, σ1)) : Ev (.codeWith yL_put cL_put 7 (some .int) [(0, 11, 12, 15), (0, 11, 16, 17)]) yL_put rmW T [.ref 0, .int p0, .int p1, .int p2, .int p3, .int p4] σ (.inl (some (.int (-1)))) T σ1 := by
  refine ev_ofH (lo := [some (.ref 0), some (.int p0), some (.int p1), some (.int p2), some (.int p3), some (.int p4), none]) (j := 1) kw_put rfl (fun _ => Nat.le_of_ble_eq_true rfl) ?_
  refine rn_aload_n (pc := 0) (i := 0) dL_put_0 rfl rfl ?_
  refine rn_iload_n (pc := 1) (i := 1) dL_put_1 rfl rfl ?_
  refine rn_iload_n (pc := 2) (i := 2) dL_put_2 rfl rfl ?_
  refine rn_iload_n (pc := 3) (i := 3) dL_put_3 rfl rfl ?_
  refine rn_iload (pc := 4) (i := 4) dL_put_4 rfl ?_
  refine rn_iload (pc := 6) (i := 5) dL_put_6 rfl ?_
  refine rn_callVc (pc := 8) (tableOf []) ⟨0, 11, 12, 15⟩ (tableOf [(0, 11, 16, 17)]) hN.1 ⟨_, _, rfl⟩ k_X5_put.1 k_X5_put.2.1 k_X5_put.2.2.1 gw_522 ((c_X5_put T p0 p1 p2 p3 p4 hN) σ _ σ1 h) rfl rfl (Nat.le_of_ble_eq_true rfl) (Nat.le_of_ble_eq_true rfl) (Nat.le_of_ble_eq_true rfl) (Nat.le_of_ble_eq_true rfl) (Nat.le_of_ble_eq_true rfl) (fun h => by cases h) rfl (fun z hz => by cases hz) (by decide) (by decide) (by decide) gw_520 (by decide) dL_put_8 (fun q => ?_)
  refine rn_astoreA (pc := 12) (i := 6) (lo' := [some (.ref 0), some (.int p0), some (.int p1), some (.int p2), some (.int p3), some (.int p4), some (.retAddr q)]) dL_put_12 (by decide) rfl ?_
  refine rn_iconst (pc := 14) (v := -1) dL_put_14 (by decide) ?_
  exact rn_iret (pc := 15) (Nat.le_of_ble_eq_true rfl) (Nat.le_of_ble_eq_true rfl) dL_put_15
set_option maxRecDepth 100000 in
theorem wx_put_3 (T : Tb) (hN : isNS T) (p0 : Int32) (p1 : Int32) (p2 : Int32) (p3 : Int32) (p4 : Int32) (σ σ1 : Mm) (h : F_X5_put p0 p1 p2 p3 p4 σ = some (.inr 3, σ1)) : Ev (.codeWith yL_put cL_put 7 (some .int) [(0, 11, 12, 15), (0, 11, 16, 17)]) yL_put rmW T [.ref 0, .int p0, .int p1, .int p2, .int p3, .int p4] σ (.inl (some (.int (-3)))) T σ1 := by
  refine ev_ofH (lo := [some (.ref 0), some (.int p0), some (.int p1), some (.int p2), some (.int p3), some (.int p4), none]) (j := 1) kw_put rfl (fun _ => Nat.le_of_ble_eq_true rfl) ?_
  refine rn_aload_n (pc := 0) (i := 0) dL_put_0 rfl rfl ?_
  refine rn_iload_n (pc := 1) (i := 1) dL_put_1 rfl rfl ?_
  refine rn_iload_n (pc := 2) (i := 2) dL_put_2 rfl rfl ?_
  refine rn_iload_n (pc := 3) (i := 3) dL_put_3 rfl rfl ?_
  refine rn_iload (pc := 4) (i := 4) dL_put_4 rfl ?_
  refine rn_iload (pc := 6) (i := 5) dL_put_6 rfl ?_
  refine rn_callVc (pc := 8) (tableOf [(0, 11, 12, 15)]) ⟨0, 11, 16, 17⟩ (tableOf []) hN.1 ⟨_, _, rfl⟩ k_X5_put.1 k_X5_put.2.1 k_X5_put.2.2.1 gw_522 ((c_X5_put T p0 p1 p2 p3 p4 hN) σ _ σ1 h) rfl rfl (Nat.le_of_ble_eq_true rfl) (Nat.le_of_ble_eq_true rfl) (Nat.le_of_ble_eq_true rfl) (Nat.le_of_ble_eq_true rfl) (Nat.le_of_ble_eq_true rfl) (fun h => by cases h) rfl (fun z hz => by simp only [tableOf, List.map_cons, List.map_nil, List.mem_cons, List.not_mem_nil, or_false] at hz; rcases hz with rfl <;> first | exact ⟨by decide, "java/lang/IndexOutOfBoundsException", gw_520, by decide, by decide⟩) (by decide) (by decide) (by decide) gw_521 (by decide) dL_put_8 (fun q => ?_)
  refine rn_astoreA (pc := 16) (i := 6) (lo' := [some (.ref 0), some (.int p0), some (.int p1), some (.int p2), some (.int p3), some (.int p4), some (.retAddr q)]) dL_put_16 (by decide) rfl ?_
  refine rn_bipush (pc := 18) (v := -3) dL_put_18 (by decide) ?_
  exact rn_iret (pc := 20) (Nat.le_of_ble_eq_true rfl) (Nat.le_of_ble_eq_true rfl) dL_put_20
def cs_put : List (Nat × Int32) := [((1 : Nat), (-1 : Int32)), ((3 : Nat), (-3 : Int32))]
def F_L_put (p0 : Int32) (p1 : Int32) (p2 : Int32) (p3 : Int32) (p4 : Int32) : Dm Int32 := ctM cs_put (F_X5_put p0 p1 p2 p3 p4)
theorem wq_put (T : Tb) (hN : isNS T) (p0 : Int32) (p1 : Int32) (p2 : Int32) (p3 : Int32) (p4 : Int32) (σ : Mm) (v : Int32) (σ1 : Mm) (h : F_L_put p0 p1 p2 p3 p4 σ = some (.inl v, σ1)) : Ev (.codeWith yL_put cL_put 7 (some .int) [(0, 11, 12, 15), (0, 11, 16, 17)]) yL_put rmW T [.ref 0, .int p0, .int p1, .int p2, .int p3, .int p4] σ (.inl (some (.int v))) T σ1 := by
  unfold F_L_put ctM at h
  cases e : F_X5_put p0 p1 p2 p3 p4 σ with
  | none => rw [e] at h; cases h
  | some q =>
    obtain ⟨o, σ2⟩ := q
    rw [e] at h
    cases o with
    | inl r =>
      have h : some ((Sum.inl r : Int32 ⊕ Nat), σ2) = some (Sum.inl v, σ1) := h
      injection h with h; injection h with h1 h2; injection h1 with h1; subst h1 h2; exact wr_put T hN p0 p1 p2 p3 p4 σ r σ2 e
    | inr er =>
      have h : (match lkc cs_put er with | some c => some ((Sum.inl c : Int32 ⊕ Nat), σ2) | none => none) = some (Sum.inl v, σ1) := h
      by_cases h_1 : er = 1
      · subst h_1
        have h : some ((Sum.inl (-1 : Int32) : Int32 ⊕ Nat), σ2) = some (Sum.inl v, σ1) := h
        injection h with h; injection h with h1 h2; injection h1 with h1; subst h1 h2; exact wx_put_1 T hN p0 p1 p2 p3 p4 σ σ2 e
      by_cases h_3 : er = 3
      · subst h_3
        have h : some ((Sum.inl (-3 : Int32) : Int32 ⊕ Nat), σ2) = some (Sum.inl v, σ1) := h
        injection h with h; injection h with h1 h2; injection h1 with h1; subst h1 h2; exact wx_put_3 T hN p0 p1 p2 p3 p4 σ σ2 e
      have hn : lkc cs_put er = none := by simp [lkc, cs_put, h_1, h_3]
      rw [hn] at h; cases h
theorem kw_nest : CalW yL_nest cL_nest 7 [(0, 11, 12, 15), (0, 11, 16, 17)] 6 := ⟨gw_589, gw_0, ⟨by decide, by decide⟩, by decide +kernel, by decide +kernel, gw_588⟩
set_option maxRecDepth 100000 in
theorem wr_nest (T : Tb) (hN : isNS T) (p0 : Int32) (p1 : Int32) (p2 : Int32) (p3 : Int32) (p4 : Int32) (σ : Mm) (r : Int32) (σ1 : Mm) (h : F_X5_nest p0 p1 p2 p3 p4 σ = some (.inl r, σ1)) : Ev (.codeWith yL_nest cL_nest 7 (some .int) [(0, 11, 12, 15), (0, 11, 16, 17)]) yL_nest rmW T [.ref 0, .int p0, .int p1, .int p2, .int p3, .int p4] σ (.inl (some (.int r))) T σ1 := by
  refine ev_ofH (lo := [some (.ref 0), some (.int p0), some (.int p1), some (.int p2), some (.int p3), some (.int p4), none]) (j := 1) kw_nest rfl (fun _ => Nat.le_of_ble_eq_true rfl) ?_
  refine rn_aload_n (pc := 0) (i := 0) dL_nest_0 rfl rfl ?_
  refine rn_iload_n (pc := 1) (i := 1) dL_nest_1 rfl rfl ?_
  refine rn_iload_n (pc := 2) (i := 2) dL_nest_2 rfl rfl ?_
  refine rn_iload_n (pc := 3) (i := 3) dL_nest_3 rfl rfl ?_
  refine rn_iload (pc := 4) (i := 4) dL_nest_4 rfl ?_
  refine rn_iload (pc := 6) (i := 5) dL_nest_6 rfl ?_
  refine rn_callV (pc := 8) (r := some (.int r)) hN.1 ⟨_, _, rfl⟩ k_X5_nest.1 k_X5_nest.2.1 k_X5_nest.2.2.1 gw_590 ((c_X5_nest T p0 p1 p2 p3 p4 hN) σ _ σ1 h) rfl rfl (Nat.le_of_ble_eq_true rfl) (Nat.le_of_ble_eq_true rfl) (Nat.le_of_ble_eq_true rfl) (Nat.le_of_ble_eq_true rfl) (Nat.le_of_ble_eq_true rfl) (fun h => by cases h) dL_nest_8 ?_
  exact rn_iret (pc := 11) (Nat.le_of_ble_eq_true rfl) (Nat.le_of_ble_eq_true rfl) dL_nest_11
set_option maxRecDepth 100000 in
theorem wx_nest_1 (T : Tb) (hN : isNS T) (p0 : Int32) (p1 : Int32) (p2 : Int32) (p3 : Int32) (p4 : Int32) (σ σ1 : Mm) (h : F_X5_nest p0 p1 p2 p3 p4 σ = some (.inr 1, σ1)) : Ev (.codeWith yL_nest cL_nest 7 (some .int) [(0, 11, 12, 15), (0, 11, 16, 17)]) yL_nest rmW T [.ref 0, .int p0, .int p1, .int p2, .int p3, .int p4] σ (.inl (some (.int (-1)))) T σ1 := by
  refine ev_ofH (lo := [some (.ref 0), some (.int p0), some (.int p1), some (.int p2), some (.int p3), some (.int p4), none]) (j := 1) kw_nest rfl (fun _ => Nat.le_of_ble_eq_true rfl) ?_
  refine rn_aload_n (pc := 0) (i := 0) dL_nest_0 rfl rfl ?_
  refine rn_iload_n (pc := 1) (i := 1) dL_nest_1 rfl rfl ?_
  refine rn_iload_n (pc := 2) (i := 2) dL_nest_2 rfl rfl ?_
  refine rn_iload_n (pc := 3) (i := 3) dL_nest_3 rfl rfl ?_
  refine rn_iload (pc := 4) (i := 4) dL_nest_4 rfl ?_
  refine rn_iload (pc := 6) (i := 5) dL_nest_6 rfl ?_
  refine rn_callVc (pc := 8) (tableOf []) ⟨0, 11, 12, 15⟩ (tableOf [(0, 11, 16, 17)]) hN.1 ⟨_, _, rfl⟩ k_X5_nest.1 k_X5_nest.2.1 k_X5_nest.2.2.1 gw_590 ((c_X5_nest T p0 p1 p2 p3 p4 hN) σ _ σ1 h) rfl rfl (Nat.le_of_ble_eq_true rfl) (Nat.le_of_ble_eq_true rfl) (Nat.le_of_ble_eq_true rfl) (Nat.le_of_ble_eq_true rfl) (Nat.le_of_ble_eq_true rfl) (fun h => by cases h) rfl (fun z hz => by cases hz) (by decide) (by decide) (by decide) gw_520 (by decide) dL_nest_8 (fun q => ?_)
  refine rn_astoreA (pc := 12) (i := 6) (lo' := [some (.ref 0), some (.int p0), some (.int p1), some (.int p2), some (.int p3), some (.int p4), some (.retAddr q)]) dL_nest_12 (by decide) rfl ?_
  refine rn_iconst (pc := 14) (v := -1) dL_nest_14 (by decide) ?_
  exact rn_iret (pc := 15) (Nat.le_of_ble_eq_true rfl) (Nat.le_of_ble_eq_true rfl) dL_nest_15
set_option maxRecDepth 100000 in
theorem wx_nest_3 (T : Tb) (hN : isNS T) (p0 : Int32) (p1 : Int32) (p2 : Int32) (p3 : Int32) (p4 : Int32) (σ σ1 : Mm) (h : F_X5_nest p0 p1 p2 p3 p4 σ = some (.inr 3, σ1)) : Ev (.codeWith yL_nest cL_nest 7 (some .int) [(0, 11, 12, 15), (0, 11, 16, 17)]) yL_nest rmW T [.ref 0, .int p0, .int p1, .int p2, .int p3, .int p4] σ (.inl (some (.int (-3)))) T σ1 := by
  refine ev_ofH (lo := [some (.ref 0), some (.int p0), some (.int p1), some (.int p2), some (.int p3), some (.int p4), none]) (j := 1) kw_nest rfl (fun _ => Nat.le_of_ble_eq_true rfl) ?_
  refine rn_aload_n (pc := 0) (i := 0) dL_nest_0 rfl rfl ?_
  refine rn_iload_n (pc := 1) (i := 1) dL_nest_1 rfl rfl ?_
  refine rn_iload_n (pc := 2) (i := 2) dL_nest_2 rfl rfl ?_
  refine rn_iload_n (pc := 3) (i := 3) dL_nest_3 rfl rfl ?_
  refine rn_iload (pc := 4) (i := 4) dL_nest_4 rfl ?_
  refine rn_iload (pc := 6) (i := 5) dL_nest_6 rfl ?_
  refine rn_callVc (pc := 8) (tableOf [(0, 11, 12, 15)]) ⟨0, 11, 16, 17⟩ (tableOf []) hN.1 ⟨_, _, rfl⟩ k_X5_nest.1 k_X5_nest.2.1 k_X5_nest.2.2.1 gw_590 ((c_X5_nest T p0 p1 p2 p3 p4 hN) σ _ σ1 h) rfl rfl (Nat.le_of_ble_eq_true rfl) (Nat.le_of_ble_eq_true rfl) (Nat.le_of_ble_eq_true rfl) (Nat.le_of_ble_eq_true rfl) (Nat.le_of_ble_eq_true rfl) (fun h => by cases h) rfl (fun z hz => by simp only [tableOf, List.map_cons, List.map_nil, List.mem_cons, List.not_mem_nil, or_false] at hz; rcases hz with rfl <;> first | exact ⟨by decide, "java/lang/IndexOutOfBoundsException", gw_520, by decide, by decide⟩) (by decide) (by decide) (by decide) gw_521 (by decide) dL_nest_8 (fun q => ?_)
  refine rn_astoreA (pc := 16) (i := 6) (lo' := [some (.ref 0), some (.int p0), some (.int p1), some (.int p2), some (.int p3), some (.int p4), some (.retAddr q)]) dL_nest_16 (by decide) rfl ?_
  refine rn_bipush (pc := 18) (v := -3) dL_nest_18 (by decide) ?_
  exact rn_iret (pc := 20) (Nat.le_of_ble_eq_true rfl) (Nat.le_of_ble_eq_true rfl) dL_nest_20
def cs_nest : List (Nat × Int32) := [((1 : Nat), (-1 : Int32)), ((3 : Nat), (-3 : Int32))]
def F_L_nest (p0 : Int32) (p1 : Int32) (p2 : Int32) (p3 : Int32) (p4 : Int32) : Dm Int32 := ctM cs_nest (F_X5_nest p0 p1 p2 p3 p4)
theorem wq_nest (T : Tb) (hN : isNS T) (p0 : Int32) (p1 : Int32) (p2 : Int32) (p3 : Int32) (p4 : Int32) (σ : Mm) (v : Int32) (σ1 : Mm) (h : F_L_nest p0 p1 p2 p3 p4 σ = some (.inl v, σ1)) : Ev (.codeWith yL_nest cL_nest 7 (some .int) [(0, 11, 12, 15), (0, 11, 16, 17)]) yL_nest rmW T [.ref 0, .int p0, .int p1, .int p2, .int p3, .int p4] σ (.inl (some (.int v))) T σ1 := by
  unfold F_L_nest ctM at h
  cases e : F_X5_nest p0 p1 p2 p3 p4 σ with
  | none => rw [e] at h; cases h
  | some q =>
    obtain ⟨o, σ2⟩ := q
    rw [e] at h
    cases o with
    | inl r =>
      have h : some ((Sum.inl r : Int32 ⊕ Nat), σ2) = some (Sum.inl v, σ1) := h
      injection h with h; injection h with h1 h2; injection h1 with h1; subst h1 h2; exact wr_nest T hN p0 p1 p2 p3 p4 σ r σ2 e
    | inr er =>
      have h : (match lkc cs_nest er with | some c => some ((Sum.inl c : Int32 ⊕ Nat), σ2) | none => none) = some (Sum.inl v, σ1) := h
      by_cases h_1 : er = 1
      · subst h_1
        have h : some ((Sum.inl (-1 : Int32) : Int32 ⊕ Nat), σ2) = some (Sum.inl v, σ1) := h
        injection h with h; injection h with h1 h2; injection h1 with h1; subst h1 h2; exact wx_nest_1 T hN p0 p1 p2 p3 p4 σ σ2 e
      by_cases h_3 : er = 3
      · subst h_3
        have h : some ((Sum.inl (-3 : Int32) : Int32 ⊕ Nat), σ2) = some (Sum.inl v, σ1) := h
        injection h with h; injection h with h1 h2; injection h1 with h1; subst h1 h2; exact wx_nest_3 T hN p0 p1 p2 p3 p4 σ σ2 e
      have hn : lkc cs_nest er = none := by simp [lkc, cs_nest, h_1, h_3]
      rw [hn] at h; cases h
theorem kw_span : CalW yL_span cL_span 7 [(0, 11, 12, 15), (0, 11, 16, 17)] 6 := ⟨gw_564, gw_0, ⟨by decide, by decide⟩, by decide +kernel, by decide +kernel, gw_563⟩
set_option maxRecDepth 100000 in
theorem wr_span (T : Tb) (hN : isNS T) (p0 : Int32) (p1 : Int32) (p2 : Int32) (p3 : Int32) (p4 : Int32) (σ : Mm) (r : Int32) (σ1 : Mm) (h : F_X5_span p0 p1 p2 p3 p4 σ = some (.inl r, σ1)) : Ev (.codeWith yL_span cL_span 7 (some .int) [(0, 11, 12, 15), (0, 11, 16, 17)]) yL_span rmW T [.ref 0, .int p0, .int p1, .int p2, .int p3, .int p4] σ (.inl (some (.int r))) T σ1 := by
  refine ev_ofH (lo := [some (.ref 0), some (.int p0), some (.int p1), some (.int p2), some (.int p3), some (.int p4), none]) (j := 1) kw_span rfl (fun _ => Nat.le_of_ble_eq_true rfl) ?_
  refine rn_aload_n (pc := 0) (i := 0) dL_span_0 rfl rfl ?_
  refine rn_iload_n (pc := 1) (i := 1) dL_span_1 rfl rfl ?_
  refine rn_iload_n (pc := 2) (i := 2) dL_span_2 rfl rfl ?_
  refine rn_iload_n (pc := 3) (i := 3) dL_span_3 rfl rfl ?_
  refine rn_iload (pc := 4) (i := 4) dL_span_4 rfl ?_
  refine rn_iload (pc := 6) (i := 5) dL_span_6 rfl ?_
  refine rn_callV (pc := 8) (r := some (.int r)) hN.1 ⟨_, _, rfl⟩ k_X5_span.1 k_X5_span.2.1 k_X5_span.2.2.1 gw_565 ((c_X5_span T p0 p1 p2 p3 p4 hN) σ _ σ1 h) rfl rfl (Nat.le_of_ble_eq_true rfl) (Nat.le_of_ble_eq_true rfl) (Nat.le_of_ble_eq_true rfl) (Nat.le_of_ble_eq_true rfl) (Nat.le_of_ble_eq_true rfl) (fun h => by cases h) dL_span_8 ?_
  exact rn_iret (pc := 11) (Nat.le_of_ble_eq_true rfl) (Nat.le_of_ble_eq_true rfl) dL_span_11
set_option maxRecDepth 100000 in
theorem wx_span_1 (T : Tb) (hN : isNS T) (p0 : Int32) (p1 : Int32) (p2 : Int32) (p3 : Int32) (p4 : Int32) (σ σ1 : Mm) (h : F_X5_span p0 p1 p2 p3 p4 σ = some (.inr 1, σ1)) : Ev (.codeWith yL_span cL_span 7 (some .int) [(0, 11, 12, 15), (0, 11, 16, 17)]) yL_span rmW T [.ref 0, .int p0, .int p1, .int p2, .int p3, .int p4] σ (.inl (some (.int (-1)))) T σ1 := by
  refine ev_ofH (lo := [some (.ref 0), some (.int p0), some (.int p1), some (.int p2), some (.int p3), some (.int p4), none]) (j := 1) kw_span rfl (fun _ => Nat.le_of_ble_eq_true rfl) ?_
  refine rn_aload_n (pc := 0) (i := 0) dL_span_0 rfl rfl ?_
  refine rn_iload_n (pc := 1) (i := 1) dL_span_1 rfl rfl ?_
  refine rn_iload_n (pc := 2) (i := 2) dL_span_2 rfl rfl ?_
  refine rn_iload_n (pc := 3) (i := 3) dL_span_3 rfl rfl ?_
  refine rn_iload (pc := 4) (i := 4) dL_span_4 rfl ?_
  refine rn_iload (pc := 6) (i := 5) dL_span_6 rfl ?_
  refine rn_callVc (pc := 8) (tableOf []) ⟨0, 11, 12, 15⟩ (tableOf [(0, 11, 16, 17)]) hN.1 ⟨_, _, rfl⟩ k_X5_span.1 k_X5_span.2.1 k_X5_span.2.2.1 gw_565 ((c_X5_span T p0 p1 p2 p3 p4 hN) σ _ σ1 h) rfl rfl (Nat.le_of_ble_eq_true rfl) (Nat.le_of_ble_eq_true rfl) (Nat.le_of_ble_eq_true rfl) (Nat.le_of_ble_eq_true rfl) (Nat.le_of_ble_eq_true rfl) (fun h => by cases h) rfl (fun z hz => by cases hz) (by decide) (by decide) (by decide) gw_520 (by decide) dL_span_8 (fun q => ?_)
  refine rn_astoreA (pc := 12) (i := 6) (lo' := [some (.ref 0), some (.int p0), some (.int p1), some (.int p2), some (.int p3), some (.int p4), some (.retAddr q)]) dL_span_12 (by decide) rfl ?_
  refine rn_iconst (pc := 14) (v := -1) dL_span_14 (by decide) ?_
  exact rn_iret (pc := 15) (Nat.le_of_ble_eq_true rfl) (Nat.le_of_ble_eq_true rfl) dL_span_15
set_option maxRecDepth 100000 in
theorem wx_span_3 (T : Tb) (hN : isNS T) (p0 : Int32) (p1 : Int32) (p2 : Int32) (p3 : Int32) (p4 : Int32) (σ σ1 : Mm) (h : F_X5_span p0 p1 p2 p3 p4 σ = some (.inr 3, σ1)) : Ev (.codeWith yL_span cL_span 7 (some .int) [(0, 11, 12, 15), (0, 11, 16, 17)]) yL_span rmW T [.ref 0, .int p0, .int p1, .int p2, .int p3, .int p4] σ (.inl (some (.int (-3)))) T σ1 := by
  refine ev_ofH (lo := [some (.ref 0), some (.int p0), some (.int p1), some (.int p2), some (.int p3), some (.int p4), none]) (j := 1) kw_span rfl (fun _ => Nat.le_of_ble_eq_true rfl) ?_
  refine rn_aload_n (pc := 0) (i := 0) dL_span_0 rfl rfl ?_
  refine rn_iload_n (pc := 1) (i := 1) dL_span_1 rfl rfl ?_
  refine rn_iload_n (pc := 2) (i := 2) dL_span_2 rfl rfl ?_
  refine rn_iload_n (pc := 3) (i := 3) dL_span_3 rfl rfl ?_
  refine rn_iload (pc := 4) (i := 4) dL_span_4 rfl ?_
  refine rn_iload (pc := 6) (i := 5) dL_span_6 rfl ?_
  refine rn_callVc (pc := 8) (tableOf [(0, 11, 12, 15)]) ⟨0, 11, 16, 17⟩ (tableOf []) hN.1 ⟨_, _, rfl⟩ k_X5_span.1 k_X5_span.2.1 k_X5_span.2.2.1 gw_565 ((c_X5_span T p0 p1 p2 p3 p4 hN) σ _ σ1 h) rfl rfl (Nat.le_of_ble_eq_true rfl) (Nat.le_of_ble_eq_true rfl) (Nat.le_of_ble_eq_true rfl) (Nat.le_of_ble_eq_true rfl) (Nat.le_of_ble_eq_true rfl) (fun h => by cases h) rfl (fun z hz => by simp only [tableOf, List.map_cons, List.map_nil, List.mem_cons, List.not_mem_nil, or_false] at hz; rcases hz with rfl <;> first | exact ⟨by decide, "java/lang/IndexOutOfBoundsException", gw_520, by decide, by decide⟩) (by decide) (by decide) (by decide) gw_521 (by decide) dL_span_8 (fun q => ?_)
  refine rn_astoreA (pc := 16) (i := 6) (lo' := [some (.ref 0), some (.int p0), some (.int p1), some (.int p2), some (.int p3), some (.int p4), some (.retAddr q)]) dL_span_16 (by decide) rfl ?_
  refine rn_bipush (pc := 18) (v := -3) dL_span_18 (by decide) ?_
  exact rn_iret (pc := 20) (Nat.le_of_ble_eq_true rfl) (Nat.le_of_ble_eq_true rfl) dL_span_20
def cs_span : List (Nat × Int32) := [((1 : Nat), (-1 : Int32)), ((3 : Nat), (-3 : Int32))]
def F_L_span (p0 : Int32) (p1 : Int32) (p2 : Int32) (p3 : Int32) (p4 : Int32) : Dm Int32 := ctM cs_span (F_X5_span p0 p1 p2 p3 p4)
theorem wq_span (T : Tb) (hN : isNS T) (p0 : Int32) (p1 : Int32) (p2 : Int32) (p3 : Int32) (p4 : Int32) (σ : Mm) (v : Int32) (σ1 : Mm) (h : F_L_span p0 p1 p2 p3 p4 σ = some (.inl v, σ1)) : Ev (.codeWith yL_span cL_span 7 (some .int) [(0, 11, 12, 15), (0, 11, 16, 17)]) yL_span rmW T [.ref 0, .int p0, .int p1, .int p2, .int p3, .int p4] σ (.inl (some (.int v))) T σ1 := by
  unfold F_L_span ctM at h
  cases e : F_X5_span p0 p1 p2 p3 p4 σ with
  | none => rw [e] at h; cases h
  | some q =>
    obtain ⟨o, σ2⟩ := q
    rw [e] at h
    cases o with
    | inl r =>
      have h : some ((Sum.inl r : Int32 ⊕ Nat), σ2) = some (Sum.inl v, σ1) := h
      injection h with h; injection h with h1 h2; injection h1 with h1; subst h1 h2; exact wr_span T hN p0 p1 p2 p3 p4 σ r σ2 e
    | inr er =>
      have h : (match lkc cs_span er with | some c => some ((Sum.inl c : Int32 ⊕ Nat), σ2) | none => none) = some (Sum.inl v, σ1) := h
      by_cases h_1 : er = 1
      · subst h_1
        have h : some ((Sum.inl (-1 : Int32) : Int32 ⊕ Nat), σ2) = some (Sum.inl v, σ1) := h
        injection h with h; injection h with h1 h2; injection h1 with h1; subst h1 h2; exact wx_span_1 T hN p0 p1 p2 p3 p4 σ σ2 e
      by_cases h_3 : er = 3
      · subst h_3
        have h : some ((Sum.inl (-3 : Int32) : Int32 ⊕ Nat), σ2) = some (Sum.inl v, σ1) := h
        injection h with h; injection h with h1 h2; injection h1 with h1; subst h1 h2; exact wx_span_3 T hN p0 p1 p2 p3 p4 σ σ2 e
      have hn : lkc cs_span er = none := by simp [lkc, cs_span, h_1, h_3]
      rw [hn] at h; cases h
theorem kw_rule : CalW yL_rule cL_rule 7 [(0, 11, 12, 15), (0, 11, 16, 17)] 6 := ⟨gw_600, gw_0, ⟨by decide, by decide⟩, by decide +kernel, by decide +kernel, gw_599⟩
set_option maxRecDepth 100000 in
theorem wr_rule (T : Tb) (hN : isNS T) (p0 : Int32) (p1 : Int32) (p2 : Int32) (p3 : Int32) (p4 : Int32) (σ : Mm) (r : Int32) (σ1 : Mm) (h : F_X5_rule p0 p1 p2 p3 p4 σ = some (.inl r, σ1)) : Ev (.codeWith yL_rule cL_rule 7 (some .int) [(0, 11, 12, 15), (0, 11, 16, 17)]) yL_rule rmW T [.ref 0, .int p0, .int p1, .int p2, .int p3, .int p4] σ (.inl (some (.int r))) T σ1 := by
  refine ev_ofH (lo := [some (.ref 0), some (.int p0), some (.int p1), some (.int p2), some (.int p3), some (.int p4), none]) (j := 1) kw_rule rfl (fun _ => Nat.le_of_ble_eq_true rfl) ?_
  refine rn_aload_n (pc := 0) (i := 0) dL_rule_0 rfl rfl ?_
  refine rn_iload_n (pc := 1) (i := 1) dL_rule_1 rfl rfl ?_
  refine rn_iload_n (pc := 2) (i := 2) dL_rule_2 rfl rfl ?_
  refine rn_iload_n (pc := 3) (i := 3) dL_rule_3 rfl rfl ?_
  refine rn_iload (pc := 4) (i := 4) dL_rule_4 rfl ?_
  refine rn_iload (pc := 6) (i := 5) dL_rule_6 rfl ?_
  refine rn_callV (pc := 8) (r := some (.int r)) hN.1 ⟨_, _, rfl⟩ k_X5_rule.1 k_X5_rule.2.1 k_X5_rule.2.2.1 gw_601 ((c_X5_rule T p0 p1 p2 p3 p4 hN) σ _ σ1 h) rfl rfl (Nat.le_of_ble_eq_true rfl) (Nat.le_of_ble_eq_true rfl) (Nat.le_of_ble_eq_true rfl) (Nat.le_of_ble_eq_true rfl) (Nat.le_of_ble_eq_true rfl) (fun h => by cases h) dL_rule_8 ?_
  exact rn_iret (pc := 11) (Nat.le_of_ble_eq_true rfl) (Nat.le_of_ble_eq_true rfl) dL_rule_11
set_option maxRecDepth 100000 in
theorem wx_rule_1 (T : Tb) (hN : isNS T) (p0 : Int32) (p1 : Int32) (p2 : Int32) (p3 : Int32) (p4 : Int32) (σ σ1 : Mm) (h : F_X5_rule p0 p1 p2 p3 p4 σ = some (.inr 1, σ1)) : Ev (.codeWith yL_rule cL_rule 7 (some .int) [(0, 11, 12, 15), (0, 11, 16, 17)]) yL_rule rmW T [.ref 0, .int p0, .int p1, .int p2, .int p3, .int p4] σ (.inl (some (.int (-1)))) T σ1 := by
  refine ev_ofH (lo := [some (.ref 0), some (.int p0), some (.int p1), some (.int p2), some (.int p3), some (.int p4), none]) (j := 1) kw_rule rfl (fun _ => Nat.le_of_ble_eq_true rfl) ?_
  refine rn_aload_n (pc := 0) (i := 0) dL_rule_0 rfl rfl ?_
  refine rn_iload_n (pc := 1) (i := 1) dL_rule_1 rfl rfl ?_
  refine rn_iload_n (pc := 2) (i := 2) dL_rule_2 rfl rfl ?_
  refine rn_iload_n (pc := 3) (i := 3) dL_rule_3 rfl rfl ?_
  refine rn_iload (pc := 4) (i := 4) dL_rule_4 rfl ?_
  refine rn_iload (pc := 6) (i := 5) dL_rule_6 rfl ?_
  refine rn_callVc (pc := 8) (tableOf []) ⟨0, 11, 12, 15⟩ (tableOf [(0, 11, 16, 17)]) hN.1 ⟨_, _, rfl⟩ k_X5_rule.1 k_X5_rule.2.1 k_X5_rule.2.2.1 gw_601 ((c_X5_rule T p0 p1 p2 p3 p4 hN) σ _ σ1 h) rfl rfl (Nat.le_of_ble_eq_true rfl) (Nat.le_of_ble_eq_true rfl) (Nat.le_of_ble_eq_true rfl) (Nat.le_of_ble_eq_true rfl) (Nat.le_of_ble_eq_true rfl) (fun h => by cases h) rfl (fun z hz => by cases hz) (by decide) (by decide) (by decide) gw_520 (by decide) dL_rule_8 (fun q => ?_)
  refine rn_astoreA (pc := 12) (i := 6) (lo' := [some (.ref 0), some (.int p0), some (.int p1), some (.int p2), some (.int p3), some (.int p4), some (.retAddr q)]) dL_rule_12 (by decide) rfl ?_
  refine rn_iconst (pc := 14) (v := -1) dL_rule_14 (by decide) ?_
  exact rn_iret (pc := 15) (Nat.le_of_ble_eq_true rfl) (Nat.le_of_ble_eq_true rfl) dL_rule_15
set_option maxRecDepth 100000 in
theorem wx_rule_3 (T : Tb) (hN : isNS T) (p0 : Int32) (p1 : Int32) (p2 : Int32) (p3 : Int32) (p4 : Int32) (σ σ1 : Mm) (h : F_X5_rule p0 p1 p2 p3 p4 σ = some (.inr 3, σ1)) : Ev (.codeWith yL_rule cL_rule 7 (some .int) [(0, 11, 12, 15), (0, 11, 16, 17)]) yL_rule rmW T [.ref 0, .int p0, .int p1, .int p2, .int p3, .int p4] σ (.inl (some (.int (-3)))) T σ1 := by
  refine ev_ofH (lo := [some (.ref 0), some (.int p0), some (.int p1), some (.int p2), some (.int p3), some (.int p4), none]) (j := 1) kw_rule rfl (fun _ => Nat.le_of_ble_eq_true rfl) ?_
  refine rn_aload_n (pc := 0) (i := 0) dL_rule_0 rfl rfl ?_
  refine rn_iload_n (pc := 1) (i := 1) dL_rule_1 rfl rfl ?_
  refine rn_iload_n (pc := 2) (i := 2) dL_rule_2 rfl rfl ?_
  refine rn_iload_n (pc := 3) (i := 3) dL_rule_3 rfl rfl ?_
  refine rn_iload (pc := 4) (i := 4) dL_rule_4 rfl ?_
  refine rn_iload (pc := 6) (i := 5) dL_rule_6 rfl ?_
  refine rn_callVc (pc := 8) (tableOf [(0, 11, 12, 15)]) ⟨0, 11, 16, 17⟩ (tableOf []) hN.1 ⟨_, _, rfl⟩ k_X5_rule.1 k_X5_rule.2.1 k_X5_rule.2.2.1 gw_601 ((c_X5_rule T p0 p1 p2 p3 p4 hN) σ _ σ1 h) rfl rfl (Nat.le_of_ble_eq_true rfl) (Nat.le_of_ble_eq_true rfl) (Nat.le_of_ble_eq_true rfl) (Nat.le_of_ble_eq_true rfl) (Nat.le_of_ble_eq_true rfl) (fun h => by cases h) rfl (fun z hz => by simp only [tableOf, List.map_cons, List.map_nil, List.mem_cons, List.not_mem_nil, or_false] at hz; rcases hz with rfl <;> first | exact ⟨by decide, "java/lang/IndexOutOfBoundsException", gw_520, by decide, by decide⟩) (by decide) (by decide) (by decide) gw_521 (by decide) dL_rule_8 (fun q => ?_)
  refine rn_astoreA (pc := 16) (i := 6) (lo' := [some (.ref 0), some (.int p0), some (.int p1), some (.int p2), some (.int p3), some (.int p4), some (.retAddr q)]) dL_rule_16 (by decide) rfl ?_
  refine rn_bipush (pc := 18) (v := -3) dL_rule_18 (by decide) ?_
  exact rn_iret (pc := 20) (Nat.le_of_ble_eq_true rfl) (Nat.le_of_ble_eq_true rfl) dL_rule_20
def cs_rule : List (Nat × Int32) := [((1 : Nat), (-1 : Int32)), ((3 : Nat), (-3 : Int32))]
def F_L_rule (p0 : Int32) (p1 : Int32) (p2 : Int32) (p3 : Int32) (p4 : Int32) : Dm Int32 := ctM cs_rule (F_X5_rule p0 p1 p2 p3 p4)
theorem wq_rule (T : Tb) (hN : isNS T) (p0 : Int32) (p1 : Int32) (p2 : Int32) (p3 : Int32) (p4 : Int32) (σ : Mm) (v : Int32) (σ1 : Mm) (h : F_L_rule p0 p1 p2 p3 p4 σ = some (.inl v, σ1)) : Ev (.codeWith yL_rule cL_rule 7 (some .int) [(0, 11, 12, 15), (0, 11, 16, 17)]) yL_rule rmW T [.ref 0, .int p0, .int p1, .int p2, .int p3, .int p4] σ (.inl (some (.int v))) T σ1 := by
  unfold F_L_rule ctM at h
  cases e : F_X5_rule p0 p1 p2 p3 p4 σ with
  | none => rw [e] at h; cases h
  | some q =>
    obtain ⟨o, σ2⟩ := q
    rw [e] at h
    cases o with
    | inl r =>
      have h : some ((Sum.inl r : Int32 ⊕ Nat), σ2) = some (Sum.inl v, σ1) := h
      injection h with h; injection h with h1 h2; injection h1 with h1; subst h1 h2; exact wr_rule T hN p0 p1 p2 p3 p4 σ r σ2 e
    | inr er =>
      have h : (match lkc cs_rule er with | some c => some ((Sum.inl c : Int32 ⊕ Nat), σ2) | none => none) = some (Sum.inl v, σ1) := h
      by_cases h_1 : er = 1
      · subst h_1
        have h : some ((Sum.inl (-1 : Int32) : Int32 ⊕ Nat), σ2) = some (Sum.inl v, σ1) := h
        injection h with h; injection h with h1 h2; injection h1 with h1; subst h1 h2; exact wx_rule_1 T hN p0 p1 p2 p3 p4 σ σ2 e
      by_cases h_3 : er = 3
      · subst h_3
        have h : some ((Sum.inl (-3 : Int32) : Int32 ⊕ Nat), σ2) = some (Sum.inl v, σ1) := h
        injection h with h; injection h with h1 h2; injection h1 with h1; subst h1 h2; exact wx_rule_3 T hN p0 p1 p2 p3 p4 σ σ2 e
      have hn : lkc cs_rule er = none := by simp [lkc, cs_rule, h_1, h_3]
      rw [hn] at h; cases h
theorem kw_undo : CalW yL_undo cL_undo 2 [(0, 4, 5, 17)] 1 := ⟨gw_608, gw_0, ⟨by decide, by decide⟩, by decide +kernel, by decide +kernel, gw_607⟩
set_option maxRecDepth 100000 in
theorem wr_undo (T : Tb) (hN : isNS T)  (σ : Mm) (r : Int32) (σ1 : Mm) (h : F_X5_undo σ = some (.inl r, σ1)) : Ev (.codeWith yL_undo cL_undo 2 (some .int) [(0, 4, 5, 17)]) yL_undo rmW T [.ref 0] σ (.inl (some (.int r))) T σ1 := by
  refine ev_ofH (lo := [some (.ref 0), none]) (j := 1) kw_undo rfl (fun _ => Nat.le_of_ble_eq_true rfl) ?_
  refine rn_aload_n (pc := 0) (i := 0) dL_undo_0 rfl rfl ?_
  refine rn_callV (pc := 1) (r := some (.int r)) hN.1 ⟨_, _, rfl⟩ k_X5_undo.1 k_X5_undo.2.1 k_X5_undo.2.2.1 gw_609 ((c_X5_undo T hN) σ _ σ1 h) rfl rfl (Nat.le_of_ble_eq_true rfl) (Nat.le_of_ble_eq_true rfl) (Nat.le_of_ble_eq_true rfl) (Nat.le_of_ble_eq_true rfl) (Nat.le_of_ble_eq_true rfl) (fun h => by cases h) dL_undo_1 ?_
  exact rn_iret (pc := 4) (Nat.le_of_ble_eq_true rfl) (Nat.le_of_ble_eq_true rfl) dL_undo_4
set_option maxRecDepth 100000 in
theorem wx_undo_3 (T : Tb) (hN : isNS T)  (σ σ1 : Mm) (h : F_X5_undo σ = some (.inr 3, σ1)) : Ev (.codeWith yL_undo cL_undo 2 (some .int) [(0, 4, 5, 17)]) yL_undo rmW T [.ref 0] σ (.inl (some (.int (-3)))) T σ1 := by
  refine ev_ofH (lo := [some (.ref 0), none]) (j := 1) kw_undo rfl (fun _ => Nat.le_of_ble_eq_true rfl) ?_
  refine rn_aload_n (pc := 0) (i := 0) dL_undo_0 rfl rfl ?_
  refine rn_callVc (pc := 1) (tableOf []) ⟨0, 4, 5, 17⟩ (tableOf []) hN.1 ⟨_, _, rfl⟩ k_X5_undo.1 k_X5_undo.2.1 k_X5_undo.2.2.1 gw_609 ((c_X5_undo T hN) σ _ σ1 h) rfl rfl (Nat.le_of_ble_eq_true rfl) (Nat.le_of_ble_eq_true rfl) (Nat.le_of_ble_eq_true rfl) (Nat.le_of_ble_eq_true rfl) (Nat.le_of_ble_eq_true rfl) (fun h => by cases h) rfl (fun z hz => by cases hz) (by decide) (by decide) (by decide) gw_521 (by decide) dL_undo_1 (fun q => ?_)
  refine rn_astore_nA (pc := 5) (i := 1) (lo' := [some (.ref 0), some (.retAddr q)]) dL_undo_5 rfl (by decide) rfl ?_
  refine rn_bipush (pc := 6) (v := -3) dL_undo_6 (by decide) ?_
  exact rn_iret (pc := 8) (Nat.le_of_ble_eq_true rfl) (Nat.le_of_ble_eq_true rfl) dL_undo_8
def cs_undo : List (Nat × Int32) := [((3 : Nat), (-3 : Int32))]
def F_L_undo  : Dm Int32 := ctM cs_undo (F_X5_undo)
theorem wq_undo (T : Tb) (hN : isNS T)  (σ : Mm) (v : Int32) (σ1 : Mm) (h : F_L_undo σ = some (.inl v, σ1)) : Ev (.codeWith yL_undo cL_undo 2 (some .int) [(0, 4, 5, 17)]) yL_undo rmW T [.ref 0] σ (.inl (some (.int v))) T σ1 := by
  unfold F_L_undo ctM at h
  cases e : F_X5_undo σ with
  | none => rw [e] at h; cases h
  | some q =>
    obtain ⟨o, σ2⟩ := q
    rw [e] at h
    cases o with
    | inl r =>
      have h : some ((Sum.inl r : Int32 ⊕ Nat), σ2) = some (Sum.inl v, σ1) := h
      injection h with h; injection h with h1 h2; injection h1 with h1; subst h1 h2; exact wr_undo T hN σ r σ2 e
    | inr er =>
      have h : (match lkc cs_undo er with | some c => some ((Sum.inl c : Int32 ⊕ Nat), σ2) | none => none) = some (Sum.inl v, σ1) := h
      by_cases h_3 : er = 3
      · subst h_3
        have h : some ((Sum.inl (-3 : Int32) : Int32 ⊕ Nat), σ2) = some (Sum.inl v, σ1) := h
        injection h with h; injection h with h1 h2; injection h1 with h1; subst h1 h2; exact wx_undo_3 T hN σ σ2 e
      have hn : lkc cs_undo er = none := by simp [lkc, cs_undo, h_3]
      rw [hn] at h; cases h
