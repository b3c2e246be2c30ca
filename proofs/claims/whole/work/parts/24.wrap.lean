theorem gw_586 : Cond.codeWith yL_begin cL_begin 5 (some .int) [(0, 10, 13, 13)] ∈ GW := List.mem_filter.mpr ⟨List.mem_append_right _ (List.mem_of_getElem? (i := 586) (by decide +kernel)), by decide +kernel⟩
theorem gw_585 : Cond.static yL_begin ∈ GW := List.mem_filter.mpr ⟨List.mem_append_right _ (List.mem_of_getElem? (i := 585) (by decide +kernel)), by decide +kernel⟩
theorem gw_0 : Cond.initialized RL ∈ GW := List.mem_filter.mpr ⟨List.mem_append_right _ (List.mem_of_getElem? (i := 0) (by decide +kernel)), by decide +kernel⟩
theorem gw_588 : Cond.methodLink RL 7 yX5_begin ∈ GW := List.mem_filter.mpr ⟨List.mem_append_right _ (List.mem_of_getElem? (i := 588) (by decide +kernel)), by decide +kernel⟩
theorem gw_587 : Cond.classLink RL 13 "java/lang/IllegalArgumentException" ∈ GW := List.mem_filter.mpr ⟨List.mem_append_right _ (List.mem_of_getElem? (i := 587) (by decide +kernel)), by decide +kernel⟩
theorem gw_606 : Cond.codeWith yL_nest cL_nest 8 (some .int) [(0, 16, 19, 19), (0, 16, 23, 13), (0, 16, 27, 21)] ∈ GW := List.mem_filter.mpr ⟨List.mem_append_right _ (List.mem_of_getElem? (i := 606) (by decide +kernel)), by decide +kernel⟩
theorem gw_605 : Cond.static yL_nest ∈ GW := List.mem_filter.mpr ⟨List.mem_append_right _ (List.mem_of_getElem? (i := 605) (by decide +kernel)), by decide +kernel⟩
theorem gw_609 : Cond.methodLink RL 15 yX5_nest ∈ GW := List.mem_filter.mpr ⟨List.mem_append_right _ (List.mem_of_getElem? (i := 609) (by decide +kernel)), by decide +kernel⟩
theorem gw_607 : Cond.classLink RL 19 "java/lang/IndexOutOfBoundsException" ∈ GW := List.mem_filter.mpr ⟨List.mem_append_right _ (List.mem_of_getElem? (i := 607) (by decide +kernel)), by decide +kernel⟩
theorem gw_608 : Cond.classLink RL 21 "java/lang/IllegalStateException" ∈ GW := List.mem_filter.mpr ⟨List.mem_append_right _ (List.mem_of_getElem? (i := 608) (by decide +kernel)), by decide +kernel⟩
theorem gw_638 : Cond.codeWith yL_put cL_put 8 (some .int) [(0, 16, 19, 19), (0, 16, 23, 13), (0, 16, 27, 21)] ∈ GW := List.mem_filter.mpr ⟨List.mem_append_right _ (List.mem_of_getElem? (i := 638) (by decide +kernel)), by decide +kernel⟩
theorem gw_637 : Cond.static yL_put ∈ GW := List.mem_filter.mpr ⟨List.mem_append_right _ (List.mem_of_getElem? (i := 637) (by decide +kernel)), by decide +kernel⟩
theorem gw_639 : Cond.methodLink RL 23 yX5_put ∈ GW := List.mem_filter.mpr ⟨List.mem_append_right _ (List.mem_of_getElem? (i := 639) (by decide +kernel)), by decide +kernel⟩
theorem gw_652 : Cond.codeWith yL_span cL_span 8 (some .int) [(0, 16, 19, 19), (0, 16, 23, 13), (0, 16, 27, 21)] ∈ GW := List.mem_filter.mpr ⟨List.mem_append_right _ (List.mem_of_getElem? (i := 652) (by decide +kernel)), by decide +kernel⟩
theorem gw_651 : Cond.static yL_span ∈ GW := List.mem_filter.mpr ⟨List.mem_append_right _ (List.mem_of_getElem? (i := 651) (by decide +kernel)), by decide +kernel⟩
theorem gw_653 : Cond.methodLink RL 26 yX5_span ∈ GW := List.mem_filter.mpr ⟨List.mem_append_right _ (List.mem_of_getElem? (i := 653) (by decide +kernel)), by decide +kernel⟩
theorem gw_676 : Cond.codeWith yL_rule cL_rule 8 (some .int) [(0, 16, 19, 19), (0, 16, 23, 13), (0, 16, 27, 21)] ∈ GW := List.mem_filter.mpr ⟨List.mem_append_right _ (List.mem_of_getElem? (i := 676) (by decide +kernel)), by decide +kernel⟩
theorem gw_675 : Cond.static yL_rule ∈ GW := List.mem_filter.mpr ⟨List.mem_append_right _ (List.mem_of_getElem? (i := 675) (by decide +kernel)), by decide +kernel⟩
theorem gw_677 : Cond.methodLink RL 29 yX5_rule ∈ GW := List.mem_filter.mpr ⟨List.mem_append_right _ (List.mem_of_getElem? (i := 677) (by decide +kernel)), by decide +kernel⟩
theorem gw_684 : Cond.codeWith yL_set cL_set 4 (some .int) [(0, 9, 12, 13)] ∈ GW := List.mem_filter.mpr ⟨List.mem_append_right _ (List.mem_of_getElem? (i := 684) (by decide +kernel)), by decide +kernel⟩
theorem gw_683 : Cond.static yL_set ∈ GW := List.mem_filter.mpr ⟨List.mem_append_right _ (List.mem_of_getElem? (i := 683) (by decide +kernel)), by decide +kernel⟩
theorem gw_685 : Cond.methodLink RL 32 yX5_set ∈ GW := List.mem_filter.mpr ⟨List.mem_append_right _ (List.mem_of_getElem? (i := 685) (by decide +kernel)), by decide +kernel⟩
theorem gw_691 : Cond.codeWith yL_append cL_append 4 (some .int) [(0, 9, 12, 13), (0, 9, 15, 21)] ∈ GW := List.mem_filter.mpr ⟨List.mem_append_right _ (List.mem_of_getElem? (i := 691) (by decide +kernel)), by decide +kernel⟩
theorem gw_690 : Cond.static yL_append ∈ GW := List.mem_filter.mpr ⟨List.mem_append_right _ (List.mem_of_getElem? (i := 690) (by decide +kernel)), by decide +kernel⟩
theorem gw_692 : Cond.methodLink RL 36 yX5_append ∈ GW := List.mem_filter.mpr ⟨List.mem_append_right _ (List.mem_of_getElem? (i := 692) (by decide +kernel)), by decide +kernel⟩
theorem gw_703 : Cond.codeWith yL_run cL_run 3 (some .int) [(0, 8, 11, 13)] ∈ GW := List.mem_filter.mpr ⟨List.mem_append_right _ (List.mem_of_getElem? (i := 703) (by decide +kernel)), by decide +kernel⟩
theorem gw_702 : Cond.static yL_run ∈ GW := List.mem_filter.mpr ⟨List.mem_append_right _ (List.mem_of_getElem? (i := 702) (by decide +kernel)), by decide +kernel⟩
theorem gw_704 : Cond.methodLink RL 39 yX5_run ∈ GW := List.mem_filter.mpr ⟨List.mem_append_right _ (List.mem_of_getElem? (i := 704) (by decide +kernel)), by decide +kernel⟩
theorem gw_742 : Cond.codeWith yL_undo cL_undo 3 (some .int) [(0, 8, 11, 21)] ∈ GW := List.mem_filter.mpr ⟨List.mem_append_right _ (List.mem_of_getElem? (i := 742) (by decide +kernel)), by decide +kernel⟩
theorem gw_741 : Cond.static yL_undo ∈ GW := List.mem_filter.mpr ⟨List.mem_append_right _ (List.mem_of_getElem? (i := 741) (by decide +kernel)), by decide +kernel⟩
theorem gw_743 : Cond.methodLink RL 43 yX5_undo ∈ GW := List.mem_filter.mpr ⟨List.mem_append_right _ (List.mem_of_getElem? (i := 743) (by decide +kernel)), by decide +kernel⟩
theorem gw_753 : Cond.codeWith yL_cell cL_cell 7 (some .int) [(0, 14, 17, 19), (0, 14, 21, 13)] ∈ GW := List.mem_filter.mpr ⟨List.mem_append_right _ (List.mem_of_getElem? (i := 753) (by decide +kernel)), by decide +kernel⟩
theorem gw_752 : Cond.static yL_cell ∈ GW := List.mem_filter.mpr ⟨List.mem_append_right _ (List.mem_of_getElem? (i := 752) (by decide +kernel)), by decide +kernel⟩
theorem gw_754 : Cond.methodLink RL 46 yX5_cell ∈ GW := List.mem_filter.mpr ⟨List.mem_append_right _ (List.mem_of_getElem? (i := 754) (by decide +kernel)), by decide +kernel⟩
theorem gw_760 : Cond.codeWith yL_edge cL_edge 7 (some .int) [(0, 14, 17, 19), (0, 14, 21, 13)] ∈ GW := List.mem_filter.mpr ⟨List.mem_append_right _ (List.mem_of_getElem? (i := 760) (by decide +kernel)), by decide +kernel⟩
theorem gw_759 : Cond.static yL_edge ∈ GW := List.mem_filter.mpr ⟨List.mem_append_right _ (List.mem_of_getElem? (i := 759) (by decide +kernel)), by decide +kernel⟩
theorem gw_761 : Cond.methodLink RL 50 yX5_edge ∈ GW := List.mem_filter.mpr ⟨List.mem_append_right _ (List.mem_of_getElem? (i := 761) (by decide +kernel)), by decide +kernel⟩
theorem gw_767 : Cond.codeWith yL_table cL_table 5 (some .int) [(0, 10, 13, 19), (0, 10, 17, 13)] ∈ GW := List.mem_filter.mpr ⟨List.mem_append_right _ (List.mem_of_getElem? (i := 767) (by decide +kernel)), by decide +kernel⟩
theorem gw_766 : Cond.static yL_table ∈ GW := List.mem_filter.mpr ⟨List.mem_append_right _ (List.mem_of_getElem? (i := 766) (by decide +kernel)), by decide +kernel⟩
theorem gw_768 : Cond.methodLink RL 53 yX5_table ∈ GW := List.mem_filter.mpr ⟨List.mem_append_right _ (List.mem_of_getElem? (i := 768) (by decide +kernel)), by decide +kernel⟩
theorem gw_779 : Cond.codeWith yL_size cL_size 6 (some .int) [(0, 12, 15, 19)] ∈ GW := List.mem_filter.mpr ⟨List.mem_append_right _ (List.mem_of_getElem? (i := 779) (by decide +kernel)), by decide +kernel⟩
theorem gw_778 : Cond.static yL_size ∈ GW := List.mem_filter.mpr ⟨List.mem_append_right _ (List.mem_of_getElem? (i := 778) (by decide +kernel)), by decide +kernel⟩
theorem gw_780 : Cond.methodLink RL 56 yX5_size ∈ GW := List.mem_filter.mpr ⟨List.mem_append_right _ (List.mem_of_getElem? (i := 780) (by decide +kernel)), by decide +kernel⟩
theorem gw_786 : Cond.codeWith yL_page cL_page 4 (some .int) [(0, 9, 12, 19)] ∈ GW := List.mem_filter.mpr ⟨List.mem_append_right _ (List.mem_of_getElem? (i := 786) (by decide +kernel)), by decide +kernel⟩
theorem gw_785 : Cond.static yL_page ∈ GW := List.mem_filter.mpr ⟨List.mem_append_right _ (List.mem_of_getElem? (i := 785) (by decide +kernel)), by decide +kernel⟩
theorem gw_787 : Cond.methodLink RL 60 yX5_page ∈ GW := List.mem_filter.mpr ⟨List.mem_append_right _ (List.mem_of_getElem? (i := 787) (by decide +kernel)), by decide +kernel⟩
theorem gw_790 : Cond.codeWith yL_count cL_count 4 (some .int) [(0, 9, 12, 13)] ∈ GW := List.mem_filter.mpr ⟨List.mem_append_right _ (List.mem_of_getElem? (i := 790) (by decide +kernel)), by decide +kernel⟩
theorem gw_789 : Cond.static yL_count ∈ GW := List.mem_filter.mpr ⟨List.mem_append_right _ (List.mem_of_getElem? (i := 789) (by decide +kernel)), by decide +kernel⟩
theorem gw_791 : Cond.methodLink RL 63 yX5_count ∈ GW := List.mem_filter.mpr ⟨List.mem_append_right _ (List.mem_of_getElem? (i := 791) (by decide +kernel)), by decide +kernel⟩
theorem gw_794 : Cond.codeWith yL_ifPut cL_ifPut 8 (some .int) [(0, 16, 19, 19), (0, 16, 23, 13)] ∈ GW := List.mem_filter.mpr ⟨List.mem_append_right _ (List.mem_of_getElem? (i := 794) (by decide +kernel)), by decide +kernel⟩
theorem gw_793 : Cond.static yL_ifPut ∈ GW := List.mem_filter.mpr ⟨List.mem_append_right _ (List.mem_of_getElem? (i := 793) (by decide +kernel)), by decide +kernel⟩
theorem gw_795 : Cond.methodLink RL 66 yX5_ifPut ∈ GW := List.mem_filter.mpr ⟨List.mem_append_right _ (List.mem_of_getElem? (i := 795) (by decide +kernel)), by decide +kernel⟩
theorem gw_801 : Cond.codeWith yL_countedBy cL_countedBy 6 (some .int) [(0, 12, 15, 19)] ∈ GW := List.mem_filter.mpr ⟨List.mem_append_right _ (List.mem_of_getElem? (i := 801) (by decide +kernel)), by decide +kernel⟩
theorem gw_800 : Cond.static yL_countedBy ∈ GW := List.mem_filter.mpr ⟨List.mem_append_right _ (List.mem_of_getElem? (i := 800) (by decide +kernel)), by decide +kernel⟩
theorem gw_802 : Cond.methodLink RL 69 yX5_countedBy ∈ GW := List.mem_filter.mpr ⟨List.mem_append_right _ (List.mem_of_getElem? (i := 802) (by decide +kernel)), by decide +kernel⟩
theorem gw_808 : Cond.codeWith yL_heightFor cL_heightFor 4 (some .int) [(0, 9, 12, 13)] ∈ GW := List.mem_filter.mpr ⟨List.mem_append_right _ (List.mem_of_getElem? (i := 808) (by decide +kernel)), by decide +kernel⟩
theorem gw_807 : Cond.static yL_heightFor ∈ GW := List.mem_filter.mpr ⟨List.mem_append_right _ (List.mem_of_getElem? (i := 807) (by decide +kernel)), by decide +kernel⟩
theorem gw_809 : Cond.methodLink RL 73 yX5_heightFor ∈ GW := List.mem_filter.mpr ⟨List.mem_append_right _ (List.mem_of_getElem? (i := 809) (by decide +kernel)), by decide +kernel⟩
theorem rn_aload_nA {yy : MethodName} {cc : ByteArray} {maxL : Nat} {ret : Option FieldType} {et : List ExceptionTableEntry} {rm : Room} {Qf : List Frame → Array Value → State → Nat → va_G → ClassId → ClassId → ClassId → State → Prop} {Xf : State → Nat → Prop} {ex : Bool} {k n : Nat} {T : Tb} {pc : Nat} {lo : List (Option Value)} {st : List Value} {σ : Mm} {j : Fin 4} {i : Nat} {x : Nat} (d : decode cc pc = .ok (.aload_n j, 1)) (hi : (j : Nat) = i) (hl : lo[i]? = some (some (.retAddr x))) (kk : RnQ yy cc maxL ret et rm Qf Xf ex k n T (pc + 1) lo (.retAddr x :: st) σ) : RnQ yy cc maxL ret et rm Qf Xf ex k n T pc lo st σ := fun p l e s m args below meth c hs D cI cL cS H locs ls hC hX hZ hP hS hL => lv_aload_n hC.x hC.b d hi (hL.at hl) (kk p l e s m args below meth c hs D cI cL cS H locs ls hC hX hZ hP hS hL)
theorem rn_astore_nA {yy : MethodName} {cc : ByteArray} {maxL : Nat} {ret : Option FieldType} {et : List ExceptionTableEntry} {rm : Room} {Qf : List Frame → Array Value → State → Nat → va_G → ClassId → ClassId → ClassId → State → Prop} {Xf : State → Nat → Prop} {ex : Bool} {k n : Nat} {T : Tb} {pc : Nat} {lo : List (Option Value)} {st : List Value} {σ : Mm} {j : Fin 4} {i : Nat} {x : Nat} {lo' : List (Option Value)} (d : decode cc pc = .ok (.astore_n j, 1)) (hi : (j : Nat) = i) (hn : i < maxL) (hl : sto lo i (.retAddr x) = lo') (kk : RnQ yy cc maxL ret et rm Qf Xf ex k n T (pc + 1) lo' st σ) : RnQ yy cc maxL ret et rm Qf Xf ex k n T pc lo (.retAddr x :: st) σ := fun p l e s m args below meth c hs D cI cL cS H locs ls hC hX hZ hP hS hL => lv_astore_n hC.x hC.b d hi hL.has hn rfl (fun ls' h => kk p l e s m args below meth c hs D cI cL cS H locs ls' hC hX hZ hP hS (hl ▸ Lr_sto (v := .retAddr x) h))
theorem rn_astoreA {yy : MethodName} {cc : ByteArray} {maxL : Nat} {ret : Option FieldType} {et : List ExceptionTableEntry} {rm : Room} {Qf : List Frame → Array Value → State → Nat → va_G → ClassId → ClassId → ClassId → State → Prop} {Xf : State → Nat → Prop} {ex : Bool} {k n : Nat} {T : Tb} {pc : Nat} {lo : List (Option Value)} {st : List Value} {σ : Mm} {i : Nat} {x : Nat} {lo' : List (Option Value)} (d : decode cc pc = .ok (.astore i, 2)) (hn : i < maxL) (hl : sto lo i (.retAddr x) = lo') (kk : RnQ yy cc maxL ret et rm Qf Xf ex k n T (pc + 2) lo' st σ) : RnQ yy cc maxL ret et rm Qf Xf ex k n T pc lo (.retAddr x :: st) σ := fun p l e s m args below meth c hs D cI cL cS H locs ls hC hX hZ hP hS hL => lv_astore hC.x hC.b d hL.has hn rfl (fun ls' h => kk p l e s m args below meth c hs D cI cL cS H locs ls' hC hX hZ hP hS (hl ▸ Lr_sto (v := .retAddr x) h))
/-- a call that throws, and the handler here -/
theorem rn_callVc {yy : MethodName} {cc : ByteArray} {maxL : Nat} {ret : Option FieldType} {et : List ExceptionTableEntry} {rm : Room} {Qf : List Frame → Array Value → State → Nat → va_G → ClassId → ClassId → ClassId → State → Prop} {Xf : State → Nat → Prop} {ex : Bool} {k n : Nat} {T : Tb} {pc : Nat} {lo : List (Option Value)} {st : List Value} {σ : Mm} {y' : MethodName} {bytes : ByteArray} {mL a idx : Nat} {rt : Option FieldType} {rm' : Room} {as st0 : List Value} {T1 : Tb} {σ1 : Mm} {er : Nat} {b ci : Nat} {fl : List Nat} (pre : List ExceptionTableEntry) (x : ExceptionTableEntry) (suf : List ExceptionTableEntry) (hT : T[b]? = some (3, ci, fl)) (hci : ∃ (TT : u_T) (N : Nat), vwCl[ci]? = some (y'.cls, TT, N)) (cal : Cal y' bytes mL rt a) (hin : Cond.instanceMethod y' ∈ GW) (hse : Cond.selects y'.cls y' y' ∈ GW) (hlk : Cond.methodLink yy.cls idx y' ∈ GW) (ev : Ev (.code y' bytes mL rt) y' rm' T (.ref b :: as) σ (.inr er) T1 σ1) (hlen : as.length = a) (hst : st0 = as.reverse ++ .ref b :: st) (hw : (st.map fun v => v.category).sum ≤ 8) (hfr : rm'.frames + 1 ≤ rm.frames) (hlo : 8 + (mL + 11) + rm'.locals ≤ rm.locals) (hc : k + rm'.cells ≤ rm.cells) (hs9 : n + rm'.slots ≤ rm.slots) (hx : ex = true → T1.length = T.length + rm'.cells) (hsplit : et = pre ++ x :: suf) (hpass : ∀ z ∈ pre, z.catchType ≠ 0 ∧ ∃ nm : String, Cond.classLink yy.cls z.catchType nm ∈ GW ∧ nm ∈ exL ∧ exName er ≠ nm) (hE : exName er ∈ exL) (hcov : covers x pc = true) (h0 : x.catchType ≠ 0) (hlink : Cond.classLink yy.cls x.catchType (exName er) ∈ GW) (hcast : Cond.castable (exName er) (exName er) ∈ xwL) (d : decode cc pc = .ok (.invokevirtual idx, 3)) (kk : ∀ q : Nat, RnQ yy cc maxL ret et rm Qf Xf ex (k + rm'.cells) (n + rm'.slots) T1 x.handlerPc lo [.retAddr q] σ1) : RnQ yy cc maxL ret et rm Qf Xf ex k n T pc lo st0 σ := by
  intro p l e s m args below meth c hs D cI cL cS H locs ls hC hX hZ hP hS hL
  obtain ⟨TT, N, hci⟩ := hci
  have run := vx_runV (p := p) (l := l) (e := e) (R := rm) (s := s) (m := m) (args := args) (below := below) (meth := meth) (c := c) (H := H) (locs := locs) (cells := k) (slots := n) (g := F0 m pc ls (st0.map (ge hs))) (As := as.map (ge hs)) (rest := st.map (ge hs)) ⟨hC.x, hC.b, hC.ml, hC.ow, hC.ts⟩ (ev l hC.st hs D cI cL cS) ⟨callB_of a hC.ts (gw_in cal.1) rfl rfl rfl (hC.ts _ cal.2.1) (hC.ts _ hlk) ⟨cal.2.2.1.1, cal.2.2.1.2, cal.2.2.2.1⟩ ⟨hfr, hlo⟩, hC.ts _ hin, hC.ts _ hse⟩ ⟨PreE.blind, va_recv hC.wk.1 hP hci (wsO_get hT), fun U hU hW => pre_of hC hP hS hU hW rfl⟩ rfl ((List.length_map _).trans hlen) hL.1 (stk_map hst) (lv_room (by rw [cat_map]; exact hw)) d ⟨hc, hs9⟩
  refine aft_thr run hS (fun H1 locs1 ce q9 hP1 hS1 h1 h2 h3 => ?_)
  exact vx_catch hC.ow pre x suf (by rw [hC.ex]; exact hsplit) (fun z hz => Or.inr ⟨(hpass z hz).1, by obtain ⟨nm, g1, g2, g3⟩ := (hpass z hz).2; exact ⟨nm, hC.ts _ g1, hC.wk.2.2.2.1 _ hE nm g2 g3⟩⟩) hcov h0 (hC.ts _ hlink) (va_Nw.use (xw_tab hcast) (hC.wk.2.2.2.2.1 _ hcast)) h1 h2 h3 (kk q9 p l e s m args below meth c hs D cI cL cS H1 locs1 ls hC hX (fun h => by rw [hx h]; have := hZ h; omega) hP1 hS1 hL)
/-- what a wrapper needs of the tables -/
def CalW (y : MethodName) (bytes : ByteArray) (mL : Nat) (hh : List (Nat × Nat × Nat × Nat)) (a : Nat) : Prop := Cond.codeWith y bytes mL (some .int) hh ∈ GW ∧ Cond.initialized y.cls ∈ GW ∧ (y.cls ≠ "java/lang/invoke/MethodHandle" ∧ y.cls ≠ "java/lang/invoke/VarHandle") ∧ (parseMethodDescriptor y.desc).map (fun d => d.parameters.length) = some a ∧ plainName y.cls = true ∧ Cond.static y ∈ GW
theorem ev_ofH {y : MethodName} {cc : ByteArray} {maxL a j : Nat} {hh : List (Nat × Nat × Nat × Nat)} {rm : Room} {o : Option Value ⊕ Nat} {T T' : Tb} {σ σ' : Mm} {as : List Value} {lo : List (Option Value)} (cal : CalW y cc maxL hh a) (hlo : lo = loA as ++ List.replicate j none) (hlen : ∀ hs : Nat, (lg_sl (as.map (ge hs))).length ≤ maxL) (h : Rn y cc maxL (some .int) (tableOf hh) rm o T' σ' false 0 0 T 0 lo [] σ) : Ev (.codeWith y cc maxL (some .int) hh) y rm T as σ o T' σ' := by
  intro l hl hs D cI cL cS
  refine vx_ofWH (cc := cc) (maxL := maxL) (ret := some .int) (hh := hh) cal.2.2.2.2.1 rfl ?_
  intro p e s m args below meth c s₁ B hml hv
  obtain ⟨rfl, hP, hWK, hWZ, hsz⟩ := hv
  have hts := atoms_spec (ws := .codeWith y cc maxL (some .int) hh :: GW) B.pre
  have hl0 := lv_entry (as.map (ge hs)) (n := maxL) (hlen hs)
  rw [lg_entry_eq]
  generalize (lg_sl (as.map (ge hs)) ++ List.replicate (maxL - (lg_sl (as.map (ge hs))).length) Slot.unset).toArray = ls at hl0 ⊢
  refine h p l e s m _ below meth c hs D cI cL cS s.heap [] ls ⟨B.exec, B.bytes, B.returns, hml, findClass_of_methodNamed B.named, fun w hw => hts w (List.mem_cons_of_mem _ hw), B.notSynchronized, hl, hWK, hWZ, hsz, vx_table (x := y) B (hts _ List.mem_cons_self), (name_of_methodNamed B.named B.method).1⟩ trivial (fun h => by cases h) hP va_S.rf ⟨hl0.1, hl0.2.1, fun i v hi => ?_⟩
  rw [hlo] at hi
  have h2 := loA_at (hs := hs) as 0 i v (loA_pad hi)
  rw [Nat.zero_add] at h2
  exact hl0.2.2 _ h2
theorem rn_callSH {yy : MethodName} {cc : ByteArray} {maxL : Nat} {ret : Option FieldType} {et : List ExceptionTableEntry} {rm : Room} {Qf : List Frame → Array Value → State → Nat → va_G → ClassId → ClassId → ClassId → State → Prop} {Xf : State → Nat → Prop} {ex : Bool} {k n : Nat} {T : Tb} {pc : Nat} {lo : List (Option Value)} {st : List Value} {σ : Mm} {y' : MethodName} {bytes : ByteArray} {mL a idx : Nat} {hh : List (Nat × Nat × Nat × Nat)} {rm' : Room} {as st0 : List Value} {T1 : Tb} {σ1 : Mm} {r : Option Value} (cal : CalW y' bytes mL hh a) (hlk : Cond.methodLink yy.cls idx y' ∈ GW) (ev : Ev (.codeWith y' bytes mL (some .int) hh) y' rm' T as σ (.inl r) T1 σ1) (hlen : as.length = a) (hst : st0 = as.reverse ++ st) (hw : (st.map fun v => v.category).sum ≤ 8) (hfr : rm'.frames + 1 ≤ rm.frames) (hlo : 8 + (mL + 11) + rm'.locals ≤ rm.locals) (hc : k + rm'.cells ≤ rm.cells) (hs9 : n + rm'.slots ≤ rm.slots) (hx : ex = true → T1.length = T.length + rm'.cells) (d : decode cc pc = .ok (.invokestatic idx, 3)) (kk : RnQ yy cc maxL ret et rm Qf Xf ex (k + rm'.cells) (n + rm'.slots) T1 (pc + 3) lo (r.toList ++ st) σ1) : RnQ yy cc maxL ret et rm Qf Xf ex k n T pc lo st0 σ := by
  intro p l e s m args below meth c hs D cI cL cS H locs ls hC hX hZ hP hS hL
  have hG : GoodIn GW (va_wsS yy.cls idx y' (.codeWith y' bytes mL (some .int) hh :: GW)) := by
    intro w hw9
    unfold va_wsS at hw9
    rcases List.mem_append.mp hw9 with h | h
    · simp only [List.mem_cons, List.not_mem_nil, or_false] at h
      rcases h with rfl | rfl | rfl
      · exact ⟨hlk, good_of_word (gw_good hlk)⟩
      · exact ⟨cal.2.2.2.2.2, good_of_word (gw_good cal.2.2.2.2.2)⟩
      · exact ⟨cal.2.1, good_of_word (gw_good cal.2.1)⟩
    · exact gw_in cal.1 w h
  have run := vx_runSX (p := p) (l := l) (e := e) (R := rm) (s := s) (m := m) (args := args) (below := below) (meth := meth) (c := c) (H := H) (locs := locs) (cells := k) (slots := n) (g := F0 m pc ls (st0.map (ge hs))) (As := as.map (ge hs)) (rest := st.map (ge hs)) ⟨hC.x, hC.b, hC.ml, hC.ow, hC.ts⟩ (ev l hC.st hs D cI cL cS) (vx_cwSW a hC.ts hG rfl rfl rfl ⟨cal.2.2.1.1, cal.2.2.1.2, cal.2.2.2.1⟩ ⟨hfr, hlo⟩) ⟨PreE.blind, fun U hU hW => pre_of hC hP hS hU hW rfl⟩ rfl ((List.length_map _).trans hlen) hL.1 (stk_mapS hst) (lv_room (by rw [cat_map]; exact hw)) d ⟨hc, hs9⟩
  exact aft_ret run hS (fun H1 locs1 hP1 hS1 => res_map (hs := hs) (r := r) (st := st) ▸ kk p l e s m args below meth c hs D cI cL cS H1 locs1 ls hC hX (fun h => by rw [hx h]; have := hZ h; omega) hP1 hS1 hL)
def rmW : Room := { frames := 10, cells := 1, slots := 6, locals := 440 }
theorem kw_begin : CalW yL_begin cL_begin 5 [(0, 10, 13, 13)] 4 := ⟨gw_586, gw_0, ⟨by decide, by decide⟩, by decide +kernel, by decide +kernel, gw_585⟩
set_option maxRecDepth 100000 in
theorem wr_begin (T : Tb) (hN : isNS T) (hO : T[185]? = some (1, 1, [])) (p0 : Int32) (p1 : Int32) (σ : Mm) (r : Int32) (σ1 : Mm) (h : F_X5_begin p0 p1 σ = some (.inl r, σ1)) : Ev (.codeWith yL_begin cL_begin 5 (some .int) [(0, 10, 13, 13)]) yL_begin rmW T [.ref 0, .int p0, .int p1, .ref 185] σ (.inl (some (.int 0))) T (upM σ1 185 0 r) := by
  refine ev_ofH (lo := [some (.ref 0), some (.int p0), some (.int p1), some (.ref 185), none]) (j := 1) kw_begin rfl (fun _ => Nat.le_of_ble_eq_true rfl) ?_
  refine rn_aload_n (pc := 0) (i := 3) dL_begin_0 rfl rfl ?_
  refine rn_iconst (pc := 1) (v := 0) dL_begin_1 (by decide) ?_
  refine rn_aload_n (pc := 2) (i := 0) dL_begin_2 rfl rfl ?_
  refine rn_iload_n (pc := 3) (i := 1) dL_begin_3 rfl rfl ?_
  refine rn_iload_n (pc := 4) (i := 2) dL_begin_4 rfl rfl ?_
  refine rn_callV (pc := 5) (r := some (.int r)) hN.1 ⟨_, _, rfl⟩ k_X5_begin.1 k_X5_begin.2.1 k_X5_begin.2.2.1 gw_588 ((c_X5_begin T p0 p1 hN) σ _ σ1 h) rfl rfl (Nat.le_of_ble_eq_true rfl) (Nat.le_of_ble_eq_true rfl) (Nat.le_of_ble_eq_true rfl) (Nat.le_of_ble_eq_true rfl) (Nat.le_of_ble_eq_true rfl) (fun h => by cases h) dL_begin_5 ?_
  refine rn_i2l (pc := 8) dL_begin_8 ?_
  refine rn_last (pc := 9) hO (by unfold vp_in; decide) dL_begin_9 ?_
  refine rn_goto (pc := 10) (tgt := 17) dL_begin_10 rfl ?_
  refine rn_iconst (pc := 17) (v := 0) dL_begin_17 (by decide) ?_
  exact rn_iret (pc := 18) (Nat.le_of_ble_eq_true rfl) (Nat.le_of_ble_eq_true rfl) dL_begin_18
set_option maxRecDepth 100000 in
theorem wx_begin_2 (T : Tb) (hN : isNS T) (p0 : Int32) (p1 : Int32) (σ σ1 : Mm) (h : F_X5_begin p0 p1 σ = some (.inr 2, σ1)) : Ev (.codeWith yL_begin cL_begin 5 (some .int) [(0, 10, 13, 13)]) yL_begin rmW T [.ref 0, .int p0, .int p1, .ref 185] σ (.inl (some (.int 1))) T σ1 := by
  refine ev_ofH (lo := [some (.ref 0), some (.int p0), some (.int p1), some (.ref 185), none]) (j := 1) kw_begin rfl (fun _ => Nat.le_of_ble_eq_true rfl) ?_
  refine rn_aload_n (pc := 0) (i := 3) dL_begin_0 rfl rfl ?_
  refine rn_iconst (pc := 1) (v := 0) dL_begin_1 (by decide) ?_
  refine rn_aload_n (pc := 2) (i := 0) dL_begin_2 rfl rfl ?_
  refine rn_iload_n (pc := 3) (i := 1) dL_begin_3 rfl rfl ?_
  refine rn_iload_n (pc := 4) (i := 2) dL_begin_4 rfl rfl ?_
  refine rn_callVc (pc := 5) (tableOf []) ⟨0, 10, 13, 13⟩ (tableOf []) hN.1 ⟨_, _, rfl⟩ k_X5_begin.1 k_X5_begin.2.1 k_X5_begin.2.2.1 gw_588 ((c_X5_begin T p0 p1 hN) σ _ σ1 h) rfl rfl (Nat.le_of_ble_eq_true rfl) (Nat.le_of_ble_eq_true rfl) (Nat.le_of_ble_eq_true rfl) (Nat.le_of_ble_eq_true rfl) (Nat.le_of_ble_eq_true rfl) (fun h => by cases h) rfl (fun z hz => by cases hz) (by decide) (by decide) (by decide) gw_587 (by decide) dL_begin_5 (fun q => ?_)
  refine rn_astoreA (pc := 13) (i := 4) (lo' := [some (.ref 0), some (.int p0), some (.int p1), some (.ref 185), some (.retAddr q)]) dL_begin_13 (by decide) rfl ?_
  refine rn_iconst (pc := 15) (v := 1) dL_begin_15 (by decide) ?_
  exact rn_iret (pc := 16) (Nat.le_of_ble_eq_true rfl) (Nat.le_of_ble_eq_true rfl) dL_begin_16
theorem kw_nest : CalW yL_nest cL_nest 8 [(0, 16, 19, 19), (0, 16, 23, 13), (0, 16, 27, 21)] 7 := ⟨gw_606, gw_0, ⟨by decide, by decide⟩, by decide +kernel, by decide +kernel, gw_605⟩
set_option maxRecDepth 100000 in
theorem wr_nest (T : Tb) (hN : isNS T) (hO : T[185]? = some (1, 1, [])) (p0 : Int32) (p1 : Int32) (p2 : Int32) (p3 : Int32) (p4 : Int32) (σ : Mm) (r : Int32) (σ1 : Mm) (h : F_X5_nest p0 p1 p2 p3 p4 σ = some (.inl r, σ1)) : Ev (.codeWith yL_nest cL_nest 8 (some .int) [(0, 16, 19, 19), (0, 16, 23, 13), (0, 16, 27, 21)]) yL_nest rmW T [.ref 0, .int p0, .int p1, .int p2, .int p3, .int p4, .ref 185] σ (.inl (some (.int 0))) T (upM σ1 185 0 r) := by
  refine ev_ofH (lo := [some (.ref 0), some (.int p0), some (.int p1), some (.int p2), some (.int p3), some (.int p4), some (.ref 185), none]) (j := 1) kw_nest rfl (fun _ => Nat.le_of_ble_eq_true rfl) ?_
  refine rn_aload (pc := 0) (i := 6) dL_nest_0 rfl ?_
  refine rn_iconst (pc := 2) (v := 0) dL_nest_2 (by decide) ?_
  refine rn_aload_n (pc := 3) (i := 0) dL_nest_3 rfl rfl ?_
  refine rn_iload_n (pc := 4) (i := 1) dL_nest_4 rfl rfl ?_
  refine rn_iload_n (pc := 5) (i := 2) dL_nest_5 rfl rfl ?_
  refine rn_iload_n (pc := 6) (i := 3) dL_nest_6 rfl rfl ?_
  refine rn_iload (pc := 7) (i := 4) dL_nest_7 rfl ?_
  refine rn_iload (pc := 9) (i := 5) dL_nest_9 rfl ?_
  refine rn_callV (pc := 11) (r := some (.int r)) hN.1 ⟨_, _, rfl⟩ k_X5_nest.1 k_X5_nest.2.1 k_X5_nest.2.2.1 gw_609 ((c_X5_nest T p0 p1 p2 p3 p4 hN) σ _ σ1 h) rfl rfl (Nat.le_of_ble_eq_true rfl) (Nat.le_of_ble_eq_true rfl) (Nat.le_of_ble_eq_true rfl) (Nat.le_of_ble_eq_true rfl) (Nat.le_of_ble_eq_true rfl) (fun h => by cases h) dL_nest_11 ?_
  refine rn_i2l (pc := 14) dL_nest_14 ?_
  refine rn_last (pc := 15) hO (by unfold vp_in; decide) dL_nest_15 ?_
  refine rn_goto (pc := 16) (tgt := 31) dL_nest_16 rfl ?_
  refine rn_iconst (pc := 31) (v := 0) dL_nest_31 (by decide) ?_
  exact rn_iret (pc := 32) (Nat.le_of_ble_eq_true rfl) (Nat.le_of_ble_eq_true rfl) dL_nest_32
set_option maxRecDepth 100000 in
theorem wx_nest_1 (T : Tb) (hN : isNS T) (p0 : Int32) (p1 : Int32) (p2 : Int32) (p3 : Int32) (p4 : Int32) (σ σ1 : Mm) (h : F_X5_nest p0 p1 p2 p3 p4 σ = some (.inr 1, σ1)) : Ev (.codeWith yL_nest cL_nest 8 (some .int) [(0, 16, 19, 19), (0, 16, 23, 13), (0, 16, 27, 21)]) yL_nest rmW T [.ref 0, .int p0, .int p1, .int p2, .int p3, .int p4, .ref 185] σ (.inl (some (.int 1))) T σ1 := by
  refine ev_ofH (lo := [some (.ref 0), some (.int p0), some (.int p1), some (.int p2), some (.int p3), some (.int p4), some (.ref 185), none]) (j := 1) kw_nest rfl (fun _ => Nat.le_of_ble_eq_true rfl) ?_
  refine rn_aload (pc := 0) (i := 6) dL_nest_0 rfl ?_
  refine rn_iconst (pc := 2) (v := 0) dL_nest_2 (by decide) ?_
  refine rn_aload_n (pc := 3) (i := 0) dL_nest_3 rfl rfl ?_
  refine rn_iload_n (pc := 4) (i := 1) dL_nest_4 rfl rfl ?_
  refine rn_iload_n (pc := 5) (i := 2) dL_nest_5 rfl rfl ?_
  refine rn_iload_n (pc := 6) (i := 3) dL_nest_6 rfl rfl ?_
  refine rn_iload (pc := 7) (i := 4) dL_nest_7 rfl ?_
  refine rn_iload (pc := 9) (i := 5) dL_nest_9 rfl ?_
  refine rn_callVc (pc := 11) (tableOf []) ⟨0, 16, 19, 19⟩ (tableOf [(0, 16, 23, 13), (0, 16, 27, 21)]) hN.1 ⟨_, _, rfl⟩ k_X5_nest.1 k_X5_nest.2.1 k_X5_nest.2.2.1 gw_609 ((c_X5_nest T p0 p1 p2 p3 p4 hN) σ _ σ1 h) rfl rfl (Nat.le_of_ble_eq_true rfl) (Nat.le_of_ble_eq_true rfl) (Nat.le_of_ble_eq_true rfl) (Nat.le_of_ble_eq_true rfl) (Nat.le_of_ble_eq_true rfl) (fun h => by cases h) rfl (fun z hz => by cases hz) (by decide) (by decide) (by decide) gw_607 (by decide) dL_nest_11 (fun q => ?_)
  refine rn_astoreA (pc := 19) (i := 7) (lo' := [some (.ref 0), some (.int p0), some (.int p1), some (.int p2), some (.int p3), some (.int p4), some (.ref 185), some (.retAddr q)]) dL_nest_19 (by decide) rfl ?_
  refine rn_iconst (pc := 21) (v := 1) dL_nest_21 (by decide) ?_
  exact rn_iret (pc := 22) (Nat.le_of_ble_eq_true rfl) (Nat.le_of_ble_eq_true rfl) dL_nest_22
set_option maxRecDepth 100000 in
theorem wx_nest_2 (T : Tb) (hN : isNS T) (p0 : Int32) (p1 : Int32) (p2 : Int32) (p3 : Int32) (p4 : Int32) (σ σ1 : Mm) (h : F_X5_nest p0 p1 p2 p3 p4 σ = some (.inr 2, σ1)) : Ev (.codeWith yL_nest cL_nest 8 (some .int) [(0, 16, 19, 19), (0, 16, 23, 13), (0, 16, 27, 21)]) yL_nest rmW T [.ref 0, .int p0, .int p1, .int p2, .int p3, .int p4, .ref 185] σ (.inl (some (.int 2))) T σ1 := by
  refine ev_ofH (lo := [some (.ref 0), some (.int p0), some (.int p1), some (.int p2), some (.int p3), some (.int p4), some (.ref 185), none]) (j := 1) kw_nest rfl (fun _ => Nat.le_of_ble_eq_true rfl) ?_
  refine rn_aload (pc := 0) (i := 6) dL_nest_0 rfl ?_
  refine rn_iconst (pc := 2) (v := 0) dL_nest_2 (by decide) ?_
  refine rn_aload_n (pc := 3) (i := 0) dL_nest_3 rfl rfl ?_
  refine rn_iload_n (pc := 4) (i := 1) dL_nest_4 rfl rfl ?_
  refine rn_iload_n (pc := 5) (i := 2) dL_nest_5 rfl rfl ?_
  refine rn_iload_n (pc := 6) (i := 3) dL_nest_6 rfl rfl ?_
  refine rn_iload (pc := 7) (i := 4) dL_nest_7 rfl ?_
  refine rn_iload (pc := 9) (i := 5) dL_nest_9 rfl ?_
  refine rn_callVc (pc := 11) (tableOf [(0, 16, 19, 19)]) ⟨0, 16, 23, 13⟩ (tableOf [(0, 16, 27, 21)]) hN.1 ⟨_, _, rfl⟩ k_X5_nest.1 k_X5_nest.2.1 k_X5_nest.2.2.1 gw_609 ((c_X5_nest T p0 p1 p2 p3 p4 hN) σ _ σ1 h) rfl rfl (Nat.le_of_ble_eq_true rfl) (Nat.le_of_ble_eq_true rfl) (Nat.le_of_ble_eq_true rfl) (Nat.le_of_ble_eq_true rfl) (Nat.le_of_ble_eq_true rfl) (fun h => by cases h) rfl (fun z hz => by simp only [tableOf, List.map_cons, List.map_nil, List.mem_cons, List.not_mem_nil, or_false] at hz; rcases hz with rfl <;> first | exact ⟨by decide, "java/lang/IndexOutOfBoundsException", gw_607, by decide, by decide⟩) (by decide) (by decide) (by decide) gw_587 (by decide) dL_nest_11 (fun q => ?_)
  refine rn_astoreA (pc := 23) (i := 7) (lo' := [some (.ref 0), some (.int p0), some (.int p1), some (.int p2), some (.int p3), some (.int p4), some (.ref 185), some (.retAddr q)]) dL_nest_23 (by decide) rfl ?_
  refine rn_iconst (pc := 25) (v := 2) dL_nest_25 (by decide) ?_
  exact rn_iret (pc := 26) (Nat.le_of_ble_eq_true rfl) (Nat.le_of_ble_eq_true rfl) dL_nest_26
set_option maxRecDepth 100000 in
theorem wx_nest_3 (T : Tb) (hN : isNS T) (p0 : Int32) (p1 : Int32) (p2 : Int32) (p3 : Int32) (p4 : Int32) (σ σ1 : Mm) (h : F_X5_nest p0 p1 p2 p3 p4 σ = some (.inr 3, σ1)) : Ev (.codeWith yL_nest cL_nest 8 (some .int) [(0, 16, 19, 19), (0, 16, 23, 13), (0, 16, 27, 21)]) yL_nest rmW T [.ref 0, .int p0, .int p1, .int p2, .int p3, .int p4, .ref 185] σ (.inl (some (.int 3))) T σ1 := by
  refine ev_ofH (lo := [some (.ref 0), some (.int p0), some (.int p1), some (.int p2), some (.int p3), some (.int p4), some (.ref 185), none]) (j := 1) kw_nest rfl (fun _ => Nat.le_of_ble_eq_true rfl) ?_
  refine rn_aload (pc := 0) (i := 6) dL_nest_0 rfl ?_
  refine rn_iconst (pc := 2) (v := 0) dL_nest_2 (by decide) ?_
  refine rn_aload_n (pc := 3) (i := 0) dL_nest_3 rfl rfl ?_
  refine rn_iload_n (pc := 4) (i := 1) dL_nest_4 rfl rfl ?_
  refine rn_iload_n (pc := 5) (i := 2) dL_nest_5 rfl rfl ?_
  refine rn_iload_n (pc := 6) (i := 3) dL_nest_6 rfl rfl ?_
  refine rn_iload (pc := 7) (i := 4) dL_nest_7 rfl ?_
  refine rn_iload (pc := 9) (i := 5) dL_nest_9 rfl ?_
  refine rn_callVc (pc := 11) (tableOf [(0, 16, 19, 19), (0, 16, 23, 13)]) ⟨0, 16, 27, 21⟩ (tableOf []) hN.1 ⟨_, _, rfl⟩ k_X5_nest.1 k_X5_nest.2.1 k_X5_nest.2.2.1 gw_609 ((c_X5_nest T p0 p1 p2 p3 p4 hN) σ _ σ1 h) rfl rfl (Nat.le_of_ble_eq_true rfl) (Nat.le_of_ble_eq_true rfl) (Nat.le_of_ble_eq_true rfl) (Nat.le_of_ble_eq_true rfl) (Nat.le_of_ble_eq_true rfl) (fun h => by cases h) rfl (fun z hz => by simp only [tableOf, List.map_cons, List.map_nil, List.mem_cons, List.not_mem_nil, or_false] at hz; rcases hz with rfl | rfl <;> first | exact ⟨by decide, "java/lang/IndexOutOfBoundsException", gw_607, by decide, by decide⟩ | exact ⟨by decide, "java/lang/IllegalArgumentException", gw_587, by decide, by decide⟩) (by decide) (by decide) (by decide) gw_608 (by decide) dL_nest_11 (fun q => ?_)
  refine rn_astoreA (pc := 27) (i := 7) (lo' := [some (.ref 0), some (.int p0), some (.int p1), some (.int p2), some (.int p3), some (.int p4), some (.ref 185), some (.retAddr q)]) dL_nest_27 (by decide) rfl ?_
  refine rn_iconst (pc := 29) (v := 3) dL_nest_29 (by decide) ?_
  exact rn_iret (pc := 30) (Nat.le_of_ble_eq_true rfl) (Nat.le_of_ble_eq_true rfl) dL_nest_30
theorem kw_put : CalW yL_put cL_put 8 [(0, 16, 19, 19), (0, 16, 23, 13), (0, 16, 27, 21)] 7 := ⟨gw_638, gw_0, ⟨by decide, by decide⟩, by decide +kernel, by decide +kernel, gw_637⟩
set_option maxRecDepth 100000 in
theorem wr_put (T : Tb) (hN : isNS T) (hO : T[185]? = some (1, 1, [])) (p0 : Int32) (p1 : Int32) (p2 : Int32) (p3 : Int32) (p4 : Int32) (σ : Mm) (r : Int32) (σ1 : Mm) (h : F_X5_put p0 p1 p2 p3 p4 σ = some (.inl r, σ1)) : Ev (.codeWith yL_put cL_put 8 (some .int) [(0, 16, 19, 19), (0, 16, 23, 13), (0, 16, 27, 21)]) yL_put rmW T [.ref 0, .int p0, .int p1, .int p2, .int p3, .int p4, .ref 185] σ (.inl (some (.int 0))) T (upM σ1 185 0 r) := by
  refine ev_ofH (lo := [some (.ref 0), some (.int p0), some (.int p1), some (.int p2), some (.int p3), some (.int p4), some (.ref 185), none]) (j := 1) kw_put rfl (fun _ => Nat.le_of_ble_eq_true rfl) ?_
  refine rn_aload (pc := 0) (i := 6) dL_put_0 rfl ?_
  refine rn_iconst (pc := 2) (v := 0) dL_put_2 (by decide) ?_
  refine rn_aload_n (pc := 3) (i := 0) dL_put_3 rfl rfl ?_
  refine rn_iload_n (pc := 4) (i := 1) dL_put_4 rfl rfl ?_
  refine rn_iload_n (pc := 5) (i := 2) dL_put_5 rfl rfl ?_
  refine rn_iload_n (pc := 6) (i := 3) dL_put_6 rfl rfl ?_
  refine rn_iload (pc := 7) (i := 4) dL_put_7 rfl ?_
  refine rn_iload (pc := 9) (i := 5) dL_put_9 rfl ?_
  refine rn_callV (pc := 11) (r := some (.int r)) hN.1 ⟨_, _, rfl⟩ k_X5_put.1 k_X5_put.2.1 k_X5_put.2.2.1 gw_639 ((c_X5_put T p0 p1 p2 p3 p4 hN) σ _ σ1 h) rfl rfl (Nat.le_of_ble_eq_true rfl) (Nat.le_of_ble_eq_true rfl) (Nat.le_of_ble_eq_true rfl) (Nat.le_of_ble_eq_true rfl) (Nat.le_of_ble_eq_true rfl) (fun h => by cases h) dL_put_11 ?_
  refine rn_i2l (pc := 14) dL_put_14 ?_
  refine rn_last (pc := 15) hO (by unfold vp_in; decide) dL_put_15 ?_
  refine rn_goto (pc := 16) (tgt := 31) dL_put_16 rfl ?_
  refine rn_iconst (pc := 31) (v := 0) dL_put_31 (by decide) ?_
  exact rn_iret (pc := 32) (Nat.le_of_ble_eq_true rfl) (Nat.le_of_ble_eq_true rfl) dL_put_32
set_option maxRecDepth 100000 in
theorem wx_put_1 (T : Tb) (hN : isNS T) (p0 : Int32) (p1 : Int32) (p2 : Int32) (p3 : Int32) (p4 : Int32) (σ σ1 : Mm) (h : F_X5_put p0 p1 p2 p3 p4 σ = some (.inr 1, σ1)) : Ev (.codeWith yL_put cL_put 8 (some .int) [(0, 16, 19, 19), (0, 16, 23, 13), (0, 16, 27, 21)]) yL_put rmW T [.ref 0, .int p0, .int p1, .int p2, .int p3, .int p4, .ref 185] σ (.inl (some (.int 1))) T σ1 := by
  refine ev_ofH (lo := [some (.ref 0), some (.int p0), some (.int p1), some (.int p2), some (.int p3), some (.int p4), some (.ref 185), none]) (j := 1) kw_put rfl (fun _ => Nat.le_of_ble_eq_true rfl) ?_
  refine rn_aload (pc := 0) (i := 6) dL_put_0 rfl ?_
  refine rn_iconst (pc := 2) (v := 0) dL_put_2 (by decide) ?_
  refine rn_aload_n (pc := 3) (i := 0) dL_put_3 rfl rfl ?_
  refine rn_iload_n (pc := 4) (i := 1) dL_put_4 rfl rfl ?_
  refine rn_iload_n (pc := 5) (i := 2) dL_put_5 rfl rfl ?_
  refine rn_iload_n (pc := 6) (i := 3) dL_put_6 rfl rfl ?_
  refine rn_iload (pc := 7) (i := 4) dL_put_7 rfl ?_
  refine rn_iload (pc := 9) (i := 5) dL_put_9 rfl ?_
  refine rn_callVc (pc := 11) (tableOf []) ⟨0, 16, 19, 19⟩ (tableOf [(0, 16, 23, 13), (0, 16, 27, 21)]) hN.1 ⟨_, _, rfl⟩ k_X5_put.1 k_X5_put.2.1 k_X5_put.2.2.1 gw_639 ((c_X5_put T p0 p1 p2 p3 p4 hN) σ _ σ1 h) rfl rfl (Nat.le_of_ble_eq_true rfl) (Nat.le_of_ble_eq_true rfl) (Nat.le_of_ble_eq_true rfl) (Nat.le_of_ble_eq_true rfl) (Nat.le_of_ble_eq_true rfl) (fun h => by cases h) rfl (fun z hz => by cases hz) (by decide) (by decide) (by decide) gw_607 (by decide) dL_put_11 (fun q => ?_)
  refine rn_astoreA (pc := 19) (i := 7) (lo' := [some (.ref 0), some (.int p0), some (.int p1), some (.int p2), some (.int p3), some (.int p4), some (.ref 185), some (.retAddr q)]) dL_put_19 (by decide) rfl ?_
  refine rn_iconst (pc := 21) (v := 1) dL_put_21 (by decide) ?_
  exact rn_iret (pc := 22) (Nat.le_of_ble_eq_true rfl) (Nat.le_of_ble_eq_true rfl) dL_put_22
set_option maxRecDepth 100000 in
theorem wx_put_2 (T : Tb) (hN : isNS T) (p0 : Int32) (p1 : Int32) (p2 : Int32) (p3 : Int32) (p4 : Int32) (σ σ1 : Mm) (h : F_X5_put p0 p1 p2 p3 p4 σ = some (.inr 2, σ1)) : Ev (.codeWith yL_put cL_put 8 (some .int) [(0, 16, 19, 19), (0, 16, 23, 13), (0, 16, 27, 21)]) yL_put rmW T [.ref 0, .int p0, .int p1, .int p2, .int p3, .int p4, .ref 185] σ (.inl (some (.int 2))) T σ1 := by
  refine ev_ofH (lo := [some (.ref 0), some (.int p0), some (.int p1), some (.int p2), some (.int p3), some (.int p4), some (.ref 185), none]) (j := 1) kw_put rfl (fun _ => Nat.le_of_ble_eq_true rfl) ?_
  refine rn_aload (pc := 0) (i := 6) dL_put_0 rfl ?_
  refine rn_iconst (pc := 2) (v := 0) dL_put_2 (by decide) ?_
  refine rn_aload_n (pc := 3) (i := 0) dL_put_3 rfl rfl ?_
  refine rn_iload_n (pc := 4) (i := 1) dL_put_4 rfl rfl ?_
  refine rn_iload_n (pc := 5) (i := 2) dL_put_5 rfl rfl ?_
  refine rn_iload_n (pc := 6) (i := 3) dL_put_6 rfl rfl ?_
  refine rn_iload (pc := 7) (i := 4) dL_put_7 rfl ?_
  refine rn_iload (pc := 9) (i := 5) dL_put_9 rfl ?_
  refine rn_callVc (pc := 11) (tableOf [(0, 16, 19, 19)]) ⟨0, 16, 23, 13⟩ (tableOf [(0, 16, 27, 21)]) hN.1 ⟨_, _, rfl⟩ k_X5_put.1 k_X5_put.2.1 k_X5_put.2.2.1 gw_639 ((c_X5_put T p0 p1 p2 p3 p4 hN) σ _ σ1 h) rfl rfl (Nat.le_of_ble_eq_true rfl) (Nat.le_of_ble_eq_true rfl) (Nat.le_of_ble_eq_true rfl) (Nat.le_of_ble_eq_true rfl) (Nat.le_of_ble_eq_true rfl) (fun h => by cases h) rfl (fun z hz => by simp only [tableOf, List.map_cons, List.map_nil, List.mem_cons, List.not_mem_nil, or_false] at hz; rcases hz with rfl <;> first | exact ⟨by decide, "java/lang/IndexOutOfBoundsException", gw_607, by decide, by decide⟩) (by decide) (by decide) (by decide) gw_587 (by decide) dL_put_11 (fun q => ?_)
  refine rn_astoreA (pc := 23) (i := 7) (lo' := [some (.ref 0), some (.int p0), some (.int p1), some (.int p2), some (.int p3), some (.int p4), some (.ref 185), some (.retAddr q)]) dL_put_23 (by decide) rfl ?_
  refine rn_iconst (pc := 25) (v := 2) dL_put_25 (by decide) ?_
  exact rn_iret (pc := 26) (Nat.le_of_ble_eq_true rfl) (Nat.le_of_ble_eq_true rfl) dL_put_26
set_option maxRecDepth 100000 in
theorem wx_put_3 (T : Tb) (hN : isNS T) (p0 : Int32) (p1 : Int32) (p2 : Int32) (p3 : Int32) (p4 : Int32) (σ σ1 : Mm) (h : F_X5_put p0 p1 p2 p3 p4 σ = some (.inr 3, σ1)) : Ev (.codeWith yL_put cL_put 8 (some .int) [(0, 16, 19, 19), (0, 16, 23, 13), (0, 16, 27, 21)]) yL_put rmW T [.ref 0, .int p0, .int p1, .int p2, .int p3, .int p4, .ref 185] σ (.inl (some (.int 3))) T σ1 := by
  refine ev_ofH (lo := [some (.ref 0), some (.int p0), some (.int p1), some (.int p2), some (.int p3), some (.int p4), some (.ref 185), none]) (j := 1) kw_put rfl (fun _ => Nat.le_of_ble_eq_true rfl) ?_
  refine rn_aload (pc := 0) (i := 6) dL_put_0 rfl ?_
  refine rn_iconst (pc := 2) (v := 0) dL_put_2 (by decide) ?_
  refine rn_aload_n (pc := 3) (i := 0) dL_put_3 rfl rfl ?_
  refine rn_iload_n (pc := 4) (i := 1) dL_put_4 rfl rfl ?_
  refine rn_iload_n (pc := 5) (i := 2) dL_put_5 rfl rfl ?_
  refine rn_iload_n (pc := 6) (i := 3) dL_put_6 rfl rfl ?_
  refine rn_iload (pc := 7) (i := 4) dL_put_7 rfl ?_
  refine rn_iload (pc := 9) (i := 5) dL_put_9 rfl ?_
  refine rn_callVc (pc := 11) (tableOf [(0, 16, 19, 19), (0, 16, 23, 13)]) ⟨0, 16, 27, 21⟩ (tableOf []) hN.1 ⟨_, _, rfl⟩ k_X5_put.1 k_X5_put.2.1 k_X5_put.2.2.1 gw_639 ((c_X5_put T p0 p1 p2 p3 p4 hN) σ _ σ1 h) rfl rfl (Nat.le_of_ble_eq_true rfl) (Nat.le_of_ble_eq_true rfl) (Nat.le_of_ble_eq_true rfl) (Nat.le_of_ble_eq_true rfl) (Nat.le_of_ble_eq_true rfl) (fun h => by cases h) rfl (fun z hz => by simp only [tableOf, List.map_cons, List.map_nil, List.mem_cons, List.not_mem_nil, or_false] at hz; rcases hz with rfl | rfl <;> first | exact ⟨by decide, "java/lang/IndexOutOfBoundsException", gw_607, by decide, by decide⟩ | exact ⟨by decide, "java/lang/IllegalArgumentException", gw_587, by decide, by decide⟩) (by decide) (by decide) (by decide) gw_608 (by decide) dL_put_11 (fun q => ?_)
  refine rn_astoreA (pc := 27) (i := 7) (lo' := [some (.ref 0), some (.int p0), some (.int p1), some (.int p2), some (.int p3), some (.int p4), some (.ref 185), some (.retAddr q)]) dL_put_27 (by decide) rfl ?_
  refine rn_iconst (pc := 29) (v := 3) dL_put_29 (by decide) ?_
  exact rn_iret (pc := 30) (Nat.le_of_ble_eq_true rfl) (Nat.le_of_ble_eq_true rfl) dL_put_30
theorem kw_span : CalW yL_span cL_span 8 [(0, 16, 19, 19), (0, 16, 23, 13), (0, 16, 27, 21)] 7 := ⟨gw_652, gw_0, ⟨by decide, by decide⟩, by decide +kernel, by decide +kernel, gw_651⟩
set_option maxRecDepth 100000 in
theorem wr_span (T : Tb) (hN : isNS T) (hO : T[185]? = some (1, 1, [])) (p0 : Int32) (p1 : Int32) (p2 : Int32) (p3 : Int32) (p4 : Int32) (σ : Mm) (r : Int32) (σ1 : Mm) (h : F_X5_span p0 p1 p2 p3 p4 σ = some (.inl r, σ1)) : Ev (.codeWith yL_span cL_span 8 (some .int) [(0, 16, 19, 19), (0, 16, 23, 13), (0, 16, 27, 21)]) yL_span rmW T [.ref 0, .int p0, .int p1, .int p2, .int p3, .int p4, .ref 185] σ (.inl (some (.int 0))) T (upM σ1 185 0 r) := by
  refine ev_ofH (lo := [some (.ref 0), some (.int p0), some (.int p1), some (.int p2), some (.int p3), some (.int p4), some (.ref 185), none]) (j := 1) kw_span rfl (fun _ => Nat.le_of_ble_eq_true rfl) ?_
  refine rn_aload (pc := 0) (i := 6) dL_span_0 rfl ?_
  refine rn_iconst (pc := 2) (v := 0) dL_span_2 (by decide) ?_
  refine rn_aload_n (pc := 3) (i := 0) dL_span_3 rfl rfl ?_
  refine rn_iload_n (pc := 4) (i := 1) dL_span_4 rfl rfl ?_
  refine rn_iload_n (pc := 5) (i := 2) dL_span_5 rfl rfl ?_
  refine rn_iload_n (pc := 6) (i := 3) dL_span_6 rfl rfl ?_
  refine rn_iload (pc := 7) (i := 4) dL_span_7 rfl ?_
  refine rn_iload (pc := 9) (i := 5) dL_span_9 rfl ?_
  refine rn_callV (pc := 11) (r := some (.int r)) hN.1 ⟨_, _, rfl⟩ k_X5_span.1 k_X5_span.2.1 k_X5_span.2.2.1 gw_653 ((c_X5_span T p0 p1 p2 p3 p4 hN) σ _ σ1 h) rfl rfl (Nat.le_of_ble_eq_true rfl) (Nat.le_of_ble_eq_true rfl) (Nat.le_of_ble_eq_true rfl) (Nat.le_of_ble_eq_true rfl) (Nat.le_of_ble_eq_true rfl) (fun h => by cases h) dL_span_11 ?_
  refine rn_i2l (pc := 14) dL_span_14 ?_
  refine rn_last (pc := 15) hO (by unfold vp_in; decide) dL_span_15 ?_
  refine rn_goto (pc := 16) (tgt := 31) dL_span_16 rfl ?_
  refine rn_iconst (pc := 31) (v := 0) dL_span_31 (by decide) ?_
  exact rn_iret (pc := 32) (Nat.le_of_ble_eq_true rfl) (Nat.le_of_ble_eq_true rfl) dL_span_32
set_option maxRecDepth 100000 in
theorem wx_span_1 (T : Tb) (hN : isNS T) (p0 : Int32) (p1 : Int32) (p2 : Int32) (p3 : Int32) (p4 : Int32) (σ σ1 : Mm) (h : F_X5_span p0 p1 p2 p3 p4 σ = some (.inr 1, σ1)) : Ev (.codeWith yL_span cL_span 8 (some .int) [(0, 16, 19, 19), (0, 16, 23, 13), (0, 16, 27, 21)]) yL_span rmW T [.ref 0, .int p0, .int p1, .int p2, .int p3, .int p4, .ref 185] σ (.inl (some (.int 1))) T σ1 := by
  refine ev_ofH (lo := [some (.ref 0), some (.int p0), some (.int p1), some (.int p2), some (.int p3), some (.int p4), some (.ref 185), none]) (j := 1) kw_span rfl (fun _ => Nat.le_of_ble_eq_true rfl) ?_
  refine rn_aload (pc := 0) (i := 6) dL_span_0 rfl ?_
  refine rn_iconst (pc := 2) (v := 0) dL_span_2 (by decide) ?_
  refine rn_aload_n (pc := 3) (i := 0) dL_span_3 rfl rfl ?_
  refine rn_iload_n (pc := 4) (i := 1) dL_span_4 rfl rfl ?_
  refine rn_iload_n (pc := 5) (i := 2) dL_span_5 rfl rfl ?_
  refine rn_iload_n (pc := 6) (i := 3) dL_span_6 rfl rfl ?_
  refine rn_iload (pc := 7) (i := 4) dL_span_7 rfl ?_
  refine rn_iload (pc := 9) (i := 5) dL_span_9 rfl ?_
  refine rn_callVc (pc := 11) (tableOf []) ⟨0, 16, 19, 19⟩ (tableOf [(0, 16, 23, 13), (0, 16, 27, 21)]) hN.1 ⟨_, _, rfl⟩ k_X5_span.1 k_X5_span.2.1 k_X5_span.2.2.1 gw_653 ((c_X5_span T p0 p1 p2 p3 p4 hN) σ _ σ1 h) rfl rfl (Nat.le_of_ble_eq_true rfl) (Nat.le_of_ble_eq_true rfl) (Nat.le_of_ble_eq_true rfl) (Nat.le_of_ble_eq_true rfl) (Nat.le_of_ble_eq_true rfl) (fun h => by cases h) rfl (fun z hz => by cases hz) (by decide) (by decide) (by decide) gw_607 (by decide) dL_span_11 (fun q => ?_)
  refine rn_astoreA (pc := 19) (i := 7) (lo' := [some (.ref 0), some (.int p0), some (.int p1), some (.int p2), some (.int p3), some (.int p4), some (.ref 185), some (.retAddr q)]) dL_span_19 (by decide) rfl ?_
  refine rn_iconst (pc := 21) (v := 1) dL_span_21 (by decide) ?_
  exact rn_iret (pc := 22) (Nat.le_of_ble_eq_true rfl) (Nat.le_of_ble_eq_true rfl) dL_span_22
set_option maxRecDepth 100000 in
theorem wx_span_2 (T : Tb) (hN : isNS T) (p0 : Int32) (p1 : Int32) (p2 : Int32) (p3 : Int32) (p4 : Int32) (σ σ1 : Mm) (h : F_X5_span p0 p1 p2 p3 p4 σ = some (.inr 2, σ1)) : Ev (.codeWith yL_span cL_span 8 (some .int) [(0, 16, 19, 19), (0, 16, 23, 13), (0, 16, 27, 21)]) yL_span rmW T [.ref 0, .int p0, .int p1, .int p2, .int p3, .int p4, .ref 185] σ (.inl (some (.int 2))) T σ1 := by
  refine ev_ofH (lo := [some (.ref 0), some (.int p0), some (.int p1), some (.int p2), some (.int p3), some (.int p4), some (.ref 185), none]) (j := 1) kw_span rfl (fun _ => Nat.le_of_ble_eq_true rfl) ?_
  refine rn_aload (pc := 0) (i := 6) dL_span_0 rfl ?_
  refine rn_iconst (pc := 2) (v := 0) dL_span_2 (by decide) ?_
  refine rn_aload_n (pc := 3) (i := 0) dL_span_3 rfl rfl ?_
  refine rn_iload_n (pc := 4) (i := 1) dL_span_4 rfl rfl ?_
  refine rn_iload_n (pc := 5) (i := 2) dL_span_5 rfl rfl ?_
  refine rn_iload_n (pc := 6) (i := 3) dL_span_6 rfl rfl ?_
  refine rn_iload (pc := 7) (i := 4) dL_span_7 rfl ?_
  refine rn_iload (pc := 9) (i := 5) dL_span_9 rfl ?_
  refine rn_callVc (pc := 11) (tableOf [(0, 16, 19, 19)]) ⟨0, 16, 23, 13⟩ (tableOf [(0, 16, 27, 21)]) hN.1 ⟨_, _, rfl⟩ k_X5_span.1 k_X5_span.2.1 k_X5_span.2.2.1 gw_653 ((c_X5_span T p0 p1 p2 p3 p4 hN) σ _ σ1 h) rfl rfl (Nat.le_of_ble_eq_true rfl) (Nat.le_of_ble_eq_true rfl) (Nat.le_of_ble_eq_true rfl) (Nat.le_of_ble_eq_true rfl) (Nat.le_of_ble_eq_true rfl) (fun h => by cases h) rfl (fun z hz => by simp only [tableOf, List.map_cons, List.map_nil, List.mem_cons, List.not_mem_nil, or_false] at hz; rcases hz with rfl <;> first | exact ⟨by decide, "java/lang/IndexOutOfBoundsException", gw_607, by decide, by decide⟩) (by decide) (by decide) (by decide) gw_587 (by decide) dL_span_11 (fun q => ?_)
  refine rn_astoreA (pc := 23) (i := 7) (lo' := [some (.ref 0), some (.int p0), some (.int p1), some (.int p2), some (.int p3), some (.int p4), some (.ref 185), some (.retAddr q)]) dL_span_23 (by decide) rfl ?_
  refine rn_iconst (pc := 25) (v := 2) dL_span_25 (by decide) ?_
  exact rn_iret (pc := 26) (Nat.le_of_ble_eq_true rfl) (Nat.le_of_ble_eq_true rfl) dL_span_26
set_option maxRecDepth 100000 in
theorem wx_span_3 (T : Tb) (hN : isNS T) (p0 : Int32) (p1 : Int32) (p2 : Int32) (p3 : Int32) (p4 : Int32) (σ σ1 : Mm) (h : F_X5_span p0 p1 p2 p3 p4 σ = some (.inr 3, σ1)) : Ev (.codeWith yL_span cL_span 8 (some .int) [(0, 16, 19, 19), (0, 16, 23, 13), (0, 16, 27, 21)]) yL_span rmW T [.ref 0, .int p0, .int p1, .int p2, .int p3, .int p4, .ref 185] σ (.inl (some (.int 3))) T σ1 := by
  refine ev_ofH (lo := [some (.ref 0), some (.int p0), some (.int p1), some (.int p2), some (.int p3), some (.int p4), some (.ref 185), none]) (j := 1) kw_span rfl (fun _ => Nat.le_of_ble_eq_true rfl) ?_
  refine rn_aload (pc := 0) (i := 6) dL_span_0 rfl ?_
  refine rn_iconst (pc := 2) (v := 0) dL_span_2 (by decide) ?_
  refine rn_aload_n (pc := 3) (i := 0) dL_span_3 rfl rfl ?_
  refine rn_iload_n (pc := 4) (i := 1) dL_span_4 rfl rfl ?_
  refine rn_iload_n (pc := 5) (i := 2) dL_span_5 rfl rfl ?_
  refine rn_iload_n (pc := 6) (i := 3) dL_span_6 rfl rfl ?_
  refine rn_iload (pc := 7) (i := 4) dL_span_7 rfl ?_
  refine rn_iload (pc := 9) (i := 5) dL_span_9 rfl ?_
  refine rn_callVc (pc := 11) (tableOf [(0, 16, 19, 19), (0, 16, 23, 13)]) ⟨0, 16, 27, 21⟩ (tableOf []) hN.1 ⟨_, _, rfl⟩ k_X5_span.1 k_X5_span.2.1 k_X5_span.2.2.1 gw_653 ((c_X5_span T p0 p1 p2 p3 p4 hN) σ _ σ1 h) rfl rfl (Nat.le_of_ble_eq_true rfl) (Nat.le_of_ble_eq_true rfl) (Nat.le_of_ble_eq_true rfl) (Nat.le_of_ble_eq_true rfl) (Nat.le_of_ble_eq_true rfl) (fun h => by cases h) rfl (fun z hz => by simp only [tableOf, List.map_cons, List.map_nil, List.mem_cons, List.not_mem_nil, or_false] at hz; rcases hz with rfl | rfl <;> first | exact ⟨by decide, "java/lang/IndexOutOfBoundsException", gw_607, by decide, by decide⟩ | exact ⟨by decide, "java/lang/IllegalArgumentException", gw_587, by decide, by decide⟩) (by decide) (by decide) (by decide) gw_608 (by decide) dL_span_11 (fun q => ?_)
  refine rn_astoreA (pc := 27) (i := 7) (lo' := [some (.ref 0), some (.int p0), some (.int p1), some (.int p2), some (.int p3), some (.int p4), some (.ref 185), some (.retAddr q)]) dL_span_27 (by decide) rfl ?_
  refine rn_iconst (pc := 29) (v := 3) dL_span_29 (by decide) ?_
  exact rn_iret (pc := 30) (Nat.le_of_ble_eq_true rfl) (Nat.le_of_ble_eq_true rfl) dL_span_30
theorem kw_rule : CalW yL_rule cL_rule 8 [(0, 16, 19, 19), (0, 16, 23, 13), (0, 16, 27, 21)] 7 := ⟨gw_676, gw_0, ⟨by decide, by decide⟩, by decide +kernel, by decide +kernel, gw_675⟩
set_option maxRecDepth 100000 in
theorem wr_rule (T : Tb) (hN : isNS T) (hO : T[185]? = some (1, 1, [])) (p0 : Int32) (p1 : Int32) (p2 : Int32) (p3 : Int32) (p4 : Int32) (σ : Mm) (r : Int32) (σ1 : Mm) (h : F_X5_rule p0 p1 p2 p3 p4 σ = some (.inl r, σ1)) : Ev (.codeWith yL_rule cL_rule 8 (some .int) [(0, 16, 19, 19), (0, 16, 23, 13), (0, 16, 27, 21)]) yL_rule rmW T [.ref 0, .int p0, .int p1, .int p2, .int p3, .int p4, .ref 185] σ (.inl (some (.int 0))) T (upM σ1 185 0 r) := by
  refine ev_ofH (lo := [some (.ref 0), some (.int p0), some (.int p1), some (.int p2), some (.int p3), some (.int p4), some (.ref 185), none]) (j := 1) kw_rule rfl (fun _ => Nat.le_of_ble_eq_true rfl) ?_
  refine rn_aload (pc := 0) (i := 6) dL_rule_0 rfl ?_
  refine rn_iconst (pc := 2) (v := 0) dL_rule_2 (by decide) ?_
  refine rn_aload_n (pc := 3) (i := 0) dL_rule_3 rfl rfl ?_
  refine rn_iload_n (pc := 4) (i := 1) dL_rule_4 rfl rfl ?_
  refine rn_iload_n (pc := 5) (i := 2) dL_rule_5 rfl rfl ?_
  refine rn_iload_n (pc := 6) (i := 3) dL_rule_6 rfl rfl ?_
  refine rn_iload (pc := 7) (i := 4) dL_rule_7 rfl ?_
  refine rn_iload (pc := 9) (i := 5) dL_rule_9 rfl ?_
  refine rn_callV (pc := 11) (r := some (.int r)) hN.1 ⟨_, _, rfl⟩ k_X5_rule.1 k_X5_rule.2.1 k_X5_rule.2.2.1 gw_677 ((c_X5_rule T p0 p1 p2 p3 p4 hN) σ _ σ1 h) rfl rfl (Nat.le_of_ble_eq_true rfl) (Nat.le_of_ble_eq_true rfl) (Nat.le_of_ble_eq_true rfl) (Nat.le_of_ble_eq_true rfl) (Nat.le_of_ble_eq_true rfl) (fun h => by cases h) dL_rule_11 ?_
  refine rn_i2l (pc := 14) dL_rule_14 ?_
  refine rn_last (pc := 15) hO (by unfold vp_in; decide) dL_rule_15 ?_
  refine rn_goto (pc := 16) (tgt := 31) dL_rule_16 rfl ?_
  refine rn_iconst (pc := 31) (v := 0) dL_rule_31 (by decide) ?_
  exact rn_iret (pc := 32) (Nat.le_of_ble_eq_true rfl) (Nat.le_of_ble_eq_true rfl) dL_rule_32
set_option maxRecDepth 100000 in
theorem wx_rule_1 (T : Tb) (hN : isNS T) (p0 : Int32) (p1 : Int32) (p2 : Int32) (p3 : Int32) (p4 : Int32) (σ σ1 : Mm) (h : F_X5_rule p0 p1 p2 p3 p4 σ = some (.inr 1, σ1)) : Ev (.codeWith yL_rule cL_rule 8 (some .int) [(0, 16, 19, 19), (0, 16, 23, 13), (0, 16, 27, 21)]) yL_rule rmW T [.ref 0, .int p0, .int p1, .int p2, .int p3, .int p4, .ref 185] σ (.inl (some (.int 1))) T σ1 := by
  refine ev_ofH (lo := [some (.ref 0), some (.int p0), some (.int p1), some (.int p2), some (.int p3), some (.int p4), some (.ref 185), none]) (j := 1) kw_rule rfl (fun _ => Nat.le_of_ble_eq_true rfl) ?_
  refine rn_aload (pc := 0) (i := 6) dL_rule_0 rfl ?_
  refine rn_iconst (pc := 2) (v := 0) dL_rule_2 (by decide) ?_
  refine rn_aload_n (pc := 3) (i := 0) dL_rule_3 rfl rfl ?_
  refine rn_iload_n (pc := 4) (i := 1) dL_rule_4 rfl rfl ?_
  refine rn_iload_n (pc := 5) (i := 2) dL_rule_5 rfl rfl ?_
  refine rn_iload_n (pc := 6) (i := 3) dL_rule_6 rfl rfl ?_
  refine rn_iload (pc := 7) (i := 4) dL_rule_7 rfl ?_
  refine rn_iload (pc := 9) (i := 5) dL_rule_9 rfl ?_
  refine rn_callVc (pc := 11) (tableOf []) ⟨0, 16, 19, 19⟩ (tableOf [(0, 16, 23, 13), (0, 16, 27, 21)]) hN.1 ⟨_, _, rfl⟩ k_X5_rule.1 k_X5_rule.2.1 k_X5_rule.2.2.1 gw_677 ((c_X5_rule T p0 p1 p2 p3 p4 hN) σ _ σ1 h) rfl rfl (Nat.le_of_ble_eq_true rfl) (Nat.le_of_ble_eq_true rfl) (Nat.le_of_ble_eq_true rfl) (Nat.le_of_ble_eq_true rfl) (Nat.le_of_ble_eq_true rfl) (fun h => by cases h) rfl (fun z hz => by cases hz) (by decide) (by decide) (by decide) gw_607 (by decide) dL_rule_11 (fun q => ?_)
  refine rn_astoreA (pc := 19) (i := 7) (lo' := [some (.ref 0), some (.int p0), some (.int p1), some (.int p2), some (.int p3), some (.int p4), some (.ref 185), some (.retAddr q)]) dL_rule_19 (by decide) rfl ?_
  refine rn_iconst (pc := 21) (v := 1) dL_rule_21 (by decide) ?_
  exact rn_iret (pc := 22) (Nat.le_of_ble_eq_true rfl) (Nat.le_of_ble_eq_true rfl) dL_rule_22
set_option maxRecDepth 100000 in
theorem wx_rule_2 (T : Tb) (hN : isNS T) (p0 : Int32) (p1 : Int32) (p2 : Int32) (p3 : Int32) (p4 : Int32) (σ σ1 : Mm) (h : F_X5_rule p0 p1 p2 p3 p4 σ = some (.inr 2, σ1)) : Ev (.codeWith yL_rule cL_rule 8 (some .int) [(0, 16, 19, 19), (0, 16, 23, 13), (0, 16, 27, 21)]) yL_rule rmW T [.ref 0, .int p0, .int p1, .int p2, .int p3, .int p4, .ref 185] σ (.inl (some (.int 2))) T σ1 := by
  refine ev_ofH (lo := [some (.ref 0), some (.int p0), some (.int p1), some (.int p2), some (.int p3), some (.int p4), some (.ref 185), none]) (j := 1) kw_rule rfl (fun _ => Nat.le_of_ble_eq_true rfl) ?_
  refine rn_aload (pc := 0) (i := 6) dL_rule_0 rfl ?_
  refine rn_iconst (pc := 2) (v := 0) dL_rule_2 (by decide) ?_
  refine rn_aload_n (pc := 3) (i := 0) dL_rule_3 rfl rfl ?_
  refine rn_iload_n (pc := 4) (i := 1) dL_rule_4 rfl rfl ?_
  refine rn_iload_n (pc := 5) (i := 2) dL_rule_5 rfl rfl ?_
  refine rn_iload_n (pc := 6) (i := 3) dL_rule_6 rfl rfl ?_
  refine rn_iload (pc := 7) (i := 4) dL_rule_7 rfl ?_
  refine rn_iload (pc := 9) (i := 5) dL_rule_9 rfl ?_
  refine rn_callVc (pc := 11) (tableOf [(0, 16, 19, 19)]) ⟨0, 16, 23, 13⟩ (tableOf [(0, 16, 27, 21)]) hN.1 ⟨_, _, rfl⟩ k_X5_rule.1 k_X5_rule.2.1 k_X5_rule.2.2.1 gw_677 ((c_X5_rule T p0 p1 p2 p3 p4 hN) σ _ σ1 h) rfl rfl (Nat.le_of_ble_eq_true rfl) (Nat.le_of_ble_eq_true rfl) (Nat.le_of_ble_eq_true rfl) (Nat.le_of_ble_eq_true rfl) (Nat.le_of_ble_eq_true rfl) (fun h => by cases h) rfl (fun z hz => by simp only [tableOf, List.map_cons, List.map_nil, List.mem_cons, List.not_mem_nil, or_false] at hz; rcases hz with rfl <;> first | exact ⟨by decide, "java/lang/IndexOutOfBoundsException", gw_607, by decide, by decide⟩) (by decide) (by decide) (by decide) gw_587 (by decide) dL_rule_11 (fun q => ?_)
  refine rn_astoreA (pc := 23) (i := 7) (lo' := [some (.ref 0), some (.int p0), some (.int p1), some (.int p2), some (.int p3), some (.int p4), some (.ref 185), some (.retAddr q)]) dL_rule_23 (by decide) rfl ?_
  refine rn_iconst (pc := 25) (v := 2) dL_rule_25 (by decide) ?_
  exact rn_iret (pc := 26) (Nat.le_of_ble_eq_true rfl) (Nat.le_of_ble_eq_true rfl) dL_rule_26
set_option maxRecDepth 100000 in
theorem wx_rule_3 (T : Tb) (hN : isNS T) (p0 : Int32) (p1 : Int32) (p2 : Int32) (p3 : Int32) (p4 : Int32) (σ σ1 : Mm) (h : F_X5_rule p0 p1 p2 p3 p4 σ = some (.inr 3, σ1)) : Ev (.codeWith yL_rule cL_rule 8 (some .int) [(0, 16, 19, 19), (0, 16, 23, 13), (0, 16, 27, 21)]) yL_rule rmW T [.ref 0, .int p0, .int p1, .int p2, .int p3, .int p4, .ref 185] σ (.inl (some (.int 3))) T σ1 := by
  refine ev_ofH (lo := [some (.ref 0), some (.int p0), some (.int p1), some (.int p2), some (.int p3), some (.int p4), some (.ref 185), none]) (j := 1) kw_rule rfl (fun _ => Nat.le_of_ble_eq_true rfl) ?_
  refine rn_aload (pc := 0) (i := 6) dL_rule_0 rfl ?_
  refine rn_iconst (pc := 2) (v := 0) dL_rule_2 (by decide) ?_
  refine rn_aload_n (pc := 3) (i := 0) dL_rule_3 rfl rfl ?_
  refine rn_iload_n (pc := 4) (i := 1) dL_rule_4 rfl rfl ?_
  refine rn_iload_n (pc := 5) (i := 2) dL_rule_5 rfl rfl ?_
  refine rn_iload_n (pc := 6) (i := 3) dL_rule_6 rfl rfl ?_
  refine rn_iload (pc := 7) (i := 4) dL_rule_7 rfl ?_
  refine rn_iload (pc := 9) (i := 5) dL_rule_9 rfl ?_
  refine rn_callVc (pc := 11) (tableOf [(0, 16, 19, 19), (0, 16, 23, 13)]) ⟨0, 16, 27, 21⟩ (tableOf []) hN.1 ⟨_, _, rfl⟩ k_X5_rule.1 k_X5_rule.2.1 k_X5_rule.2.2.1 gw_677 ((c_X5_rule T p0 p1 p2 p3 p4 hN) σ _ σ1 h) rfl rfl (Nat.le_of_ble_eq_true rfl) (Nat.le_of_ble_eq_true rfl) (Nat.le_of_ble_eq_true rfl) (Nat.le_of_ble_eq_true rfl) (Nat.le_of_ble_eq_true rfl) (fun h => by cases h) rfl (fun z hz => by simp only [tableOf, List.map_cons, List.map_nil, List.mem_cons, List.not_mem_nil, or_false] at hz; rcases hz with rfl | rfl <;> first | exact ⟨by decide, "java/lang/IndexOutOfBoundsException", gw_607, by decide, by decide⟩ | exact ⟨by decide, "java/lang/IllegalArgumentException", gw_587, by decide, by decide⟩) (by decide) (by decide) (by decide) gw_608 (by decide) dL_rule_11 (fun q => ?_)
  refine rn_astoreA (pc := 27) (i := 7) (lo' := [some (.ref 0), some (.int p0), some (.int p1), some (.int p2), some (.int p3), some (.int p4), some (.ref 185), some (.retAddr q)]) dL_rule_27 (by decide) rfl ?_
  refine rn_iconst (pc := 29) (v := 3) dL_rule_29 (by decide) ?_
  exact rn_iret (pc := 30) (Nat.le_of_ble_eq_true rfl) (Nat.le_of_ble_eq_true rfl) dL_rule_30
theorem kw_set : CalW yL_set cL_set 4 [(0, 9, 12, 13)] 3 := ⟨gw_684, gw_0, ⟨by decide, by decide⟩, by decide +kernel, by decide +kernel, gw_683⟩
set_option maxRecDepth 100000 in
theorem wr_set (T : Tb) (hN : isNS T) (hO : T[185]? = some (1, 1, [])) (p0 : Int32) (σ : Mm) (r : Int32) (σ1 : Mm) (h : F_X5_set p0 σ = some (.inl r, σ1)) : Ev (.codeWith yL_set cL_set 4 (some .int) [(0, 9, 12, 13)]) yL_set rmW T [.ref 0, .int p0, .ref 185] σ (.inl (some (.int 0))) T (upM σ1 185 0 r) := by
  refine ev_ofH (lo := [some (.ref 0), some (.int p0), some (.ref 185), none]) (j := 1) kw_set rfl (fun _ => Nat.le_of_ble_eq_true rfl) ?_
  refine rn_aload_n (pc := 0) (i := 2) dL_set_0 rfl rfl ?_
  refine rn_iconst (pc := 1) (v := 0) dL_set_1 (by decide) ?_
  refine rn_aload_n (pc := 2) (i := 0) dL_set_2 rfl rfl ?_
  refine rn_iload_n (pc := 3) (i := 1) dL_set_3 rfl rfl ?_
  refine rn_callV (pc := 4) (r := some (.int r)) hN.1 ⟨_, _, rfl⟩ k_X5_set.1 k_X5_set.2.1 k_X5_set.2.2.1 gw_685 ((c_X5_set T p0 hN) σ _ σ1 h) rfl rfl (Nat.le_of_ble_eq_true rfl) (Nat.le_of_ble_eq_true rfl) (Nat.le_of_ble_eq_true rfl) (Nat.le_of_ble_eq_true rfl) (Nat.le_of_ble_eq_true rfl) (fun h => by cases h) dL_set_4 ?_
  refine rn_i2l (pc := 7) dL_set_7 ?_
  refine rn_last (pc := 8) hO (by unfold vp_in; decide) dL_set_8 ?_
  refine rn_goto (pc := 9) (tgt := 15) dL_set_9 rfl ?_
  refine rn_iconst (pc := 15) (v := 0) dL_set_15 (by decide) ?_
  exact rn_iret (pc := 16) (Nat.le_of_ble_eq_true rfl) (Nat.le_of_ble_eq_true rfl) dL_set_16
set_option maxRecDepth 100000 in
theorem wx_set_2 (T : Tb) (hN : isNS T) (p0 : Int32) (σ σ1 : Mm) (h : F_X5_set p0 σ = some (.inr 2, σ1)) : Ev (.codeWith yL_set cL_set 4 (some .int) [(0, 9, 12, 13)]) yL_set rmW T [.ref 0, .int p0, .ref 185] σ (.inl (some (.int 1))) T σ1 := by
  refine ev_ofH (lo := [some (.ref 0), some (.int p0), some (.ref 185), none]) (j := 1) kw_set rfl (fun _ => Nat.le_of_ble_eq_true rfl) ?_
  refine rn_aload_n (pc := 0) (i := 2) dL_set_0 rfl rfl ?_
  refine rn_iconst (pc := 1) (v := 0) dL_set_1 (by decide) ?_
  refine rn_aload_n (pc := 2) (i := 0) dL_set_2 rfl rfl ?_
  refine rn_iload_n (pc := 3) (i := 1) dL_set_3 rfl rfl ?_
  refine rn_callVc (pc := 4) (tableOf []) ⟨0, 9, 12, 13⟩ (tableOf []) hN.1 ⟨_, _, rfl⟩ k_X5_set.1 k_X5_set.2.1 k_X5_set.2.2.1 gw_685 ((c_X5_set T p0 hN) σ _ σ1 h) rfl rfl (Nat.le_of_ble_eq_true rfl) (Nat.le_of_ble_eq_true rfl) (Nat.le_of_ble_eq_true rfl) (Nat.le_of_ble_eq_true rfl) (Nat.le_of_ble_eq_true rfl) (fun h => by cases h) rfl (fun z hz => by cases hz) (by decide) (by decide) (by decide) gw_587 (by decide) dL_set_4 (fun q => ?_)
  refine rn_astore_nA (pc := 12) (i := 3) (lo' := [some (.ref 0), some (.int p0), some (.ref 185), some (.retAddr q)]) dL_set_12 rfl (by decide) rfl ?_
  refine rn_iconst (pc := 13) (v := 1) dL_set_13 (by decide) ?_
  exact rn_iret (pc := 14) (Nat.le_of_ble_eq_true rfl) (Nat.le_of_ble_eq_true rfl) dL_set_14
theorem kw_append : CalW yL_append cL_append 4 [(0, 9, 12, 13), (0, 9, 15, 21)] 3 := ⟨gw_691, gw_0, ⟨by decide, by decide⟩, by decide +kernel, by decide +kernel, gw_690⟩
set_option maxRecDepth 100000 in
theorem wr_append (T : Tb) (hN : isNS T) (hO : T[185]? = some (1, 1, [])) (p0 : Int32) (σ : Mm) (r : Int32) (σ1 : Mm) (h : F_X5_append p0 σ = some (.inl r, σ1)) : Ev (.codeWith yL_append cL_append 4 (some .int) [(0, 9, 12, 13), (0, 9, 15, 21)]) yL_append rmW T [.ref 0, .int p0, .ref 185] σ (.inl (some (.int 0))) T (upM σ1 185 0 r) := by
  refine ev_ofH (lo := [some (.ref 0), some (.int p0), some (.ref 185), none]) (j := 1) kw_append rfl (fun _ => Nat.le_of_ble_eq_true rfl) ?_
  refine rn_aload_n (pc := 0) (i := 2) dL_append_0 rfl rfl ?_
  refine rn_iconst (pc := 1) (v := 0) dL_append_1 (by decide) ?_
  refine rn_aload_n (pc := 2) (i := 0) dL_append_2 rfl rfl ?_
  refine rn_iload_n (pc := 3) (i := 1) dL_append_3 rfl rfl ?_
  refine rn_callV (pc := 4) (r := some (.int r)) hN.1 ⟨_, _, rfl⟩ k_X5_append.1 k_X5_append.2.1 k_X5_append.2.2.1 gw_692 ((c_X5_append T p0 hN) σ _ σ1 h) rfl rfl (Nat.le_of_ble_eq_true rfl) (Nat.le_of_ble_eq_true rfl) (Nat.le_of_ble_eq_true rfl) (Nat.le_of_ble_eq_true rfl) (Nat.le_of_ble_eq_true rfl) (fun h => by cases h) dL_append_4 ?_
  refine rn_i2l (pc := 7) dL_append_7 ?_
  refine rn_last (pc := 8) hO (by unfold vp_in; decide) dL_append_8 ?_
  refine rn_goto (pc := 9) (tgt := 18) dL_append_9 rfl ?_
  refine rn_iconst (pc := 18) (v := 0) dL_append_18 (by decide) ?_
  exact rn_iret (pc := 19) (Nat.le_of_ble_eq_true rfl) (Nat.le_of_ble_eq_true rfl) dL_append_19
set_option maxRecDepth 100000 in
theorem wx_append_2 (T : Tb) (hN : isNS T) (p0 : Int32) (σ σ1 : Mm) (h : F_X5_append p0 σ = some (.inr 2, σ1)) : Ev (.codeWith yL_append cL_append 4 (some .int) [(0, 9, 12, 13), (0, 9, 15, 21)]) yL_append rmW T [.ref 0, .int p0, .ref 185] σ (.inl (some (.int 1))) T σ1 := by
  refine ev_ofH (lo := [some (.ref 0), some (.int p0), some (.ref 185), none]) (j := 1) kw_append rfl (fun _ => Nat.le_of_ble_eq_true rfl) ?_
  refine rn_aload_n (pc := 0) (i := 2) dL_append_0 rfl rfl ?_
  refine rn_iconst (pc := 1) (v := 0) dL_append_1 (by decide) ?_
  refine rn_aload_n (pc := 2) (i := 0) dL_append_2 rfl rfl ?_
  refine rn_iload_n (pc := 3) (i := 1) dL_append_3 rfl rfl ?_
  refine rn_callVc (pc := 4) (tableOf []) ⟨0, 9, 12, 13⟩ (tableOf [(0, 9, 15, 21)]) hN.1 ⟨_, _, rfl⟩ k_X5_append.1 k_X5_append.2.1 k_X5_append.2.2.1 gw_692 ((c_X5_append T p0 hN) σ _ σ1 h) rfl rfl (Nat.le_of_ble_eq_true rfl) (Nat.le_of_ble_eq_true rfl) (Nat.le_of_ble_eq_true rfl) (Nat.le_of_ble_eq_true rfl) (Nat.le_of_ble_eq_true rfl) (fun h => by cases h) rfl (fun z hz => by cases hz) (by decide) (by decide) (by decide) gw_587 (by decide) dL_append_4 (fun q => ?_)
  refine rn_astore_nA (pc := 12) (i := 3) (lo' := [some (.ref 0), some (.int p0), some (.ref 185), some (.retAddr q)]) dL_append_12 rfl (by decide) rfl ?_
  refine rn_iconst (pc := 13) (v := 1) dL_append_13 (by decide) ?_
  exact rn_iret (pc := 14) (Nat.le_of_ble_eq_true rfl) (Nat.le_of_ble_eq_true rfl) dL_append_14
set_option maxRecDepth 100000 in
theorem wx_append_3 (T : Tb) (hN : isNS T) (p0 : Int32) (σ σ1 : Mm) (h : F_X5_append p0 σ = some (.inr 3, σ1)) : Ev (.codeWith yL_append cL_append 4 (some .int) [(0, 9, 12, 13), (0, 9, 15, 21)]) yL_append rmW T [.ref 0, .int p0, .ref 185] σ (.inl (some (.int 2))) T σ1 := by
  refine ev_ofH (lo := [some (.ref 0), some (.int p0), some (.ref 185), none]) (j := 1) kw_append rfl (fun _ => Nat.le_of_ble_eq_true rfl) ?_
  refine rn_aload_n (pc := 0) (i := 2) dL_append_0 rfl rfl ?_
  refine rn_iconst (pc := 1) (v := 0) dL_append_1 (by decide) ?_
  refine rn_aload_n (pc := 2) (i := 0) dL_append_2 rfl rfl ?_
  refine rn_iload_n (pc := 3) (i := 1) dL_append_3 rfl rfl ?_
  refine rn_callVc (pc := 4) (tableOf [(0, 9, 12, 13)]) ⟨0, 9, 15, 21⟩ (tableOf []) hN.1 ⟨_, _, rfl⟩ k_X5_append.1 k_X5_append.2.1 k_X5_append.2.2.1 gw_692 ((c_X5_append T p0 hN) σ _ σ1 h) rfl rfl (Nat.le_of_ble_eq_true rfl) (Nat.le_of_ble_eq_true rfl) (Nat.le_of_ble_eq_true rfl) (Nat.le_of_ble_eq_true rfl) (Nat.le_of_ble_eq_true rfl) (fun h => by cases h) rfl (fun z hz => by simp only [tableOf, List.map_cons, List.map_nil, List.mem_cons, List.not_mem_nil, or_false] at hz; rcases hz with rfl <;> first | exact ⟨by decide, "java/lang/IllegalArgumentException", gw_587, by decide, by decide⟩) (by decide) (by decide) (by decide) gw_608 (by decide) dL_append_4 (fun q => ?_)
  refine rn_astore_nA (pc := 15) (i := 3) (lo' := [some (.ref 0), some (.int p0), some (.ref 185), some (.retAddr q)]) dL_append_15 rfl (by decide) rfl ?_
  refine rn_iconst (pc := 16) (v := 2) dL_append_16 (by decide) ?_
  exact rn_iret (pc := 17) (Nat.le_of_ble_eq_true rfl) (Nat.le_of_ble_eq_true rfl) dL_append_17
theorem kw_run : CalW yL_run cL_run 3 [(0, 8, 11, 13)] 2 := ⟨gw_703, gw_0, ⟨by decide, by decide⟩, by decide +kernel, by decide +kernel, gw_702⟩
set_option maxRecDepth 100000 in
theorem wr_run (T : Tb) (hN : isNS T) (hO : T[185]? = some (1, 1, []))  (σ : Mm) (r : Int32) (σ1 : Mm) (h : F_X5_run  σ = some (.inl r, σ1)) : Ev (.codeWith yL_run cL_run 3 (some .int) [(0, 8, 11, 13)]) yL_run rmW T [.ref 0, .ref 185] σ (.inl (some (.int 0))) T (upM σ1 185 0 r) := by
  refine ev_ofH (lo := [some (.ref 0), some (.ref 185), none]) (j := 1) kw_run rfl (fun _ => Nat.le_of_ble_eq_true rfl) ?_
  refine rn_aload_n (pc := 0) (i := 1) dL_run_0 rfl rfl ?_
  refine rn_iconst (pc := 1) (v := 0) dL_run_1 (by decide) ?_
  refine rn_aload_n (pc := 2) (i := 0) dL_run_2 rfl rfl ?_
  refine rn_callV (pc := 3) (r := some (.int r)) hN.1 ⟨_, _, rfl⟩ k_X5_run.1 k_X5_run.2.1 k_X5_run.2.2.1 gw_704 ((c_X5_run T  hN) σ _ σ1 h) rfl rfl (Nat.le_of_ble_eq_true rfl) (Nat.le_of_ble_eq_true rfl) (Nat.le_of_ble_eq_true rfl) (Nat.le_of_ble_eq_true rfl) (Nat.le_of_ble_eq_true rfl) (fun h => by cases h) dL_run_3 ?_
  refine rn_i2l (pc := 6) dL_run_6 ?_
  refine rn_last (pc := 7) hO (by unfold vp_in; decide) dL_run_7 ?_
  refine rn_goto (pc := 8) (tgt := 14) dL_run_8 rfl ?_
  refine rn_iconst (pc := 14) (v := 0) dL_run_14 (by decide) ?_
  exact rn_iret (pc := 15) (Nat.le_of_ble_eq_true rfl) (Nat.le_of_ble_eq_true rfl) dL_run_15
set_option maxRecDepth 100000 in
theorem wx_run_2 (T : Tb) (hN : isNS T)  (σ σ1 : Mm) (h : F_X5_run  σ = some (.inr 2, σ1)) : Ev (.codeWith yL_run cL_run 3 (some .int) [(0, 8, 11, 13)]) yL_run rmW T [.ref 0, .ref 185] σ (.inl (some (.int 1))) T σ1 := by
  refine ev_ofH (lo := [some (.ref 0), some (.ref 185), none]) (j := 1) kw_run rfl (fun _ => Nat.le_of_ble_eq_true rfl) ?_
  refine rn_aload_n (pc := 0) (i := 1) dL_run_0 rfl rfl ?_
  refine rn_iconst (pc := 1) (v := 0) dL_run_1 (by decide) ?_
  refine rn_aload_n (pc := 2) (i := 0) dL_run_2 rfl rfl ?_
  refine rn_callVc (pc := 3) (tableOf []) ⟨0, 8, 11, 13⟩ (tableOf []) hN.1 ⟨_, _, rfl⟩ k_X5_run.1 k_X5_run.2.1 k_X5_run.2.2.1 gw_704 ((c_X5_run T  hN) σ _ σ1 h) rfl rfl (Nat.le_of_ble_eq_true rfl) (Nat.le_of_ble_eq_true rfl) (Nat.le_of_ble_eq_true rfl) (Nat.le_of_ble_eq_true rfl) (Nat.le_of_ble_eq_true rfl) (fun h => by cases h) rfl (fun z hz => by cases hz) (by decide) (by decide) (by decide) gw_587 (by decide) dL_run_3 (fun q => ?_)
  refine rn_astore_nA (pc := 11) (i := 2) (lo' := [some (.ref 0), some (.ref 185), some (.retAddr q)]) dL_run_11 rfl (by decide) rfl ?_
  refine rn_iconst (pc := 12) (v := 1) dL_run_12 (by decide) ?_
  exact rn_iret (pc := 13) (Nat.le_of_ble_eq_true rfl) (Nat.le_of_ble_eq_true rfl) dL_run_13
theorem kw_undo : CalW yL_undo cL_undo 3 [(0, 8, 11, 21)] 2 := ⟨gw_742, gw_0, ⟨by decide, by decide⟩, by decide +kernel, by decide +kernel, gw_741⟩
set_option maxRecDepth 100000 in
theorem wr_undo (T : Tb) (hN : isNS T) (hO : T[185]? = some (1, 1, []))  (σ : Mm) (r : Int32) (σ1 : Mm) (h : F_X5_undo  σ = some (.inl r, σ1)) : Ev (.codeWith yL_undo cL_undo 3 (some .int) [(0, 8, 11, 21)]) yL_undo rmW T [.ref 0, .ref 185] σ (.inl (some (.int 0))) T (upM σ1 185 0 r) := by
  refine ev_ofH (lo := [some (.ref 0), some (.ref 185), none]) (j := 1) kw_undo rfl (fun _ => Nat.le_of_ble_eq_true rfl) ?_
  refine rn_aload_n (pc := 0) (i := 1) dL_undo_0 rfl rfl ?_
  refine rn_iconst (pc := 1) (v := 0) dL_undo_1 (by decide) ?_
  refine rn_aload_n (pc := 2) (i := 0) dL_undo_2 rfl rfl ?_
  refine rn_callV (pc := 3) (r := some (.int r)) hN.1 ⟨_, _, rfl⟩ k_X5_undo.1 k_X5_undo.2.1 k_X5_undo.2.2.1 gw_743 ((c_X5_undo T  hN) σ _ σ1 h) rfl rfl (Nat.le_of_ble_eq_true rfl) (Nat.le_of_ble_eq_true rfl) (Nat.le_of_ble_eq_true rfl) (Nat.le_of_ble_eq_true rfl) (Nat.le_of_ble_eq_true rfl) (fun h => by cases h) dL_undo_3 ?_
  refine rn_i2l (pc := 6) dL_undo_6 ?_
  refine rn_last (pc := 7) hO (by unfold vp_in; decide) dL_undo_7 ?_
  refine rn_goto (pc := 8) (tgt := 14) dL_undo_8 rfl ?_
  refine rn_iconst (pc := 14) (v := 0) dL_undo_14 (by decide) ?_
  exact rn_iret (pc := 15) (Nat.le_of_ble_eq_true rfl) (Nat.le_of_ble_eq_true rfl) dL_undo_15
set_option maxRecDepth 100000 in
theorem wx_undo_3 (T : Tb) (hN : isNS T)  (σ σ1 : Mm) (h : F_X5_undo  σ = some (.inr 3, σ1)) : Ev (.codeWith yL_undo cL_undo 3 (some .int) [(0, 8, 11, 21)]) yL_undo rmW T [.ref 0, .ref 185] σ (.inl (some (.int 1))) T σ1 := by
  refine ev_ofH (lo := [some (.ref 0), some (.ref 185), none]) (j := 1) kw_undo rfl (fun _ => Nat.le_of_ble_eq_true rfl) ?_
  refine rn_aload_n (pc := 0) (i := 1) dL_undo_0 rfl rfl ?_
  refine rn_iconst (pc := 1) (v := 0) dL_undo_1 (by decide) ?_
  refine rn_aload_n (pc := 2) (i := 0) dL_undo_2 rfl rfl ?_
  refine rn_callVc (pc := 3) (tableOf []) ⟨0, 8, 11, 21⟩ (tableOf []) hN.1 ⟨_, _, rfl⟩ k_X5_undo.1 k_X5_undo.2.1 k_X5_undo.2.2.1 gw_743 ((c_X5_undo T  hN) σ _ σ1 h) rfl rfl (Nat.le_of_ble_eq_true rfl) (Nat.le_of_ble_eq_true rfl) (Nat.le_of_ble_eq_true rfl) (Nat.le_of_ble_eq_true rfl) (Nat.le_of_ble_eq_true rfl) (fun h => by cases h) rfl (fun z hz => by cases hz) (by decide) (by decide) (by decide) gw_608 (by decide) dL_undo_3 (fun q => ?_)
  refine rn_astore_nA (pc := 11) (i := 2) (lo' := [some (.ref 0), some (.ref 185), some (.retAddr q)]) dL_undo_11 rfl (by decide) rfl ?_
  refine rn_iconst (pc := 12) (v := 1) dL_undo_12 (by decide) ?_
  exact rn_iret (pc := 13) (Nat.le_of_ble_eq_true rfl) (Nat.le_of_ble_eq_true rfl) dL_undo_13
theorem kw_cell : CalW yL_cell cL_cell 7 [(0, 14, 17, 19), (0, 14, 21, 13)] 6 := ⟨gw_753, gw_0, ⟨by decide, by decide⟩, by decide +kernel, by decide +kernel, gw_752⟩
set_option maxRecDepth 100000 in
theorem wr_cell (T : Tb) (hN : isNS T) (hO : T[185]? = some (1, 1, [])) (p0 : Int32) (p1 : Int32) (p2 : Int32) (p3 : Int32) (σ : Mm) (r : Int32) (σ1 : Mm) (h : F_X5_cell p0 p1 p2 p3 σ = some (.inl r, σ1)) : Ev (.codeWith yL_cell cL_cell 7 (some .int) [(0, 14, 17, 19), (0, 14, 21, 13)]) yL_cell rmW T [.ref 0, .int p0, .int p1, .int p2, .int p3, .ref 185] σ (.inl (some (.int 0))) T (upM σ1 185 0 r) := by
  refine ev_ofH (lo := [some (.ref 0), some (.int p0), some (.int p1), some (.int p2), some (.int p3), some (.ref 185), none]) (j := 1) kw_cell rfl (fun _ => Nat.le_of_ble_eq_true rfl) ?_
  refine rn_aload (pc := 0) (i := 5) dL_cell_0 rfl ?_
  refine rn_iconst (pc := 2) (v := 0) dL_cell_2 (by decide) ?_
  refine rn_aload_n (pc := 3) (i := 0) dL_cell_3 rfl rfl ?_
  refine rn_iload_n (pc := 4) (i := 1) dL_cell_4 rfl rfl ?_
  refine rn_iload_n (pc := 5) (i := 2) dL_cell_5 rfl rfl ?_
  refine rn_iload_n (pc := 6) (i := 3) dL_cell_6 rfl rfl ?_
  refine rn_iload (pc := 7) (i := 4) dL_cell_7 rfl ?_
  refine rn_callV (pc := 9) (r := some (.int r)) hN.1 ⟨_, _, rfl⟩ k_X5_cell.1 k_X5_cell.2.1 k_X5_cell.2.2.1 gw_754 ((c_X5_cell T p0 p1 p2 p3 hN) σ _ σ1 h) rfl rfl (Nat.le_of_ble_eq_true rfl) (Nat.le_of_ble_eq_true rfl) (Nat.le_of_ble_eq_true rfl) (Nat.le_of_ble_eq_true rfl) (Nat.le_of_ble_eq_true rfl) (fun h => by cases h) dL_cell_9 ?_
  refine rn_i2l (pc := 12) dL_cell_12 ?_
  refine rn_last (pc := 13) hO (by unfold vp_in; decide) dL_cell_13 ?_
  refine rn_goto (pc := 14) (tgt := 25) dL_cell_14 rfl ?_
  refine rn_iconst (pc := 25) (v := 0) dL_cell_25 (by decide) ?_
  exact rn_iret (pc := 26) (Nat.le_of_ble_eq_true rfl) (Nat.le_of_ble_eq_true rfl) dL_cell_26
set_option maxRecDepth 100000 in
theorem wx_cell_1 (T : Tb) (hN : isNS T) (p0 : Int32) (p1 : Int32) (p2 : Int32) (p3 : Int32) (σ σ1 : Mm) (h : F_X5_cell p0 p1 p2 p3 σ = some (.inr 1, σ1)) : Ev (.codeWith yL_cell cL_cell 7 (some .int) [(0, 14, 17, 19), (0, 14, 21, 13)]) yL_cell rmW T [.ref 0, .int p0, .int p1, .int p2, .int p3, .ref 185] σ (.inl (some (.int 1))) T σ1 := by
  refine ev_ofH (lo := [some (.ref 0), some (.int p0), some (.int p1), some (.int p2), some (.int p3), some (.ref 185), none]) (j := 1) kw_cell rfl (fun _ => Nat.le_of_ble_eq_true rfl) ?_
  refine rn_aload (pc := 0) (i := 5) dL_cell_0 rfl ?_
  refine rn_iconst (pc := 2) (v := 0) dL_cell_2 (by decide) ?_
  refine rn_aload_n (pc := 3) (i := 0) dL_cell_3 rfl rfl ?_
  refine rn_iload_n (pc := 4) (i := 1) dL_cell_4 rfl rfl ?_
  refine rn_iload_n (pc := 5) (i := 2) dL_cell_5 rfl rfl ?_
  refine rn_iload_n (pc := 6) (i := 3) dL_cell_6 rfl rfl ?_
  refine rn_iload (pc := 7) (i := 4) dL_cell_7 rfl ?_
  refine rn_callVc (pc := 9) (tableOf []) ⟨0, 14, 17, 19⟩ (tableOf [(0, 14, 21, 13)]) hN.1 ⟨_, _, rfl⟩ k_X5_cell.1 k_X5_cell.2.1 k_X5_cell.2.2.1 gw_754 ((c_X5_cell T p0 p1 p2 p3 hN) σ _ σ1 h) rfl rfl (Nat.le_of_ble_eq_true rfl) (Nat.le_of_ble_eq_true rfl) (Nat.le_of_ble_eq_true rfl) (Nat.le_of_ble_eq_true rfl) (Nat.le_of_ble_eq_true rfl) (fun h => by cases h) rfl (fun z hz => by cases hz) (by decide) (by decide) (by decide) gw_607 (by decide) dL_cell_9 (fun q => ?_)
  refine rn_astoreA (pc := 17) (i := 6) (lo' := [some (.ref 0), some (.int p0), some (.int p1), some (.int p2), some (.int p3), some (.ref 185), some (.retAddr q)]) dL_cell_17 (by decide) rfl ?_
  refine rn_iconst (pc := 19) (v := 1) dL_cell_19 (by decide) ?_
  exact rn_iret (pc := 20) (Nat.le_of_ble_eq_true rfl) (Nat.le_of_ble_eq_true rfl) dL_cell_20
set_option maxRecDepth 100000 in
theorem wx_cell_2 (T : Tb) (hN : isNS T) (p0 : Int32) (p1 : Int32) (p2 : Int32) (p3 : Int32) (σ σ1 : Mm) (h : F_X5_cell p0 p1 p2 p3 σ = some (.inr 2, σ1)) : Ev (.codeWith yL_cell cL_cell 7 (some .int) [(0, 14, 17, 19), (0, 14, 21, 13)]) yL_cell rmW T [.ref 0, .int p0, .int p1, .int p2, .int p3, .ref 185] σ (.inl (some (.int 2))) T σ1 := by
  refine ev_ofH (lo := [some (.ref 0), some (.int p0), some (.int p1), some (.int p2), some (.int p3), some (.ref 185), none]) (j := 1) kw_cell rfl (fun _ => Nat.le_of_ble_eq_true rfl) ?_
  refine rn_aload (pc := 0) (i := 5) dL_cell_0 rfl ?_
  refine rn_iconst (pc := 2) (v := 0) dL_cell_2 (by decide) ?_
  refine rn_aload_n (pc := 3) (i := 0) dL_cell_3 rfl rfl ?_
  refine rn_iload_n (pc := 4) (i := 1) dL_cell_4 rfl rfl ?_
  refine rn_iload_n (pc := 5) (i := 2) dL_cell_5 rfl rfl ?_
  refine rn_iload_n (pc := 6) (i := 3) dL_cell_6 rfl rfl ?_
  refine rn_iload (pc := 7) (i := 4) dL_cell_7 rfl ?_
  refine rn_callVc (pc := 9) (tableOf [(0, 14, 17, 19)]) ⟨0, 14, 21, 13⟩ (tableOf []) hN.1 ⟨_, _, rfl⟩ k_X5_cell.1 k_X5_cell.2.1 k_X5_cell.2.2.1 gw_754 ((c_X5_cell T p0 p1 p2 p3 hN) σ _ σ1 h) rfl rfl (Nat.le_of_ble_eq_true rfl) (Nat.le_of_ble_eq_true rfl) (Nat.le_of_ble_eq_true rfl) (Nat.le_of_ble_eq_true rfl) (Nat.le_of_ble_eq_true rfl) (fun h => by cases h) rfl (fun z hz => by simp only [tableOf, List.map_cons, List.map_nil, List.mem_cons, List.not_mem_nil, or_false] at hz; rcases hz with rfl <;> first | exact ⟨by decide, "java/lang/IndexOutOfBoundsException", gw_607, by decide, by decide⟩) (by decide) (by decide) (by decide) gw_587 (by decide) dL_cell_9 (fun q => ?_)
  refine rn_astoreA (pc := 21) (i := 6) (lo' := [some (.ref 0), some (.int p0), some (.int p1), some (.int p2), some (.int p3), some (.ref 185), some (.retAddr q)]) dL_cell_21 (by decide) rfl ?_
  refine rn_iconst (pc := 23) (v := 2) dL_cell_23 (by decide) ?_
  exact rn_iret (pc := 24) (Nat.le_of_ble_eq_true rfl) (Nat.le_of_ble_eq_true rfl) dL_cell_24
theorem kw_edge : CalW yL_edge cL_edge 7 [(0, 14, 17, 19), (0, 14, 21, 13)] 6 := ⟨gw_760, gw_0, ⟨by decide, by decide⟩, by decide +kernel, by decide +kernel, gw_759⟩
set_option maxRecDepth 100000 in
theorem wr_edge (T : Tb) (hN : isNS T) (hO : T[185]? = some (1, 1, [])) (p0 : Int32) (p1 : Int32) (p2 : Int32) (p3 : Int32) (σ : Mm) (r : Int32) (σ1 : Mm) (h : F_X5_edge p0 p1 p2 p3 σ = some (.inl r, σ1)) : Ev (.codeWith yL_edge cL_edge 7 (some .int) [(0, 14, 17, 19), (0, 14, 21, 13)]) yL_edge rmW T [.ref 0, .int p0, .int p1, .int p2, .int p3, .ref 185] σ (.inl (some (.int 0))) T (upM σ1 185 0 r) := by
  refine ev_ofH (lo := [some (.ref 0), some (.int p0), some (.int p1), some (.int p2), some (.int p3), some (.ref 185), none]) (j := 1) kw_edge rfl (fun _ => Nat.le_of_ble_eq_true rfl) ?_
  refine rn_aload (pc := 0) (i := 5) dL_edge_0 rfl ?_
  refine rn_iconst (pc := 2) (v := 0) dL_edge_2 (by decide) ?_
  refine rn_aload_n (pc := 3) (i := 0) dL_edge_3 rfl rfl ?_
  refine rn_iload_n (pc := 4) (i := 1) dL_edge_4 rfl rfl ?_
  refine rn_iload_n (pc := 5) (i := 2) dL_edge_5 rfl rfl ?_
  refine rn_iload_n (pc := 6) (i := 3) dL_edge_6 rfl rfl ?_
  refine rn_iload (pc := 7) (i := 4) dL_edge_7 rfl ?_
  refine rn_callV (pc := 9) (r := some (.int r)) hN.1 ⟨_, _, rfl⟩ k_X5_edge.1 k_X5_edge.2.1 k_X5_edge.2.2.1 gw_761 ((c_X5_edge T p0 p1 p2 p3 hN) σ _ σ1 h) rfl rfl (Nat.le_of_ble_eq_true rfl) (Nat.le_of_ble_eq_true rfl) (Nat.le_of_ble_eq_true rfl) (Nat.le_of_ble_eq_true rfl) (Nat.le_of_ble_eq_true rfl) (fun h => by cases h) dL_edge_9 ?_
  refine rn_i2l (pc := 12) dL_edge_12 ?_
  refine rn_last (pc := 13) hO (by unfold vp_in; decide) dL_edge_13 ?_
  refine rn_goto (pc := 14) (tgt := 25) dL_edge_14 rfl ?_
  refine rn_iconst (pc := 25) (v := 0) dL_edge_25 (by decide) ?_
  exact rn_iret (pc := 26) (Nat.le_of_ble_eq_true rfl) (Nat.le_of_ble_eq_true rfl) dL_edge_26
set_option maxRecDepth 100000 in
theorem wx_edge_1 (T : Tb) (hN : isNS T) (p0 : Int32) (p1 : Int32) (p2 : Int32) (p3 : Int32) (σ σ1 : Mm) (h : F_X5_edge p0 p1 p2 p3 σ = some (.inr 1, σ1)) : Ev (.codeWith yL_edge cL_edge 7 (some .int) [(0, 14, 17, 19), (0, 14, 21, 13)]) yL_edge rmW T [.ref 0, .int p0, .int p1, .int p2, .int p3, .ref 185] σ (.inl (some (.int 1))) T σ1 := by
  refine ev_ofH (lo := [some (.ref 0), some (.int p0), some (.int p1), some (.int p2), some (.int p3), some (.ref 185), none]) (j := 1) kw_edge rfl (fun _ => Nat.le_of_ble_eq_true rfl) ?_
  refine rn_aload (pc := 0) (i := 5) dL_edge_0 rfl ?_
  refine rn_iconst (pc := 2) (v := 0) dL_edge_2 (by decide) ?_
  refine rn_aload_n (pc := 3) (i := 0) dL_edge_3 rfl rfl ?_
  refine rn_iload_n (pc := 4) (i := 1) dL_edge_4 rfl rfl ?_
  refine rn_iload_n (pc := 5) (i := 2) dL_edge_5 rfl rfl ?_
  refine rn_iload_n (pc := 6) (i := 3) dL_edge_6 rfl rfl ?_
  refine rn_iload (pc := 7) (i := 4) dL_edge_7 rfl ?_
  refine rn_callVc (pc := 9) (tableOf []) ⟨0, 14, 17, 19⟩ (tableOf [(0, 14, 21, 13)]) hN.1 ⟨_, _, rfl⟩ k_X5_edge.1 k_X5_edge.2.1 k_X5_edge.2.2.1 gw_761 ((c_X5_edge T p0 p1 p2 p3 hN) σ _ σ1 h) rfl rfl (Nat.le_of_ble_eq_true rfl) (Nat.le_of_ble_eq_true rfl) (Nat.le_of_ble_eq_true rfl) (Nat.le_of_ble_eq_true rfl) (Nat.le_of_ble_eq_true rfl) (fun h => by cases h) rfl (fun z hz => by cases hz) (by decide) (by decide) (by decide) gw_607 (by decide) dL_edge_9 (fun q => ?_)
  refine rn_astoreA (pc := 17) (i := 6) (lo' := [some (.ref 0), some (.int p0), some (.int p1), some (.int p2), some (.int p3), some (.ref 185), some (.retAddr q)]) dL_edge_17 (by decide) rfl ?_
  refine rn_iconst (pc := 19) (v := 1) dL_edge_19 (by decide) ?_
  exact rn_iret (pc := 20) (Nat.le_of_ble_eq_true rfl) (Nat.le_of_ble_eq_true rfl) dL_edge_20
set_option maxRecDepth 100000 in
theorem wx_edge_2 (T : Tb) (hN : isNS T) (p0 : Int32) (p1 : Int32) (p2 : Int32) (p3 : Int32) (σ σ1 : Mm) (h : F_X5_edge p0 p1 p2 p3 σ = some (.inr 2, σ1)) : Ev (.codeWith yL_edge cL_edge 7 (some .int) [(0, 14, 17, 19), (0, 14, 21, 13)]) yL_edge rmW T [.ref 0, .int p0, .int p1, .int p2, .int p3, .ref 185] σ (.inl (some (.int 2))) T σ1 := by
  refine ev_ofH (lo := [some (.ref 0), some (.int p0), some (.int p1), some (.int p2), some (.int p3), some (.ref 185), none]) (j := 1) kw_edge rfl (fun _ => Nat.le_of_ble_eq_true rfl) ?_
  refine rn_aload (pc := 0) (i := 5) dL_edge_0 rfl ?_
  refine rn_iconst (pc := 2) (v := 0) dL_edge_2 (by decide) ?_
  refine rn_aload_n (pc := 3) (i := 0) dL_edge_3 rfl rfl ?_
  refine rn_iload_n (pc := 4) (i := 1) dL_edge_4 rfl rfl ?_
  refine rn_iload_n (pc := 5) (i := 2) dL_edge_5 rfl rfl ?_
  refine rn_iload_n (pc := 6) (i := 3) dL_edge_6 rfl rfl ?_
  refine rn_iload (pc := 7) (i := 4) dL_edge_7 rfl ?_
  refine rn_callVc (pc := 9) (tableOf [(0, 14, 17, 19)]) ⟨0, 14, 21, 13⟩ (tableOf []) hN.1 ⟨_, _, rfl⟩ k_X5_edge.1 k_X5_edge.2.1 k_X5_edge.2.2.1 gw_761 ((c_X5_edge T p0 p1 p2 p3 hN) σ _ σ1 h) rfl rfl (Nat.le_of_ble_eq_true rfl) (Nat.le_of_ble_eq_true rfl) (Nat.le_of_ble_eq_true rfl) (Nat.le_of_ble_eq_true rfl) (Nat.le_of_ble_eq_true rfl) (fun h => by cases h) rfl (fun z hz => by simp only [tableOf, List.map_cons, List.map_nil, List.mem_cons, List.not_mem_nil, or_false] at hz; rcases hz with rfl <;> first | exact ⟨by decide, "java/lang/IndexOutOfBoundsException", gw_607, by decide, by decide⟩) (by decide) (by decide) (by decide) gw_587 (by decide) dL_edge_9 (fun q => ?_)
  refine rn_astoreA (pc := 21) (i := 6) (lo' := [some (.ref 0), some (.int p0), some (.int p1), some (.int p2), some (.int p3), some (.ref 185), some (.retAddr q)]) dL_edge_21 (by decide) rfl ?_
  refine rn_iconst (pc := 23) (v := 2) dL_edge_23 (by decide) ?_
  exact rn_iret (pc := 24) (Nat.le_of_ble_eq_true rfl) (Nat.le_of_ble_eq_true rfl) dL_edge_24
theorem kw_table : CalW yL_table cL_table 5 [(0, 10, 13, 19), (0, 10, 17, 13)] 4 := ⟨gw_767, gw_0, ⟨by decide, by decide⟩, by decide +kernel, by decide +kernel, gw_766⟩
set_option maxRecDepth 100000 in
theorem wr_table (T : Tb) (hN : isNS T) (hO : T[185]? = some (1, 1, [])) (p0 : Int32) (p1 : Int32) (σ : Mm) (r : Int32) (σ1 : Mm) (h : F_X5_table p0 p1 σ = some (.inl r, σ1)) : Ev (.codeWith yL_table cL_table 5 (some .int) [(0, 10, 13, 19), (0, 10, 17, 13)]) yL_table rmW T [.ref 0, .int p0, .int p1, .ref 185] σ (.inl (some (.int 0))) T (upM σ1 185 0 r) := by
  refine ev_ofH (lo := [some (.ref 0), some (.int p0), some (.int p1), some (.ref 185), none]) (j := 1) kw_table rfl (fun _ => Nat.le_of_ble_eq_true rfl) ?_
  refine rn_aload_n (pc := 0) (i := 3) dL_table_0 rfl rfl ?_
  refine rn_iconst (pc := 1) (v := 0) dL_table_1 (by decide) ?_
  refine rn_aload_n (pc := 2) (i := 0) dL_table_2 rfl rfl ?_
  refine rn_iload_n (pc := 3) (i := 1) dL_table_3 rfl rfl ?_
  refine rn_iload_n (pc := 4) (i := 2) dL_table_4 rfl rfl ?_
  refine rn_callV (pc := 5) (r := some (.int r)) hN.1 ⟨_, _, rfl⟩ k_X5_table.1 k_X5_table.2.1 k_X5_table.2.2.1 gw_768 ((c_X5_table T p0 p1 hN) σ _ σ1 h) rfl rfl (Nat.le_of_ble_eq_true rfl) (Nat.le_of_ble_eq_true rfl) (Nat.le_of_ble_eq_true rfl) (Nat.le_of_ble_eq_true rfl) (Nat.le_of_ble_eq_true rfl) (fun h => by cases h) dL_table_5 ?_
  refine rn_i2l (pc := 8) dL_table_8 ?_
  refine rn_last (pc := 9) hO (by unfold vp_in; decide) dL_table_9 ?_
  refine rn_goto (pc := 10) (tgt := 21) dL_table_10 rfl ?_
  refine rn_iconst (pc := 21) (v := 0) dL_table_21 (by decide) ?_
  exact rn_iret (pc := 22) (Nat.le_of_ble_eq_true rfl) (Nat.le_of_ble_eq_true rfl) dL_table_22
set_option maxRecDepth 100000 in
theorem wx_table_1 (T : Tb) (hN : isNS T) (p0 : Int32) (p1 : Int32) (σ σ1 : Mm) (h : F_X5_table p0 p1 σ = some (.inr 1, σ1)) : Ev (.codeWith yL_table cL_table 5 (some .int) [(0, 10, 13, 19), (0, 10, 17, 13)]) yL_table rmW T [.ref 0, .int p0, .int p1, .ref 185] σ (.inl (some (.int 1))) T σ1 := by
  refine ev_ofH (lo := [some (.ref 0), some (.int p0), some (.int p1), some (.ref 185), none]) (j := 1) kw_table rfl (fun _ => Nat.le_of_ble_eq_true rfl) ?_
  refine rn_aload_n (pc := 0) (i := 3) dL_table_0 rfl rfl ?_
  refine rn_iconst (pc := 1) (v := 0) dL_table_1 (by decide) ?_
  refine rn_aload_n (pc := 2) (i := 0) dL_table_2 rfl rfl ?_
  refine rn_iload_n (pc := 3) (i := 1) dL_table_3 rfl rfl ?_
  refine rn_iload_n (pc := 4) (i := 2) dL_table_4 rfl rfl ?_
  refine rn_callVc (pc := 5) (tableOf []) ⟨0, 10, 13, 19⟩ (tableOf [(0, 10, 17, 13)]) hN.1 ⟨_, _, rfl⟩ k_X5_table.1 k_X5_table.2.1 k_X5_table.2.2.1 gw_768 ((c_X5_table T p0 p1 hN) σ _ σ1 h) rfl rfl (Nat.le_of_ble_eq_true rfl) (Nat.le_of_ble_eq_true rfl) (Nat.le_of_ble_eq_true rfl) (Nat.le_of_ble_eq_true rfl) (Nat.le_of_ble_eq_true rfl) (fun h => by cases h) rfl (fun z hz => by cases hz) (by decide) (by decide) (by decide) gw_607 (by decide) dL_table_5 (fun q => ?_)
  refine rn_astoreA (pc := 13) (i := 4) (lo' := [some (.ref 0), some (.int p0), some (.int p1), some (.ref 185), some (.retAddr q)]) dL_table_13 (by decide) rfl ?_
  refine rn_iconst (pc := 15) (v := 1) dL_table_15 (by decide) ?_
  exact rn_iret (pc := 16) (Nat.le_of_ble_eq_true rfl) (Nat.le_of_ble_eq_true rfl) dL_table_16
set_option maxRecDepth 100000 in
theorem wx_table_2 (T : Tb) (hN : isNS T) (p0 : Int32) (p1 : Int32) (σ σ1 : Mm) (h : F_X5_table p0 p1 σ = some (.inr 2, σ1)) : Ev (.codeWith yL_table cL_table 5 (some .int) [(0, 10, 13, 19), (0, 10, 17, 13)]) yL_table rmW T [.ref 0, .int p0, .int p1, .ref 185] σ (.inl (some (.int 2))) T σ1 := by
  refine ev_ofH (lo := [some (.ref 0), some (.int p0), some (.int p1), some (.ref 185), none]) (j := 1) kw_table rfl (fun _ => Nat.le_of_ble_eq_true rfl) ?_
  refine rn_aload_n (pc := 0) (i := 3) dL_table_0 rfl rfl ?_
  refine rn_iconst (pc := 1) (v := 0) dL_table_1 (by decide) ?_
  refine rn_aload_n (pc := 2) (i := 0) dL_table_2 rfl rfl ?_
  refine rn_iload_n (pc := 3) (i := 1) dL_table_3 rfl rfl ?_
  refine rn_iload_n (pc := 4) (i := 2) dL_table_4 rfl rfl ?_
  refine rn_callVc (pc := 5) (tableOf [(0, 10, 13, 19)]) ⟨0, 10, 17, 13⟩ (tableOf []) hN.1 ⟨_, _, rfl⟩ k_X5_table.1 k_X5_table.2.1 k_X5_table.2.2.1 gw_768 ((c_X5_table T p0 p1 hN) σ _ σ1 h) rfl rfl (Nat.le_of_ble_eq_true rfl) (Nat.le_of_ble_eq_true rfl) (Nat.le_of_ble_eq_true rfl) (Nat.le_of_ble_eq_true rfl) (Nat.le_of_ble_eq_true rfl) (fun h => by cases h) rfl (fun z hz => by simp only [tableOf, List.map_cons, List.map_nil, List.mem_cons, List.not_mem_nil, or_false] at hz; rcases hz with rfl <;> first | exact ⟨by decide, "java/lang/IndexOutOfBoundsException", gw_607, by decide, by decide⟩) (by decide) (by decide) (by decide) gw_587 (by decide) dL_table_5 (fun q => ?_)
  refine rn_astoreA (pc := 17) (i := 4) (lo' := [some (.ref 0), some (.int p0), some (.int p1), some (.ref 185), some (.retAddr q)]) dL_table_17 (by decide) rfl ?_
  refine rn_iconst (pc := 19) (v := 2) dL_table_19 (by decide) ?_
  exact rn_iret (pc := 20) (Nat.le_of_ble_eq_true rfl) (Nat.le_of_ble_eq_true rfl) dL_table_20
theorem kw_size : CalW yL_size cL_size 6 [(0, 12, 15, 19)] 5 := ⟨gw_779, gw_0, ⟨by decide, by decide⟩, by decide +kernel, by decide +kernel, gw_778⟩
set_option maxRecDepth 100000 in
theorem wr_size (T : Tb) (hN : isNS T) (hO : T[185]? = some (1, 1, [])) (p0 : Int32) (p1 : Int32) (p2 : Int32) (σ : Mm) (r : Int32) (σ1 : Mm) (h : F_X5_size p0 p1 p2 σ = some (.inl r, σ1)) : Ev (.codeWith yL_size cL_size 6 (some .int) [(0, 12, 15, 19)]) yL_size rmW T [.ref 0, .int p0, .int p1, .int p2, .ref 185] σ (.inl (some (.int 0))) T (upM σ1 185 0 r) := by
  refine ev_ofH (lo := [some (.ref 0), some (.int p0), some (.int p1), some (.int p2), some (.ref 185), none]) (j := 1) kw_size rfl (fun _ => Nat.le_of_ble_eq_true rfl) ?_
  refine rn_aload (pc := 0) (i := 4) dL_size_0 rfl ?_
  refine rn_iconst (pc := 2) (v := 0) dL_size_2 (by decide) ?_
  refine rn_aload_n (pc := 3) (i := 0) dL_size_3 rfl rfl ?_
  refine rn_iload_n (pc := 4) (i := 1) dL_size_4 rfl rfl ?_
  refine rn_iload_n (pc := 5) (i := 2) dL_size_5 rfl rfl ?_
  refine rn_iload_n (pc := 6) (i := 3) dL_size_6 rfl rfl ?_
  refine rn_callV (pc := 7) (r := some (.int r)) hN.1 ⟨_, _, rfl⟩ k_X5_size.1 k_X5_size.2.1 k_X5_size.2.2.1 gw_780 ((c_X5_size T p0 p1 p2 hN) σ _ σ1 h) rfl rfl (Nat.le_of_ble_eq_true rfl) (Nat.le_of_ble_eq_true rfl) (Nat.le_of_ble_eq_true rfl) (Nat.le_of_ble_eq_true rfl) (Nat.le_of_ble_eq_true rfl) (fun h => by cases h) dL_size_7 ?_
  refine rn_i2l (pc := 10) dL_size_10 ?_
  refine rn_last (pc := 11) hO (by unfold vp_in; decide) dL_size_11 ?_
  refine rn_goto (pc := 12) (tgt := 19) dL_size_12 rfl ?_
  refine rn_iconst (pc := 19) (v := 0) dL_size_19 (by decide) ?_
  exact rn_iret (pc := 20) (Nat.le_of_ble_eq_true rfl) (Nat.le_of_ble_eq_true rfl) dL_size_20
set_option maxRecDepth 100000 in
theorem wx_size_1 (T : Tb) (hN : isNS T) (p0 : Int32) (p1 : Int32) (p2 : Int32) (σ σ1 : Mm) (h : F_X5_size p0 p1 p2 σ = some (.inr 1, σ1)) : Ev (.codeWith yL_size cL_size 6 (some .int) [(0, 12, 15, 19)]) yL_size rmW T [.ref 0, .int p0, .int p1, .int p2, .ref 185] σ (.inl (some (.int 1))) T σ1 := by
  refine ev_ofH (lo := [some (.ref 0), some (.int p0), some (.int p1), some (.int p2), some (.ref 185), none]) (j := 1) kw_size rfl (fun _ => Nat.le_of_ble_eq_true rfl) ?_
  refine rn_aload (pc := 0) (i := 4) dL_size_0 rfl ?_
  refine rn_iconst (pc := 2) (v := 0) dL_size_2 (by decide) ?_
  refine rn_aload_n (pc := 3) (i := 0) dL_size_3 rfl rfl ?_
  refine rn_iload_n (pc := 4) (i := 1) dL_size_4 rfl rfl ?_
  refine rn_iload_n (pc := 5) (i := 2) dL_size_5 rfl rfl ?_
  refine rn_iload_n (pc := 6) (i := 3) dL_size_6 rfl rfl ?_
  refine rn_callVc (pc := 7) (tableOf []) ⟨0, 12, 15, 19⟩ (tableOf []) hN.1 ⟨_, _, rfl⟩ k_X5_size.1 k_X5_size.2.1 k_X5_size.2.2.1 gw_780 ((c_X5_size T p0 p1 p2 hN) σ _ σ1 h) rfl rfl (Nat.le_of_ble_eq_true rfl) (Nat.le_of_ble_eq_true rfl) (Nat.le_of_ble_eq_true rfl) (Nat.le_of_ble_eq_true rfl) (Nat.le_of_ble_eq_true rfl) (fun h => by cases h) rfl (fun z hz => by cases hz) (by decide) (by decide) (by decide) gw_607 (by decide) dL_size_7 (fun q => ?_)
  refine rn_astoreA (pc := 15) (i := 5) (lo' := [some (.ref 0), some (.int p0), some (.int p1), some (.int p2), some (.ref 185), some (.retAddr q)]) dL_size_15 (by decide) rfl ?_
  refine rn_iconst (pc := 17) (v := 1) dL_size_17 (by decide) ?_
  exact rn_iret (pc := 18) (Nat.le_of_ble_eq_true rfl) (Nat.le_of_ble_eq_true rfl) dL_size_18
theorem kw_page : CalW yL_page cL_page 4 [(0, 9, 12, 19)] 3 := ⟨gw_786, gw_0, ⟨by decide, by decide⟩, by decide +kernel, by decide +kernel, gw_785⟩
set_option maxRecDepth 100000 in
theorem wr_page (T : Tb) (hN : isNS T) (hO : T[185]? = some (1, 1, [])) (p0 : Int32) (σ : Mm) (r : Int32) (σ1 : Mm) (h : F_X5_page p0 σ = some (.inl r, σ1)) : Ev (.codeWith yL_page cL_page 4 (some .int) [(0, 9, 12, 19)]) yL_page rmW T [.ref 0, .int p0, .ref 185] σ (.inl (some (.int 0))) T (upM σ1 185 0 r) := by
  refine ev_ofH (lo := [some (.ref 0), some (.int p0), some (.ref 185), none]) (j := 1) kw_page rfl (fun _ => Nat.le_of_ble_eq_true rfl) ?_
  refine rn_aload_n (pc := 0) (i := 2) dL_page_0 rfl rfl ?_
  refine rn_iconst (pc := 1) (v := 0) dL_page_1 (by decide) ?_
  refine rn_aload_n (pc := 2) (i := 0) dL_page_2 rfl rfl ?_
  refine rn_iload_n (pc := 3) (i := 1) dL_page_3 rfl rfl ?_
  refine rn_callV (pc := 4) (r := some (.int r)) hN.1 ⟨_, _, rfl⟩ k_X5_page.1 k_X5_page.2.1 k_X5_page.2.2.1 gw_787 ((c_X5_page T p0 hN) σ _ σ1 h) rfl rfl (Nat.le_of_ble_eq_true rfl) (Nat.le_of_ble_eq_true rfl) (Nat.le_of_ble_eq_true rfl) (Nat.le_of_ble_eq_true rfl) (Nat.le_of_ble_eq_true rfl) (fun h => by cases h) dL_page_4 ?_
  refine rn_i2l (pc := 7) dL_page_7 ?_
  refine rn_last (pc := 8) hO (by unfold vp_in; decide) dL_page_8 ?_
  refine rn_goto (pc := 9) (tgt := 15) dL_page_9 rfl ?_
  refine rn_iconst (pc := 15) (v := 0) dL_page_15 (by decide) ?_
  exact rn_iret (pc := 16) (Nat.le_of_ble_eq_true rfl) (Nat.le_of_ble_eq_true rfl) dL_page_16
set_option maxRecDepth 100000 in
theorem wx_page_1 (T : Tb) (hN : isNS T) (p0 : Int32) (σ σ1 : Mm) (h : F_X5_page p0 σ = some (.inr 1, σ1)) : Ev (.codeWith yL_page cL_page 4 (some .int) [(0, 9, 12, 19)]) yL_page rmW T [.ref 0, .int p0, .ref 185] σ (.inl (some (.int 1))) T σ1 := by
  refine ev_ofH (lo := [some (.ref 0), some (.int p0), some (.ref 185), none]) (j := 1) kw_page rfl (fun _ => Nat.le_of_ble_eq_true rfl) ?_
  refine rn_aload_n (pc := 0) (i := 2) dL_page_0 rfl rfl ?_
  refine rn_iconst (pc := 1) (v := 0) dL_page_1 (by decide) ?_
  refine rn_aload_n (pc := 2) (i := 0) dL_page_2 rfl rfl ?_
  refine rn_iload_n (pc := 3) (i := 1) dL_page_3 rfl rfl ?_
  refine rn_callVc (pc := 4) (tableOf []) ⟨0, 9, 12, 19⟩ (tableOf []) hN.1 ⟨_, _, rfl⟩ k_X5_page.1 k_X5_page.2.1 k_X5_page.2.2.1 gw_787 ((c_X5_page T p0 hN) σ _ σ1 h) rfl rfl (Nat.le_of_ble_eq_true rfl) (Nat.le_of_ble_eq_true rfl) (Nat.le_of_ble_eq_true rfl) (Nat.le_of_ble_eq_true rfl) (Nat.le_of_ble_eq_true rfl) (fun h => by cases h) rfl (fun z hz => by cases hz) (by decide) (by decide) (by decide) gw_607 (by decide) dL_page_4 (fun q => ?_)
  refine rn_astore_nA (pc := 12) (i := 3) (lo' := [some (.ref 0), some (.int p0), some (.ref 185), some (.retAddr q)]) dL_page_12 rfl (by decide) rfl ?_
  refine rn_iconst (pc := 13) (v := 1) dL_page_13 (by decide) ?_
  exact rn_iret (pc := 14) (Nat.le_of_ble_eq_true rfl) (Nat.le_of_ble_eq_true rfl) dL_page_14
theorem kw_count : CalW yL_count cL_count 4 [(0, 9, 12, 13)] 3 := ⟨gw_790, gw_0, ⟨by decide, by decide⟩, by decide +kernel, by decide +kernel, gw_789⟩
set_option maxRecDepth 100000 in
theorem wr_count (T : Tb) (hN : isNS T) (hO : T[185]? = some (1, 1, [])) (p0 : Int32) (σ : Mm) (r : Int32) (σ1 : Mm) (h : F_X5_count p0 σ = some (.inl r, σ1)) : Ev (.codeWith yL_count cL_count 4 (some .int) [(0, 9, 12, 13)]) yL_count rmW T [.ref 0, .int p0, .ref 185] σ (.inl (some (.int 0))) T (upM σ1 185 0 r) := by
  refine ev_ofH (lo := [some (.ref 0), some (.int p0), some (.ref 185), none]) (j := 1) kw_count rfl (fun _ => Nat.le_of_ble_eq_true rfl) ?_
  refine rn_aload_n (pc := 0) (i := 2) dL_count_0 rfl rfl ?_
  refine rn_iconst (pc := 1) (v := 0) dL_count_1 (by decide) ?_
  refine rn_aload_n (pc := 2) (i := 0) dL_count_2 rfl rfl ?_
  refine rn_iload_n (pc := 3) (i := 1) dL_count_3 rfl rfl ?_
  refine rn_callV (pc := 4) (r := some (.int r)) hN.1 ⟨_, _, rfl⟩ k_X5_count.1 k_X5_count.2.1 k_X5_count.2.2.1 gw_791 ((c_X5_count T p0 hN) σ _ σ1 h) rfl rfl (Nat.le_of_ble_eq_true rfl) (Nat.le_of_ble_eq_true rfl) (Nat.le_of_ble_eq_true rfl) (Nat.le_of_ble_eq_true rfl) (Nat.le_of_ble_eq_true rfl) (fun h => by cases h) dL_count_4 ?_
  refine rn_i2l (pc := 7) dL_count_7 ?_
  refine rn_last (pc := 8) hO (by unfold vp_in; decide) dL_count_8 ?_
  refine rn_goto (pc := 9) (tgt := 15) dL_count_9 rfl ?_
  refine rn_iconst (pc := 15) (v := 0) dL_count_15 (by decide) ?_
  exact rn_iret (pc := 16) (Nat.le_of_ble_eq_true rfl) (Nat.le_of_ble_eq_true rfl) dL_count_16
set_option maxRecDepth 100000 in
theorem wx_count_2 (T : Tb) (hN : isNS T) (p0 : Int32) (σ σ1 : Mm) (h : F_X5_count p0 σ = some (.inr 2, σ1)) : Ev (.codeWith yL_count cL_count 4 (some .int) [(0, 9, 12, 13)]) yL_count rmW T [.ref 0, .int p0, .ref 185] σ (.inl (some (.int 1))) T σ1 := by
  refine ev_ofH (lo := [some (.ref 0), some (.int p0), some (.ref 185), none]) (j := 1) kw_count rfl (fun _ => Nat.le_of_ble_eq_true rfl) ?_
  refine rn_aload_n (pc := 0) (i := 2) dL_count_0 rfl rfl ?_
  refine rn_iconst (pc := 1) (v := 0) dL_count_1 (by decide) ?_
  refine rn_aload_n (pc := 2) (i := 0) dL_count_2 rfl rfl ?_
  refine rn_iload_n (pc := 3) (i := 1) dL_count_3 rfl rfl ?_
  refine rn_callVc (pc := 4) (tableOf []) ⟨0, 9, 12, 13⟩ (tableOf []) hN.1 ⟨_, _, rfl⟩ k_X5_count.1 k_X5_count.2.1 k_X5_count.2.2.1 gw_791 ((c_X5_count T p0 hN) σ _ σ1 h) rfl rfl (Nat.le_of_ble_eq_true rfl) (Nat.le_of_ble_eq_true rfl) (Nat.le_of_ble_eq_true rfl) (Nat.le_of_ble_eq_true rfl) (Nat.le_of_ble_eq_true rfl) (fun h => by cases h) rfl (fun z hz => by cases hz) (by decide) (by decide) (by decide) gw_587 (by decide) dL_count_4 (fun q => ?_)
  refine rn_astore_nA (pc := 12) (i := 3) (lo' := [some (.ref 0), some (.int p0), some (.ref 185), some (.retAddr q)]) dL_count_12 rfl (by decide) rfl ?_
  refine rn_iconst (pc := 13) (v := 1) dL_count_13 (by decide) ?_
  exact rn_iret (pc := 14) (Nat.le_of_ble_eq_true rfl) (Nat.le_of_ble_eq_true rfl) dL_count_14
theorem kw_ifPut : CalW yL_ifPut cL_ifPut 8 [(0, 16, 19, 19), (0, 16, 23, 13)] 7 := ⟨gw_794, gw_0, ⟨by decide, by decide⟩, by decide +kernel, by decide +kernel, gw_793⟩
set_option maxRecDepth 100000 in
theorem wr_ifPut (T : Tb) (hN : isNS T) (hO : T[185]? = some (1, 1, [])) (p0 : Int32) (p1 : Int32) (p2 : Int32) (p3 : Int32) (p4 : Int32) (σ : Mm) (r : Int32) (σ1 : Mm) (h : F_X5_ifPut p0 p1 p2 p3 p4 σ = some (.inl r, σ1)) : Ev (.codeWith yL_ifPut cL_ifPut 8 (some .int) [(0, 16, 19, 19), (0, 16, 23, 13)]) yL_ifPut rmW T [.ref 0, .int p0, .int p1, .int p2, .int p3, .int p4, .ref 185] σ (.inl (some (.int 0))) T (upM σ1 185 0 r) := by
  refine ev_ofH (lo := [some (.ref 0), some (.int p0), some (.int p1), some (.int p2), some (.int p3), some (.int p4), some (.ref 185), none]) (j := 1) kw_ifPut rfl (fun _ => Nat.le_of_ble_eq_true rfl) ?_
  refine rn_aload (pc := 0) (i := 6) dL_ifPut_0 rfl ?_
  refine rn_iconst (pc := 2) (v := 0) dL_ifPut_2 (by decide) ?_
  refine rn_aload_n (pc := 3) (i := 0) dL_ifPut_3 rfl rfl ?_
  refine rn_iload_n (pc := 4) (i := 1) dL_ifPut_4 rfl rfl ?_
  refine rn_iload_n (pc := 5) (i := 2) dL_ifPut_5 rfl rfl ?_
  refine rn_iload_n (pc := 6) (i := 3) dL_ifPut_6 rfl rfl ?_
  refine rn_iload (pc := 7) (i := 4) dL_ifPut_7 rfl ?_
  refine rn_iload (pc := 9) (i := 5) dL_ifPut_9 rfl ?_
  refine rn_callV (pc := 11) (r := some (.int r)) hN.1 ⟨_, _, rfl⟩ k_X5_ifPut.1 k_X5_ifPut.2.1 k_X5_ifPut.2.2.1 gw_795 ((c_X5_ifPut T p0 p1 p2 p3 p4 hN) σ _ σ1 h) rfl rfl (Nat.le_of_ble_eq_true rfl) (Nat.le_of_ble_eq_true rfl) (Nat.le_of_ble_eq_true rfl) (Nat.le_of_ble_eq_true rfl) (Nat.le_of_ble_eq_true rfl) (fun h => by cases h) dL_ifPut_11 ?_
  refine rn_i2l (pc := 14) dL_ifPut_14 ?_
  refine rn_last (pc := 15) hO (by unfold vp_in; decide) dL_ifPut_15 ?_
  refine rn_goto (pc := 16) (tgt := 27) dL_ifPut_16 rfl ?_
  refine rn_iconst (pc := 27) (v := 0) dL_ifPut_27 (by decide) ?_
  exact rn_iret (pc := 28) (Nat.le_of_ble_eq_true rfl) (Nat.le_of_ble_eq_true rfl) dL_ifPut_28
set_option maxRecDepth 100000 in
theorem wx_ifPut_1 (T : Tb) (hN : isNS T) (p0 : Int32) (p1 : Int32) (p2 : Int32) (p3 : Int32) (p4 : Int32) (σ σ1 : Mm) (h : F_X5_ifPut p0 p1 p2 p3 p4 σ = some (.inr 1, σ1)) : Ev (.codeWith yL_ifPut cL_ifPut 8 (some .int) [(0, 16, 19, 19), (0, 16, 23, 13)]) yL_ifPut rmW T [.ref 0, .int p0, .int p1, .int p2, .int p3, .int p4, .ref 185] σ (.inl (some (.int 1))) T σ1 := by
  refine ev_ofH (lo := [some (.ref 0), some (.int p0), some (.int p1), some (.int p2), some (.int p3), some (.int p4), some (.ref 185), none]) (j := 1) kw_ifPut rfl (fun _ => Nat.le_of_ble_eq_true rfl) ?_
  refine rn_aload (pc := 0) (i := 6) dL_ifPut_0 rfl ?_
  refine rn_iconst (pc := 2) (v := 0) dL_ifPut_2 (by decide) ?_
  refine rn_aload_n (pc := 3) (i := 0) dL_ifPut_3 rfl rfl ?_
  refine rn_iload_n (pc := 4) (i := 1) dL_ifPut_4 rfl rfl ?_
  refine rn_iload_n (pc := 5) (i := 2) dL_ifPut_5 rfl rfl ?_
  refine rn_iload_n (pc := 6) (i := 3) dL_ifPut_6 rfl rfl ?_
  refine rn_iload (pc := 7) (i := 4) dL_ifPut_7 rfl ?_
  refine rn_iload (pc := 9) (i := 5) dL_ifPut_9 rfl ?_
  refine rn_callVc (pc := 11) (tableOf []) ⟨0, 16, 19, 19⟩ (tableOf [(0, 16, 23, 13)]) hN.1 ⟨_, _, rfl⟩ k_X5_ifPut.1 k_X5_ifPut.2.1 k_X5_ifPut.2.2.1 gw_795 ((c_X5_ifPut T p0 p1 p2 p3 p4 hN) σ _ σ1 h) rfl rfl (Nat.le_of_ble_eq_true rfl) (Nat.le_of_ble_eq_true rfl) (Nat.le_of_ble_eq_true rfl) (Nat.le_of_ble_eq_true rfl) (Nat.le_of_ble_eq_true rfl) (fun h => by cases h) rfl (fun z hz => by cases hz) (by decide) (by decide) (by decide) gw_607 (by decide) dL_ifPut_11 (fun q => ?_)
  refine rn_astoreA (pc := 19) (i := 7) (lo' := [some (.ref 0), some (.int p0), some (.int p1), some (.int p2), some (.int p3), some (.int p4), some (.ref 185), some (.retAddr q)]) dL_ifPut_19 (by decide) rfl ?_
  refine rn_iconst (pc := 21) (v := 1) dL_ifPut_21 (by decide) ?_
  exact rn_iret (pc := 22) (Nat.le_of_ble_eq_true rfl) (Nat.le_of_ble_eq_true rfl) dL_ifPut_22
set_option maxRecDepth 100000 in
theorem wx_ifPut_2 (T : Tb) (hN : isNS T) (p0 : Int32) (p1 : Int32) (p2 : Int32) (p3 : Int32) (p4 : Int32) (σ σ1 : Mm) (h : F_X5_ifPut p0 p1 p2 p3 p4 σ = some (.inr 2, σ1)) : Ev (.codeWith yL_ifPut cL_ifPut 8 (some .int) [(0, 16, 19, 19), (0, 16, 23, 13)]) yL_ifPut rmW T [.ref 0, .int p0, .int p1, .int p2, .int p3, .int p4, .ref 185] σ (.inl (some (.int 2))) T σ1 := by
  refine ev_ofH (lo := [some (.ref 0), some (.int p0), some (.int p1), some (.int p2), some (.int p3), some (.int p4), some (.ref 185), none]) (j := 1) kw_ifPut rfl (fun _ => Nat.le_of_ble_eq_true rfl) ?_
  refine rn_aload (pc := 0) (i := 6) dL_ifPut_0 rfl ?_
  refine rn_iconst (pc := 2) (v := 0) dL_ifPut_2 (by decide) ?_
  refine rn_aload_n (pc := 3) (i := 0) dL_ifPut_3 rfl rfl ?_
  refine rn_iload_n (pc := 4) (i := 1) dL_ifPut_4 rfl rfl ?_
  refine rn_iload_n (pc := 5) (i := 2) dL_ifPut_5 rfl rfl ?_
  refine rn_iload_n (pc := 6) (i := 3) dL_ifPut_6 rfl rfl ?_
  refine rn_iload (pc := 7) (i := 4) dL_ifPut_7 rfl ?_
  refine rn_iload (pc := 9) (i := 5) dL_ifPut_9 rfl ?_
  refine rn_callVc (pc := 11) (tableOf [(0, 16, 19, 19)]) ⟨0, 16, 23, 13⟩ (tableOf []) hN.1 ⟨_, _, rfl⟩ k_X5_ifPut.1 k_X5_ifPut.2.1 k_X5_ifPut.2.2.1 gw_795 ((c_X5_ifPut T p0 p1 p2 p3 p4 hN) σ _ σ1 h) rfl rfl (Nat.le_of_ble_eq_true rfl) (Nat.le_of_ble_eq_true rfl) (Nat.le_of_ble_eq_true rfl) (Nat.le_of_ble_eq_true rfl) (Nat.le_of_ble_eq_true rfl) (fun h => by cases h) rfl (fun z hz => by simp only [tableOf, List.map_cons, List.map_nil, List.mem_cons, List.not_mem_nil, or_false] at hz; rcases hz with rfl <;> first | exact ⟨by decide, "java/lang/IndexOutOfBoundsException", gw_607, by decide, by decide⟩) (by decide) (by decide) (by decide) gw_587 (by decide) dL_ifPut_11 (fun q => ?_)
  refine rn_astoreA (pc := 23) (i := 7) (lo' := [some (.ref 0), some (.int p0), some (.int p1), some (.int p2), some (.int p3), some (.int p4), some (.ref 185), some (.retAddr q)]) dL_ifPut_23 (by decide) rfl ?_
  refine rn_iconst (pc := 25) (v := 2) dL_ifPut_25 (by decide) ?_
  exact rn_iret (pc := 26) (Nat.le_of_ble_eq_true rfl) (Nat.le_of_ble_eq_true rfl) dL_ifPut_26
theorem kw_countedBy : CalW yL_countedBy cL_countedBy 6 [(0, 12, 15, 19)] 5 := ⟨gw_801, gw_0, ⟨by decide, by decide⟩, by decide +kernel, by decide +kernel, gw_800⟩
set_option maxRecDepth 100000 in
theorem wr_countedBy (T : Tb) (hN : isNS T) (hO : T[185]? = some (1, 1, [])) (p0 : Int32) (p1 : Int32) (p2 : Int32) (σ : Mm) (r : Int32) (σ1 : Mm) (h : F_X5_countedBy p0 p1 p2 σ = some (.inl r, σ1)) : Ev (.codeWith yL_countedBy cL_countedBy 6 (some .int) [(0, 12, 15, 19)]) yL_countedBy rmW T [.ref 0, .int p0, .int p1, .int p2, .ref 185] σ (.inl (some (.int 0))) T (upM σ1 185 0 r) := by
  refine ev_ofH (lo := [some (.ref 0), some (.int p0), some (.int p1), some (.int p2), some (.ref 185), none]) (j := 1) kw_countedBy rfl (fun _ => Nat.le_of_ble_eq_true rfl) ?_
  refine rn_aload (pc := 0) (i := 4) dL_countedBy_0 rfl ?_
  refine rn_iconst (pc := 2) (v := 0) dL_countedBy_2 (by decide) ?_
  refine rn_aload_n (pc := 3) (i := 0) dL_countedBy_3 rfl rfl ?_
  refine rn_iload_n (pc := 4) (i := 1) dL_countedBy_4 rfl rfl ?_
  refine rn_iload_n (pc := 5) (i := 2) dL_countedBy_5 rfl rfl ?_
  refine rn_iload_n (pc := 6) (i := 3) dL_countedBy_6 rfl rfl ?_
  refine rn_callV (pc := 7) (r := some (.int r)) hN.1 ⟨_, _, rfl⟩ k_X5_countedBy.1 k_X5_countedBy.2.1 k_X5_countedBy.2.2.1 gw_802 ((c_X5_countedBy T p0 p1 p2 hN) σ _ σ1 h) rfl rfl (Nat.le_of_ble_eq_true rfl) (Nat.le_of_ble_eq_true rfl) (Nat.le_of_ble_eq_true rfl) (Nat.le_of_ble_eq_true rfl) (Nat.le_of_ble_eq_true rfl) (fun h => by cases h) dL_countedBy_7 ?_
  refine rn_i2l (pc := 10) dL_countedBy_10 ?_
  refine rn_last (pc := 11) hO (by unfold vp_in; decide) dL_countedBy_11 ?_
  refine rn_goto (pc := 12) (tgt := 19) dL_countedBy_12 rfl ?_
  refine rn_iconst (pc := 19) (v := 0) dL_countedBy_19 (by decide) ?_
  exact rn_iret (pc := 20) (Nat.le_of_ble_eq_true rfl) (Nat.le_of_ble_eq_true rfl) dL_countedBy_20
set_option maxRecDepth 100000 in
theorem wx_countedBy_1 (T : Tb) (hN : isNS T) (p0 : Int32) (p1 : Int32) (p2 : Int32) (σ σ1 : Mm) (h : F_X5_countedBy p0 p1 p2 σ = some (.inr 1, σ1)) : Ev (.codeWith yL_countedBy cL_countedBy 6 (some .int) [(0, 12, 15, 19)]) yL_countedBy rmW T [.ref 0, .int p0, .int p1, .int p2, .ref 185] σ (.inl (some (.int 1))) T σ1 := by
  refine ev_ofH (lo := [some (.ref 0), some (.int p0), some (.int p1), some (.int p2), some (.ref 185), none]) (j := 1) kw_countedBy rfl (fun _ => Nat.le_of_ble_eq_true rfl) ?_
  refine rn_aload (pc := 0) (i := 4) dL_countedBy_0 rfl ?_
  refine rn_iconst (pc := 2) (v := 0) dL_countedBy_2 (by decide) ?_
  refine rn_aload_n (pc := 3) (i := 0) dL_countedBy_3 rfl rfl ?_
  refine rn_iload_n (pc := 4) (i := 1) dL_countedBy_4 rfl rfl ?_
  refine rn_iload_n (pc := 5) (i := 2) dL_countedBy_5 rfl rfl ?_
  refine rn_iload_n (pc := 6) (i := 3) dL_countedBy_6 rfl rfl ?_
  refine rn_callVc (pc := 7) (tableOf []) ⟨0, 12, 15, 19⟩ (tableOf []) hN.1 ⟨_, _, rfl⟩ k_X5_countedBy.1 k_X5_countedBy.2.1 k_X5_countedBy.2.2.1 gw_802 ((c_X5_countedBy T p0 p1 p2 hN) σ _ σ1 h) rfl rfl (Nat.le_of_ble_eq_true rfl) (Nat.le_of_ble_eq_true rfl) (Nat.le_of_ble_eq_true rfl) (Nat.le_of_ble_eq_true rfl) (Nat.le_of_ble_eq_true rfl) (fun h => by cases h) rfl (fun z hz => by cases hz) (by decide) (by decide) (by decide) gw_607 (by decide) dL_countedBy_7 (fun q => ?_)
  refine rn_astoreA (pc := 15) (i := 5) (lo' := [some (.ref 0), some (.int p0), some (.int p1), some (.int p2), some (.ref 185), some (.retAddr q)]) dL_countedBy_15 (by decide) rfl ?_
  refine rn_iconst (pc := 17) (v := 1) dL_countedBy_17 (by decide) ?_
  exact rn_iret (pc := 18) (Nat.le_of_ble_eq_true rfl) (Nat.le_of_ble_eq_true rfl) dL_countedBy_18
theorem kw_heightFor : CalW yL_heightFor cL_heightFor 4 [(0, 9, 12, 13)] 3 := ⟨gw_808, gw_0, ⟨by decide, by decide⟩, by decide +kernel, by decide +kernel, gw_807⟩
set_option maxRecDepth 100000 in
theorem wr_heightFor (T : Tb) (hN : isNS T) (hO : T[185]? = some (1, 1, [])) (p0 : Int32) (σ : Mm) (r : Int32) (σ1 : Mm) (h : F_X5_heightFor p0 σ = some (.inl r, σ1)) : Ev (.codeWith yL_heightFor cL_heightFor 4 (some .int) [(0, 9, 12, 13)]) yL_heightFor rmW T [.ref 0, .int p0, .ref 185] σ (.inl (some (.int 0))) T (upM σ1 185 0 r) := by
  refine ev_ofH (lo := [some (.ref 0), some (.int p0), some (.ref 185), none]) (j := 1) kw_heightFor rfl (fun _ => Nat.le_of_ble_eq_true rfl) ?_
  refine rn_aload_n (pc := 0) (i := 2) dL_heightFor_0 rfl rfl ?_
  refine rn_iconst (pc := 1) (v := 0) dL_heightFor_1 (by decide) ?_
  refine rn_aload_n (pc := 2) (i := 0) dL_heightFor_2 rfl rfl ?_
  refine rn_iload_n (pc := 3) (i := 1) dL_heightFor_3 rfl rfl ?_
  refine rn_callV (pc := 4) (r := some (.int r)) hN.1 ⟨_, _, rfl⟩ k_X5_heightFor.1 k_X5_heightFor.2.1 k_X5_heightFor.2.2.1 gw_809 ((c_X5_heightFor T p0 hN) σ _ σ1 h) rfl rfl (Nat.le_of_ble_eq_true rfl) (Nat.le_of_ble_eq_true rfl) (Nat.le_of_ble_eq_true rfl) (Nat.le_of_ble_eq_true rfl) (Nat.le_of_ble_eq_true rfl) (fun h => by cases h) dL_heightFor_4 ?_
  refine rn_i2l (pc := 7) dL_heightFor_7 ?_
  refine rn_last (pc := 8) hO (by unfold vp_in; decide) dL_heightFor_8 ?_
  refine rn_goto (pc := 9) (tgt := 15) dL_heightFor_9 rfl ?_
  refine rn_iconst (pc := 15) (v := 0) dL_heightFor_15 (by decide) ?_
  exact rn_iret (pc := 16) (Nat.le_of_ble_eq_true rfl) (Nat.le_of_ble_eq_true rfl) dL_heightFor_16
set_option maxRecDepth 100000 in
theorem wx_heightFor_2 (T : Tb) (hN : isNS T) (p0 : Int32) (σ σ1 : Mm) (h : F_X5_heightFor p0 σ = some (.inr 2, σ1)) : Ev (.codeWith yL_heightFor cL_heightFor 4 (some .int) [(0, 9, 12, 13)]) yL_heightFor rmW T [.ref 0, .int p0, .ref 185] σ (.inl (some (.int 1))) T σ1 := by
  refine ev_ofH (lo := [some (.ref 0), some (.int p0), some (.ref 185), none]) (j := 1) kw_heightFor rfl (fun _ => Nat.le_of_ble_eq_true rfl) ?_
  refine rn_aload_n (pc := 0) (i := 2) dL_heightFor_0 rfl rfl ?_
  refine rn_iconst (pc := 1) (v := 0) dL_heightFor_1 (by decide) ?_
  refine rn_aload_n (pc := 2) (i := 0) dL_heightFor_2 rfl rfl ?_
  refine rn_iload_n (pc := 3) (i := 1) dL_heightFor_3 rfl rfl ?_
  refine rn_callVc (pc := 4) (tableOf []) ⟨0, 9, 12, 13⟩ (tableOf []) hN.1 ⟨_, _, rfl⟩ k_X5_heightFor.1 k_X5_heightFor.2.1 k_X5_heightFor.2.2.1 gw_809 ((c_X5_heightFor T p0 hN) σ _ σ1 h) rfl rfl (Nat.le_of_ble_eq_true rfl) (Nat.le_of_ble_eq_true rfl) (Nat.le_of_ble_eq_true rfl) (Nat.le_of_ble_eq_true rfl) (Nat.le_of_ble_eq_true rfl) (fun h => by cases h) rfl (fun z hz => by cases hz) (by decide) (by decide) (by decide) gw_587 (by decide) dL_heightFor_4 (fun q => ?_)
  refine rn_astore_nA (pc := 12) (i := 3) (lo' := [some (.ref 0), some (.int p0), some (.ref 185), some (.retAddr q)]) dL_heightFor_12 rfl (by decide) rfl ?_
  refine rn_iconst (pc := 13) (v := 1) dL_heightFor_13 (by decide) ?_
  exact rn_iret (pc := 14) (Nat.le_of_ble_eq_true rfl) (Nat.le_of_ble_eq_true rfl) dL_heightFor_14
