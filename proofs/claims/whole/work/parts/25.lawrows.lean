/-! THE CLAIM OUT OF ONE WALK OF THE LAW'S BODY. Your part is whole_start (and what it stands on); all else here is the same for every law, but numbers. -/
def R_law : String := "NestedSumsLaw"
def lw_P (b : Addr) (xs : List Int32) (args : Array Value) (s : State) : Prop := args = #[.ref b] ∧ s.IntsAt b xs ∧ xs.length ≤ 3072 ∧ (Jvm.Cond.and given_1 narrow_1).before args s = true
/-- what a walk over the start with the record d0 says of its end, said of the start itself -/
theorem lw_closed {s t : State} {o : Outcome} {d0 : Drawn} {L : List Loc} {k n : Nat} (hd0 : s.drawn.sameBut d0 lw_cs) (hv : ∃ v, o = .returned v) (hW : (s.setDrawn d0).WarmedH t.vm) (hs : (s.setDrawn d0).sameButNew ({ t with vm := s.vm } : State) L k n) : State.butDraws s t lw_cs (fun t1 => Framed s o t1 L k n) := by
  have h2 : t.drawn = d0 := congrArg State.drawn hs.1
  refine ⟨⟨hv, hW, State.sameButNew.setDrawn hs s.drawn⟩, ?_, by decide⟩
  rw [h2]
  exact hd0
def lw_Q (_ : Array Value) (s : State) (o : Outcome) (t : State) : Prop := o = .returned (some (.int 1)) ∧ State.butDraws s t lw_cs (fun t1 => Framed s o t1 [] 601024 7293034)
def lw_Z (below : List Frame) (a : Array Value) (s : State) : State → Prop := fun t => ∃ o, t.status = .running ∧ Ended t below o ∧ lw_Q a s o t
/-- the law's own end, with 1 on the stack, nothing written that was there before, its room as the claim has it; d0: the record of draws at this point (at the entry s.drawn: begin with 'refine W.base ?_' and 'have hd0 := Drawn.sameBut.refl s.drawn lw_cs') -/
theorem lw_ret {p : Program} {l : Launch} {e : Env} {s : State} {m : MethodId} {below : List Frame} {meth : Method} {c : Code} {b : Nat} {d0 : Drawn} (hd0 : s.drawn.sameBut d0 lw_cs) (hx : p.tables.exec = Jvm.exec) (hb : c.code = code) (hr : meth.sig.returnType = ret) (hlocks : meth.locks = false) {pc : Nat} {H : Heap} {ls : Array Slot} (hdg : decode code pc = .ok (.ireturn, 1)) : W p l e room_1 (s.setDrawn d0) m #[Value.ref b] below meth c H [] 601024 7293034 (lw_Z below #[Value.ref b] s) (F0 m pc ls [.int 1]) := by
  intro T hT X
  obtain ⟨fs, hret, hrun, hended, hW, hframe⟩ := X.leave (v := some (.int 1)) (hlocks := hlocks) (fun h => by rw [hr] at h; cases h)
  have hmeth' : T.vm.method? m = some meth := X.method'
  refine ⟨T.setFrames fs, ?_, .returned (some (.int 1)), hrun, hended, rfl, lw_closed hd0 ⟨_, rfl⟩ hW hframe⟩
  jvm_step X.here [X.here.top, hx, hb, hdg, hmeth', hr, ret, narrow_b1]
  (try refine ⟨rfl, ?_⟩); (try refine ⟨rfl, ?_⟩)
  first | (intro acts; rw [hret _ acts rfl rfl rfl]) | rw [hret _ _ rfl rfl rfl]
  exact Steps.refl _
/-- what holds at the law's entry: the machine, the code, the tables' words (any of lw_tbl by 'hts w (by decide +kernel)'), the script of L ints xs at the cell b, what the Statement gives of the start (any of its parts by flat_of_before) -/
def lw_At (p : Program) (s : State) (m : MethodId) (meth : Method) (c : Code) (b L : Nat) (xs : Nat → Int32) : Prop :=
  p.tables.exec = Jvm.exec ∧ c.code = code ∧ meth.sig.returnType = ret ∧ c.maxLocals = 9 ∧ s.vm.findClass R_law = some m.cls ∧ (∀ w ∈ lw_tbl, w.before #[Value.ref b] s = true) ∧ va_X b L xs s s.heap ∧ b < s.heap.size ∧ meth.locks = false ∧ (Jvm.Cond.and given_1 narrow_1).before #[Value.ref b] s = true
theorem gw_584 : Cond.methodLink RL 80 yL_begin ∈ GW := List.mem_filter.mpr ⟨List.mem_append_right _ (List.mem_of_getElem? (i := 584) (by decide +kernel)), by decide +kernel⟩
theorem gw_915 : Cond.methodLink RL 85 yX6_begin ∈ GW := List.mem_filter.mpr ⟨List.mem_append_right _ (List.mem_of_getElem? (i := 915) (by decide +kernel)), by decide +kernel⟩
theorem gw_900 : Cond.methodLink RL 86 yX6_thrown ∈ GW := List.mem_filter.mpr ⟨List.mem_append_right _ (List.mem_of_getElem? (i := 900) (by decide +kernel)), by decide +kernel⟩
theorem gw_604 : Cond.methodLink RL 89 yL_nest ∈ GW := List.mem_filter.mpr ⟨List.mem_append_right _ (List.mem_of_getElem? (i := 604) (by decide +kernel)), by decide +kernel⟩
theorem gw_926 : Cond.methodLink RL 92 yX6_nest ∈ GW := List.mem_filter.mpr ⟨List.mem_append_right _ (List.mem_of_getElem? (i := 926) (by decide +kernel)), by decide +kernel⟩
theorem gw_636 : Cond.methodLink RL 93 yL_put ∈ GW := List.mem_filter.mpr ⟨List.mem_append_right _ (List.mem_of_getElem? (i := 636) (by decide +kernel)), by decide +kernel⟩
theorem gw_946 : Cond.methodLink RL 95 yX6_put ∈ GW := List.mem_filter.mpr ⟨List.mem_append_right _ (List.mem_of_getElem? (i := 946) (by decide +kernel)), by decide +kernel⟩
theorem gw_650 : Cond.methodLink RL 96 yL_span ∈ GW := List.mem_filter.mpr ⟨List.mem_append_right _ (List.mem_of_getElem? (i := 650) (by decide +kernel)), by decide +kernel⟩
theorem gw_960 : Cond.methodLink RL 98 yX6_span ∈ GW := List.mem_filter.mpr ⟨List.mem_append_right _ (List.mem_of_getElem? (i := 960) (by decide +kernel)), by decide +kernel⟩
theorem gw_674 : Cond.methodLink RL 99 yL_rule ∈ GW := List.mem_filter.mpr ⟨List.mem_append_right _ (List.mem_of_getElem? (i := 674) (by decide +kernel)), by decide +kernel⟩
theorem gw_968 : Cond.methodLink RL 101 yX6_rule ∈ GW := List.mem_filter.mpr ⟨List.mem_append_right _ (List.mem_of_getElem? (i := 968) (by decide +kernel)), by decide +kernel⟩
theorem gw_682 : Cond.methodLink RL 102 yL_set ∈ GW := List.mem_filter.mpr ⟨List.mem_append_right _ (List.mem_of_getElem? (i := 682) (by decide +kernel)), by decide +kernel⟩
theorem gw_972 : Cond.methodLink RL 105 yX6_set ∈ GW := List.mem_filter.mpr ⟨List.mem_append_right _ (List.mem_of_getElem? (i := 972) (by decide +kernel)), by decide +kernel⟩
theorem gw_689 : Cond.methodLink RL 106 yL_append ∈ GW := List.mem_filter.mpr ⟨List.mem_append_right _ (List.mem_of_getElem? (i := 689) (by decide +kernel)), by decide +kernel⟩
theorem gw_976 : Cond.methodLink RL 108 yX6_append ∈ GW := List.mem_filter.mpr ⟨List.mem_append_right _ (List.mem_of_getElem? (i := 976) (by decide +kernel)), by decide +kernel⟩
theorem gw_343 : Cond.methodLink RL 109 yX5_clearBuffer ∈ GW := List.mem_filter.mpr ⟨List.mem_append_right _ (List.mem_of_getElem? (i := 343) (by decide +kernel)), by decide +kernel⟩
theorem gw_980 : Cond.methodLink RL 112 yX6_clearBuffer ∈ GW := List.mem_filter.mpr ⟨List.mem_append_right _ (List.mem_of_getElem? (i := 980) (by decide +kernel)), by decide +kernel⟩
theorem gw_347 : Cond.methodLink RL 113 yX5_firstError ∈ GW := List.mem_filter.mpr ⟨List.mem_append_right _ (List.mem_of_getElem? (i := 347) (by decide +kernel)), by decide +kernel⟩
theorem gw_984 : Cond.methodLink RL 116 yX6_firstError ∈ GW := List.mem_filter.mpr ⟨List.mem_append_right _ (List.mem_of_getElem? (i := 984) (by decide +kernel)), by decide +kernel⟩
theorem gw_701 : Cond.methodLink RL 117 yL_run ∈ GW := List.mem_filter.mpr ⟨List.mem_append_right _ (List.mem_of_getElem? (i := 701) (by decide +kernel)), by decide +kernel⟩
theorem gw_1012 : Cond.methodLink RL 120 yX6_run ∈ GW := List.mem_filter.mpr ⟨List.mem_append_right _ (List.mem_of_getElem? (i := 1012) (by decide +kernel)), by decide +kernel⟩
theorem gw_740 : Cond.methodLink RL 121 yL_undo ∈ GW := List.mem_filter.mpr ⟨List.mem_append_right _ (List.mem_of_getElem? (i := 740) (by decide +kernel)), by decide +kernel⟩
theorem gw_904 : Cond.methodLink RL 123 yX6_undo ∈ GW := List.mem_filter.mpr ⟨List.mem_append_right _ (List.mem_of_getElem? (i := 904) (by decide +kernel)), by decide +kernel⟩
theorem gw_751 : Cond.methodLink RL 124 yL_cell ∈ GW := List.mem_filter.mpr ⟨List.mem_append_right _ (List.mem_of_getElem? (i := 751) (by decide +kernel)), by decide +kernel⟩
theorem gw_1020 : Cond.methodLink RL 127 yX6_cell ∈ GW := List.mem_filter.mpr ⟨List.mem_append_right _ (List.mem_of_getElem? (i := 1020) (by decide +kernel)), by decide +kernel⟩
theorem gw_758 : Cond.methodLink RL 128 yL_edge ∈ GW := List.mem_filter.mpr ⟨List.mem_append_right _ (List.mem_of_getElem? (i := 758) (by decide +kernel)), by decide +kernel⟩
theorem gw_1104 : Cond.methodLink RL 130 yX6_edge ∈ GW := List.mem_filter.mpr ⟨List.mem_append_right _ (List.mem_of_getElem? (i := 1104) (by decide +kernel)), by decide +kernel⟩
theorem gw_765 : Cond.methodLink RL 131 yL_table ∈ GW := List.mem_filter.mpr ⟨List.mem_append_right _ (List.mem_of_getElem? (i := 765) (by decide +kernel)), by decide +kernel⟩
theorem gw_1108 : Cond.methodLink RL 133 yX6_table ∈ GW := List.mem_filter.mpr ⟨List.mem_append_right _ (List.mem_of_getElem? (i := 1108) (by decide +kernel)), by decide +kernel⟩
theorem gw_777 : Cond.methodLink RL 134 yL_size ∈ GW := List.mem_filter.mpr ⟨List.mem_append_right _ (List.mem_of_getElem? (i := 777) (by decide +kernel)), by decide +kernel⟩
theorem gw_1119 : Cond.methodLink RL 137 yX6_size ∈ GW := List.mem_filter.mpr ⟨List.mem_append_right _ (List.mem_of_getElem? (i := 1119) (by decide +kernel)), by decide +kernel⟩
theorem gw_784 : Cond.methodLink RL 138 yL_page ∈ GW := List.mem_filter.mpr ⟨List.mem_append_right _ (List.mem_of_getElem? (i := 784) (by decide +kernel)), by decide +kernel⟩
theorem gw_1123 : Cond.methodLink RL 140 yX6_page ∈ GW := List.mem_filter.mpr ⟨List.mem_append_right _ (List.mem_of_getElem? (i := 1123) (by decide +kernel)), by decide +kernel⟩
theorem gw_788 : Cond.methodLink RL 141 yL_count ∈ GW := List.mem_filter.mpr ⟨List.mem_append_right _ (List.mem_of_getElem? (i := 788) (by decide +kernel)), by decide +kernel⟩
theorem gw_1134 : Cond.methodLink RL 143 yX6_count ∈ GW := List.mem_filter.mpr ⟨List.mem_append_right _ (List.mem_of_getElem? (i := 1134) (by decide +kernel)), by decide +kernel⟩
theorem gw_792 : Cond.methodLink RL 144 yL_ifPut ∈ GW := List.mem_filter.mpr ⟨List.mem_append_right _ (List.mem_of_getElem? (i := 792) (by decide +kernel)), by decide +kernel⟩
theorem gw_1154 : Cond.methodLink RL 146 yX6_ifPut ∈ GW := List.mem_filter.mpr ⟨List.mem_append_right _ (List.mem_of_getElem? (i := 1154) (by decide +kernel)), by decide +kernel⟩
theorem gw_799 : Cond.methodLink RL 147 yL_countedBy ∈ GW := List.mem_filter.mpr ⟨List.mem_append_right _ (List.mem_of_getElem? (i := 799) (by decide +kernel)), by decide +kernel⟩
theorem gw_1162 : Cond.methodLink RL 150 yX6_countedBy ∈ GW := List.mem_filter.mpr ⟨List.mem_append_right _ (List.mem_of_getElem? (i := 1162) (by decide +kernel)), by decide +kernel⟩
theorem gw_806 : Cond.methodLink RL 151 yL_heightFor ∈ GW := List.mem_filter.mpr ⟨List.mem_append_right _ (List.mem_of_getElem? (i := 806) (by decide +kernel)), by decide +kernel⟩
theorem gw_1170 : Cond.methodLink RL 153 yX6_heightFor ∈ GW := List.mem_filter.mpr ⟨List.mem_append_right _ (List.mem_of_getElem? (i := 1170) (by decide +kernel)), by decide +kernel⟩
theorem gw_366 : Cond.methodLink RL 154 yX5_filledShare ∈ GW := List.mem_filter.mpr ⟨List.mem_append_right _ (List.mem_of_getElem? (i := 366) (by decide +kernel)), by decide +kernel⟩
theorem gw_1178 : Cond.methodLink RL 158 yX6_filledShare ∈ GW := List.mem_filter.mpr ⟨List.mem_append_right _ (List.mem_of_getElem? (i := 1178) (by decide +kernel)), by decide +kernel⟩
theorem gw_379 : Cond.methodLink RL 159 yX5_digest ∈ GW := List.mem_filter.mpr ⟨List.mem_append_right _ (List.mem_of_getElem? (i := 379) (by decide +kernel)), by decide +kernel⟩
theorem gw_1186 : Cond.methodLink RL 163 yX6_digest ∈ GW := List.mem_filter.mpr ⟨List.mem_append_right _ (List.mem_of_getElem? (i := 1186) (by decide +kernel)), by decide +kernel⟩
/-- what the law knows of its script -/
def lwC (b L : Nat) (xs : Nat → Int32) (s : State) (hs : Nat) : Prop := va_X b L xs s s.heap ∧ b < hs ∧ hs = s.heap.size
abbrev LQ : List Frame → Array Value → State → Nat → va_G → ClassId → ClassId → ClassId → State → Prop := fun below args s _ _ _ _ _ => lw_Z below args s
abbrev Lw (nm : String) (et : List ExceptionTableEntry) (b L : Nat) (xs : Nat → Int32) (ex : Bool) (k n : Nat) (T : Tb) (pc : Nat) (lo : List (Option Value)) (st : List Value) (σ : Mm) : Prop := RnQ ⟨"NestedSumsLaw", nm, "()V"⟩ cL_law 9 ret et room_1 LQ (lwC b L xs) ex k n T pc lo st σ
section LawRows
variable {yy : MethodName} {cc : ByteArray} {maxL : Nat} {ret0 : Option FieldType} {et : List ExceptionTableEntry} {rm : Room} {Qf : List Frame → Array Value → State → Nat → va_G → ClassId → ClassId → ClassId → State → Prop} {b L : Nat} {xs : Nat → Int32} {ex : Bool} {k n : Nat} {T : Tb} {pc : Nat} {lo : List (Option Value)} {st : List Value} {σ : Mm}
theorem lr_exf {Xf : State → Nat → Prop} (kk : RnQ yy cc maxL ret0 et rm Qf Xf false k n T pc lo st σ) : RnQ yy cc maxL ret0 et rm Qf Xf ex k n T pc lo st σ := fun p l e s m args below meth c hs D cI cL cS H locs ls hC hX _ hP hS hL => kk p l e s m args below meth c hs D cI cL cS H locs ls hC hX (fun h => by cases h) hP hS hL
theorem lr_sld {i : Int32} (hin : vp_in i L) (d : decode cc pc = .ok (.iaload, 1)) (kk : RnQ yy cc maxL ret0 et rm Qf (lwC b L xs) ex k n T (pc + 1) lo (.int (xs i.toNatClampNeg) :: st) σ) : RnQ yy cc maxL ret0 et rm Qf (lwC b L xs) ex k n T pc lo (.int i :: .retAddr b :: st) σ := fun p l e s m args below meth c hs D cI cL cS H locs ls hC hX hZ hP hS hL => va_sld hC.x hC.b hX.1 (Nat.lt_of_lt_of_le hX.2.1 hC.sz) (Nat.not_le.mpr hX.2.1) hS hin d (kk p l e s m args below meth c hs D cI cL cS H locs ls hC hX hZ hP hS hL)
theorem lr_slen (d : decode cc pc = .ok (.arraylength, 1)) (kk : RnQ yy cc maxL ret0 et rm Qf (lwC b L xs) ex k n T (pc + 1) lo (.int (Int32.ofNat L) :: st) σ) : RnQ yy cc maxL ret0 et rm Qf (lwC b L xs) ex k n T pc lo (.retAddr b :: st) σ := fun p l e s m args below meth c hs D cI cL cS H locs ls hC hX hZ hP hS hL => va_slen hC.x hC.b hX.1 (Nat.lt_of_lt_of_le hX.2.1 hC.sz) (Nat.not_le.mpr hX.2.1) hS d (kk p l e s m args below meth c hs D cI cL cS H locs ls hC hX hZ hP hS hL)
theorem lr_tin {Xf : State → Nat → Prop} {dflt l1 h1 : Int} {offs : Array Int} {len : Nat} {x : Int32} {off : Int} {tgt : Nat} (d : decode cc pc = .ok (.tableswitch dflt l1 h1 offs, len)) (g1 : ¬ x.toInt < l1) (g2 : ¬ h1 < x.toInt) (ho : offs[(x.toInt - l1).toNat]? = some off) (ht : (pc : Int) + off = (tgt : Int)) (kk : RnQ yy cc maxL ret0 et rm Qf Xf ex k n T tgt lo st σ) : RnQ yy cc maxL ret0 et rm Qf Xf ex k n T pc lo (.int x :: st) σ := fun p l e s m args below meth c hs D cI cL cS H locs ls hC hX hZ hP hS hL => lv_tableIn hC.x hC.b d g1 g2 ho ht (kk p l e s m args below meth c hs D cI cL cS H locs ls hC hX hZ hP hS hL)
theorem lr_tout {Xf : State → Nat → Prop} {dflt l1 h1 : Int} {offs : Array Int} {len : Nat} {x : Int32} {tgt : Nat} (d : decode cc pc = .ok (.tableswitch dflt l1 h1 offs, len)) (g : x.toInt < l1 ∨ h1 < x.toInt) (ht : (pc : Int) + dflt = (tgt : Int)) (kk : RnQ yy cc maxL ret0 et rm Qf Xf ex k n T tgt lo st σ) : RnQ yy cc maxL ret0 et rm Qf Xf ex k n T pc lo (.int x :: st) σ := fun p l e s m args below meth c hs D cI cL cS H locs ls hC hX hZ hP hS hL => lv_tableOut hC.x hC.b d g ht (kk p l e s m args below meth c hs D cI cL cS H locs ls hC hX hZ hP hS hL)
theorem lr_ofN {a : Nat} (h : a < 4000) : (Int32.ofNat a).toInt = (a : Int) := Int32.toInt_ofNat_of_lt (by omega)
theorem lr_add {a j : Nat} (h : a + j < 4000) : Int32.ofNat a + Int32.ofNat j = Int32.ofNat (a + j) := by
  rw [← Int32.toInt_inj, Int32.toInt_add, lr_ofN (by omega), lr_ofN (by omega), lr_ofN h]
  exact Int.bmod_eq_of_le (by omega) (by omega)
theorem lr_nat {a : Nat} (h : a < 4000) : (Int32.ofNat a).toNatClampNeg = a := by
  show (Int32.ofNat a).toInt.toNat = a
  rw [lr_ofN h]
  rfl
theorem lr_in {a L : Nat} (h : a < L) (h2 : L ≤ 3072) : vp_in (Int32.ofNat a) L := by
  intro q
  rcases q with q | q
  · have := Int32.lt_iff_toInt_lt.mp q
    rw [lr_ofN (by omega)] at this
    have : (0 : Int32).toInt = 0 := rfl
    omega
  · rw [lr_nat (by omega)] at q
    omega
theorem lr_rd {i j q : Nat} {jv : Int32} {jz : Int} (hq : i + j = q) (hj : Int32.ofNat j = jv) (hjz : Int32.ofInt jz = jv) (h : q < L) (hL2 : L ≤ 3072) (d0 : decode cc pc = .ok (.aload_n 0, 1)) (d1 : decode cc (pc + 1) = .ok (.iload 4, 2)) (d2 : decode cc (pc + 3) = .ok (.iconst jz, 1)) (d3 : decode cc (pc + 4) = .ok (.iadd, 1)) (d4 : decode cc (pc + 5) = .ok (.iaload, 1)) (h0 : lo[0]? = some (some (.retAddr b))) (h4 : lo[4]? = some (some (.int (Int32.ofNat i)))) (kk : RnQ yy cc maxL ret0 et rm Qf (lwC b L xs) ex k n T (pc + 6) lo (.int (xs q) :: st) σ) : RnQ yy cc maxL ret0 et rm Qf (lwC b L xs) ex k n T pc lo st σ := by
  subst hq
  refine rn_aload_nA (i := 0) d0 rfl h0 ?_
  refine rn_iload d1 h4 ?_
  refine rn_iconst (pc := pc + 3) d2 hjz ?_
  refine rn_iadd d3 ?_
  rw [← hj, lr_add (by omega)]
  refine lr_sld (lr_in h hL2) d4 ?_
  rw [lr_nat (by omega)]
  exact kk
/-- the end: with 1 on the stack -/
theorem lr_end {nm : String} (hk : k ≤ 601024) (hn : n ≤ 7293034) (dg : decode cL_law pc = .ok (.ireturn, 1)) : Lw nm et b L xs ex k n T pc lo [.int 1] σ := by
  intro p l e s m args below meth c hs D cI cL cS H locs ls hC hX hZ hP hS hL
  refine va_forget (fun q hq => Nat.le_trans (Nat.le_of_eq hX.2.2.symm) (hS.2.2 q hq)) ?_
  refine W.widen hk hn ?_
  refine W.base ?_
  show W p l e room_1 (s.setDrawn s.drawn) m args below meth c H [] 601024 7293034 (lw_Z below args s) (F0 m pc ls [.int 1])
  intro T hT X
  have hx := hC.x
  have hb := hC.b
  have hr := hC.r
  have hlocks := hC.lk
  obtain ⟨fs, hret, hrun, hended, hW, hframe⟩ := X.leave (v := some (.int 1)) (hlocks := hlocks) (fun h => by rw [hr] at h; cases h)
  have hmeth' : T.vm.method? m = some meth := X.method'
  refine ⟨T.setFrames fs, ?_, .returned (some (.int 1)), hrun, hended, rfl, lw_closed (Drawn.sameBut.refl s.drawn lw_cs) ⟨_, rfl⟩ hW hframe⟩
  jvm_step X.here [X.here.top, hx, hb, dg, hmeth', hr, ret, narrow_b1]
  (try refine ⟨rfl, ?_⟩); (try refine ⟨rfl, ?_⟩)
  first | (intro acts; rw [hret _ acts rfl rfl rfl]) | rw [hret _ _ rfl rfl rfl]
  exact Steps.refl _
end LawRows
def lkc : List (Nat × Int32) → Nat → Option Int32
  | [], _ => none
  | (a, c) :: t, e => if e = a then some c else lkc t e
/-- the memory behind a wrapper -/
def wm (o : Int32 ⊕ Nat) (σ : Mm) : Mm := match o with
  | .inl r => upM σ 185 0 r
  | .inr _ => σ
/-- the reference's answer beside the class's -/
def StR (cs : List (Nat × Int32)) (o : Int32 ⊕ Nat) (v : Int32) (σ : Mm) : Prop := match o with
  | .inl r => σ 168 6 = 0 ∧ σ 185 0 = r ∧ r = v
  | .inr e => lkc cs e = some (σ 168 6)
/-- one step of the law that goes by a wrapper: F the class's, G the reference's -/
def StW (I : Mm → Prop) (cs : List (Nat × Int32)) (F G : Dm Int32) : Prop := ∀ σ, I σ → ∃ o σ1, F σ = some (o, σ1) ∧ ∃ v σ3, G (wm o σ1) = some (.inl v, σ3) ∧ I σ3 ∧ StR cs o v σ3
/-- .. that goes without -/
def StP {α : Type} (E : α → Prop) (I : Mm → Prop) (F G : Dm α) : Prop := ∀ σ, I σ → ∃ v σ1, F σ = some (.inl v, σ1) ∧ ∃ σ3, G σ1 = some (.inl v, σ3) ∧ I σ3 ∧ E v
def loI (b i : Nat) : List (Option Value) := [some (.retAddr b), some (.ref 0), some (.ref 168), some (.ref 185), some (.int (Int32.ofNat i)), none, none, none, none]
def cs_begin : List (Nat × Int32) := [((2 : Nat), (1 : Int32))]
theorem wq_begin (T : Tb) (hN : isNS T) (hO : T[185]? = some (1, 1, [])) (p0 : Int32) (p1 : Int32) (σ σ1 σ3 : Mm) (o : Int32 ⊕ Nat) (v : Int32) (h : F_X5_begin p0 p1 σ = some (o, σ1)) (h3 : StR cs_begin o v σ3) : ∃ c : Int32, Ev (.codeWith yL_begin cL_begin 5 (some .int) [(0, 10, 13, 13)]) yL_begin rmW T [.ref 0, .int p0, .int p1, .ref 185] σ (.inl (some (.int c))) T (wm o σ1) ∧ σ3 168 6 = c ∧ (c = 0 → σ3 185 0 = v) := by
  cases o with
  | inl r => exact ⟨0, wr_begin T hN hO p0 p1 σ r σ1 h, h3.1, fun _ => h3.2.1.trans h3.2.2⟩
  | inr er =>
    have h4 : lkc cs_begin er = some (σ3 168 6) := h3
    by_cases h_2 : er = 2
    · subst h_2; exact ⟨1, wx_begin_2 T hN p0 p1 σ σ1 h, (Option.some.inj (h4.symm.trans (show lkc cs_begin 2 = some 1 from rfl))), fun h0 => absurd h0 (by decide)⟩
    simp [lkc, cs_begin, h_2] at h4
def cs_nest : List (Nat × Int32) := [((1 : Nat), (1 : Int32)), ((2 : Nat), (2 : Int32)), ((3 : Nat), (3 : Int32))]
theorem wq_nest (T : Tb) (hN : isNS T) (hO : T[185]? = some (1, 1, [])) (p0 : Int32) (p1 : Int32) (p2 : Int32) (p3 : Int32) (p4 : Int32) (σ σ1 σ3 : Mm) (o : Int32 ⊕ Nat) (v : Int32) (h : F_X5_nest p0 p1 p2 p3 p4 σ = some (o, σ1)) (h3 : StR cs_nest o v σ3) : ∃ c : Int32, Ev (.codeWith yL_nest cL_nest 8 (some .int) [(0, 16, 19, 19), (0, 16, 23, 13), (0, 16, 27, 21)]) yL_nest rmW T [.ref 0, .int p0, .int p1, .int p2, .int p3, .int p4, .ref 185] σ (.inl (some (.int c))) T (wm o σ1) ∧ σ3 168 6 = c ∧ (c = 0 → σ3 185 0 = v) := by
  cases o with
  | inl r => exact ⟨0, wr_nest T hN hO p0 p1 p2 p3 p4 σ r σ1 h, h3.1, fun _ => h3.2.1.trans h3.2.2⟩
  | inr er =>
    have h4 : lkc cs_nest er = some (σ3 168 6) := h3
    by_cases h_1 : er = 1
    · subst h_1; exact ⟨1, wx_nest_1 T hN p0 p1 p2 p3 p4 σ σ1 h, (Option.some.inj (h4.symm.trans (show lkc cs_nest 1 = some 1 from rfl))), fun h0 => absurd h0 (by decide)⟩
    by_cases h_2 : er = 2
    · subst h_2; exact ⟨2, wx_nest_2 T hN p0 p1 p2 p3 p4 σ σ1 h, (Option.some.inj (h4.symm.trans (show lkc cs_nest 2 = some 2 from rfl))), fun h0 => absurd h0 (by decide)⟩
    by_cases h_3 : er = 3
    · subst h_3; exact ⟨3, wx_nest_3 T hN p0 p1 p2 p3 p4 σ σ1 h, (Option.some.inj (h4.symm.trans (show lkc cs_nest 3 = some 3 from rfl))), fun h0 => absurd h0 (by decide)⟩
    simp [lkc, cs_nest, h_1, h_2, h_3] at h4
def cs_put : List (Nat × Int32) := [((1 : Nat), (1 : Int32)), ((2 : Nat), (2 : Int32)), ((3 : Nat), (3 : Int32))]
theorem wq_put (T : Tb) (hN : isNS T) (hO : T[185]? = some (1, 1, [])) (p0 : Int32) (p1 : Int32) (p2 : Int32) (p3 : Int32) (p4 : Int32) (σ σ1 σ3 : Mm) (o : Int32 ⊕ Nat) (v : Int32) (h : F_X5_put p0 p1 p2 p3 p4 σ = some (o, σ1)) (h3 : StR cs_put o v σ3) : ∃ c : Int32, Ev (.codeWith yL_put cL_put 8 (some .int) [(0, 16, 19, 19), (0, 16, 23, 13), (0, 16, 27, 21)]) yL_put rmW T [.ref 0, .int p0, .int p1, .int p2, .int p3, .int p4, .ref 185] σ (.inl (some (.int c))) T (wm o σ1) ∧ σ3 168 6 = c ∧ (c = 0 → σ3 185 0 = v) := by
  cases o with
  | inl r => exact ⟨0, wr_put T hN hO p0 p1 p2 p3 p4 σ r σ1 h, h3.1, fun _ => h3.2.1.trans h3.2.2⟩
  | inr er =>
    have h4 : lkc cs_put er = some (σ3 168 6) := h3
    by_cases h_1 : er = 1
    · subst h_1; exact ⟨1, wx_put_1 T hN p0 p1 p2 p3 p4 σ σ1 h, (Option.some.inj (h4.symm.trans (show lkc cs_put 1 = some 1 from rfl))), fun h0 => absurd h0 (by decide)⟩
    by_cases h_2 : er = 2
    · subst h_2; exact ⟨2, wx_put_2 T hN p0 p1 p2 p3 p4 σ σ1 h, (Option.some.inj (h4.symm.trans (show lkc cs_put 2 = some 2 from rfl))), fun h0 => absurd h0 (by decide)⟩
    by_cases h_3 : er = 3
    · subst h_3; exact ⟨3, wx_put_3 T hN p0 p1 p2 p3 p4 σ σ1 h, (Option.some.inj (h4.symm.trans (show lkc cs_put 3 = some 3 from rfl))), fun h0 => absurd h0 (by decide)⟩
    simp [lkc, cs_put, h_1, h_2, h_3] at h4
def cs_span : List (Nat × Int32) := [((1 : Nat), (1 : Int32)), ((2 : Nat), (2 : Int32)), ((3 : Nat), (3 : Int32))]
theorem wq_span (T : Tb) (hN : isNS T) (hO : T[185]? = some (1, 1, [])) (p0 : Int32) (p1 : Int32) (p2 : Int32) (p3 : Int32) (p4 : Int32) (σ σ1 σ3 : Mm) (o : Int32 ⊕ Nat) (v : Int32) (h : F_X5_span p0 p1 p2 p3 p4 σ = some (o, σ1)) (h3 : StR cs_span o v σ3) : ∃ c : Int32, Ev (.codeWith yL_span cL_span 8 (some .int) [(0, 16, 19, 19), (0, 16, 23, 13), (0, 16, 27, 21)]) yL_span rmW T [.ref 0, .int p0, .int p1, .int p2, .int p3, .int p4, .ref 185] σ (.inl (some (.int c))) T (wm o σ1) ∧ σ3 168 6 = c ∧ (c = 0 → σ3 185 0 = v) := by
  cases o with
  | inl r => exact ⟨0, wr_span T hN hO p0 p1 p2 p3 p4 σ r σ1 h, h3.1, fun _ => h3.2.1.trans h3.2.2⟩
  | inr er =>
    have h4 : lkc cs_span er = some (σ3 168 6) := h3
    by_cases h_1 : er = 1
    · subst h_1; exact ⟨1, wx_span_1 T hN p0 p1 p2 p3 p4 σ σ1 h, (Option.some.inj (h4.symm.trans (show lkc cs_span 1 = some 1 from rfl))), fun h0 => absurd h0 (by decide)⟩
    by_cases h_2 : er = 2
    · subst h_2; exact ⟨2, wx_span_2 T hN p0 p1 p2 p3 p4 σ σ1 h, (Option.some.inj (h4.symm.trans (show lkc cs_span 2 = some 2 from rfl))), fun h0 => absurd h0 (by decide)⟩
    by_cases h_3 : er = 3
    · subst h_3; exact ⟨3, wx_span_3 T hN p0 p1 p2 p3 p4 σ σ1 h, (Option.some.inj (h4.symm.trans (show lkc cs_span 3 = some 3 from rfl))), fun h0 => absurd h0 (by decide)⟩
    simp [lkc, cs_span, h_1, h_2, h_3] at h4
def cs_rule : List (Nat × Int32) := [((1 : Nat), (1 : Int32)), ((2 : Nat), (2 : Int32)), ((3 : Nat), (3 : Int32))]
theorem wq_rule (T : Tb) (hN : isNS T) (hO : T[185]? = some (1, 1, [])) (p0 : Int32) (p1 : Int32) (p2 : Int32) (p3 : Int32) (p4 : Int32) (σ σ1 σ3 : Mm) (o : Int32 ⊕ Nat) (v : Int32) (h : F_X5_rule p0 p1 p2 p3 p4 σ = some (o, σ1)) (h3 : StR cs_rule o v σ3) : ∃ c : Int32, Ev (.codeWith yL_rule cL_rule 8 (some .int) [(0, 16, 19, 19), (0, 16, 23, 13), (0, 16, 27, 21)]) yL_rule rmW T [.ref 0, .int p0, .int p1, .int p2, .int p3, .int p4, .ref 185] σ (.inl (some (.int c))) T (wm o σ1) ∧ σ3 168 6 = c ∧ (c = 0 → σ3 185 0 = v) := by
  cases o with
  | inl r => exact ⟨0, wr_rule T hN hO p0 p1 p2 p3 p4 σ r σ1 h, h3.1, fun _ => h3.2.1.trans h3.2.2⟩
  | inr er =>
    have h4 : lkc cs_rule er = some (σ3 168 6) := h3
    by_cases h_1 : er = 1
    · subst h_1; exact ⟨1, wx_rule_1 T hN p0 p1 p2 p3 p4 σ σ1 h, (Option.some.inj (h4.symm.trans (show lkc cs_rule 1 = some 1 from rfl))), fun h0 => absurd h0 (by decide)⟩
    by_cases h_2 : er = 2
    · subst h_2; exact ⟨2, wx_rule_2 T hN p0 p1 p2 p3 p4 σ σ1 h, (Option.some.inj (h4.symm.trans (show lkc cs_rule 2 = some 2 from rfl))), fun h0 => absurd h0 (by decide)⟩
    by_cases h_3 : er = 3
    · subst h_3; exact ⟨3, wx_rule_3 T hN p0 p1 p2 p3 p4 σ σ1 h, (Option.some.inj (h4.symm.trans (show lkc cs_rule 3 = some 3 from rfl))), fun h0 => absurd h0 (by decide)⟩
    simp [lkc, cs_rule, h_1, h_2, h_3] at h4
def cs_set : List (Nat × Int32) := [((2 : Nat), (1 : Int32))]
theorem wq_set (T : Tb) (hN : isNS T) (hO : T[185]? = some (1, 1, [])) (p0 : Int32) (σ σ1 σ3 : Mm) (o : Int32 ⊕ Nat) (v : Int32) (h : F_X5_set p0 σ = some (o, σ1)) (h3 : StR cs_set o v σ3) : ∃ c : Int32, Ev (.codeWith yL_set cL_set 4 (some .int) [(0, 9, 12, 13)]) yL_set rmW T [.ref 0, .int p0, .ref 185] σ (.inl (some (.int c))) T (wm o σ1) ∧ σ3 168 6 = c ∧ (c = 0 → σ3 185 0 = v) := by
  cases o with
  | inl r => exact ⟨0, wr_set T hN hO p0 σ r σ1 h, h3.1, fun _ => h3.2.1.trans h3.2.2⟩
  | inr er =>
    have h4 : lkc cs_set er = some (σ3 168 6) := h3
    by_cases h_2 : er = 2
    · subst h_2; exact ⟨1, wx_set_2 T hN p0 σ σ1 h, (Option.some.inj (h4.symm.trans (show lkc cs_set 2 = some 1 from rfl))), fun h0 => absurd h0 (by decide)⟩
    simp [lkc, cs_set, h_2] at h4
def cs_append : List (Nat × Int32) := [((2 : Nat), (1 : Int32)), ((3 : Nat), (2 : Int32))]
theorem wq_append (T : Tb) (hN : isNS T) (hO : T[185]? = some (1, 1, [])) (p0 : Int32) (σ σ1 σ3 : Mm) (o : Int32 ⊕ Nat) (v : Int32) (h : F_X5_append p0 σ = some (o, σ1)) (h3 : StR cs_append o v σ3) : ∃ c : Int32, Ev (.codeWith yL_append cL_append 4 (some .int) [(0, 9, 12, 13), (0, 9, 15, 21)]) yL_append rmW T [.ref 0, .int p0, .ref 185] σ (.inl (some (.int c))) T (wm o σ1) ∧ σ3 168 6 = c ∧ (c = 0 → σ3 185 0 = v) := by
  cases o with
  | inl r => exact ⟨0, wr_append T hN hO p0 σ r σ1 h, h3.1, fun _ => h3.2.1.trans h3.2.2⟩
  | inr er =>
    have h4 : lkc cs_append er = some (σ3 168 6) := h3
    by_cases h_2 : er = 2
    · subst h_2; exact ⟨1, wx_append_2 T hN p0 σ σ1 h, (Option.some.inj (h4.symm.trans (show lkc cs_append 2 = some 1 from rfl))), fun h0 => absurd h0 (by decide)⟩
    by_cases h_3 : er = 3
    · subst h_3; exact ⟨2, wx_append_3 T hN p0 σ σ1 h, (Option.some.inj (h4.symm.trans (show lkc cs_append 3 = some 2 from rfl))), fun h0 => absurd h0 (by decide)⟩
    simp [lkc, cs_append, h_2, h_3] at h4
def cs_run : List (Nat × Int32) := [((2 : Nat), (1 : Int32))]
theorem wq_run (T : Tb) (hN : isNS T) (hO : T[185]? = some (1, 1, []))  (σ σ1 σ3 : Mm) (o : Int32 ⊕ Nat) (v : Int32) (h : F_X5_run  σ = some (o, σ1)) (h3 : StR cs_run o v σ3) : ∃ c : Int32, Ev (.codeWith yL_run cL_run 3 (some .int) [(0, 8, 11, 13)]) yL_run rmW T [.ref 0, .ref 185] σ (.inl (some (.int c))) T (wm o σ1) ∧ σ3 168 6 = c ∧ (c = 0 → σ3 185 0 = v) := by
  cases o with
  | inl r => exact ⟨0, wr_run T hN hO  σ r σ1 h, h3.1, fun _ => h3.2.1.trans h3.2.2⟩
  | inr er =>
    have h4 : lkc cs_run er = some (σ3 168 6) := h3
    by_cases h_2 : er = 2
    · subst h_2; exact ⟨1, wx_run_2 T hN  σ σ1 h, (Option.some.inj (h4.symm.trans (show lkc cs_run 2 = some 1 from rfl))), fun h0 => absurd h0 (by decide)⟩
    simp [lkc, cs_run, h_2] at h4
def cs_undo : List (Nat × Int32) := [((3 : Nat), (1 : Int32))]
theorem wq_undo (T : Tb) (hN : isNS T) (hO : T[185]? = some (1, 1, []))  (σ σ1 σ3 : Mm) (o : Int32 ⊕ Nat) (v : Int32) (h : F_X5_undo  σ = some (o, σ1)) (h3 : StR cs_undo o v σ3) : ∃ c : Int32, Ev (.codeWith yL_undo cL_undo 3 (some .int) [(0, 8, 11, 21)]) yL_undo rmW T [.ref 0, .ref 185] σ (.inl (some (.int c))) T (wm o σ1) ∧ σ3 168 6 = c ∧ (c = 0 → σ3 185 0 = v) := by
  cases o with
  | inl r => exact ⟨0, wr_undo T hN hO  σ r σ1 h, h3.1, fun _ => h3.2.1.trans h3.2.2⟩
  | inr er =>
    have h4 : lkc cs_undo er = some (σ3 168 6) := h3
    by_cases h_3 : er = 3
    · subst h_3; exact ⟨1, wx_undo_3 T hN  σ σ1 h, (Option.some.inj (h4.symm.trans (show lkc cs_undo 3 = some 1 from rfl))), fun h0 => absurd h0 (by decide)⟩
    simp [lkc, cs_undo, h_3] at h4
def cs_cell : List (Nat × Int32) := [((1 : Nat), (1 : Int32)), ((2 : Nat), (2 : Int32))]
theorem wq_cell (T : Tb) (hN : isNS T) (hO : T[185]? = some (1, 1, [])) (p0 : Int32) (p1 : Int32) (p2 : Int32) (p3 : Int32) (σ σ1 σ3 : Mm) (o : Int32 ⊕ Nat) (v : Int32) (h : F_X5_cell p0 p1 p2 p3 σ = some (o, σ1)) (h3 : StR cs_cell o v σ3) : ∃ c : Int32, Ev (.codeWith yL_cell cL_cell 7 (some .int) [(0, 14, 17, 19), (0, 14, 21, 13)]) yL_cell rmW T [.ref 0, .int p0, .int p1, .int p2, .int p3, .ref 185] σ (.inl (some (.int c))) T (wm o σ1) ∧ σ3 168 6 = c ∧ (c = 0 → σ3 185 0 = v) := by
  cases o with
  | inl r => exact ⟨0, wr_cell T hN hO p0 p1 p2 p3 σ r σ1 h, h3.1, fun _ => h3.2.1.trans h3.2.2⟩
  | inr er =>
    have h4 : lkc cs_cell er = some (σ3 168 6) := h3
    by_cases h_1 : er = 1
    · subst h_1; exact ⟨1, wx_cell_1 T hN p0 p1 p2 p3 σ σ1 h, (Option.some.inj (h4.symm.trans (show lkc cs_cell 1 = some 1 from rfl))), fun h0 => absurd h0 (by decide)⟩
    by_cases h_2 : er = 2
    · subst h_2; exact ⟨2, wx_cell_2 T hN p0 p1 p2 p3 σ σ1 h, (Option.some.inj (h4.symm.trans (show lkc cs_cell 2 = some 2 from rfl))), fun h0 => absurd h0 (by decide)⟩
    simp [lkc, cs_cell, h_1, h_2] at h4
def cs_edge : List (Nat × Int32) := [((1 : Nat), (1 : Int32)), ((2 : Nat), (2 : Int32))]
theorem wq_edge (T : Tb) (hN : isNS T) (hO : T[185]? = some (1, 1, [])) (p0 : Int32) (p1 : Int32) (p2 : Int32) (p3 : Int32) (σ σ1 σ3 : Mm) (o : Int32 ⊕ Nat) (v : Int32) (h : F_X5_edge p0 p1 p2 p3 σ = some (o, σ1)) (h3 : StR cs_edge o v σ3) : ∃ c : Int32, Ev (.codeWith yL_edge cL_edge 7 (some .int) [(0, 14, 17, 19), (0, 14, 21, 13)]) yL_edge rmW T [.ref 0, .int p0, .int p1, .int p2, .int p3, .ref 185] σ (.inl (some (.int c))) T (wm o σ1) ∧ σ3 168 6 = c ∧ (c = 0 → σ3 185 0 = v) := by
  cases o with
  | inl r => exact ⟨0, wr_edge T hN hO p0 p1 p2 p3 σ r σ1 h, h3.1, fun _ => h3.2.1.trans h3.2.2⟩
  | inr er =>
    have h4 : lkc cs_edge er = some (σ3 168 6) := h3
    by_cases h_1 : er = 1
    · subst h_1; exact ⟨1, wx_edge_1 T hN p0 p1 p2 p3 σ σ1 h, (Option.some.inj (h4.symm.trans (show lkc cs_edge 1 = some 1 from rfl))), fun h0 => absurd h0 (by decide)⟩
    by_cases h_2 : er = 2
    · subst h_2; exact ⟨2, wx_edge_2 T hN p0 p1 p2 p3 σ σ1 h, (Option.some.inj (h4.symm.trans (show lkc cs_edge 2 = some 2 from rfl))), fun h0 => absurd h0 (by decide)⟩
    simp [lkc, cs_edge, h_1, h_2] at h4
def cs_table : List (Nat × Int32) := [((1 : Nat), (1 : Int32)), ((2 : Nat), (2 : Int32))]
theorem wq_table (T : Tb) (hN : isNS T) (hO : T[185]? = some (1, 1, [])) (p0 : Int32) (p1 : Int32) (σ σ1 σ3 : Mm) (o : Int32 ⊕ Nat) (v : Int32) (h : F_X5_table p0 p1 σ = some (o, σ1)) (h3 : StR cs_table o v σ3) : ∃ c : Int32, Ev (.codeWith yL_table cL_table 5 (some .int) [(0, 10, 13, 19), (0, 10, 17, 13)]) yL_table rmW T [.ref 0, .int p0, .int p1, .ref 185] σ (.inl (some (.int c))) T (wm o σ1) ∧ σ3 168 6 = c ∧ (c = 0 → σ3 185 0 = v) := by
  cases o with
  | inl r => exact ⟨0, wr_table T hN hO p0 p1 σ r σ1 h, h3.1, fun _ => h3.2.1.trans h3.2.2⟩
  | inr er =>
    have h4 : lkc cs_table er = some (σ3 168 6) := h3
    by_cases h_1 : er = 1
    · subst h_1; exact ⟨1, wx_table_1 T hN p0 p1 σ σ1 h, (Option.some.inj (h4.symm.trans (show lkc cs_table 1 = some 1 from rfl))), fun h0 => absurd h0 (by decide)⟩
    by_cases h_2 : er = 2
    · subst h_2; exact ⟨2, wx_table_2 T hN p0 p1 σ σ1 h, (Option.some.inj (h4.symm.trans (show lkc cs_table 2 = some 2 from rfl))), fun h0 => absurd h0 (by decide)⟩
    simp [lkc, cs_table, h_1, h_2] at h4
def cs_size : List (Nat × Int32) := [((1 : Nat), (1 : Int32))]
theorem wq_size (T : Tb) (hN : isNS T) (hO : T[185]? = some (1, 1, [])) (p0 : Int32) (p1 : Int32) (p2 : Int32) (σ σ1 σ3 : Mm) (o : Int32 ⊕ Nat) (v : Int32) (h : F_X5_size p0 p1 p2 σ = some (o, σ1)) (h3 : StR cs_size o v σ3) : ∃ c : Int32, Ev (.codeWith yL_size cL_size 6 (some .int) [(0, 12, 15, 19)]) yL_size rmW T [.ref 0, .int p0, .int p1, .int p2, .ref 185] σ (.inl (some (.int c))) T (wm o σ1) ∧ σ3 168 6 = c ∧ (c = 0 → σ3 185 0 = v) := by
  cases o with
  | inl r => exact ⟨0, wr_size T hN hO p0 p1 p2 σ r σ1 h, h3.1, fun _ => h3.2.1.trans h3.2.2⟩
  | inr er =>
    have h4 : lkc cs_size er = some (σ3 168 6) := h3
    by_cases h_1 : er = 1
    · subst h_1; exact ⟨1, wx_size_1 T hN p0 p1 p2 σ σ1 h, (Option.some.inj (h4.symm.trans (show lkc cs_size 1 = some 1 from rfl))), fun h0 => absurd h0 (by decide)⟩
    simp [lkc, cs_size, h_1] at h4
def cs_page : List (Nat × Int32) := [((1 : Nat), (1 : Int32))]
theorem wq_page (T : Tb) (hN : isNS T) (hO : T[185]? = some (1, 1, [])) (p0 : Int32) (σ σ1 σ3 : Mm) (o : Int32 ⊕ Nat) (v : Int32) (h : F_X5_page p0 σ = some (o, σ1)) (h3 : StR cs_page o v σ3) : ∃ c : Int32, Ev (.codeWith yL_page cL_page 4 (some .int) [(0, 9, 12, 19)]) yL_page rmW T [.ref 0, .int p0, .ref 185] σ (.inl (some (.int c))) T (wm o σ1) ∧ σ3 168 6 = c ∧ (c = 0 → σ3 185 0 = v) := by
  cases o with
  | inl r => exact ⟨0, wr_page T hN hO p0 σ r σ1 h, h3.1, fun _ => h3.2.1.trans h3.2.2⟩
  | inr er =>
    have h4 : lkc cs_page er = some (σ3 168 6) := h3
    by_cases h_1 : er = 1
    · subst h_1; exact ⟨1, wx_page_1 T hN p0 σ σ1 h, (Option.some.inj (h4.symm.trans (show lkc cs_page 1 = some 1 from rfl))), fun h0 => absurd h0 (by decide)⟩
    simp [lkc, cs_page, h_1] at h4
def cs_count : List (Nat × Int32) := [((2 : Nat), (1 : Int32))]
theorem wq_count (T : Tb) (hN : isNS T) (hO : T[185]? = some (1, 1, [])) (p0 : Int32) (σ σ1 σ3 : Mm) (o : Int32 ⊕ Nat) (v : Int32) (h : F_X5_count p0 σ = some (o, σ1)) (h3 : StR cs_count o v σ3) : ∃ c : Int32, Ev (.codeWith yL_count cL_count 4 (some .int) [(0, 9, 12, 13)]) yL_count rmW T [.ref 0, .int p0, .ref 185] σ (.inl (some (.int c))) T (wm o σ1) ∧ σ3 168 6 = c ∧ (c = 0 → σ3 185 0 = v) := by
  cases o with
  | inl r => exact ⟨0, wr_count T hN hO p0 σ r σ1 h, h3.1, fun _ => h3.2.1.trans h3.2.2⟩
  | inr er =>
    have h4 : lkc cs_count er = some (σ3 168 6) := h3
    by_cases h_2 : er = 2
    · subst h_2; exact ⟨1, wx_count_2 T hN p0 σ σ1 h, (Option.some.inj (h4.symm.trans (show lkc cs_count 2 = some 1 from rfl))), fun h0 => absurd h0 (by decide)⟩
    simp [lkc, cs_count, h_2] at h4
def cs_ifPut : List (Nat × Int32) := [((1 : Nat), (1 : Int32)), ((2 : Nat), (2 : Int32))]
theorem wq_ifPut (T : Tb) (hN : isNS T) (hO : T[185]? = some (1, 1, [])) (p0 : Int32) (p1 : Int32) (p2 : Int32) (p3 : Int32) (p4 : Int32) (σ σ1 σ3 : Mm) (o : Int32 ⊕ Nat) (v : Int32) (h : F_X5_ifPut p0 p1 p2 p3 p4 σ = some (o, σ1)) (h3 : StR cs_ifPut o v σ3) : ∃ c : Int32, Ev (.codeWith yL_ifPut cL_ifPut 8 (some .int) [(0, 16, 19, 19), (0, 16, 23, 13)]) yL_ifPut rmW T [.ref 0, .int p0, .int p1, .int p2, .int p3, .int p4, .ref 185] σ (.inl (some (.int c))) T (wm o σ1) ∧ σ3 168 6 = c ∧ (c = 0 → σ3 185 0 = v) := by
  cases o with
  | inl r => exact ⟨0, wr_ifPut T hN hO p0 p1 p2 p3 p4 σ r σ1 h, h3.1, fun _ => h3.2.1.trans h3.2.2⟩
  | inr er =>
    have h4 : lkc cs_ifPut er = some (σ3 168 6) := h3
    by_cases h_1 : er = 1
    · subst h_1; exact ⟨1, wx_ifPut_1 T hN p0 p1 p2 p3 p4 σ σ1 h, (Option.some.inj (h4.symm.trans (show lkc cs_ifPut 1 = some 1 from rfl))), fun h0 => absurd h0 (by decide)⟩
    by_cases h_2 : er = 2
    · subst h_2; exact ⟨2, wx_ifPut_2 T hN p0 p1 p2 p3 p4 σ σ1 h, (Option.some.inj (h4.symm.trans (show lkc cs_ifPut 2 = some 2 from rfl))), fun h0 => absurd h0 (by decide)⟩
    simp [lkc, cs_ifPut, h_1, h_2] at h4
def cs_countedBy : List (Nat × Int32) := [((1 : Nat), (1 : Int32))]
theorem wq_countedBy (T : Tb) (hN : isNS T) (hO : T[185]? = some (1, 1, [])) (p0 : Int32) (p1 : Int32) (p2 : Int32) (σ σ1 σ3 : Mm) (o : Int32 ⊕ Nat) (v : Int32) (h : F_X5_countedBy p0 p1 p2 σ = some (o, σ1)) (h3 : StR cs_countedBy o v σ3) : ∃ c : Int32, Ev (.codeWith yL_countedBy cL_countedBy 6 (some .int) [(0, 12, 15, 19)]) yL_countedBy rmW T [.ref 0, .int p0, .int p1, .int p2, .ref 185] σ (.inl (some (.int c))) T (wm o σ1) ∧ σ3 168 6 = c ∧ (c = 0 → σ3 185 0 = v) := by
  cases o with
  | inl r => exact ⟨0, wr_countedBy T hN hO p0 p1 p2 σ r σ1 h, h3.1, fun _ => h3.2.1.trans h3.2.2⟩
  | inr er =>
    have h4 : lkc cs_countedBy er = some (σ3 168 6) := h3
    by_cases h_1 : er = 1
    · subst h_1; exact ⟨1, wx_countedBy_1 T hN p0 p1 p2 σ σ1 h, (Option.some.inj (h4.symm.trans (show lkc cs_countedBy 1 = some 1 from rfl))), fun h0 => absurd h0 (by decide)⟩
    simp [lkc, cs_countedBy, h_1] at h4
def cs_heightFor : List (Nat × Int32) := [((2 : Nat), (1 : Int32))]
theorem wq_heightFor (T : Tb) (hN : isNS T) (hO : T[185]? = some (1, 1, [])) (p0 : Int32) (σ σ1 σ3 : Mm) (o : Int32 ⊕ Nat) (v : Int32) (h : F_X5_heightFor p0 σ = some (o, σ1)) (h3 : StR cs_heightFor o v σ3) : ∃ c : Int32, Ev (.codeWith yL_heightFor cL_heightFor 4 (some .int) [(0, 9, 12, 13)]) yL_heightFor rmW T [.ref 0, .int p0, .ref 185] σ (.inl (some (.int c))) T (wm o σ1) ∧ σ3 168 6 = c ∧ (c = 0 → σ3 185 0 = v) := by
  cases o with
  | inl r => exact ⟨0, wr_heightFor T hN hO p0 σ r σ1 h, h3.1, fun _ => h3.2.1.trans h3.2.2⟩
  | inr er =>
    have h4 : lkc cs_heightFor er = some (σ3 168 6) := h3
    by_cases h_2 : er = 2
    · subst h_2; exact ⟨1, wx_heightFor_2 T hN p0 σ σ1 h, (Option.some.inj (h4.symm.trans (show lkc cs_heightFor 2 = some 1 from rfl))), fun h0 => absurd h0 (by decide)⟩
    simp [lkc, cs_heightFor, h_2] at h4
theorem lr_lc {a c : Int64} (h : a = c) : lg_cmp a c = 0 := by subst h; simp [lg_cmp]
theorem lr_bool {yy : MethodName} {cc : ByteArray} {maxL : Nat} {ret0 : Option FieldType} {et : List ExceptionTableEntry} {rm : Room} {Qf : List Frame → Array Value → State → Nat → va_G → ClassId → ClassId → ClassId → State → Prop} {Xf : State → Nat → Prop} {ex : Bool} {k n : Nat} {T : Tb} {pc tgt c1 g1 c0 jn : Nat} {lo : List (Option Value)} {st : List Value} {σ : Mm} {x : Int32} {off off2 : Int} (d0 : decode cc pc = .ok (.ifCond .eq off, 3)) (ht : (pc : Int) + off = (tgt : Int)) (d1 : decode cc c1 = .ok (.iconst 1, 1)) (d2 : decode cc g1 = .ok (.goto off2, 3)) (ht2 : (g1 : Int) + off2 = (jn : Int)) (d3 : decode cc c0 = .ok (.iconst 0, 1)) (e1 : pc + 3 = c1) (e2 : c1 + 1 = g1) (e3 : tgt = c0 ∧ c0 + 1 = jn) (kk : RnQ yy cc maxL ret0 et rm Qf Xf ex k n T jn lo (.int (if x = 0 then 0 else 1) :: st) σ) : RnQ yy cc maxL ret0 et rm Qf Xf ex k n T pc lo (.int x :: st) σ := by
  refine rn_if_eq d0 ht (fun h => ?_) (fun h => ?_)
  · rw [if_pos h] at kk
    obtain ⟨rfl, rfl⟩ := e3
    exact rn_iconst d3 (by decide) kk
  · rw [if_neg h] at kk
    subst e1 e2
    exact rn_iconst d1 (by decide) (rn_goto d2 ht2 kk)
theorem lr_wid {yy : MethodName} {cc : ByteArray} {maxL : Nat} {ret0 : Option FieldType} {et : List ExceptionTableEntry} {rm : Room} {Qf : List Frame → Array Value → State → Nat → va_G → ClassId → ClassId → ClassId → State → Prop} {Xf : State → Nat → Prop} {k n k' n' : Nat} {T : Tb} {pc : Nat} {lo : List (Option Value)} {st : List Value} {σ : Mm} (kk : RnQ yy cc maxL ret0 et rm Qf Xf false k' n' T pc lo st σ) (h1 : k ≤ k') (h2 : n ≤ n') : RnQ yy cc maxL ret0 et rm Qf Xf false k n T pc lo st σ := fun p l e s m args below meth c hs D cI cL cS H locs ls hC hX hZ hP hS hL => W.widen h1 h2 (kk p l e s m args below meth c hs D cI cL cS H locs ls hC hX (fun h => by cases h) hP hS hL)
