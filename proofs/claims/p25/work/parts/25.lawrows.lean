/-! THE CLAIM OUT OF ONE WALK OF THE LAW'S BODY. Your part is whole_start (and what it stands on); all else here is the same for every law, but numbers. -/
def R_law : String := "NestedSumsLaw"
def lw_P (b : Addr) (xs : List Int32) (args : Array Value) (s : State) : Prop := args = #[.ref b] ∧ s.IntsAt b xs ∧ xs.length ≤ 260 ∧ (Jvm.Cond.and given_1 narrow_1).before args s = true
/-- what a walk over the start with the record d0 says of its end, said of the start itself -/
theorem lw_closed {s t : State} {o : Outcome} {d0 : Drawn} {L : List Loc} {k n : Nat} (hd0 : s.drawn.sameBut d0 lw_cs) (hv : ∃ v, o = .returned v) (hW : (s.setDrawn d0).WarmedH t.vm) (hs : (s.setDrawn d0).sameButNew ({ t with vm := s.vm } : State) L k n) : State.butDraws s t lw_cs (fun t1 => Framed s o t1 L k n) := by
  have h2 : t.drawn = d0 := congrArg State.drawn hs.1
  refine ⟨⟨hv, hW, State.sameButNew.setDrawn hs s.drawn⟩, ?_, by decide⟩
  rw [h2]
  exact hd0
def lw_Q (_ : Array Value) (s : State) (o : Outcome) (t : State) : Prop := o = .returned (some (.int 1)) ∧ State.butDraws s t lw_cs (fun t1 => Framed s o t1 [] 600086 7301442)
def lw_Z (below : List Frame) (a : Array Value) (s : State) : State → Prop := fun t => ∃ o, t.status = .running ∧ Ended t below o ∧ lw_Q a s o t
/-- the law's own end, with 1 on the stack, nothing written that was there before, its room as the claim has it; d0: the record of draws at this point (at the entry s.drawn: begin with 'refine W.base ?_' and 'have hd0 := Drawn.sameBut.refl s.drawn lw_cs') -/
theorem lw_ret {p : Program} {l : Launch} {e : Env} {s : State} {m : MethodId} {below : List Frame} {meth : Method} {c : Code} {b : Nat} {d0 : Drawn} (hd0 : s.drawn.sameBut d0 lw_cs) (hx : p.tables.exec = Jvm.exec) (hb : c.code = code) (hr : meth.sig.returnType = ret) (hlocks : meth.locks = false) {pc : Nat} {H : Heap} {ls : Array Slot} (hdg : decode code pc = .ok (.ireturn, 1)) : W p l e room_1 (s.setDrawn d0) m #[Value.ref b] below meth c H [] 600086 7301442 (lw_Z below #[Value.ref b] s) (F0 m pc ls [.int 1]) := by
  intro T hT X
  obtain ⟨fs, hret, hrun, hended, hW, hframe⟩ := X.leave (v := some (.int 1)) (hlocks := hlocks) (fun h => by rw [hr] at h; cases h)
  have hmeth' : T.vm.method? m = some meth := X.method'
  refine ⟨T.setFrames fs, ?_, .returned (some (.int 1)), hrun, hended, rfl, lw_closed hd0 ⟨_, rfl⟩ hW hframe⟩
  jvm_step X.here [X.here.top, hx, hb, hdg, hmeth', hr, ret, narrow_b1]
  (try refine ⟨rfl, ?_⟩); (try refine ⟨rfl, ?_⟩)
  first | (intro acts; rw [hret _ acts rfl rfl rfl]) | rw [hret _ _ rfl rfl rfl]
  exact Steps.refl _
/-- what holds at the law's entry: the machine, the code, the tables' words (any of lw_tbl by 'hts w (by decide +kernel)'), the script of L ints xs at the cell b, what the Statement gives of the start (any of its parts by flat_of_before) -/
def lw_At (p : Program) (s : State) (m : MethodId) (meth : Method) (c : Code) (b L : Nat) (xs : Nat → Int32) : Prop :=
  p.tables.exec = Jvm.exec ∧ c.code = code ∧ meth.sig.returnType = ret ∧ c.maxLocals = 11 ∧ s.vm.findClass R_law = some m.cls ∧ (∀ w ∈ lw_tbl, w.before #[Value.ref b] s = true) ∧ va_X b L xs s s.heap ∧ b < s.heap.size ∧ meth.locks = false ∧ (Jvm.Cond.and given_1 narrow_1).before #[Value.ref b] s = true
theorem gw_512 : Cond.code yL_cell cL_cell 2 (some .int) ∈ GW := List.mem_filter.mpr ⟨List.mem_append_right _ (List.mem_of_getElem? (i := 512) (by decide +kernel)), by decide +kernel⟩
theorem gw_511 : Cond.static yL_cell ∈ GW := List.mem_filter.mpr ⟨List.mem_append_right _ (List.mem_of_getElem? (i := 511) (by decide +kernel)), by decide +kernel⟩
theorem gw_513 : Cond.constant RL 8 (40503) ∈ GW := List.mem_filter.mpr ⟨List.mem_append_right _ (List.mem_of_getElem? (i := 513) (by decide +kernel)), by decide +kernel⟩
theorem gw_506 : Cond.methodLink RL 32 yL_low ∈ GW := List.mem_filter.mpr ⟨List.mem_append_right _ (List.mem_of_getElem? (i := 506) (by decide +kernel)), by decide +kernel⟩
theorem gw_517 : Cond.methodLink RL 38 yL_put ∈ GW := List.mem_filter.mpr ⟨List.mem_append_right _ (List.mem_of_getElem? (i := 517) (by decide +kernel)), by decide +kernel⟩
theorem gw_562 : Cond.methodLink RL 41 yL_span ∈ GW := List.mem_filter.mpr ⟨List.mem_append_right _ (List.mem_of_getElem? (i := 562) (by decide +kernel)), by decide +kernel⟩
theorem gw_587 : Cond.methodLink RL 43 yL_nest ∈ GW := List.mem_filter.mpr ⟨List.mem_append_right _ (List.mem_of_getElem? (i := 587) (by decide +kernel)), by decide +kernel⟩
theorem gw_598 : Cond.methodLink RL 45 yL_rule ∈ GW := List.mem_filter.mpr ⟨List.mem_append_right _ (List.mem_of_getElem? (i := 598) (by decide +kernel)), by decide +kernel⟩
theorem gw_516 : Cond.code yL_act cL_act 8 (some .int) ∈ GW := List.mem_filter.mpr ⟨List.mem_append_right _ (List.mem_of_getElem? (i := 516) (by decide +kernel)), by decide +kernel⟩
theorem gw_515 : Cond.static yL_act ∈ GW := List.mem_filter.mpr ⟨List.mem_append_right _ (List.mem_of_getElem? (i := 515) (by decide +kernel)), by decide +kernel⟩
theorem gw_617 : Cond.methodLink RL 104 yL_tables ∈ GW := List.mem_filter.mpr ⟨List.mem_append_right _ (List.mem_of_getElem? (i := 617) (by decide +kernel)), by decide +kernel⟩
theorem gw_658 : Cond.methodLink RL 100 yL_pages ∈ GW := List.mem_filter.mpr ⟨List.mem_append_right _ (List.mem_of_getElem? (i := 658) (by decide +kernel)), by decide +kernel⟩
theorem gw_510 : Cond.methodLink RL 84 yL_cell ∈ GW := List.mem_filter.mpr ⟨List.mem_append_right _ (List.mem_of_getElem? (i := 510) (by decide +kernel)), by decide +kernel⟩
theorem gw_514 : Cond.methodLink RL 96 yL_act ∈ GW := List.mem_filter.mpr ⟨List.mem_append_right _ (List.mem_of_getElem? (i := 514) (by decide +kernel)), by decide +kernel⟩
theorem gw_433 : Cond.methodLink RL 93 yX5_set ∈ GW := List.mem_filter.mpr ⟨List.mem_append_right _ (List.mem_of_getElem? (i := 433) (by decide +kernel)), by decide +kernel⟩
theorem gw_337 : Cond.methodLink RL 90 yX5_begin ∈ GW := List.mem_filter.mpr ⟨List.mem_append_right _ (List.mem_of_getElem? (i := 337) (by decide +kernel)), by decide +kernel⟩
theorem gw_606 : Cond.methodLink RL 87 yL_undo ∈ GW := List.mem_filter.mpr ⟨List.mem_append_right _ (List.mem_of_getElem? (i := 606) (by decide +kernel)), by decide +kernel⟩
theorem rn_iret9 {yy : MethodName} {cc : ByteArray} {maxL : Nat} {et : List ExceptionTableEntry} {rm : Room} {Xf : State → Nat → Prop} {ex : Bool} {k n : Nat} {T : Tb} {pc : Nat} {lo : List (Option Value)} {σ : Mm} {v : Int32} (hk : k ≤ rm.cells) (hn : n ≤ rm.slots) (d : decode cc pc = .ok (.ireturn, 1)) : RnQ yy cc maxL (some .int) et rm (QfE rm (.inl (some (.int v))) T σ) Xf ex k n T pc lo [.int v] σ := fun p l e s m args below meth c hs D cI cL cS H locs ls hC _ hZ hP hS hL => rn_iret (σ := σ) (et := et) hk hn d p l e s m args below meth c hs D cI cL cS H locs ls hC trivial hZ hP hS hL
/-- what the law knows of its script -/
def lwX (b L : Nat) (xs : Nat → Int32) (s : State) (hs : Nat) : Prop := va_X b L xs s s.heap ∧ b < hs
def lwC (b L : Nat) (xs : Nat → Int32) (s : State) (hs : Nat) : Prop := lwX b L xs s hs ∧ hs = s.heap.size
abbrev LQ : List Frame → Array Value → State → Nat → va_G → ClassId → ClassId → ClassId → State → Prop := fun below args s _ _ _ _ _ => lw_Z below args s
abbrev Lw (nm : String) (et : List ExceptionTableEntry) (b L : Nat) (xs : Nat → Int32) (ex : Bool) (k n : Nat) (T : Tb) (pc : Nat) (lo : List (Option Value)) (st : List Value) (σ : Mm) : Prop := RnQ ⟨"NestedSumsLaw", nm, "()V"⟩ cL_law 11 ret et room_1 LQ (lwC b L xs) ex k n T pc lo st σ
section LawRows
variable {yy : MethodName} {cc : ByteArray} {maxL : Nat} {ret0 : Option FieldType} {et : List ExceptionTableEntry} {rm : Room} {Qf : List Frame → Array Value → State → Nat → va_G → ClassId → ClassId → ClassId → State → Prop} {Xf : State → Nat → Prop} {b L : Nat} {xs : Nat → Int32} {ex : Bool} {k n : Nat} {T : Tb} {pc : Nat} {lo : List (Option Value)} {st : List Value} {σ : Mm}
theorem lr_exf (kk : RnQ yy cc maxL ret0 et rm Qf Xf false k n T pc lo st σ) : RnQ yy cc maxL ret0 et rm Qf Xf ex k n T pc lo st σ := fun p l e s m args below meth c hs D cI cL cS H locs ls hC hX _ hP hS hL => kk p l e s m args below meth c hs D cI cL cS H locs ls hC hX (fun h => by cases h) hP hS hL
theorem lr_wid {k' n' : Nat} (kk : RnQ yy cc maxL ret0 et rm Qf Xf false k' n' T pc lo st σ) (h1 : k ≤ k') (h2 : n ≤ n') : RnQ yy cc maxL ret0 et rm Qf Xf false k n T pc lo st σ := fun p l e s m args below meth c hs D cI cL cS H locs ls hC hX hZ hP hS hL => W.widen h1 h2 (kk p l e s m args below meth c hs D cI cL cS H locs ls hC hX (fun h => by cases h) hP hS hL)
theorem lr_sld (hXX : ∀ s hs, Xf s hs → lwX b L xs s hs) {i : Int32} (hin : vp_in i L) (d : decode cc pc = .ok (.iaload, 1)) (kk : RnQ yy cc maxL ret0 et rm Qf Xf ex k n T (pc + 1) lo (.int (xs i.toNatClampNeg) :: st) σ) : RnQ yy cc maxL ret0 et rm Qf Xf ex k n T pc lo (.int i :: .retAddr b :: st) σ := fun p l e s m args below meth c hs D cI cL cS H locs ls hC hX hZ hP hS hL => va_sld hC.x hC.b (hXX _ _ hX).1 (Nat.lt_of_lt_of_le (hXX _ _ hX).2 hC.sz) (Nat.not_le.mpr (hXX _ _ hX).2) hS hin d (kk p l e s m args below meth c hs D cI cL cS H locs ls hC hX hZ hP hS hL)
theorem lr_slen (hXX : ∀ s hs, Xf s hs → lwX b L xs s hs) (d : decode cc pc = .ok (.arraylength, 1)) (kk : RnQ yy cc maxL ret0 et rm Qf Xf ex k n T (pc + 1) lo (.int (Int32.ofNat L) :: st) σ) : RnQ yy cc maxL ret0 et rm Qf Xf ex k n T pc lo (.retAddr b :: st) σ := fun p l e s m args below meth c hs D cI cL cS H locs ls hC hX hZ hP hS hL => va_slen hC.x hC.b (hXX _ _ hX).1 (Nat.lt_of_lt_of_le (hXX _ _ hX).2 hC.sz) (Nat.not_le.mpr (hXX _ _ hX).2) hS d (kk p l e s m args below meth c hs D cI cL cS H locs ls hC hX hZ hP hS hL)
theorem lr_ofN {a : Nat} (h : a < 4000) : (Int32.ofNat a).toInt = (a : Int) := Int32.toInt_ofNat_of_lt (by omega)
theorem lr_add {a j : Nat} (h : a + j < 4000) : Int32.ofNat a + Int32.ofNat j = Int32.ofNat (a + j) := by
  rw [← Int32.toInt_inj, Int32.toInt_add, lr_ofN (by omega), lr_ofN (by omega), lr_ofN h]
  exact Int.bmod_eq_of_le (by omega) (by omega)
theorem lr_mul {a : Nat} (h : a < 500) : (5 : Int32) * Int32.ofNat a = Int32.ofNat (5 * a) := by
  have e5 : (5 : Int32).toInt = 5 := rfl
  rw [← Int32.toInt_inj, Int32.toInt_mul, lr_ofN (by omega), lr_ofN (by omega), e5]
  rw [show (5 : Int) * (a : Int) = ((5 * a : Nat) : Int) by omega]
  exact Int.bmod_eq_of_le (by omega) (by omega)
theorem lr_nat {a : Nat} (h : a < 4000) : (Int32.ofNat a).toNatClampNeg = a := by
  show (Int32.ofNat a).toInt.toNat = a
  rw [lr_ofN h]
  rfl
theorem lr_le {a c : Nat} (h : a < 4000) (h2 : c < 4000) : (Int32.ofNat a ≤ Int32.ofNat c) ↔ a ≤ c := by
  rw [Int32.le_iff_toInt_le, lr_ofN h, lr_ofN h2]
  omega
theorem lr_in {a L : Nat} (h : a < L) (h2 : L ≤ 3072) : vp_in (Int32.ofNat a) L := by
  intro q
  rcases q with q | q
  · have := Int32.lt_iff_toInt_lt.mp q
    rw [lr_ofN (by omega)] at this
    have : (0 : Int32).toInt = 0 := rfl
    omega
  · rw [lr_nat (by omega)] at q
    omega
/-- the end: with 1 on the stack -/
theorem lr_end {nm : String} (hk : k ≤ 600086) (hn : n ≤ 7301442) (dg : decode cL_law pc = .ok (.ireturn, 1)) : Lw nm et b L xs ex k n T pc lo [.int 1] σ := by
  intro p l e s m args below meth c hs D cI cL cS H locs ls hC hX hZ hP hS hL
  refine va_forget (fun q hq => Nat.le_trans (Nat.le_of_eq hX.2.symm) (hS.2.2 q hq)) ?_
  refine W.widen hk hn ?_
  refine W.base ?_
  show W p l e room_1 (s.setDrawn s.drawn) m args below meth c H [] 600086 7301442 (lw_Z below args s) (F0 m pc ls [.int 1])
  intro T hT X
  have hx := hC.x
  have hb := hC.b
  have hr := hC.r
  have hlocks := hC.lk
  obtain ⟨fs, hret, hrun, hended, hW, hframe⟩ := X.leave (v := some (.int 1)) (hlocks := hlocks) (fun h => by rw [hr] at h; cases h)
  have hmeth' : T.vm.method? m = some meth := X.method'
  refine ⟨T.setFrames fs, ?_, .returned (some (.int 1)), hrun, hended, rfl, lw_closed (Drawn.sameBut.refl s.drawn lw_cs) ⟨_, rfl⟩ hW hframe⟩
  jvm_step X.here [X.here.top, hx, hb, dg, hmeth', hr, ret, narrow_b1]
  (try refine ⟨rfl, ?_⟩); (try refine ⟨rfl, ?_⟩)
  first | (intro acts; rw [hret _ acts rfl rfl rfl]) | rw [hret _ _ rfl rfl rfl]
  exact Steps.refl _
end LawRows
/-! a method that reads the script -/
def PreX (b L : Nat) (xs : Nat → Int32) (hs : Nat) (D : va_G) (cI cL cS : ClassId) (as : List Value) (T : Tb) (σ : Mm) : Array Value → State → Prop := fun a U => PreE hs D cI cL cS as T σ a U ∧ lwX b L xs U hs
def EvX (b L : Nat) (xs : Nat → Int32) (w0 : Cond) (y : MethodName) (rm : Room) (T : Tb) (as : List Value) (σ : Mm) (o : Option Value ⊕ Nat) (T' : Tb) (σ' : Mm) : Prop :=
  ∀ (l : Launch), l.stackTraces = false → ∀ (hs : Nat) (D : va_G) (cI cL cS : ClassId), vx_Met l y (w0 :: GW) rm (PreX b L xs hs D cI cL cS as T σ) (QcE hs D cI cL cS o T' σ') (XcE hs D cI cL cS o T' σ') rm.cells rm.slots (fun q => hs ≤ q)
theorem PreX.blind {b L : Nat} {xs : Nat → Int32} {hs : Nat} {D : va_G} {cI cL cS : ClassId} {as : List Value} {T : Tb} {σ : Mm} : FrameBlind (PreX b L xs hs D cI cL cS as T σ) := fun a U g mk q => ⟨PreE.blind a U g mk q.1, va_X.moved (u := U) (U := U.calling g mk a) (Vm.Alike.refl U.vm) q.2.1, q.2.2⟩
theorem evX_of {b L : Nat} {xs : Nat → Int32} {y : MethodName} {cc : ByteArray} {maxL a j : Nat} {ret : Option FieldType} {rm : Room} {o : Option Value ⊕ Nat} {T T' : Tb} {σ σ' : Mm} {as : List Value} {lo : List (Option Value)} (cal : Cal y cc maxL ret a) (hlo : lo = loA as ++ List.replicate j none) (hlen : ∀ hs : Nat, (lg_sl (as.map (ge hs))).length ≤ maxL) (h : RnQ y cc maxL ret [] rm (QfE rm o T' σ') (lwX b L xs) false 0 0 T 0 lo [] σ) : EvX b L xs (.code y cc maxL ret) y rm T as σ o T' σ' := by
  intro l hl hs D cI cL cS
  refine vx_ofW (cc := cc) (maxL := maxL) (ret := ret) cal.2.2.2.2 rfl ?_
  intro p e s m args below meth c s₁ B hml het hv
  obtain ⟨⟨rfl, hP, hWK, hWZ, hsz⟩, hXX⟩ := hv
  have hts := atoms_spec (ws := .code y cc maxL ret :: GW) B.pre
  have hl0 := lv_entry (as.map (ge hs)) (n := maxL) (hlen hs)
  rw [lg_entry_eq]
  generalize (lg_sl (as.map (ge hs)) ++ List.replicate (maxL - (lg_sl (as.map (ge hs))).length) Slot.unset).toArray = ls at hl0 ⊢
  refine h p l e s m _ below meth c hs D cI cL cS s.heap [] ls ⟨B.exec, B.bytes, B.returns, hml, findClass_of_methodNamed B.named, fun w hw => hts w (List.mem_cons_of_mem _ hw), B.notSynchronized, hl, hWK, hWZ, hsz, ?_, (name_of_methodNamed B.named B.method).1⟩ hXX (fun h => by cases h) hP va_S.rf ⟨hl0.1, hl0.2.1, fun i v hi => ?_⟩
  · cases hh : c.exceptionTable.toList with
    | nil => rfl
    | cons x r => exact (het x (by rw [hh]; exact List.mem_cons_self)).elim
  · rw [hlo] at hi
    have h2 := loA_at (hs := hs) as 0 i v (loA_pad hi)
    rw [Nat.zero_add] at h2
    exact hl0.2.2 _ h2
theorem rn_callX {yy : MethodName} {cc : ByteArray} {maxL : Nat} {ret : Option FieldType} {et : List ExceptionTableEntry} {rm : Room} {Qf : List Frame → Array Value → State → Nat → va_G → ClassId → ClassId → ClassId → State → Prop} {Xf : State → Nat → Prop} {b L : Nat} {xs : Nat → Int32} {ex : Bool} {k n : Nat} {T : Tb} {pc : Nat} {lo : List (Option Value)} {st : List Value} {σ : Mm} {y' : MethodName} {bytes : ByteArray} {mL a idx : Nat} {rt : Option FieldType} {rm' : Room} {as st0 : List Value} {T1 : Tb} {σ1 : Mm} {r : Option Value} (hXX : ∀ s hs, Xf s hs → lwX b L xs s hs) (cal : Cal y' bytes mL rt a) (hin : Cond.static y' ∈ GW) (hlk : Cond.methodLink yy.cls idx y' ∈ GW) (ev : EvX b L xs (.code y' bytes mL rt) y' rm' T as σ (.inl r) T1 σ1) (hlen : as.length = a) (hst : st0 = as.reverse ++ st) (hw : (st.map fun v => v.category).sum ≤ 8) (hfr : rm'.frames + 1 ≤ rm.frames) (hlo : 8 + (mL + 11) + rm'.locals ≤ rm.locals) (hc : k + rm'.cells ≤ rm.cells) (hs9 : n + rm'.slots ≤ rm.slots) (hx : ex = true → T1.length = T.length + rm'.cells) (d : decode cc pc = .ok (.invokestatic idx, 3)) (kk : RnQ yy cc maxL ret et rm Qf Xf ex (k + rm'.cells) (n + rm'.slots) T1 (pc + 3) lo (r.toList ++ st) σ1) : RnQ yy cc maxL ret et rm Qf Xf ex k n T pc lo st0 σ := by
  intro p l e s m args below meth c hs D cI cL cS H locs ls hC hX hZ hP hS hL
  have hX0 := hXX _ _ hX
  have run := vx_runS (p := p) (l := l) (e := e) (R := rm) (s := s) (m := m) (args := args) (below := below) (meth := meth) (c := c) (H := H) (locs := locs) (cells := k) (slots := n) (g := F0 m pc ls (st0.map (ge hs))) (As := as.map (ge hs)) (rest := st.map (ge hs)) ⟨hC.x, hC.b, hC.ml, hC.ow, hC.ts⟩ (ev l hC.st hs D cI cL cS) ⟨callB_of a hC.ts (gw_in cal.1) rfl rfl rfl (hC.ts _ cal.2.1) (hC.ts _ hlk) ⟨cal.2.2.1.1, cal.2.2.1.2, cal.2.2.2.1⟩ ⟨hfr, hlo⟩, hC.ts _ hin⟩ ⟨PreX.blind, fun U hU hW => ⟨pre_of hC hP hS hU hW rfl, by rw [hU]; exact (hX0.1.kept (hS.2.1 b (Nat.lt_of_lt_of_le hX0.2 hC.sz) (Nat.not_le.mpr hX0.2))).moved hW.alike, hX0.2⟩⟩ rfl ((List.length_map _).trans hlen) hL.1 (stk_mapS hst) (lv_room (by rw [cat_map]; exact hw)) d ⟨hc, hs9⟩
  exact aft_ret run hS (fun H1 locs1 hP1 hS1 => res_map (hs := hs) (r := r) (st := st) ▸ kk p l e s m args below meth c hs D cI cL cS H1 locs1 ls hC hX (fun h => by rw [hx h]; have := hZ h; omega) hP1 hS1 hL)
def ceX (L : Nat) (xs : Nat → Int32) (j : Nat) : Int32 := if j < L then xs j else 40503 * Int32.ofNat j + 977
def rmCe : Room := { frames := 0, cells := 0, slots := 0, locals := 0 }
theorem k_L_cell : Cal yL_cell cL_cell 2 (some .int) 2 ∧ Cond.static yL_cell ∈ GW := ⟨⟨gw_512, gw_0, ⟨by decide, by decide⟩, by decide +kernel, by decide +kernel⟩, gw_511⟩
set_option maxRecDepth 100000 in
theorem ev_cell (T : Tb) (σ : Mm) (b L : Nat) (xs : Nat → Int32) (j : Nat) (hL : L ≤ 260) (hj : j < 1000) : EvX b L xs (.code yL_cell cL_cell 2 (some .int)) yL_cell rmCe T [.retAddr b, .int (Int32.ofNat j)] σ (.inl (some (.int (ceX L xs j)))) T σ := by
  refine evX_of (lo := [some (.retAddr b), some (.int (Int32.ofNat j))]) (j := 0) k_L_cell.1 rfl (fun _ => Nat.le_of_ble_eq_true rfl) ?_
  refine rn_iload_n (pc := 0) (i := 1) dL_cell_0 rfl rfl ?_
  refine rn_aload_nA (pc := 1) (i := 0) dL_cell_1 rfl rfl ?_
  refine lr_slen (pc := 2) (fun _ _ h => h) dL_cell_2 ?_
  refine rn_icmp_ge (pc := 3) (tgt := 12) dL_cell_3 rfl (fun h => ?_) (fun h => ?_)
  · rw [lr_le (by omega) (by omega)] at h
    have e : ceX L xs j = 40503 * Int32.ofNat j + 977 := if_neg (by omega)
    rw [e]
    refine rn_ldc (pc := 12) gw_513 dL_cell_12 ?_
    refine rn_iload_n (pc := 14) (i := 1) dL_cell_14 rfl rfl ?_
    refine rn_imul (pc := 15) dL_cell_15 ?_
    refine rn_sipush (pc := 16) (v := 977) dL_cell_16 (by decide) ?_
    refine rn_iadd (pc := 19) dL_cell_19 ?_
    exact rn_iret9 (pc := 20) (Nat.le_refl _) (Nat.le_refl _) dL_cell_20
  · rw [lr_le (by omega) (by omega)] at h
    have e : ceX L xs j = xs j := if_pos (by omega)
    rw [e]
    refine rn_aload_nA (pc := 6) (i := 0) dL_cell_6 rfl rfl ?_
    refine rn_iload_n (pc := 7) (i := 1) dL_cell_7 rfl rfl ?_
    refine lr_sld (pc := 8) (fun _ _ h => h) (lr_in (by omega) (by omega)) dL_cell_8 ?_
    rw [lr_nat (by omega)]
    refine rn_goto (pc := 9) (tgt := 20) dL_cell_9 rfl ?_
    exact rn_iret9 (pc := 20) (Nat.le_refl _) (Nat.le_refl _) dL_cell_20
def lowI (p q : Int32) : Int32 := iR (p &&& (2147483647 : Int32)) q
theorem f_low {p q : Int32} {σ : Mm} (h : ¬ q = 0) : F_L_low p q σ = some (.inl (lowI p q), σ) := by
  unfold F_L_low ckM
  rw [if_pos h]
  rfl
def rmA : Room := { frames := 10, cells := 1, slots := 6, locals := 440 }
theorem inv_some {α β : Type} {F : Dm α} {K : α → Dm β} {σ σ1 : Mm} {v : β} (h : invM F K σ = some (.inl v, σ1)) : ∃ r σ2, F σ = some (.inl r, σ2) ∧ K r σ2 = some (.inl v, σ1) := by
  unfold invM at h
  cases e : F σ with
  | none => rw [e] at h; cases h
  | some q =>
    obtain ⟨o, σ2⟩ := q
    rw [e] at h
    cases o with
    | inl r => exact ⟨r, σ2, rfl, h⟩
    | inr er => cases h
abbrev TA (T : Tb) (pc : Nat) (lo : List (Option Value)) (st : List Value) (X : Dm Int32) : Prop := ∀ (σ : Mm) (v : Int32) (σ' : Mm), X σ = some (.inl v, σ') → Rn yL_act cL_act 8 (some .int) [] rmA (.inl (some (.int v))) T σ' false 0 0 T pc lo st σ
section TaRows
variable {T : Tb} {pc : Nat} {lo : List (Option Value)} {st : List Value} {X : Dm Int32}
theorem ta_iload {i : Nat} {x : Int32} (d : decode cL_act pc = .ok (.iload i, 2)) (hl : lo[i]? = some (some (.int x))) (kk : TA T (pc + 2) lo (.int x :: st) X) : TA T pc lo st X := fun σ v σ' h => rn_iload d hl (kk σ v σ' h)
theorem ta_iload_n {j : Fin 4} {i : Nat} {x : Int32} (d : decode cL_act pc = .ok (.iload_n j, 1)) (hi : (j : Nat) = i) (hl : lo[i]? = some (some (.int x))) (kk : TA T (pc + 1) lo (.int x :: st) X) : TA T pc lo st X := fun σ v σ' h => rn_iload_n d hi hl (kk σ v σ' h)
theorem ta_aload_n {j : Fin 4} {i : Nat} {x : Nat} (d : decode cL_act pc = .ok (.aload_n j, 1)) (hi : (j : Nat) = i) (hl : lo[i]? = some (some (.ref x))) (kk : TA T (pc + 1) lo (.ref x :: st) X) : TA T pc lo st X := fun σ v σ' h => rn_aload_n d hi hl (kk σ v σ' h)
theorem ta_iconst {i : Int} {v0 : Int32} (d : decode cL_act pc = .ok (.iconst i, 1)) (hv : Int32.ofInt i = v0) (kk : TA T (pc + 1) lo (.int v0 :: st) X) : TA T pc lo st X := fun σ v σ' h => rn_iconst d hv (kk σ v σ' h)
theorem ta_bipush {i : Int} {v0 : Int32} (d : decode cL_act pc = .ok (.bipush i, 2)) (hv : (Int8.ofInt i).toInt32 = v0) (kk : TA T (pc + 2) lo (.int v0 :: st) X) : TA T pc lo st X := fun σ v σ' h => rn_bipush d hv (kk σ v σ' h)
theorem ta_sipush {i : Int} {v0 : Int32} (d : decode cL_act pc = .ok (.sipush i, 3)) (hv : (Int16.ofInt i).toInt32 = v0) (kk : TA T (pc + 3) lo (.int v0 :: st) X) : TA T pc lo st X := fun σ v σ' h => rn_sipush d hv (kk σ v σ' h)
theorem ta_iadd {x y : Int32} (d : decode cL_act pc = .ok (.iadd, 1)) (kk : TA T (pc + 1) lo (.int (x + y) :: st) X) : TA T pc lo (.int y :: .int x :: st) X := fun σ v σ' h => rn_iadd d (kk σ v σ' h)
theorem ta_isub {x y : Int32} (d : decode cL_act pc = .ok (.isub, 1)) (kk : TA T (pc + 1) lo (.int (x - y) :: st) X) : TA T pc lo (.int y :: .int x :: st) X := fun σ v σ' h => rn_isub d (kk σ v σ' h)
theorem ta_istore {i : Nat} {x : Int32} {lo' : List (Option Value)} (d : decode cL_act pc = .ok (.istore i, 2)) (hn : i < 8) (hl : sto lo i (.int x) = lo') (kk : TA T (pc + 2) lo' st X) : TA T pc lo (.int x :: st) X := fun σ v σ' h => rn_istore d hn hl (kk σ v σ' h)
theorem ta_if {c : Prop} [Decidable c] {X1 X2 : Dm Int32} (h1 : c → TA T pc lo st X1) (h2 : ¬ c → TA T pc lo st X2) : TA T pc lo st (if c then X1 else X2) := by
  by_cases hc : c
  · rw [if_pos hc]; exact h1 hc
  · rw [if_neg hc]; exact h2 hc
theorem ta_tin {dflt a b : Int} {offs : Array Int} {len : Nat} {x : Int32} (v0 : Int32) {off : Int} {tgt : Nat} (hx : x = v0) (d : decode cL_act pc = .ok (.tableswitch dflt a b offs, len)) (h1 : ¬ v0.toInt < a) (h2 : ¬ b < v0.toInt) (ho : offs[(v0.toInt - a).toNat]? = some off) (ht : (pc : Int) + off = (tgt : Int)) (kk : TA T tgt lo st X) : TA T pc lo (.int x :: st) X := fun σ v σ' h => rn_tableIn d (by rw [hx]; exact h1) (by rw [hx]; exact h2) (by rw [hx]; exact ho) ht (kk σ v σ' h)
theorem ta_tout {dflt a b : Int} {offs : Array Int} {len : Nat} {x : Int32} {tgt : Nat} (d : decode cL_act pc = .ok (.tableswitch dflt a b offs, len)) (hx : x.toInt < a ∨ b < x.toInt) (ht : (pc : Int) + dflt = (tgt : Int)) (kk : TA T tgt lo st X) : TA T pc lo (.int x :: st) X := fun σ v σ' h => rn_tableOut d hx ht (kk σ v σ' h)
theorem ta_low {x y : Int32} {K : Int32 → Dm Int32} {idx : Nat} (hlk : Cond.methodLink RL idx yL_low ∈ GW) (hw : (st.map fun v => v.category).sum ≤ 8) (d : decode cL_act pc = .ok (.invokestatic idx, 3)) (kk : ∀ r : Int32, TA T (pc + 3) lo (.int r :: st) (K r)) : TA T pc lo (.int y :: .int x :: st) (invM (F_L_low x y) K) := fun σ v σ' h => by
  obtain ⟨r, σ2, h1, h2⟩ := inv_some h
  exact rn_callS (r := some (.int r)) (as := [.int x, .int y]) (st := st) k_L_low.1 k_L_low.2.1 hlk (c_L_low T x y σ (.inl r) σ2 h1) rfl rfl hw (Nat.le_of_ble_eq_true rfl) (Nat.le_of_ble_eq_true rfl) (Nat.zero_le _) (Nat.zero_le _) (fun h => by cases h) d (kk r σ2 v σ' h2)
theorem ta_count {x : Int32} {K : Int32 → Dm Int32} {idx : Nat} (hN : isNS T) (hlk : Cond.methodLink RL idx yX5_count ∈ GW) (hw : (st.map fun v => v.category).sum ≤ 8) (d : decode cL_act pc = .ok (.invokevirtual idx, 3)) (kk : ∀ r : Int32, TA T (pc + 3) lo (.int r :: st) (K r)) : TA T pc lo (.int x :: .ref 0 :: st) (invM (F_X5_count x) K) := fun σ v σ' h => by
  obtain ⟨r, σ2, h1, h2⟩ := inv_some h
  exact rn_callV (r := some (.int r)) (as := [.int x]) (st := st) hN.1 ⟨_, _, rfl⟩ k_X5_count.1 k_X5_count.2.1 k_X5_count.2.2.1 hlk (c_X5_count T x hN σ (.inl r) σ2 h1) rfl rfl hw (Nat.le_of_ble_eq_true rfl) (Nat.le_of_ble_eq_true rfl) (Nat.zero_le _) (Nat.zero_le _) (fun h => by cases h) d (kk r σ2 v σ' h2)
theorem ta_put {p0 p1 p2 p3 p4 : Int32} {idx : Nat} (hN : isNS T) (hlk : Cond.methodLink RL idx yL_put ∈ GW) (d : decode cL_act pc = .ok (.invokestatic idx, 3)) (d2 : decode cL_act (pc + 3) = .ok (.ireturn, 1)) : TA T pc lo [.int p4, .int p3, .int p2, .int p1, .int p0, .ref 0] (F_L_put p0 p1 p2 p3 p4) := fun σ v σ' h => by
  refine rn_callSH (r := some (.int v)) (as := [.ref 0, .int p0, .int p1, .int p2, .int p3, .int p4]) (st := []) kw_put hlk (wq_put T hN p0 p1 p2 p3 p4 σ v σ' h) rfl rfl (Nat.zero_le _) (Nat.le_of_ble_eq_true rfl) (Nat.le_of_ble_eq_true rfl) (Nat.le_of_ble_eq_true rfl) (Nat.le_of_ble_eq_true rfl) (fun h => by cases h) d ?_
  exact rn_iret (Nat.le_of_ble_eq_true rfl) (Nat.le_of_ble_eq_true rfl) d2
theorem ta_nest {p0 p1 p2 p3 p4 : Int32} {idx : Nat} (hN : isNS T) (hlk : Cond.methodLink RL idx yL_nest ∈ GW) (d : decode cL_act pc = .ok (.invokestatic idx, 3)) (d2 : decode cL_act (pc + 3) = .ok (.ireturn, 1)) : TA T pc lo [.int p4, .int p3, .int p2, .int p1, .int p0, .ref 0] (F_L_nest p0 p1 p2 p3 p4) := fun σ v σ' h => by
  refine rn_callSH (r := some (.int v)) (as := [.ref 0, .int p0, .int p1, .int p2, .int p3, .int p4]) (st := []) kw_nest hlk (wq_nest T hN p0 p1 p2 p3 p4 σ v σ' h) rfl rfl (Nat.zero_le _) (Nat.le_of_ble_eq_true rfl) (Nat.le_of_ble_eq_true rfl) (Nat.le_of_ble_eq_true rfl) (Nat.le_of_ble_eq_true rfl) (fun h => by cases h) d ?_
  exact rn_iret (Nat.le_of_ble_eq_true rfl) (Nat.le_of_ble_eq_true rfl) d2
theorem ta_span {p0 p1 p2 p3 p4 : Int32} {idx : Nat} (hN : isNS T) (hlk : Cond.methodLink RL idx yL_span ∈ GW) (d : decode cL_act pc = .ok (.invokestatic idx, 3)) (d2 : decode cL_act (pc + 3) = .ok (.ireturn, 1)) : TA T pc lo [.int p4, .int p3, .int p2, .int p1, .int p0, .ref 0] (F_L_span p0 p1 p2 p3 p4) := fun σ v σ' h => by
  refine rn_callSH (r := some (.int v)) (as := [.ref 0, .int p0, .int p1, .int p2, .int p3, .int p4]) (st := []) kw_span hlk (wq_span T hN p0 p1 p2 p3 p4 σ v σ' h) rfl rfl (Nat.zero_le _) (Nat.le_of_ble_eq_true rfl) (Nat.le_of_ble_eq_true rfl) (Nat.le_of_ble_eq_true rfl) (Nat.le_of_ble_eq_true rfl) (fun h => by cases h) d ?_
  exact rn_iret (Nat.le_of_ble_eq_true rfl) (Nat.le_of_ble_eq_true rfl) d2
theorem ta_rule {p0 p1 p2 p3 p4 : Int32} {idx : Nat} (hN : isNS T) (hlk : Cond.methodLink RL idx yL_rule ∈ GW) (d : decode cL_act pc = .ok (.invokestatic idx, 3)) (d2 : decode cL_act (pc + 3) = .ok (.ireturn, 1)) : TA T pc lo [.int p4, .int p3, .int p2, .int p1, .int p0, .ref 0] (F_L_rule p0 p1 p2 p3 p4) := fun σ v σ' h => by
  refine rn_callSH (r := some (.int v)) (as := [.ref 0, .int p0, .int p1, .int p2, .int p3, .int p4]) (st := []) kw_rule hlk (wq_rule T hN p0 p1 p2 p3 p4 σ v σ' h) rfl rfl (Nat.zero_le _) (Nat.le_of_ble_eq_true rfl) (Nat.le_of_ble_eq_true rfl) (Nat.le_of_ble_eq_true rfl) (Nat.le_of_ble_eq_true rfl) (fun h => by cases h) d ?_
  exact rn_iret (Nat.le_of_ble_eq_true rfl) (Nat.le_of_ble_eq_true rfl) d2
end TaRows
def F_L_act (p1 p2 p3 p4 : Int32) : Dm Int32 := invM (F_X5_count (0 : Int32)) fun r1 => invM (F_L_low p1 r1) fun r2 => invM (F_L_low p2 (5 : Int32)) fun r3 => invM (F_L_low p3 (5 : Int32)) fun r4 => invM (F_L_low p4 (14 : Int32)) fun r5 => (if r5 = (0 : Int32) then invM (F_L_low (p1 + p4) (1999 : Int32)) fun r6 => F_L_put r2 r3 r4 (1 : Int32) (r6 - (999 : Int32)) else (if r5 = (1 : Int32) then invM (F_L_low (p1 + p4) (1999 : Int32)) fun r7 => F_L_put r2 r3 r4 (1 : Int32) (r7 - (999 : Int32)) else (if r5 = (2 : Int32) then invM (F_L_low (p1 + p4) (1999 : Int32)) fun r8 => F_L_put r2 r3 r4 (1 : Int32) (r8 - (999 : Int32)) else (if r5 = (3 : Int32) then invM (F_L_low (p1 + p4) (1999 : Int32)) fun r9 => F_L_put r2 r3 r4 (1 : Int32) (r9 - (999 : Int32)) else (if r5 = (4 : Int32) then invM (F_L_low (p1 + p4) (12 : Int32)) fun r10 => F_L_put r2 r3 r4 (2 : Int32) ((1 : Int32) + r10) else (if r5 = (5 : Int32) then invM (F_L_low (p1 + p4) (3 : Int32)) fun r11 => F_L_put r2 r3 r4 ((4 : Int32) + r11) (0 : Int32) else (if r5 = (6 : Int32) then invM (F_L_low (p1 + p4) (3 : Int32)) fun r12 => F_L_put r2 r3 r4 ((4 : Int32) + r12) (0 : Int32) else (if r5 = (7 : Int32) then invM (F_L_low (p1 + p4) (3 : Int32)) fun r13 => F_L_put r2 r3 r4 ((4 : Int32) + r13) (0 : Int32) else (if r5 = (8 : Int32) then F_L_put r2 r3 r4 (0 : Int32) (0 : Int32) else (if r5 = (9 : Int32) then invM (F_L_low (p1 + p2) (3 : Int32)) fun r14 => invM (F_L_low (p2 + p3) (3 : Int32)) fun r15 => F_L_span r2 r3 r4 ((1 : Int32) + r14) ((1 : Int32) + r15) else (if r5 = (10 : Int32) then invM (F_L_low (p1 + p2) (3 : Int32)) fun r16 => invM (F_L_low (p2 + p3) (3 : Int32)) fun r17 => F_L_span r2 r3 r4 ((1 : Int32) + r16) ((1 : Int32) + r17) else (if r5 = (11 : Int32) then invM (F_L_low (p1 + p2) (4 : Int32)) fun r18 => invM (F_L_low (p2 + p3) (4 : Int32)) fun r19 => F_L_nest r2 r3 r4 ((1 : Int32) + r18) ((1 : Int32) + r19) else invM (F_L_low (p1 + p3) (4 : Int32)) fun r20 => invM (F_L_low (p1 + p2) (4 : Int32)) fun r21 => F_L_rule r2 r3 r4 r20 r21))))))))))))
set_option maxRecDepth 100000 in
theorem w_act (T : Tb) (hN : isNS T) (p1 p2 p3 p4 : Int32) : TA T 0 [some (.ref 0), some (.int p1), some (.int p2), some (.int p3), some (.int p4), none, none, none] [] (F_L_act p1 p2 p3 p4) := by
  unfold F_L_act
  refine ta_iload_n (pc := 0) (i := 1) dL_act_0 rfl rfl ?_
  refine ta_aload_n (pc := 1) (i := 0) dL_act_1 rfl rfl ?_
  refine ta_iconst (pc := 2) (v0 := 0) dL_act_2 (by decide) ?_
  refine ta_count (pc := 3) hN gw_471 (Nat.le_of_ble_eq_true rfl) dL_act_3 (fun r1 => ?_)
  refine ta_low (pc := 6) gw_506 (Nat.le_of_ble_eq_true rfl) dL_act_6 (fun r2 => ?_)
  refine ta_istore (pc := 9) (i := 5) (lo' := [some (.ref 0), some (.int p1), some (.int p2), some (.int p3), some (.int p4), some (.int r2), none, none]) dL_act_9 (by decide) rfl ?_
  refine ta_iload_n (pc := 11) (i := 2) dL_act_11 rfl rfl ?_
  refine ta_iconst (pc := 12) (v0 := 5) dL_act_12 (by decide) ?_
  refine ta_low (pc := 13) gw_506 (Nat.le_of_ble_eq_true rfl) dL_act_13 (fun r3 => ?_)
  refine ta_istore (pc := 16) (i := 6) (lo' := [some (.ref 0), some (.int p1), some (.int p2), some (.int p3), some (.int p4), some (.int r2), some (.int r3), none]) dL_act_16 (by decide) rfl ?_
  refine ta_iload_n (pc := 18) (i := 3) dL_act_18 rfl rfl ?_
  refine ta_iconst (pc := 19) (v0 := 5) dL_act_19 (by decide) ?_
  refine ta_low (pc := 20) gw_506 (Nat.le_of_ble_eq_true rfl) dL_act_20 (fun r4 => ?_)
  refine ta_istore (pc := 23) (i := 7) (lo' := [some (.ref 0), some (.int p1), some (.int p2), some (.int p3), some (.int p4), some (.int r2), some (.int r3), some (.int r4)]) dL_act_23 (by decide) rfl ?_
  refine ta_iload (pc := 25) (i := 4) dL_act_25 rfl ?_
  refine ta_bipush (pc := 27) (v0 := 14) dL_act_27 (by decide) ?_
  refine ta_low (pc := 29) gw_506 (Nat.le_of_ble_eq_true rfl) dL_act_29 (fun r5 => ?_)
  refine ta_if (fun cs_0 => ?_) (fun cs_0 => ?_)
  · refine ta_tin (pc := 32) (tgt := 96) (off := 64) (0 : Int32) cs_0 dL_act_32 (by decide) (by decide) (by decide) rfl ?_
    refine ta_aload_n (pc := 96) (i := 0) dL_act_96 rfl rfl ?_
    refine ta_iload (pc := 97) (i := 5) dL_act_97 rfl ?_
    refine ta_iload (pc := 99) (i := 6) dL_act_99 rfl ?_
    refine ta_iload (pc := 101) (i := 7) dL_act_101 rfl ?_
    refine ta_iconst (pc := 103) (v0 := 1) dL_act_103 (by decide) ?_
    refine ta_iload_n (pc := 104) (i := 1) dL_act_104 rfl rfl ?_
    refine ta_iload (pc := 105) (i := 4) dL_act_105 rfl ?_
    refine ta_iadd (pc := 107) dL_act_107 ?_
    refine ta_sipush (pc := 108) (v0 := 1999) dL_act_108 (by decide) ?_
    refine ta_low (pc := 111) gw_506 (Nat.le_of_ble_eq_true rfl) dL_act_111 (fun r6 => ?_)
    refine ta_sipush (pc := 114) (v0 := 999) dL_act_114 (by decide) ?_
    refine ta_isub (pc := 117) dL_act_117 ?_
    exact ta_put (pc := 118) hN gw_517 dL_act_118 dL_act_121
  · refine ta_if (fun cs_1 => ?_) (fun cs_1 => ?_)
    · refine ta_tin (pc := 32) (tgt := 96) (off := 64) (1 : Int32) cs_1 dL_act_32 (by decide) (by decide) (by decide) rfl ?_
      refine ta_aload_n (pc := 96) (i := 0) dL_act_96 rfl rfl ?_
      refine ta_iload (pc := 97) (i := 5) dL_act_97 rfl ?_
      refine ta_iload (pc := 99) (i := 6) dL_act_99 rfl ?_
      refine ta_iload (pc := 101) (i := 7) dL_act_101 rfl ?_
      refine ta_iconst (pc := 103) (v0 := 1) dL_act_103 (by decide) ?_
      refine ta_iload_n (pc := 104) (i := 1) dL_act_104 rfl rfl ?_
      refine ta_iload (pc := 105) (i := 4) dL_act_105 rfl ?_
      refine ta_iadd (pc := 107) dL_act_107 ?_
      refine ta_sipush (pc := 108) (v0 := 1999) dL_act_108 (by decide) ?_
      refine ta_low (pc := 111) gw_506 (Nat.le_of_ble_eq_true rfl) dL_act_111 (fun r7 => ?_)
      refine ta_sipush (pc := 114) (v0 := 999) dL_act_114 (by decide) ?_
      refine ta_isub (pc := 117) dL_act_117 ?_
      exact ta_put (pc := 118) hN gw_517 dL_act_118 dL_act_121
    · refine ta_if (fun cs_2 => ?_) (fun cs_2 => ?_)
      · refine ta_tin (pc := 32) (tgt := 96) (off := 64) (2 : Int32) cs_2 dL_act_32 (by decide) (by decide) (by decide) rfl ?_
        refine ta_aload_n (pc := 96) (i := 0) dL_act_96 rfl rfl ?_
        refine ta_iload (pc := 97) (i := 5) dL_act_97 rfl ?_
        refine ta_iload (pc := 99) (i := 6) dL_act_99 rfl ?_
        refine ta_iload (pc := 101) (i := 7) dL_act_101 rfl ?_
        refine ta_iconst (pc := 103) (v0 := 1) dL_act_103 (by decide) ?_
        refine ta_iload_n (pc := 104) (i := 1) dL_act_104 rfl rfl ?_
        refine ta_iload (pc := 105) (i := 4) dL_act_105 rfl ?_
        refine ta_iadd (pc := 107) dL_act_107 ?_
        refine ta_sipush (pc := 108) (v0 := 1999) dL_act_108 (by decide) ?_
        refine ta_low (pc := 111) gw_506 (Nat.le_of_ble_eq_true rfl) dL_act_111 (fun r8 => ?_)
        refine ta_sipush (pc := 114) (v0 := 999) dL_act_114 (by decide) ?_
        refine ta_isub (pc := 117) dL_act_117 ?_
        exact ta_put (pc := 118) hN gw_517 dL_act_118 dL_act_121
      · refine ta_if (fun cs_3 => ?_) (fun cs_3 => ?_)
        · refine ta_tin (pc := 32) (tgt := 96) (off := 64) (3 : Int32) cs_3 dL_act_32 (by decide) (by decide) (by decide) rfl ?_
          refine ta_aload_n (pc := 96) (i := 0) dL_act_96 rfl rfl ?_
          refine ta_iload (pc := 97) (i := 5) dL_act_97 rfl ?_
          refine ta_iload (pc := 99) (i := 6) dL_act_99 rfl ?_
          refine ta_iload (pc := 101) (i := 7) dL_act_101 rfl ?_
          refine ta_iconst (pc := 103) (v0 := 1) dL_act_103 (by decide) ?_
          refine ta_iload_n (pc := 104) (i := 1) dL_act_104 rfl rfl ?_
          refine ta_iload (pc := 105) (i := 4) dL_act_105 rfl ?_
          refine ta_iadd (pc := 107) dL_act_107 ?_
          refine ta_sipush (pc := 108) (v0 := 1999) dL_act_108 (by decide) ?_
          refine ta_low (pc := 111) gw_506 (Nat.le_of_ble_eq_true rfl) dL_act_111 (fun r9 => ?_)
          refine ta_sipush (pc := 114) (v0 := 999) dL_act_114 (by decide) ?_
          refine ta_isub (pc := 117) dL_act_117 ?_
          exact ta_put (pc := 118) hN gw_517 dL_act_118 dL_act_121
        · refine ta_if (fun cs_4 => ?_) (fun cs_4 => ?_)
          · refine ta_tin (pc := 32) (tgt := 122) (off := 90) (4 : Int32) cs_4 dL_act_32 (by decide) (by decide) (by decide) rfl ?_
            refine ta_aload_n (pc := 122) (i := 0) dL_act_122 rfl rfl ?_
            refine ta_iload (pc := 123) (i := 5) dL_act_123 rfl ?_
            refine ta_iload (pc := 125) (i := 6) dL_act_125 rfl ?_
            refine ta_iload (pc := 127) (i := 7) dL_act_127 rfl ?_
            refine ta_iconst (pc := 129) (v0 := 2) dL_act_129 (by decide) ?_
            refine ta_iconst (pc := 130) (v0 := 1) dL_act_130 (by decide) ?_
            refine ta_iload_n (pc := 131) (i := 1) dL_act_131 rfl rfl ?_
            refine ta_iload (pc := 132) (i := 4) dL_act_132 rfl ?_
            refine ta_iadd (pc := 134) dL_act_134 ?_
            refine ta_bipush (pc := 135) (v0 := 12) dL_act_135 (by decide) ?_
            refine ta_low (pc := 137) gw_506 (Nat.le_of_ble_eq_true rfl) dL_act_137 (fun r10 => ?_)
            refine ta_iadd (pc := 140) dL_act_140 ?_
            exact ta_put (pc := 141) hN gw_517 dL_act_141 dL_act_144
          · refine ta_if (fun cs_5 => ?_) (fun cs_5 => ?_)
            · refine ta_tin (pc := 32) (tgt := 145) (off := 113) (5 : Int32) cs_5 dL_act_32 (by decide) (by decide) (by decide) rfl ?_
              refine ta_aload_n (pc := 145) (i := 0) dL_act_145 rfl rfl ?_
              refine ta_iload (pc := 146) (i := 5) dL_act_146 rfl ?_
              refine ta_iload (pc := 148) (i := 6) dL_act_148 rfl ?_
              refine ta_iload (pc := 150) (i := 7) dL_act_150 rfl ?_
              refine ta_iconst (pc := 152) (v0 := 4) dL_act_152 (by decide) ?_
              refine ta_iload_n (pc := 153) (i := 1) dL_act_153 rfl rfl ?_
              refine ta_iload (pc := 154) (i := 4) dL_act_154 rfl ?_
              refine ta_iadd (pc := 156) dL_act_156 ?_
              refine ta_iconst (pc := 157) (v0 := 3) dL_act_157 (by decide) ?_
              refine ta_low (pc := 158) gw_506 (Nat.le_of_ble_eq_true rfl) dL_act_158 (fun r11 => ?_)
              refine ta_iadd (pc := 161) dL_act_161 ?_
              refine ta_iconst (pc := 162) (v0 := 0) dL_act_162 (by decide) ?_
              exact ta_put (pc := 163) hN gw_517 dL_act_163 dL_act_166
            · refine ta_if (fun cs_6 => ?_) (fun cs_6 => ?_)
              · refine ta_tin (pc := 32) (tgt := 145) (off := 113) (6 : Int32) cs_6 dL_act_32 (by decide) (by decide) (by decide) rfl ?_
                refine ta_aload_n (pc := 145) (i := 0) dL_act_145 rfl rfl ?_
                refine ta_iload (pc := 146) (i := 5) dL_act_146 rfl ?_
                refine ta_iload (pc := 148) (i := 6) dL_act_148 rfl ?_
                refine ta_iload (pc := 150) (i := 7) dL_act_150 rfl ?_
                refine ta_iconst (pc := 152) (v0 := 4) dL_act_152 (by decide) ?_
                refine ta_iload_n (pc := 153) (i := 1) dL_act_153 rfl rfl ?_
                refine ta_iload (pc := 154) (i := 4) dL_act_154 rfl ?_
                refine ta_iadd (pc := 156) dL_act_156 ?_
                refine ta_iconst (pc := 157) (v0 := 3) dL_act_157 (by decide) ?_
                refine ta_low (pc := 158) gw_506 (Nat.le_of_ble_eq_true rfl) dL_act_158 (fun r12 => ?_)
                refine ta_iadd (pc := 161) dL_act_161 ?_
                refine ta_iconst (pc := 162) (v0 := 0) dL_act_162 (by decide) ?_
                exact ta_put (pc := 163) hN gw_517 dL_act_163 dL_act_166
              · refine ta_if (fun cs_7 => ?_) (fun cs_7 => ?_)
                · refine ta_tin (pc := 32) (tgt := 145) (off := 113) (7 : Int32) cs_7 dL_act_32 (by decide) (by decide) (by decide) rfl ?_
                  refine ta_aload_n (pc := 145) (i := 0) dL_act_145 rfl rfl ?_
                  refine ta_iload (pc := 146) (i := 5) dL_act_146 rfl ?_
                  refine ta_iload (pc := 148) (i := 6) dL_act_148 rfl ?_
                  refine ta_iload (pc := 150) (i := 7) dL_act_150 rfl ?_
                  refine ta_iconst (pc := 152) (v0 := 4) dL_act_152 (by decide) ?_
                  refine ta_iload_n (pc := 153) (i := 1) dL_act_153 rfl rfl ?_
                  refine ta_iload (pc := 154) (i := 4) dL_act_154 rfl ?_
                  refine ta_iadd (pc := 156) dL_act_156 ?_
                  refine ta_iconst (pc := 157) (v0 := 3) dL_act_157 (by decide) ?_
                  refine ta_low (pc := 158) gw_506 (Nat.le_of_ble_eq_true rfl) dL_act_158 (fun r13 => ?_)
                  refine ta_iadd (pc := 161) dL_act_161 ?_
                  refine ta_iconst (pc := 162) (v0 := 0) dL_act_162 (by decide) ?_
                  exact ta_put (pc := 163) hN gw_517 dL_act_163 dL_act_166
                · refine ta_if (fun cs_8 => ?_) (fun cs_8 => ?_)
                  · refine ta_tin (pc := 32) (tgt := 167) (off := 135) (8 : Int32) cs_8 dL_act_32 (by decide) (by decide) (by decide) rfl ?_
                    refine ta_aload_n (pc := 167) (i := 0) dL_act_167 rfl rfl ?_
                    refine ta_iload (pc := 168) (i := 5) dL_act_168 rfl ?_
                    refine ta_iload (pc := 170) (i := 6) dL_act_170 rfl ?_
                    refine ta_iload (pc := 172) (i := 7) dL_act_172 rfl ?_
                    refine ta_iconst (pc := 174) (v0 := 0) dL_act_174 (by decide) ?_
                    refine ta_iconst (pc := 175) (v0 := 0) dL_act_175 (by decide) ?_
                    exact ta_put (pc := 176) hN gw_517 dL_act_176 dL_act_179
                  · refine ta_if (fun cs_9 => ?_) (fun cs_9 => ?_)
                    · refine ta_tin (pc := 32) (tgt := 180) (off := 148) (9 : Int32) cs_9 dL_act_32 (by decide) (by decide) (by decide) rfl ?_
                      refine ta_aload_n (pc := 180) (i := 0) dL_act_180 rfl rfl ?_
                      refine ta_iload (pc := 181) (i := 5) dL_act_181 rfl ?_
                      refine ta_iload (pc := 183) (i := 6) dL_act_183 rfl ?_
                      refine ta_iload (pc := 185) (i := 7) dL_act_185 rfl ?_
                      refine ta_iconst (pc := 187) (v0 := 1) dL_act_187 (by decide) ?_
                      refine ta_iload_n (pc := 188) (i := 1) dL_act_188 rfl rfl ?_
                      refine ta_iload_n (pc := 189) (i := 2) dL_act_189 rfl rfl ?_
                      refine ta_iadd (pc := 190) dL_act_190 ?_
                      refine ta_iconst (pc := 191) (v0 := 3) dL_act_191 (by decide) ?_
                      refine ta_low (pc := 192) gw_506 (Nat.le_of_ble_eq_true rfl) dL_act_192 (fun r14 => ?_)
                      refine ta_iadd (pc := 195) dL_act_195 ?_
                      refine ta_iconst (pc := 196) (v0 := 1) dL_act_196 (by decide) ?_
                      refine ta_iload_n (pc := 197) (i := 2) dL_act_197 rfl rfl ?_
                      refine ta_iload_n (pc := 198) (i := 3) dL_act_198 rfl rfl ?_
                      refine ta_iadd (pc := 199) dL_act_199 ?_
                      refine ta_iconst (pc := 200) (v0 := 3) dL_act_200 (by decide) ?_
                      refine ta_low (pc := 201) gw_506 (Nat.le_of_ble_eq_true rfl) dL_act_201 (fun r15 => ?_)
                      refine ta_iadd (pc := 204) dL_act_204 ?_
                      exact ta_span (pc := 205) hN gw_562 dL_act_205 dL_act_208
                    · refine ta_if (fun cs_10 => ?_) (fun cs_10 => ?_)
                      · refine ta_tin (pc := 32) (tgt := 180) (off := 148) (10 : Int32) cs_10 dL_act_32 (by decide) (by decide) (by decide) rfl ?_
                        refine ta_aload_n (pc := 180) (i := 0) dL_act_180 rfl rfl ?_
                        refine ta_iload (pc := 181) (i := 5) dL_act_181 rfl ?_
                        refine ta_iload (pc := 183) (i := 6) dL_act_183 rfl ?_
                        refine ta_iload (pc := 185) (i := 7) dL_act_185 rfl ?_
                        refine ta_iconst (pc := 187) (v0 := 1) dL_act_187 (by decide) ?_
                        refine ta_iload_n (pc := 188) (i := 1) dL_act_188 rfl rfl ?_
                        refine ta_iload_n (pc := 189) (i := 2) dL_act_189 rfl rfl ?_
                        refine ta_iadd (pc := 190) dL_act_190 ?_
                        refine ta_iconst (pc := 191) (v0 := 3) dL_act_191 (by decide) ?_
                        refine ta_low (pc := 192) gw_506 (Nat.le_of_ble_eq_true rfl) dL_act_192 (fun r16 => ?_)
                        refine ta_iadd (pc := 195) dL_act_195 ?_
                        refine ta_iconst (pc := 196) (v0 := 1) dL_act_196 (by decide) ?_
                        refine ta_iload_n (pc := 197) (i := 2) dL_act_197 rfl rfl ?_
                        refine ta_iload_n (pc := 198) (i := 3) dL_act_198 rfl rfl ?_
                        refine ta_iadd (pc := 199) dL_act_199 ?_
                        refine ta_iconst (pc := 200) (v0 := 3) dL_act_200 (by decide) ?_
                        refine ta_low (pc := 201) gw_506 (Nat.le_of_ble_eq_true rfl) dL_act_201 (fun r17 => ?_)
                        refine ta_iadd (pc := 204) dL_act_204 ?_
                        exact ta_span (pc := 205) hN gw_562 dL_act_205 dL_act_208
                      · refine ta_if (fun cs_11 => ?_) (fun cs_11 => ?_)
                        · refine ta_tin (pc := 32) (tgt := 209) (off := 177) (11 : Int32) cs_11 dL_act_32 (by decide) (by decide) (by decide) rfl ?_
                          refine ta_aload_n (pc := 209) (i := 0) dL_act_209 rfl rfl ?_
                          refine ta_iload (pc := 210) (i := 5) dL_act_210 rfl ?_
                          refine ta_iload (pc := 212) (i := 6) dL_act_212 rfl ?_
                          refine ta_iload (pc := 214) (i := 7) dL_act_214 rfl ?_
                          refine ta_iconst (pc := 216) (v0 := 1) dL_act_216 (by decide) ?_
                          refine ta_iload_n (pc := 217) (i := 1) dL_act_217 rfl rfl ?_
                          refine ta_iload_n (pc := 218) (i := 2) dL_act_218 rfl rfl ?_
                          refine ta_iadd (pc := 219) dL_act_219 ?_
                          refine ta_iconst (pc := 220) (v0 := 4) dL_act_220 (by decide) ?_
                          refine ta_low (pc := 221) gw_506 (Nat.le_of_ble_eq_true rfl) dL_act_221 (fun r18 => ?_)
                          refine ta_iadd (pc := 224) dL_act_224 ?_
                          refine ta_iconst (pc := 225) (v0 := 1) dL_act_225 (by decide) ?_
                          refine ta_iload_n (pc := 226) (i := 2) dL_act_226 rfl rfl ?_
                          refine ta_iload_n (pc := 227) (i := 3) dL_act_227 rfl rfl ?_
                          refine ta_iadd (pc := 228) dL_act_228 ?_
                          refine ta_iconst (pc := 229) (v0 := 4) dL_act_229 (by decide) ?_
                          refine ta_low (pc := 230) gw_506 (Nat.le_of_ble_eq_true rfl) dL_act_230 (fun r19 => ?_)
                          refine ta_iadd (pc := 233) dL_act_233 ?_
                          exact ta_nest (pc := 234) hN gw_587 dL_act_234 dL_act_237
                        · refine ta_tout (pc := 32) (tgt := 238) dL_act_32 (by have n0 := lv_neT cs_0 (a := 0) (by decide); have n1 := lv_neT cs_1 (a := 1) (by decide); have n2 := lv_neT cs_2 (a := 2) (by decide); have n3 := lv_neT cs_3 (a := 3) (by decide); have n4 := lv_neT cs_4 (a := 4) (by decide); have n5 := lv_neT cs_5 (a := 5) (by decide); have n6 := lv_neT cs_6 (a := 6) (by decide); have n7 := lv_neT cs_7 (a := 7) (by decide); have n8 := lv_neT cs_8 (a := 8) (by decide); have n9 := lv_neT cs_9 (a := 9) (by decide); have n10 := lv_neT cs_10 (a := 10) (by decide); have n11 := lv_neT cs_11 (a := 11) (by decide); omega) rfl ?_
                          refine ta_aload_n (pc := 238) (i := 0) dL_act_238 rfl rfl ?_
                          refine ta_iload (pc := 239) (i := 5) dL_act_239 rfl ?_
                          refine ta_iload (pc := 241) (i := 6) dL_act_241 rfl ?_
                          refine ta_iload (pc := 243) (i := 7) dL_act_243 rfl ?_
                          refine ta_iload_n (pc := 245) (i := 1) dL_act_245 rfl rfl ?_
                          refine ta_iload_n (pc := 246) (i := 3) dL_act_246 rfl rfl ?_
                          refine ta_iadd (pc := 247) dL_act_247 ?_
                          refine ta_iconst (pc := 248) (v0 := 4) dL_act_248 (by decide) ?_
                          refine ta_low (pc := 249) gw_506 (Nat.le_of_ble_eq_true rfl) dL_act_249 (fun r20 => ?_)
                          refine ta_iload_n (pc := 252) (i := 1) dL_act_252 rfl rfl ?_
                          refine ta_iload_n (pc := 253) (i := 2) dL_act_253 rfl rfl ?_
                          refine ta_iadd (pc := 254) dL_act_254 ?_
                          refine ta_iconst (pc := 255) (v0 := 4) dL_act_255 (by decide) ?_
                          refine ta_low (pc := 256) gw_506 (Nat.le_of_ble_eq_true rfl) dL_act_256 (fun r21 => ?_)
                          exact ta_rule (pc := 259) hN gw_598 dL_act_259 dL_act_262
theorem k_L_act : Cal yL_act cL_act 8 (some .int) 5 ∧ Cond.static yL_act ∈ GW := ⟨⟨gw_516, gw_0, ⟨by decide, by decide⟩, by decide +kernel, by decide +kernel⟩, gw_515⟩
theorem ev_act (T : Tb) (hN : isNS T) (p1 p2 p3 p4 : Int32) (σ : Mm) (v : Int32) (σ1 : Mm) (h : F_L_act p1 p2 p3 p4 σ = some (.inl v, σ1)) : Ev (.code yL_act cL_act 8 (some .int)) yL_act rmA T [.ref 0, .int p1, .int p2, .int p3, .int p4] σ (.inl (some (.int v))) T σ1 :=
  ev_of (lo := [some (.ref 0), some (.int p1), some (.int p2), some (.int p3), some (.int p4), none, none, none]) (j := 3) k_L_act.1 rfl (fun _ => Nat.le_of_ble_eq_true rfl) (w_act T hN p1 p2 p3 p4 σ v σ1 h)
