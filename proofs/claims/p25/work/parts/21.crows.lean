theorem wsO_app {hs : Nat} {cI cL cS : ClassId} {T : Tb} {σ : Mm} {t : Nat × Nat × List Nat} : wsO hs cI cL cS (T ++ [t]) σ = wsO hs cI cL cS T σ ++ [(hs + T.length, ent hs cI cL cS (σ T.length) t)] := by
  simp [wsO, List.mapIdx_append]
theorem one_at {α : Type} {x y : α} {i : Nat} (h : [x][i]? = some y) : y = x := by
  cases i with
  | zero => cases h; rfl
  | succ i => cases h
theorem W_sz {p : Program} {l : Launch} {e : Env} {R : Room} {s : State} {m : MethodId} {args : Array Value} {below : List Frame} {meth : Method} {c : Code} {H : Heap} {locs : List Loc} {k n : Nat} {Q : State → Prop} {g : JFrame} {hs : Nat} {D : va_G} {cI cL cS : ClassId} {T : Tb} {σ : Mm} (hP : va_P D vwCl (wsO hs cI cL cS T σ) H) (hS : va_S (fun q => hs ≤ q) s.heap H locs) (hZ : s.heap.size + k = hs + T.length) (h0 : hs ≤ s.heap.size) (kk : H.size = hs + T.length → W p l e R s m args below meth c H locs k n Q g) : W p l e R s m args below meth c H locs k n Q g := by
  intro Tst hT X
  have hu : Tst.heap.size ≤ s.heap.size + k := X.same.2.2.1
  rw [hT] at hu
  refine kk ?_ Tst hT X
  have h1 := hS.1
  cases hl : T.length with
  | zero => rw [hl] at hZ; omega
  | succ j =>
    have hj : j < T.length := by omega
    have h2 := (hP j _ (wsO_get (List.getElem?_eq_getElem hj))).lt
    dsimp only at h2
    rw [hl] at hZ
    omega
section CRows
variable {yy : MethodName} {cc : ByteArray} {maxL : Nat} {ret : Option FieldType} {et : List ExceptionTableEntry} {rm : Room} {Qf : List Frame → Array Value → State → Nat → va_G → ClassId → ClassId → ClassId → State → Prop} {Xf : State → Nat → Prop} {k n : Nat} {T T1 : Tb} {pc q : Nat} {lo : List (Option Value)} {st : List Value} {σ : Mm}
theorem rc_eq {st' : List Value} {ex : Bool} (hT : T = T1) (hst : st = st') (kk : RnQ yy cc maxL ret et rm Qf Xf ex k n T1 pc lo st' σ) : RnQ yy cc maxL ret et rm Qf Xf ex k n T pc lo st σ := by
  subst hT
  subst hst
  exact kk
theorem rc_new {index ci N : Nat} {C : String} {TT : u_T} {ty : Nat → FieldType} {fl : List Nat} (hc : vwCl[ci]? = some (C, TT, N)) (hin : ∀ w ∈ u_ws C TT N, w ∈ GW) (hty : ∀ k, k < N → parseFieldDescriptor (TT k).2.2.1 = some (ty k)) (hcl : Cond.classLink yy.cls index C ∈ GW) (hinst : Cond.instantiable C N ∈ GW) (hini : Cond.initialized C ∈ GW) (hz : σ q = fun _ => 0) (hfl : ∀ (hs j : Nat), j < N → defaultValue (ty j) = vp_V (fvs hs (fun _ => 0) fl) j) (hq : T.length = q) (hT1 : T ++ [(3, ci, fl)] = T1) (hcells : k + 1 ≤ rm.cells) (hslots : n + N ≤ rm.slots) (d : decode cc pc = .ok (.new index, 3)) (kk : RnQ yy cc maxL ret et rm Qf Xf true (k + 1) (n + N) T1 (pc + 3) lo (.ref q :: st) σ) : RnQ yy cc maxL ret et rm Qf Xf true k n T pc lo st σ := by
  intro p l e s m args below meth c hs D cI cL cS H locs ls hC hX hZ hP hS hL
  subst hq
  subst hT1
  refine W_sz hP hS (hZ rfl) hC.sz (fun hsz => ?_)
  have hKn := hC.wk.1.1 ci _ hc
  refine W.newcK hC.x hC.b hC.ow (hC.ts _ hcl) (hC.ts _ hinst) (hC.ts _ hini) rfl d hcells hslots hKn.2.1 hsz fun H1 kC hkC e1 z1 o1 => ?_
  have o2 : ∀ q, q < H.size → H1[q]? = H[q]? := fun q hq => o1 q (by omega)
  refine kk p l e s m args below meth c hs D cI cL cS H1 locs ls hC hX (fun _ => by have := hZ rfl; rw [List.length_append, List.length_singleton]; omega) ?_ ⟨Nat.le_trans hS.1 (by omega), fun x h1 h2 => (o2 x (Nat.lt_of_lt_of_le h1 hS.1)).trans (hS.2.1 x h1 h2), hS.2.2⟩ hL
  rw [wsO_app]
  refine (hP.kept (fun i x hx => o2 x.1 ((hP i x hx).lt))).app (fun i x hx => ?_)
  cases one_at hx
  refine ⟨_, hc, (u_born ty hC.ts hin hKn hkC e1 hty).to (fun j hj => ?_)⟩
  rw [hz]
  exact hfl hs j hj
theorem rc_newa {i : Int32} {N : Nat} (harr : Cond.arrayClass .int ∈ GW) (hz : σ q = fun _ => 0) (hi : ¬ i < 0) (hN : i.toNatClampNeg = N) (hbytes : N * 4 ≤ 536870912) (hq : T.length = q) (hT1 : T ++ [(0, N, [])] = T1) (hcells : k + 1 ≤ rm.cells) (hslots : n + N ≤ rm.slots) (d : decode cc pc = .ok (.newarray .int, 2)) (kk : RnQ yy cc maxL ret et rm Qf Xf true (k + 1) (n + N) T1 (pc + 2) lo (.ref q :: st) σ) : RnQ yy cc maxL ret et rm Qf Xf true k n T pc lo (.int i :: st) σ := by
  intro p l e s m args below meth c hs D cI cL cS H locs ls hC hX hZ hP hS hL
  subst hq
  subst hT1
  refine W_sz hP hS (hZ rfl) hC.sz (fun hsz => ?_)
  refine va_newaK (atype := .int) hC.x hC.b (hC.ts _ harr) rfl d rfl hi hN hbytes hcells hslots hsz fun H1 cA e1 z1 o1 hAr hNm => ?_
  have hcA : cA = cI := Option.some.inj (hNm.symm.trans (hC.wk.1.2 0 (cI, .int) rfl).2)
  subst hcA
  have o2 : ∀ q, q < H.size → H1[q]? = H[q]? := fun q hq => o1 q (by omega)
  refine kk p l e s m args below meth c hs D cA cL cS H1 locs ls hC hX (fun _ => by have := hZ rfl; rw [List.length_append, List.length_singleton]; omega) ?_ ⟨Nat.le_trans hS.1 (by omega), fun x h1 h2 => (o2 x (Nat.lt_of_lt_of_le h1 hS.1)).trans (hS.2.1 x h1 h2), hS.2.2⟩ hL
  rw [wsO_app]
  refine (hP.kept (fun i x hx => o2 x.1 ((hP i x hx).lt))).app (fun i x hx => ?_)
  cases one_at hx
  show H1[hs + T.length]? = some (vp_cell cA (N, .inl (σ T.length)))
  rw [e1, hz]
  rfl
theorem rfo_none (hs N : Nat) : rfo hs (List.replicate N 0) = fun _ => none := by
  funext j
  simp only [rfo]
  have h : (List.replicate N 0).getD j 0 = 0 := by
    rw [List.getD_eq_getElem?_getD, List.getElem?_replicate]
    split <;> rfl
  rw [h]
theorem rc_newq {index N : Nat} {i : Int32} (hcl : Cond.classLink yy.cls index RX4 ∈ GW) (hi : ¬ i < 0) (hN : i.toNatClampNeg = N) (hbytes : N * 4 ≤ 536870912) (hq : T.length = q) (hT1 : T ++ [(2, N, List.replicate N 0)] = T1) (hcells : k + 1 ≤ rm.cells) (hslots : n + N ≤ rm.slots) (d : decode cc pc = .ok (.anewarray index, 3)) (kk : RnQ yy cc maxL ret et rm Qf Xf true (k + 1) (n + N) T1 (pc + 3) lo (.ref q :: st) σ) : RnQ yy cc maxL ret et rm Qf Xf true k n T pc lo (.int i :: st) σ := by
  intro p l e s m args below meth c hs D cI cL cS H locs ls hC hX hZ hP hS hL
  subst hq
  subst hT1
  subst hN
  refine W_sz hP hS (hZ rfl) hC.sz (fun hsz => ?_)
  refine W.anew hC.x hC.b hC.ow (hC.ts _ hcl) (va_AO.use hC.wk.2.2.2.2.2) rfl d rfl hi hbytes hcells hslots fun cA kA comp f1 f2 f3 f4 => ?_
  obtain ⟨-, -, -, -, -, hcS⟩ := (hC.wk.1.2 2 (cS, .object RX4) rfl).2
  have hcA : cA = cS := Option.some.inj (f1.symm.trans hcS)
  subst hcA
  generalize hH1 : H.push ({ cls := cA, slots := Array.replicate i.toNatClampNeg .null, vm := .none } : Cell) = H1
  have z1 : H1.size = H.size + 1 := by rw [← hH1, Array.size_push]
  have e1 : H1[H.size]? = some (arrV cA i.toNatClampNeg (fun _ => .null)) := by rw [← hH1, Array.getElem?_push_size, ← arrV_new]
  have o2 : ∀ q : Nat, q < H.size → H1[q]? = H[q]? := fun q hq => by rw [← hH1, Array.getElem?_push, if_neg (Nat.ne_of_lt hq)]
  rw [hsz]
  refine kk p l e s m args below meth c hs D cI cL cA H1 locs ls hC hX (fun _ => by have := hZ rfl; rw [List.length_append, List.length_singleton]; omega) ?_ ⟨Nat.le_trans hS.1 (by omega), fun x h1 h2 => (o2 x (Nat.lt_of_lt_of_le h1 hS.1)).trans (hS.2.1 x h1 h2), hS.2.2⟩ hL
  rw [wsO_app]
  refine (hP.kept (fun i x hx => o2 x.1 ((hP i x hx).lt))).app (fun i9 x hx => ?_)
  cases one_at hx
  show H1[hs + T.length]? = some (vp_cell cA (i.toNatClampNeg, .inr (.inr (.inr (.inr (rfo hs (List.replicate i.toNatClampNeg 0)))))))
  rw [rfo_none, vp_cell_q, ← hsz]
  exact e1
theorem rfo_set {hs r j : Nat} {fl : List Nat} (hj : j < fl.length) : va_up (rfo hs fl) j (some (hs + r)) = rfo hs (fl.set j (r + 1)) := by
  funext i
  simp only [va_up, rfo, List.getD_eq_getElem?_getD]
  by_cases h : i = j
  · subst h
    rw [if_pos rfl, List.getElem?_set_self hj]
    rfl
  · rw [if_neg h, List.getElem?_set_ne (Ne.symm h)]
theorem rc_aast {b ci r N : Nat} {fl fl2 : List Nat} {i : Int32} {TT : u_T} {NN : Nat} (hT : T[b]? = some (2, N, fl)) (hr : T[r]? = some (3, ci, fl2)) (hc : vwCl[ci]? = some (RX4, TT, NN)) (hin : vp_in i N) (hl : fl.length = N) (hT1 : T.set b (2, N, fl.set i.toNatClampNeg (r + 1)) = T1) (d : decode cc pc = .ok (.aastore, 1)) (kk : RnQ yy cc maxL ret et rm Qf Xf true k n T1 (pc + 1) lo st σ) : RnQ yy cc maxL ret et rm Qf Xf true k n T pc lo (.ref r :: .int i :: .ref b :: st) σ := by
  intro p l e s m args below meth c hs D cI cL cS H locs ls hC hX hZ hP hS hL
  subst hT1
  have hlt : i.toNatClampNeg < fl.length := by rw [hl]; exact Nat.not_le.mp fun q => hin (Or.inr q)
  have hset : (wsO hs cI cL cS T σ).set b (hs + b, .inl (cS, N, .inr (.inr (.inr (.inr (va_up (rfo hs fl) i.toNatClampNeg (some (hs + r)))))))) = wsO hs cI cL cS (T.set b (2, N, fl.set i.toNatClampNeg (r + 1))) σ := by
    have hl2 := (List.getElem?_eq_some_iff.mp (wsO_get (hs := hs) (cI := cI) (cL := cL) (cS := cS) (σ := σ) hT)).1
    have hl3 := (List.getElem?_eq_some_iff.mp hT).1
    apply List.ext_getElem?
    intro j
    by_cases hj : j = b
    · subst hj
      rw [List.getElem?_set_self hl2, wsO_get (List.getElem?_set_self hl3), rfo_set hlt]
      rfl
    · rw [List.getElem?_set_ne (Ne.symm hj)]
      simp only [wsO, List.getElem?_mapIdx, List.getElem?_set_ne (Ne.symm hj)]
  exact va_astq (r := (RX4, TT, NN)) hC.x hC.b hC.wk.1 hP wsO_D hS b 2 r ci (wsO_get hT) rfl (wsO_get hr) hc hin d (fun H1 locs1 hP1 _ hS1 => kk p l e s m args below meth c hs D cI cL cS H1 locs1 ls hC hX (fun h => by rw [List.length_set]; exact hZ h) (hset ▸ hP1) hS1 hL)
theorem rc_obj {idx b : Nat} {ex : Bool} (hlk : Cond.methodLink yy.cls idx Lib.objectInit ∈ GW) (hin : Cond.instanceMethod Lib.objectInit ∈ GW) (hcd : Cond.code Lib.objectInit ⟨#[0xb1]⟩ 1 none ∈ GW) (hfr : 1 ≤ rm.frames) (hlo : (st.map fun v => v.category).sum + 12 ≤ rm.locals) (d : decode cc pc = .ok (.invokespecial idx, 3)) (kk : RnQ yy cc maxL ret et rm Qf Xf ex k n T (pc + 3) lo st σ) : RnQ yy cc maxL ret et rm Qf Xf ex k n T pc lo (.ref b :: st) σ := by
  intro p l e s m args below meth c hs D cI cL cS H locs ls hC hX hZ hP hS hL
  exact W.objInit hC.x hC.b hC.ow (hC.ts _ hlk) (hC.ts _ hin) (hC.ts _ hcd) rfl (hL.1.trans hC.ml.symm) rfl d hfr (by show 2 * 0 + _ + _ ≤ _; rw [cat_map]; omega) (kk p l e s m args below meth c hs D cI cL cS H locs ls hC hX hZ hP hS hL)
end CRows
/-- a constructor's contract: it makes just the cells that its room says -/
def PreC (hs : Nat) (D : va_G) (cI cL cS : ClassId) (as : List Value) (T : Tb) (σ : Mm) : Array Value → State → Prop := fun a U => PreE hs D cI cL cS as T σ a U ∧ U.heap.size = hs + T.length
def EvC (w0 : Cond) (y : MethodName) (rm : Room) (T : Tb) (as : List Value) (σ : Mm) (T' : Tb) (σ' : Mm) : Prop :=
  ∀ (l : Launch), l.stackTraces = false → ∀ (hs : Nat) (D : va_G) (cI cL cS : ClassId), vx_Met l y (w0 :: GW) rm (PreC hs D cI cL cS as T σ) (QcE hs D cI cL cS (.inl none) T' σ') (XcE hs D cI cL cS (.inl none) T' σ') rm.cells rm.slots (fun q => hs ≤ q)
theorem PreC.blind {hs : Nat} {D : va_G} {cI cL cS : ClassId} {as : List Value} {T : Tb} {σ : Mm} : FrameBlind (PreC hs D cI cL cS as T σ) := fun a U g mk q => ⟨PreE.blind a U g mk q.1, q.2⟩
theorem evC_of {y : MethodName} {cc : ByteArray} {maxL a j : Nat} {rm : Room} {T T' : Tb} {σ σ' : Mm} {as : List Value} {lo : List (Option Value)} (cal : Cal y cc maxL none a) (hlo : lo = loA as ++ List.replicate j none) (hlen : ∀ hs : Nat, (lg_sl (as.map (ge hs))).length ≤ maxL) (h : Rn y cc maxL none [] rm (.inl none) T' σ' true 0 0 T 0 lo [] σ) : EvC (.code y cc maxL none) y rm T as σ T' σ' := by
  intro l hl hs D cI cL cS
  refine vx_ofW (cc := cc) (maxL := maxL) (ret := none) cal.2.2.2.2 rfl ?_
  intro p e s m args below meth c s₁ B hml het hv
  obtain ⟨⟨rfl, hP, hWK, hWZ, hsz⟩, hsize⟩ := hv
  have hts := atoms_spec (ws := .code y cc maxL none :: GW) B.pre
  have hl0 := lv_entry (as.map (ge hs)) (n := maxL) (hlen hs)
  rw [lg_entry_eq]
  generalize (lg_sl (as.map (ge hs)) ++ List.replicate (maxL - (lg_sl (as.map (ge hs))).length) Slot.unset).toArray = ls at hl0 ⊢
  refine h p l e s m _ below meth c hs D cI cL cS s.heap [] ls ⟨B.exec, B.bytes, B.returns, hml, findClass_of_methodNamed B.named, fun w hw => hts w (List.mem_cons_of_mem _ hw), B.notSynchronized, hl, hWK, hWZ, hsz, ?_, (name_of_methodNamed B.named B.method).1⟩ trivial (fun _ => hsize) hP va_S.rf ⟨hl0.1, hl0.2.1, fun i v hi => ?_⟩
  · cases hh : c.exceptionTable.toList with
    | nil => rfl
    | cons x r => exact (het x (by rw [hh]; exact List.mem_cons_self)).elim
  · rw [hlo] at hi
    have h2 := loA_at (hs := hs) as 0 i v (loA_pad hi)
    rw [Nat.zero_add] at h2
    exact hl0.2.2 _ h2
section CCalls
variable {yy : MethodName} {cc : ByteArray} {maxL : Nat} {ret : Option FieldType} {et : List ExceptionTableEntry} {rm : Room} {Qf : List Frame → Array Value → State → Nat → va_G → ClassId → ClassId → ClassId → State → Prop} {Xf : State → Nat → Prop} {k n : Nat} {T : Tb} {pc : Nat} {lo : List (Option Value)} {st : List Value} {σ : Mm}
variable {y' : MethodName} {bytes : ByteArray} {mL a idx : Nat} {rm' : Room} {as st0 : List Value} {T1 : Tb} {σ1 : Mm} {b : Nat}
theorem rc_callI (cal : Cal y' bytes mL none a) (hin : Cond.instanceMethod y' ∈ GW) (hy1 : y'.name = "<init>") (hlk : Cond.methodLink yy.cls idx y' ∈ GW ∨ ∃ host : String, (yy.cls, idx, y', host) ∈ nestM) (ev : EvC (.code y' bytes mL none) y' rm' T (.ref b :: as) σ T1 σ1) (hlen : as.length = a) (hst : st0 = as.reverse ++ .ref b :: st) (hw : (st.map fun v => v.category).sum ≤ 8) (hfr : rm'.frames + 1 ≤ rm.frames) (hlo : 8 + (mL + 11) + rm'.locals ≤ rm.locals) (hc : k + rm'.cells ≤ rm.cells) (hs9 : n + rm'.slots ≤ rm.slots) (hx : T1.length = T.length + rm'.cells) (d : decode cc pc = .ok (.invokespecial idx, 3)) (kk : RnQ yy cc maxL ret et rm Qf Xf true (k + rm'.cells) (n + rm'.slots) T1 (pc + 3) lo st σ1) : RnQ yy cc maxL ret et rm Qf Xf true k n T pc lo st0 σ := by
  intro p l e s m args below meth c hs D cI cL cS H locs ls hC hX hZ hP hS hL
  refine W_sz hP hS (hZ rfl) hC.sz (fun hsz => ?_)
  have hpre : PreS s H (PreC hs D cI cL cS (.ref b :: as) T σ) (.ref (hs + b) :: as.map (ge hs)) := ⟨PreC.blind, fun U hU hW => ⟨pre_of hC hP hS hU hW rfl, by rw [hU]; exact hsz⟩⟩
  have run : vx_Run p l e rm s m args below meth c H locs k n rm'.cells rm'.slots (F0 m pc ls (st0.map (ge hs))) (st.map (ge hs)) (QcE hs D cI cL cS (.inl none) T1 σ1 (Value.ref (hs + b) :: as.map (ge hs)).toArray) (XcE hs D cI cL cS (.inl none) T1 σ1) (fun q => hs ≤ q) := by
    rcases hlk with hlk | ⟨host, hlk⟩
    · exact va_to_vx (va_runI ⟨hC.x, hC.b, hC.ml, hC.ow, hC.ts⟩ (vx_to_met (ev l hC.st hs D cI cL cS)) ⟨callB_of a hC.ts (gw_in cal.1) rfl rfl rfl (hC.ts _ cal.2.1) (hC.ts _ hlk) ⟨cal.2.2.1.1, cal.2.2.1.2, cal.2.2.2.1⟩ ⟨hfr, hlo⟩, hy1, hC.ts _ hin⟩ hpre rfl ((List.length_map _).trans hlen) hL.1 (stk_map hst) (lv_room (by rw [cat_map]; exact hw)) d ⟨hc, hs9⟩)
    · exact va_to_vx (va_runIN ⟨hC.x, hC.b, hC.ml, hC.ow, hC.ts⟩ (vx_to_met (ev l hC.st hs D cI cL cS)) ⟨va_cnB a hC.ts (gw_in cal.1) rfl rfl rfl (hC.wk.2.2.1 _ hlk) (hC.ts _ cal.2.1) ⟨cal.2.2.1.1, cal.2.2.1.2, cal.2.2.2.1⟩ ⟨hfr, hlo⟩, hy1, hC.ts _ hin⟩ hpre rfl ((List.length_map _).trans hlen) hL.1 (stk_map hst) (lv_room (by rw [cat_map]; exact hw)) d ⟨hc, hs9⟩)
  exact aft_ret run hS (fun H1 locs1 hP1 hS1 => kk p l e s m args below meth c hs D cI cL cS H1 locs1 ls hC hX (fun h => by rw [hx]; have := hZ h; omega) hP1 hS1 hL)
end CCalls
