/-- what a callee needs of the tables -/
def Cal (y : MethodName) (bytes : ByteArray) (mL : Nat) (rt : Option FieldType) (a : Nat) : Prop := Cond.code y bytes mL rt ∈ GW ∧ Cond.initialized y.cls ∈ GW ∧ (y.cls ≠ "java/lang/invoke/MethodHandle" ∧ y.cls ≠ "java/lang/invoke/VarHandle") ∧ (parseMethodDescriptor y.desc).map (fun d => d.parameters.length) = some a ∧ plainName y.cls = true
theorem gw_good {w : Cond} (h : w ∈ GW) : goodWord w = true := (List.mem_filter.mp h).2
theorem gw_in {w0 : Cond} (h : w0 ∈ GW) : GoodIn GW (w0 :: GW) := fun w hw => (List.mem_cons.mp hw).elim (fun e => by subst e; exact ⟨h, good_of_word (gw_good h)⟩) (fun h2 => ⟨h2, good_of_word (gw_good h2)⟩)
theorem PreE.blind {hs : Nat} {D : va_G} {cI cL cS : ClassId} {as : List Value} {T : Tb} {σ : Mm} : FrameBlind (PreE hs D cI cL cS as T σ) := fun a U g mk q => ⟨q.1, q.2.1, WK.same (s := U) (U := U.calling g mk a) rfl q.2.2.1, WZ.moved (u := U) (U := U.calling g mk a) (Vm.Alike.refl U.vm) q.2.2.2.1, q.2.2.2.2⟩
theorem pre_of {yy : MethodName} {cc : ByteArray} {maxL : Nat} {ret : Option FieldType} {et : List ExceptionTableEntry} {p : Program} {l : Launch} {s U : State} {m : MethodId} {args av : Array Value} {meth : Method} {c : Code} {hs : Nat} {D : va_G} {cI cL cS : ClassId} {as : List Value} {T : Tb} {σ : Mm} {H : Heap} {locs : List Loc} (hC : Ctx yy cc maxL ret et p l s m args meth c hs D cI cL cS) (hP : va_P D vwCl (wsO hs cI cL cS T σ) H) (hS : va_S (fun q => hs ≤ q) s.heap H locs) (hU : U.heap = H) (hW : s.WarmedH U.vm) (hav : av = (as.map (ge hs)).toArray) : PreE hs D cI cL cS as T σ av U :=
  ⟨hav, by rw [hU]; exact hP, hC.wk.warm hW, by rw [hU]; exact (hC.wz.kept hS.2.1).moved hW.alike, by rw [hU]; exact Nat.le_trans hC.sz hS.1⟩
section Aft
variable {p : Program} {l : Launch} {e : Env} {rm : Room} {s : State} {m : MethodId} {args : Array Value} {below : List Frame} {meth : Method} {c : Code} {H : Heap} {locs : List Loc} {k n mc ms : Nat} {Q : State → Prop} {hs : Nat} {D : va_G} {cI cL cS : ClassId} {T1 : Tb} {σ1 : Mm} {pc : Nat} {ls : Array Slot} {st0 rest : List Value} {av : Array Value}
theorem aft_ret {r : Option Value} (hr : vx_Run p l e rm s m args below meth c H locs k n mc ms (F0 m pc ls st0) rest (QcE hs D cI cL cS (.inl r) T1 σ1 av) (XcE hs D cI cL cS (.inl r) T1 σ1) (fun q => hs ≤ q)) (hS : va_S (fun q => hs ≤ q) s.heap H locs) (kk : ∀ (H1 : Heap) (locs1 : List Loc), va_P D vwCl (wsO hs cI cL cS T1 σ1) H1 → va_S (fun q => hs ≤ q) s.heap H1 locs1 → W p l e rm s m args below meth c H1 locs1 (k + mc) (n + ms) Q (F0 m (pc + 3) ls ((r.map (ge hs)).toList ++ rest))) : W p l e rm s m args below meth c H locs k n Q (F0 m pc ls st0) := by
  intro T hT X
  rcases hr T hT X with ⟨v, st₀, t, T', L, h0, X', hL, e1, e2, ⟨hv, hP1, hF⟩, st⟩ | ⟨q, st₀, t, T', L, E, ce, h0, X', hL, e1, e2, hx, -⟩
  · cases hv
    obtain ⟨k1, k2, k3⟩ := vx_keep h0 e1 hS (fun q _ h => h) (fun q h => h) hL hF
    obtain ⟨t2, a1, b1⟩ := kk T'.heap (locs ++ L) (by rw [e1]; exact hP1) k3 T' rfl X'
    exact ⟨t2, st t2 a1, b1⟩
  · exact hx.elim
theorem aft_thr {er : Nat} (hr : vx_Run p l e rm s m args below meth c H locs k n mc ms (F0 m pc ls st0) rest (QcE hs D cI cL cS (.inr er) T1 σ1 av) (XcE hs D cI cL cS (.inr er) T1 σ1) (fun q => hs ≤ q)) (hS : va_S (fun q => hs ≤ q) s.heap H locs) (kx : ∀ (H1 : Heap) (locs1 : List Loc) (ce : Cell) (q9 : Addr), va_P D vwCl (wsO hs cI cL cS T1 σ1) H1 → va_S (fun q => hs ≤ q) s.heap H1 locs1 → H1[q9]? = some ce → ce.vm = .none → s.vm.findClass (exName er) = some ce.cls → vx_W p l e rm s m args below meth c H1 locs1 (k + mc) (n + ms) Q (F0 m pc ls rest) q9) : W p l e rm s m args below meth c H locs k n Q (F0 m pc ls st0) := by
  intro T hT X
  rcases hr T hT X with ⟨v, st₀, t, T', L, h0, X', hL, e1, e2, hq, st⟩ | ⟨q, st₀, t, T', L, E, ce, h0, X', hL, e1, e2, ⟨hE, hP1, hF⟩, hce, hcv, hcl, st⟩
  · exact hq.elim
  · obtain ⟨k1, k2, k3⟩ := vx_keep h0 e1 hS (fun q _ h => h) (fun q h => h) hL hF
    obtain ⟨t2, a1, b1⟩ := kx T'.heap (locs ++ L) ce q (by rw [e1]; exact hP1) k3 (by rw [e1]; exact hce) hcv (hE ▸ hcl) T' rfl X'
    exact ⟨t2, st.trans a1, b1⟩
end Aft
theorem vx_to_met {l : Launch} {y : MethodName} {ws : List Cond} {rm : Room} {Pc : Array Value → State → Prop} {hs : Nat} {D : va_G} {cI cL cS : ClassId} {r : Option Value} {T1 : Tb} {σ1 : Mm} {mc ms : Nat} {free : Addr → Prop} (h : vx_Met l y ws rm Pc (QcE hs D cI cL cS (.inl r) T1 σ1) (XcE hs D cI cL cS (.inl r) T1 σ1) mc ms free) : Met l y ws rm Pc (QcE hs D cI cL cS (.inl r) T1 σ1) mc ms free :=
  MetFree.mono h (fun _ _ h => h) (fun _ _ _ _ _ h => h) (fun a st oc t _ hq => hq.elim (fun h => h) (fun ⟨q, _, E, ce, L, hx, _⟩ => hx.elim))
theorem va_to_vx {p : Program} {l : Launch} {e : Env} {rm : Room} {s : State} {m : MethodId} {args : Array Value} {below : List Frame} {meth : Method} {c : Code} {H : Heap} {locs : List Loc} {k n mc ms : Nat} {g : JFrame} {rest : List Value} {Qa : State → Outcome → State → Prop} {XC : String → State → State → Prop} {free : Addr → Prop} (h : va_Run p l e rm s m args below meth c H locs k n mc ms g rest Qa free) : vx_Run p l e rm s m args below meth c H locs k n mc ms g rest Qa XC free := fun T hT X => Or.inl (h T hT X)
theorem cat_map {hs : Nat} {st : List Value} : ((st.map (ge hs)).map fun v => v.category).sum = (st.map fun v => v.category).sum := by
  rw [List.map_map]
  congr 1
  exact List.map_congr_left (fun v _ => ge_cat hs v)
theorem stk_map {hs b : Nat} {as st st0 : List Value} (h : st0 = as.reverse ++ .ref b :: st) : st0.map (ge hs) = (as.map (ge hs)).reverse ++ .ref (hs + b) :: st.map (ge hs) := by
  rw [h, List.map_append, List.map_reverse]
  rfl
theorem stk_mapS {hs : Nat} {as st st0 : List Value} (h : st0 = as.reverse ++ st) : st0.map (ge hs) = (as.map (ge hs)).reverse ++ st.map (ge hs) := by
  rw [h, List.map_append, List.map_reverse]
theorem res_map {hs : Nat} {r : Option Value} {st : List Value} : (r.map (ge hs)).toList ++ st.map (ge hs) = (r.toList ++ st).map (ge hs) := by
  cases r <;> rfl
section RnCalls
variable {yy : MethodName} {cc : ByteArray} {maxL : Nat} {ret : Option FieldType} {et : List ExceptionTableEntry} {rm : Room} {Qf : List Frame → Array Value → State → Nat → va_G → ClassId → ClassId → ClassId → State → Prop} {Xf : State → Nat → Prop} {ex : Bool} {k n : Nat} {T : Tb} {pc : Nat} {lo : List (Option Value)} {st : List Value} {σ : Mm}
variable {y' : MethodName} {bytes : ByteArray} {mL a idx : Nat} {rt : Option FieldType} {rm' : Room} {as st0 : List Value} {T1 : Tb} {σ1 : Mm}
theorem rn_callV {r : Option Value} {b ci : Nat} {fl : List Nat} (hT : T[b]? = some (3, ci, fl)) (hci : ∃ (TT : u_T) (N : Nat), vwCl[ci]? = some (y'.cls, TT, N)) (cal : Cal y' bytes mL rt a) (hin : Cond.instanceMethod y' ∈ GW) (hse : Cond.selects y'.cls y' y' ∈ GW) (hlk : Cond.methodLink yy.cls idx y' ∈ GW) (ev : Ev (.code y' bytes mL rt) y' rm' T (.ref b :: as) σ (.inl r) T1 σ1) (hlen : as.length = a) (hst : st0 = as.reverse ++ .ref b :: st) (hw : (st.map fun v => v.category).sum ≤ 8) (hfr : rm'.frames + 1 ≤ rm.frames) (hlo : 8 + (mL + 11) + rm'.locals ≤ rm.locals) (hc : k + rm'.cells ≤ rm.cells) (hs9 : n + rm'.slots ≤ rm.slots) (hx : ex = true → T1.length = T.length + rm'.cells) (d : decode cc pc = .ok (.invokevirtual idx, 3)) (kk : RnQ yy cc maxL ret et rm Qf Xf ex (k + rm'.cells) (n + rm'.slots) T1 (pc + 3) lo (r.toList ++ st) σ1) : RnQ yy cc maxL ret et rm Qf Xf ex k n T pc lo st0 σ := by
  intro p l e s m args below meth c hs D cI cL cS H locs ls hC hX hZ hP hS hL
  obtain ⟨TT, N, hci⟩ := hci
  have run := vx_runV (p := p) (l := l) (e := e) (R := rm) (s := s) (m := m) (args := args) (below := below) (meth := meth) (c := c) (H := H) (locs := locs) (cells := k) (slots := n) (g := F0 m pc ls (st0.map (ge hs))) (As := as.map (ge hs)) (rest := st.map (ge hs)) ⟨hC.x, hC.b, hC.ml, hC.ow, hC.ts⟩ (ev l hC.st hs D cI cL cS) ⟨callB_of a hC.ts (gw_in cal.1) rfl rfl rfl (hC.ts _ cal.2.1) (hC.ts _ hlk) ⟨cal.2.2.1.1, cal.2.2.1.2, cal.2.2.2.1⟩ ⟨hfr, hlo⟩, hC.ts _ hin, hC.ts _ hse⟩ ⟨PreE.blind, va_recv hC.wk.1 hP hci (wsO_get hT), fun U hU hW => pre_of hC hP hS hU hW rfl⟩ rfl ((List.length_map _).trans hlen) hL.1 (stk_map hst) (lv_room (by rw [cat_map]; exact hw)) d ⟨hc, hs9⟩
  exact aft_ret run hS (fun H1 locs1 hP1 hS1 => res_map (hs := hs) (r := r) (st := st) ▸ kk p l e s m args below meth c hs D cI cL cS H1 locs1 ls hC hX (fun h => by rw [hx h]; have := hZ h; omega) hP1 hS1 hL)
theorem rn_callVx {er : Nat} {b ci : Nat} {fl : List Nat} (hT : T[b]? = some (3, ci, fl)) (hci : ∃ (TT : u_T) (N : Nat), vwCl[ci]? = some (y'.cls, TT, N)) (cal : Cal y' bytes mL rt a) (hin : Cond.instanceMethod y' ∈ GW) (hse : Cond.selects y'.cls y' y' ∈ GW) (hlk : Cond.methodLink yy.cls idx y' ∈ GW) (ev : Ev (.code y' bytes mL rt) y' rm' T (.ref b :: as) σ (.inr er) T1 σ1) (hlen : as.length = a) (hst : st0 = as.reverse ++ .ref b :: st) (hw : (st.map fun v => v.category).sum ≤ 8) (hfr : rm'.frames + 1 ≤ rm.frames) (hlo : 8 + (mL + 11) + rm'.locals ≤ rm.locals) (hc : k + rm'.cells ≤ rm.cells) (hs9 : n + rm'.slots ≤ rm.slots) (d : decode cc pc = .ok (.invokevirtual idx, 3)) : Rn yy cc maxL ret [] rm (.inr er) T1 σ1 ex k n T pc lo st0 σ := by
  intro p l e s m args below meth c hs D cI cL cS H locs ls hC hX hZ hP hS hL
  obtain ⟨TT, N, hci⟩ := hci
  have run := vx_runV (p := p) (l := l) (e := e) (R := rm) (s := s) (m := m) (args := args) (below := below) (meth := meth) (c := c) (H := H) (locs := locs) (cells := k) (slots := n) (g := F0 m pc ls (st0.map (ge hs))) (As := as.map (ge hs)) (rest := st.map (ge hs)) ⟨hC.x, hC.b, hC.ml, hC.ow, hC.ts⟩ (ev l hC.st hs D cI cL cS) ⟨callB_of a hC.ts (gw_in cal.1) rfl rfl rfl (hC.ts _ cal.2.1) (hC.ts _ hlk) ⟨cal.2.2.1.1, cal.2.2.1.2, cal.2.2.2.1⟩ ⟨hfr, hlo⟩, hC.ts _ hin, hC.ts _ hse⟩ ⟨PreE.blind, va_recv hC.wk.1 hP hci (wsO_get hT), fun U hU hW => pre_of hC hP hS hU hW rfl⟩ rfl ((List.length_map _).trans hlen) hL.1 (stk_map hst) (lv_room (by rw [cat_map]; exact hw)) d ⟨hc, hs9⟩
  exact aft_thr run hS (fun H1 locs1 ce q9 hP1 hS1 h1 h2 h3 => vx_out (by rw [hC.ex]; intro x hx; cases hx) hC.lk h1 h2 h3 (fun t ht _ => ⟨rfl, by rw [ht]; exact hP1, hS1.F ht⟩) hS1.2.2 hc hs9)
theorem rn_callS {r : Option Value} (cal : Cal y' bytes mL rt a) (hin : Cond.static y' ∈ GW) (hlk : Cond.methodLink yy.cls idx y' ∈ GW) (ev : Ev (.code y' bytes mL rt) y' rm' T as σ (.inl r) T1 σ1) (hlen : as.length = a) (hst : st0 = as.reverse ++ st) (hw : (st.map fun v => v.category).sum ≤ 8) (hfr : rm'.frames + 1 ≤ rm.frames) (hlo : 8 + (mL + 11) + rm'.locals ≤ rm.locals) (hc : k + rm'.cells ≤ rm.cells) (hs9 : n + rm'.slots ≤ rm.slots) (hx : ex = true → T1.length = T.length + rm'.cells) (d : decode cc pc = .ok (.invokestatic idx, 3)) (kk : RnQ yy cc maxL ret et rm Qf Xf ex (k + rm'.cells) (n + rm'.slots) T1 (pc + 3) lo (r.toList ++ st) σ1) : RnQ yy cc maxL ret et rm Qf Xf ex k n T pc lo st0 σ := by
  intro p l e s m args below meth c hs D cI cL cS H locs ls hC hX hZ hP hS hL
  have run := vx_runS (p := p) (l := l) (e := e) (R := rm) (s := s) (m := m) (args := args) (below := below) (meth := meth) (c := c) (H := H) (locs := locs) (cells := k) (slots := n) (g := F0 m pc ls (st0.map (ge hs))) (As := as.map (ge hs)) (rest := st.map (ge hs)) ⟨hC.x, hC.b, hC.ml, hC.ow, hC.ts⟩ (ev l hC.st hs D cI cL cS) ⟨callB_of a hC.ts (gw_in cal.1) rfl rfl rfl (hC.ts _ cal.2.1) (hC.ts _ hlk) ⟨cal.2.2.1.1, cal.2.2.1.2, cal.2.2.2.1⟩ ⟨hfr, hlo⟩, hC.ts _ hin⟩ ⟨PreE.blind, fun U hU hW => pre_of hC hP hS hU hW rfl⟩ rfl ((List.length_map _).trans hlen) hL.1 (stk_mapS hst) (lv_room (by rw [cat_map]; exact hw)) d ⟨hc, hs9⟩
  exact aft_ret run hS (fun H1 locs1 hP1 hS1 => res_map (hs := hs) (r := r) (st := st) ▸ kk p l e s m args below meth c hs D cI cL cS H1 locs1 ls hC hX (fun h => by rw [hx h]; have := hZ h; omega) hP1 hS1 hL)
theorem rn_callSx {er : Nat} (cal : Cal y' bytes mL rt a) (hin : Cond.static y' ∈ GW) (hlk : Cond.methodLink yy.cls idx y' ∈ GW) (ev : Ev (.code y' bytes mL rt) y' rm' T as σ (.inr er) T1 σ1) (hlen : as.length = a) (hst : st0 = as.reverse ++ st) (hw : (st.map fun v => v.category).sum ≤ 8) (hfr : rm'.frames + 1 ≤ rm.frames) (hlo : 8 + (mL + 11) + rm'.locals ≤ rm.locals) (hc : k + rm'.cells ≤ rm.cells) (hs9 : n + rm'.slots ≤ rm.slots) (d : decode cc pc = .ok (.invokestatic idx, 3)) : Rn yy cc maxL ret [] rm (.inr er) T1 σ1 ex k n T pc lo st0 σ := by
  intro p l e s m args below meth c hs D cI cL cS H locs ls hC hX hZ hP hS hL
  have run := vx_runS (p := p) (l := l) (e := e) (R := rm) (s := s) (m := m) (args := args) (below := below) (meth := meth) (c := c) (H := H) (locs := locs) (cells := k) (slots := n) (g := F0 m pc ls (st0.map (ge hs))) (As := as.map (ge hs)) (rest := st.map (ge hs)) ⟨hC.x, hC.b, hC.ml, hC.ow, hC.ts⟩ (ev l hC.st hs D cI cL cS) ⟨callB_of a hC.ts (gw_in cal.1) rfl rfl rfl (hC.ts _ cal.2.1) (hC.ts _ hlk) ⟨cal.2.2.1.1, cal.2.2.1.2, cal.2.2.2.1⟩ ⟨hfr, hlo⟩, hC.ts _ hin⟩ ⟨PreE.blind, fun U hU hW => pre_of hC hP hS hU hW rfl⟩ rfl ((List.length_map _).trans hlen) hL.1 (stk_mapS hst) (lv_room (by rw [cat_map]; exact hw)) d ⟨hc, hs9⟩
  exact aft_thr run hS (fun H1 locs1 ce q9 hP1 hS1 h1 h2 h3 => vx_out (by rw [hC.ex]; intro x hx; cases hx) hC.lk h1 h2 h3 (fun t ht _ => ⟨rfl, by rw [ht]; exact hP1, hS1.F ht⟩) hS1.2.2 hc hs9)
theorem rn_callSN {r : Option Value} {host : String} (cal : Cal y' bytes mL rt a) (hin : Cond.static y' ∈ GW) (hlk : (yy.cls, idx, y', host) ∈ nestM) (ev : Ev (.code y' bytes mL rt) y' rm' T as σ (.inl r) T1 σ1) (hlen : as.length = a) (hst : st0 = as.reverse ++ st) (hw : (st.map fun v => v.category).sum ≤ 8) (hfr : rm'.frames + 1 ≤ rm.frames) (hlo : 8 + (mL + 11) + rm'.locals ≤ rm.locals) (hc : k + rm'.cells ≤ rm.cells) (hs9 : n + rm'.slots ≤ rm.slots) (hx : ex = true → T1.length = T.length + rm'.cells) (d : decode cc pc = .ok (.invokestatic idx, 3)) (kk : RnQ yy cc maxL ret et rm Qf Xf ex (k + rm'.cells) (n + rm'.slots) T1 (pc + 3) lo (r.toList ++ st) σ1) : RnQ yy cc maxL ret et rm Qf Xf ex k n T pc lo st0 σ := by
  intro p l e s m args below meth c hs D cI cL cS H locs ls hC hX hZ hP hS hL
  have run := va_to_vx (XC := XcE hs D cI cL cS (.inl r) T1 σ1) (va_runSN (p := p) (l := l) (e := e) (R := rm) (s := s) (m := m) (args := args) (below := below) (meth := meth) (c := c) (H := H) (locs := locs) (cells := k) (slots := n) (g := F0 m pc ls (st0.map (ge hs))) (As := as.map (ge hs)) (rest := st.map (ge hs)) ⟨hC.x, hC.b, hC.ml, hC.ow, hC.ts⟩ (vx_to_met (ev l hC.st hs D cI cL cS)) ⟨va_cnB a hC.ts (gw_in cal.1) rfl rfl rfl (hC.wk.2.2.1 _ hlk) (hC.ts _ cal.2.1) ⟨cal.2.2.1.1, cal.2.2.1.2, cal.2.2.2.1⟩ ⟨hfr, hlo⟩, hC.ts _ hin, trivial⟩ ⟨PreE.blind, fun U hU hW => pre_of hC hP hS hU hW rfl⟩ rfl ((List.length_map _).trans hlen) hL.1 (stk_mapS hst) (lv_room (by rw [cat_map]; exact hw)) d ⟨hc, hs9⟩)
  exact aft_ret run hS (fun H1 locs1 hP1 hS1 => res_map (hs := hs) (r := r) (st := st) ▸ kk p l e s m args below meth c hs D cI cL cS H1 locs1 ls hC hX (fun h => by rw [hx h]; have := hZ h; omega) hP1 hS1 hL)
theorem rn_callIN {b : Nat} {host : String} (cal : Cal y' bytes mL none a) (hin : Cond.instanceMethod y' ∈ GW) (hy1 : y'.name = "<init>") (hlk : (yy.cls, idx, y', host) ∈ nestM) (ev : Ev (.code y' bytes mL none) y' rm' T (.ref b :: as) σ (.inl none) T1 σ1) (hlen : as.length = a) (hst : st0 = as.reverse ++ .ref b :: st) (hw : (st.map fun v => v.category).sum ≤ 8) (hfr : rm'.frames + 1 ≤ rm.frames) (hlo : 8 + (mL + 11) + rm'.locals ≤ rm.locals) (hc : k + rm'.cells ≤ rm.cells) (hs9 : n + rm'.slots ≤ rm.slots) (hx : ex = true → T1.length = T.length + rm'.cells) (d : decode cc pc = .ok (.invokespecial idx, 3)) (kk : RnQ yy cc maxL ret et rm Qf Xf ex (k + rm'.cells) (n + rm'.slots) T1 (pc + 3) lo (st) σ1) : RnQ yy cc maxL ret et rm Qf Xf ex k n T pc lo st0 σ := by
  intro p l e s m args below meth c hs D cI cL cS H locs ls hC hX hZ hP hS hL
  have run := va_to_vx (XC := XcE hs D cI cL cS (.inl none) T1 σ1) (va_runIN (p := p) (l := l) (e := e) (R := rm) (s := s) (m := m) (args := args) (below := below) (meth := meth) (c := c) (H := H) (locs := locs) (cells := k) (slots := n) (g := F0 m pc ls (st0.map (ge hs))) (b := hs + b) (As := as.map (ge hs)) (rest := st.map (ge hs)) ⟨hC.x, hC.b, hC.ml, hC.ow, hC.ts⟩ (vx_to_met (ev l hC.st hs D cI cL cS)) ⟨va_cnB a hC.ts (gw_in cal.1) rfl rfl rfl (hC.wk.2.2.1 _ hlk) (hC.ts _ cal.2.1) ⟨cal.2.2.1.1, cal.2.2.1.2, cal.2.2.2.1⟩ ⟨hfr, hlo⟩, hy1, hC.ts _ hin⟩ ⟨PreE.blind, fun U hU hW => pre_of hC hP hS hU hW rfl⟩ rfl ((List.length_map _).trans hlen) hL.1 (stk_map hst) (lv_room (by rw [cat_map]; exact hw)) d ⟨hc, hs9⟩)
  exact aft_ret run hS (fun H1 locs1 hP1 hS1 => kk p l e s m args below meth c hs D cI cL cS H1 locs1 ls hC hX (fun h => by rw [hx h]; have := hZ h; omega) hP1 hS1 hL)
theorem rn_callI {b : Nat} (cal : Cal y' bytes mL none a) (hin : Cond.instanceMethod y' ∈ GW) (hy1 : y'.name = "<init>") (hlk : Cond.methodLink yy.cls idx y' ∈ GW) (ev : Ev (.code y' bytes mL none) y' rm' T (.ref b :: as) σ (.inl none) T1 σ1) (hlen : as.length = a) (hst : st0 = as.reverse ++ .ref b :: st) (hw : (st.map fun v => v.category).sum ≤ 8) (hfr : rm'.frames + 1 ≤ rm.frames) (hlo : 8 + (mL + 11) + rm'.locals ≤ rm.locals) (hc : k + rm'.cells ≤ rm.cells) (hs9 : n + rm'.slots ≤ rm.slots) (hx : ex = true → T1.length = T.length + rm'.cells) (d : decode cc pc = .ok (.invokespecial idx, 3)) (kk : RnQ yy cc maxL ret et rm Qf Xf ex (k + rm'.cells) (n + rm'.slots) T1 (pc + 3) lo (st) σ1) : RnQ yy cc maxL ret et rm Qf Xf ex k n T pc lo st0 σ := by
  intro p l e s m args below meth c hs D cI cL cS H locs ls hC hX hZ hP hS hL
  have run := va_to_vx (XC := XcE hs D cI cL cS (.inl none) T1 σ1) (va_runI (p := p) (l := l) (e := e) (R := rm) (s := s) (m := m) (args := args) (below := below) (meth := meth) (c := c) (H := H) (locs := locs) (cells := k) (slots := n) (g := F0 m pc ls (st0.map (ge hs))) (b := hs + b) (As := as.map (ge hs)) (rest := st.map (ge hs)) ⟨hC.x, hC.b, hC.ml, hC.ow, hC.ts⟩ (vx_to_met (ev l hC.st hs D cI cL cS)) ⟨callB_of a hC.ts (gw_in cal.1) rfl rfl rfl (hC.ts _ cal.2.1) (hC.ts _ hlk) ⟨cal.2.2.1.1, cal.2.2.1.2, cal.2.2.2.1⟩ ⟨hfr, hlo⟩, hy1, hC.ts _ hin⟩ ⟨PreE.blind, fun U hU hW => pre_of hC hP hS hU hW rfl⟩ rfl ((List.length_map _).trans hlen) hL.1 (stk_map hst) (lv_room (by rw [cat_map]; exact hw)) d ⟨hc, hs9⟩)
  exact aft_ret run hS (fun H1 locs1 hP1 hS1 => kk p l e s m args below meth c hs D cI cL cS H1 locs1 ls hC hX (fun h => by rw [hx h]; have := hZ h; omega) hP1 hS1 hL)
theorem rn_mmax {x y : Int32} (hlk : Cond.methodLink yy.cls idx Lib.Math.max.name ∈ GW) (hst1 : Cond.static Lib.Math.max.name ∈ GW) (hin : Cond.initialized "java/lang/Math" ∈ GW) (hcd : Cond.code Lib.Math.max.name Lib.Math.max.code 2 (some .int) ∈ GW) (hfr : 1 ≤ rm.frames) (hlo : (st.map fun v => v.category).sum + 13 ≤ rm.locals) (hc : k ≤ rm.cells) (hs9 : n ≤ rm.slots) (d : decode cc pc = .ok (.invokestatic idx, 3)) (kk : RnQ yy cc maxL ret et rm Qf Xf ex k n T (pc + 3) lo (.int (if x < y then y else x) :: st) σ) : RnQ yy cc maxL ret et rm Qf Xf ex k n T pc lo (.int y :: .int x :: st) σ := fun p l e s m args below meth c hs D cI cL cS H locs ls hC hX hZ hP hS hL => 
  va_mmax hC.x hC.b (hC.ml.trans hL.1.symm) hC.ow (hC.ts _ hlk) (hC.ts _ hst1) (hC.ts _ hin) (hC.ts _ hcd) hfr (by rw [cat_map]; exact hlo) hc hs9 d (kk p l e s m args below meth c hs D cI cL cS H locs ls hC hX hZ hP hS hL)
theorem rn_mmin {x y : Int32} (hlk : Cond.methodLink yy.cls idx Lib.Math.min.name ∈ GW) (hst1 : Cond.static Lib.Math.min.name ∈ GW) (hin : Cond.initialized "java/lang/Math" ∈ GW) (hcd : Cond.code Lib.Math.min.name Lib.Math.min.code 2 (some .int) ∈ GW) (hfr : 1 ≤ rm.frames) (hlo : (st.map fun v => v.category).sum + 13 ≤ rm.locals) (hc : k ≤ rm.cells) (hs9 : n ≤ rm.slots) (d : decode cc pc = .ok (.invokestatic idx, 3)) (kk : RnQ yy cc maxL ret et rm Qf Xf ex k n T (pc + 3) lo (.int (if y < x then y else x) :: st) σ) : RnQ yy cc maxL ret et rm Qf Xf ex k n T pc lo (.int y :: .int x :: st) σ := fun p l e s m args below meth c hs D cI cL cS H locs ls hC hX hZ hP hS hL => 
  va_mmin hC.x hC.b (hC.ml.trans hL.1.symm) hC.ow (hC.ts _ hlk) (hC.ts _ hst1) (hC.ts _ hin) (hC.ts _ hcd) hfr (by rw [cat_map]; exact hlo) hc hs9 d (kk p l e s m args below meth c hs D cI cL cS H locs ls hC hX hZ hP hS hL)
theorem rn_ldc {v : Int32} (hlk : Cond.constant yy.cls idx v ∈ GW) (d : decode cc pc = .ok (.ldc idx, 2)) (kk : RnQ yy cc maxL ret et rm Qf Xf ex k n T (pc + 2) lo (.int v :: st) σ) : RnQ yy cc maxL ret et rm Qf Xf ex k n T pc lo st σ := fun p l e s m args below meth c hs D cI cL cS H locs ls hC hX hZ hP hS hL => 
  lv_ldc hC.x hC.b hC.ow (hC.ts _ hlk) d (kk p l e s m args below meth c hs D cI cL cS H locs ls hC hX hZ hP hS hL)
theorem rn_ldc2 {v : Int64} (hlk : Cond.constantLong yy.cls idx v ∈ GW) (d : decode cc pc = .ok (.ldc2_w idx, 3)) (kk : RnQ yy cc maxL ret et rm Qf Xf ex k n T (pc + 3) lo (.long v :: st) σ) : RnQ yy cc maxL ret et rm Qf Xf ex k n T pc lo st σ := fun p l e s m args below meth c hs D cI cL cS H locs ls hC hX hZ hP hS hL => 
  lv_ldc2 hC.x hC.b hC.ow (hC.ts _ hlk) d (kk p l e s m args below meth c hs D cI cL cS H locs ls hC hX hZ hP hS hL)
theorem rn_ldc2d {v : UInt64} (hlk : Cond.constantDouble yy.cls idx v ∈ GW) (d : decode cc pc = .ok (.ldc2_w idx, 3)) (kk : RnQ yy cc maxL ret et rm Qf Xf ex k n T (pc + 3) lo (.double v :: st) σ) : RnQ yy cc maxL ret et rm Qf Xf ex k n T pc lo st σ := fun p l e s m args below meth c hs D cI cL cS H locs ls hC hX hZ hP hS hL => 
  lv_ldc2d hC.x hC.b hC.ow (hC.ts _ hlk) d (kk p l e s m args below meth c hs D cI cL cS H locs ls hC hX hZ hP hS hL)
/-- new E(); throw -/
theorem rn_throw {er ik ic : Nat} {names : List String} (hcls : Bundle.fit (exName er) = true) (hnames : ∀ z ∈ names, Bundle.fit z = true) (hk9 : Cond.classLink yy.cls ik (exName er) ∈ GW) (hini : Cond.initialized (exName er) ∈ GW) (hat : ∀ w ∈ vx_at0 yy.cls ic (exName er) names, w ∈ GW ∨ w ∈ xwL) (d0 : decode cc pc = .ok (.new ik, 3)) (d3 : decode cc (pc + 3) = .ok (.dup, 1)) (d4 : decode cc (pc + 4) = .ok (.invokespecial ic, 3)) (d7 : decode cc (pc + 7) = .ok (.athrow, 1)) (hfr : names.length + 3 < rm.frames) (hlo : (st.map fun v => v.category).sum + (13 * (names.length + 1) + 42) ≤ rm.locals) (hc : k + 1 ≤ rm.cells) (hs9 : n + 6 ≤ rm.slots) : Rn yy cc maxL ret [] rm (.inr er) T σ ex k n T pc lo st σ := by
  intro p l e s m args below meth c hs D cI cL cS H locs ls hC hX hZ hP hS hL
  have hot : ∀ w : Cond, w ∈ GW ∨ w ∈ xwL → vx_ot w = true := by
    intro w hw
    unfold vx_ot
    rcases hw with h | h
    · rw [gw_good h, Bool.or_true]
    · rw [xw_tab h, Bool.true_or]
  have hbe : ∀ w : Cond, w ∈ GW ∨ w ∈ xwL → w.before args s = true := by
    intro w hw
    rcases hw with h | h
    · exact hC.ts _ h
    · exact va_Nw.use (xw_tab h) (hC.wk.2.2.2.2.1 _ h)
  have hno : ∀ x ∈ c.exceptionTable.toList, covers x (pc + 7) = false := by
    rw [hC.ex]
    intro x hx
    cases hx
  refine vx_throw0 (A := fun q => hs ≤ q) hC.x hC.b hC.st hC.ow hcls hnames (hC.ts _ hk9) (hC.ts _ hini) (fun w hw => hbe w (hat w hw)) ?_ hC.wz.1 hC.wz.2 hS (hL.1.trans hC.ml.symm) d0 d3 d4 d7 hno hfr (by rw [cat_map]; exact hlo) hc hs9 hC.lk ?_ hS.2.2 hc hs9
  · intro w hw
    rcases List.mem_cons.mp hw with h | h
    · exact h ▸ hot _ (Or.inl hk9)
    · rcases List.mem_cons.mp h with h | h
      · exact h ▸ hot _ (Or.inl hini)
      · exact hot w (hat w h)
  · intro t ht h1 h2
    exact ⟨rfl, hP.kept (fun i q hq => h2 q.1 ((hP i q hq).lt)), Nat.le_trans hS.1 h1, fun q h3 h4 => (h2 q (Nat.lt_of_lt_of_le h3 hS.1)).trans (hS.2.1 q h3 h4)⟩
end RnCalls
def loA : List Value → List (Option Value)
  | [] => []
  | v :: r => if v.category = 2 then some v :: none :: loA r else some v :: loA r
theorem loA_at {hs : Nat} : ∀ (as : List Value) (i0 i : Nat) (v : Value), (loA as)[i]? = some (some v) → (i0 + i, ge hs v) ∈ lv_args i0 (as.map (ge hs))
  | [], _, i, v, h => by cases h
  | w :: r, i0, i, v, h => by
    simp only [List.map_cons, lv_args, ge_cat]
    simp only [loA] at h
    by_cases hc : w.category = 2
    · rw [if_pos hc] at h ⊢
      match i, h with
      | 0, h => cases h; exact List.mem_cons_self
      | 1, h => cases h
      | i + 2, h => 
        have := loA_at (hs := hs) r (i0 + 2) i v h
        rw [show i0 + (i + 2) = i0 + 2 + i by omega]
        exact List.mem_cons_of_mem _ this
    · rw [if_neg hc] at h ⊢
      match i, h with
      | 0, h => cases h; exact List.mem_cons_self
      | i + 1, h =>
        have := loA_at (hs := hs) r (i0 + 1) i v h
        rw [show i0 + (i + 1) = i0 + 1 + i by omega]
        exact List.mem_cons_of_mem _ this
theorem loA_pad {l : List (Option Value)} {j i : Nat} {v : Value} (h : (l ++ List.replicate j none)[i]? = some (some v)) : l[i]? = some (some v) := by
  by_cases hi : i < l.length
  · rwa [List.getElem?_append_left hi] at h
  · rw [List.getElem?_append_right (by omega), List.getElem?_replicate] at h
    split at h
    · cases h
    · cases h
/-- a contract out of its body's walk -/
theorem ev_of {y : MethodName} {cc : ByteArray} {maxL a j : Nat} {ret : Option FieldType} {rm : Room} {o : Option Value ⊕ Nat} {T T' : Tb} {σ σ' : Mm} {as : List Value} {lo : List (Option Value)} (cal : Cal y cc maxL ret a) (hlo : lo = loA as ++ List.replicate j none) (hlen : ∀ hs : Nat, (lg_sl (as.map (ge hs))).length ≤ maxL) (h : Rn y cc maxL ret [] rm o T' σ' false 0 0 T 0 lo [] σ) : Ev (.code y cc maxL ret) y rm T as σ o T' σ' := by
  intro l hl hs D cI cL cS
  refine vx_ofW (cc := cc) (maxL := maxL) (ret := ret) cal.2.2.2.2 rfl ?_
  intro p e s m args below meth c s₁ B hml het hv
  obtain ⟨rfl, hP, hWK, hWZ, hsz⟩ := hv
  have hts := atoms_spec (ws := .code y cc maxL ret :: GW) B.pre
  have hl0 := lv_entry (as.map (ge hs)) (n := maxL) (hlen hs)
  rw [lg_entry_eq]
  generalize (lg_sl (as.map (ge hs)) ++ List.replicate (maxL - (lg_sl (as.map (ge hs))).length) Slot.unset).toArray = ls at hl0 ⊢
  refine h p l e s m _ below meth c hs D cI cL cS s.heap [] ls ⟨B.exec, B.bytes, B.returns, hml, findClass_of_methodNamed B.named, fun w hw => hts w (List.mem_cons_of_mem _ hw), B.notSynchronized, hl, hWK, hWZ, hsz, ?_, (name_of_methodNamed B.named B.method).1⟩ trivial (fun h => by cases h) hP va_S.rf ⟨hl0.1, hl0.2.1, fun i v hi => ?_⟩
  · cases hh : c.exceptionTable.toList with
    | nil => rfl
    | cons x r => exact (het x (by rw [hh]; exact List.mem_cons_self)).elim
  · rw [hlo] at hi
    have h2 := loA_at (hs := hs) as 0 i v (loA_pad hi)
    rw [Nat.zero_add] at h2
    exact hl0.2.2 _ h2
