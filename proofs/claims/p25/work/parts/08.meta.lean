/-! THE WORLD AS ONE TABLE AND ONE MEMORY: the objects lie from the address hs on, in the order of their making; T says what each is, σ what it holds. -/
abbrev Mm : Type := Nat → Nat → Int32
abbrev Tb : Type := List (Nat × Nat × List Nat)
def ge (hs : Nat) (v : Value) : Value := match v with
  | .ref k => .ref (hs + k)
  | .retAddr a => .ref a
  | w => w
theorem ge_cat (hs : Nat) (v : Value) : (ge hs v).category = v.category := by cases v <;> rfl
def fval (hs : Nat) (f : Nat → Int32) (j r : Nat) : Value := match r with
  | 0 => .int (f j)
  | 1 => .null
  | k + 2 => .ref (hs + k)
def fvs (hs : Nat) (f : Nat → Int32) (l : List Nat) : List Value := l.mapIdx (fval hs f)
def rfo (hs : Nat) (l : List Nat) (j : Nat) : Option Nat := match l.getD j 0 with
  | 0 => none
  | k + 1 => some (hs + k)
def ent (hs : Nat) (cI cL cS : ClassId) (f : Nat → Int32) (t : Nat × Nat × List Nat) : va_E := match t with
  | (0, n, _) => .inl (cI, n, .inl f)
  | (1, n, _) => .inl (cL, n, .inr (.inl (fun j => (f j).toInt64)))
  | (2, n, l) => .inl (cS, n, .inr (.inr (.inr (.inr (rfo hs l)))))
  | (_ + 3, ci, l) => .inr (ci, fvs hs f l)
def wsO (hs : Nat) (cI cL cS : ClassId) (T : Tb) (σ : Mm) : va_W := T.mapIdx (fun k t => (hs + k, ent hs cI cL cS (σ k) t))
theorem wsO_get {hs : Nat} {cI cL cS : ClassId} {T : Tb} {σ : Mm} {k : Nat} {t : Nat × Nat × List Nat} (h : T[k]? = some t) : (wsO hs cI cL cS T σ)[k]? = some (hs + k, ent hs cI cL cS (σ k) t) := by
  simp [wsO, List.getElem?_mapIdx, h]
theorem wsO_key {hs : Nat} {cI cL cS : ClassId} {T : Tb} {σ : Mm} {i : Nat} {p : Nat × va_E} (h : (wsO hs cI cL cS T σ)[i]? = some p) : p.1 = hs + i := by
  rw [wsO, List.getElem?_mapIdx] at h
  cases hT : T[i]? with
  | none => simp [hT] at h
  | some t => simp [hT] at h; rw [← h]
theorem wsO_D {hs : Nat} {cI cL cS : ClassId} {T : Tb} {σ : Mm} : va_D (fun q => hs ≤ q) (wsO hs cI cL cS T σ) :=
  ⟨fun i j p q hi hj h => by
    have h1 := wsO_key hi
    have h2 := wsO_key hj
    omega, fun k q hk => by
    show hs ≤ q.1
    rw [wsO_key hk]
    exact Nat.le_add_right _ _⟩
def upM (σ : Mm) (k j : Nat) (v : Int32) : Mm := fun k' => if k' = k then upd (σ k) j v else σ k'
theorem wsO_set {hs : Nat} {cI cL cS : ClassId} {T : Tb} {σ : Mm} {k : Nat} {t : Nat × Nat × List Nat} (h : T[k]? = some t) (j : Nat) (v : Int32) {e : va_E} (he : e = ent hs cI cL cS (upd (σ k) j v) t) : (wsO hs cI cL cS T σ).set k (hs + k, e) = wsO hs cI cL cS T (upM σ k j v) := by
  subst he
  have hl := (List.getElem?_eq_some_iff.mp (wsO_get (hs := hs) (cI := cI) (cL := cL) (cS := cS) (σ := σ) h)).1
  apply List.ext_getElem?
  intro i
  by_cases hi : i = k
  · subst hi
    rw [List.getElem?_set_self hl, wsO_get h]
    simp [upM]
  · rw [List.getElem?_set_ne (Ne.symm hi)]
    simp only [wsO, List.getElem?_mapIdx, upM, if_neg hi]
theorem fvs_get {hs : Nat} {f : Nat → Int32} {l : List Nat} {j r : Nat} (h : l[j]? = some r) : (fvs hs f l)[j]? = some (fval hs f j r) := by
  simp [fvs, List.getElem?_mapIdx, h]
theorem fvs_len {hs : Nat} {f : Nat → Int32} {l : List Nat} : (fvs hs f l).length = l.length := by simp [fvs]
theorem fvs_set {hs : Nat} {f : Nat → Int32} {l : List Nat} {j : Nat} (h : l[j]? = some 0) (v : Int32) : (fvs hs f l).set j (.int v) = fvs hs (upd f j v) l := by
  have hl : j < (fvs hs f l).length := by rw [fvs_len]; exact (List.getElem?_eq_some_iff.mp h).1
  apply List.ext_getElem?
  intro i
  by_cases hi : i = j
  · subst hi
    rw [List.getElem?_set_self hl, fvs_get h]
    simp [fval, upd]
  · rw [List.getElem?_set_ne (Ne.symm hi)]
    simp only [fvs, List.getElem?_mapIdx]
    cases l[i]? with
    | none => rfl
    | some r => cases r with
      | zero => simp [fval, upd, hi]
      | succ r => cases r <;> rfl
theorem fvs_setR {hs : Nat} {f : Nat → Int32} {l : List Nat} {j r0 : Nat} (h : l[j]? = some r0) (k : Nat) : (fvs hs f l).set j (.ref (hs + k)) = fvs hs f (l.set j (k + 2)) := by
  have hl : j < (fvs hs f l).length := by rw [fvs_len]; exact (List.getElem?_eq_some_iff.mp h).1
  apply List.ext_getElem?
  intro i
  by_cases hi : i = j
  · subst hi
    rw [List.getElem?_set_self hl]
    have h2 : (l.set i (k + 2))[i]? = some (k + 2) := List.getElem?_set_self (List.getElem?_eq_some_iff.mp h).1
    rw [fvs_get h2]
    rfl
  · rw [List.getElem?_set_ne (Ne.symm hi)]
    simp only [fvs, List.getElem?_mapIdx, List.getElem?_set_ne (Ne.symm hi)]
def mcO (o : Option Value ⊕ Nat) : Nat := match o with
  | .inl _ => 0
  | .inr _ => 1
def msO (o : Option Value ⊕ Nat) : Nat := match o with
  | .inl _ => 0
  | .inr _ => 6
def rmO (d : Nat) (o : Option Value ⊕ Nat) : Room := { frames := d, cells := mcO o, slots := msO o, locals := 44 * d }
def exName (e : Nat) : String := match e with
  | 1 => "java/lang/IndexOutOfBoundsException"
  | 2 => "java/lang/IllegalArgumentException"
  | _ => "java/lang/IllegalStateException"
def exL : List String := ["java/lang/IndexOutOfBoundsException", "java/lang/IllegalArgumentException", "java/lang/IllegalStateException"]
def exF : List String := ["java/lang/IndexOutOfBoundsException", "java/lang/IllegalStateException"]
def nestF : List (String × Nat × String × String × String × String) := [("NestedSums", 121, "NestedSums$Sheet", "pageHeight", "I", "NestedSums"), ("NestedSums", 72, "NestedSums$Sheet", "tables", "I", "NestedSums"), ("NestedSums$Layout", 65, "NestedSums$Sheet", "tables", "I", "NestedSums"), ("NestedSums", 275, "NestedSums$Sheet", "homes", "LNestedSums$Numbers;", "NestedSums"), ("NestedSums$Layout", 158, "NestedSums$Sheet", "owners", "LNestedSums$Numbers;", "NestedSums"), ("NestedSums", 62, "NestedSums$Sheet", "kinds", "LNestedSums$Numbers;", "NestedSums"), ("NestedSums$Layout", 107, "NestedSums$Sheet", "kinds", "LNestedSums$Numbers;", "NestedSums"), ("NestedSums$Layout", 110, "NestedSums$Sheet", "contents", "LNestedSums$Numbers;", "NestedSums"), ("NestedSums$Layout", 138, "NestedSums$Sheet", "spans", "LNestedSums$Numbers;", "NestedSums"), ("NestedSums", 115, "NestedSums$Sheet", "rules", "LNestedSums$Numbers;", "NestedSums"), ("NestedSums$Layout", 147, "NestedSums$Sheet", "rules", "LNestedSums$Numbers;", "NestedSums"), ("NestedSums", 16, "NestedSums$Layout", "sheet", "LNestedSums$Sheet;", "NestedSums"), ("NestedSums", 250, "NestedSums$Layout", "values", "LNestedSums$Numbers;", "NestedSums"), ("NestedSums", 253, "NestedSums$Layout", "shown", "LNestedSums$Numbers;", "NestedSums"), ("NestedSums", 259, "NestedSums$Layout", "wants", "LNestedSums$Numbers;", "NestedSums"), ("NestedSums", 265, "NestedSums$Layout", "rules", "LNestedSums$Numbers;", "NestedSums"), ("NestedSums", 155, "NestedSums$Layout", "edges", "LNestedSums$Numbers;", "NestedSums"), ("NestedSums", 272, "NestedSums$Layout", "drawn", "LNestedSums$Numbers;", "NestedSums"), ("NestedSums", 269, "NestedSums$Layout", "tableSizes", "LNestedSums$Numbers;", "NestedSums"), ("NestedSums", 266, "NestedSums$Layout", "tableValues", "LNestedSums$Numbers;", "NestedSums"), ("NestedSums", 145, "NestedSums$History", "saved", "I", "NestedSums")]
def nestM : List (String × Nat × MethodName × String) := [("NestedSums", 11, ⟨"NestedSums$Layout", "<init>", "()V"⟩, "NestedSums"), ("NestedSums$Layout", 11, ⟨"NestedSums$Sheet", "<init>", "()V"⟩, "NestedSums"), ("NestedSums$History", 17, ⟨"NestedSums$Sheet", "<init>", "()V"⟩, "NestedSums"), ("NestedSums", 33, ⟨"NestedSums$OrderText", "<init>", "()V"⟩, "NestedSums"), ("NestedSums$Sheet", 64, ⟨"NestedSums", "placeOf", "(II)I"⟩, "NestedSums"), ("NestedSums$Layout", 113, ⟨"NestedSums", "isSum", "(I)Z"⟩, "NestedSums"), ("NestedSums$Layout", 122, ⟨"NestedSums", "tableOf", "(I)I"⟩, "NestedSums"), ("NestedSums$Layout", 129, ⟨"NestedSums", "placeOf", "(II)I"⟩, "NestedSums"), ("NestedSums$Sheet", 79, ⟨"NestedSums", "isBetween", "(III)Z"⟩, "NestedSums"), ("NestedSums$Sheet", 83, ⟨"NestedSums", "tableOf", "(I)I"⟩, "NestedSums"), ("NestedSums$Layout", 167, ⟨"NestedSums", "signsOf", "(I)I"⟩, "NestedSums")]
/-- words of exceptions that are no good words -/
def xwL : List Cond := [.declares ⟨"java/lang/RuntimeException", "<init>", "()V"⟩, .declares ⟨"java/lang/Exception", "<init>", "()V"⟩, .declares ⟨"java/lang/Throwable", "<init>", "()V"⟩, .castable "java/lang/IndexOutOfBoundsException" "java/lang/IndexOutOfBoundsException", .castable "java/lang/IllegalArgumentException" "java/lang/IllegalArgumentException", .castable "java/lang/IllegalStateException" "java/lang/IllegalStateException"]
theorem xw_tab {w : Cond} (hw : w ∈ xwL) : w.onTables = true := by
  have h : ∀ w ∈ xwL, w.onTables = true := by decide +kernel
  exact h w hw
theorem xw_d {s U : State} {y : MethodName} (hW : s.WarmedH U.vm) (h : va_Nw (.declares y) s) : va_Nw (.declares y) U := va_tabs rfl (rfl : (s.setVm U.vm).vm = U.vm) (Cond.before_shiftedFace (State.Shifted.of_warmed hW) (.declares y) rfl h)
theorem xw_c {s U : State} {a b : String} (hW : s.WarmedH U.vm) (h : va_Nw (.castable a b) s) : va_Nw (.castable a b) U := va_tabs rfl (rfl : (s.setVm U.vm).vm = U.vm) ((Cond.castable_setVm hW.alike a b).trans h)
theorem xw_warm {s U : State} {w : Cond} (hW : s.WarmedH U.vm) (hw : w ∈ xwL) (h : va_Nw w s) : va_Nw w U := by
  simp only [xwL, List.mem_cons, List.not_mem_nil, or_false] at hw
  rcases hw with rfl | rfl | rfl | rfl | rfl | rfl <;> first | exact xw_d hW h | exact xw_c hW h
def WK (D : va_G) (cI cL cS : ClassId) (U : State) : Prop :=
  va_K D vwCl [(cI, .int), (cL, .int), (cS, .object RX4)] U ∧ (∀ q ∈ nestF, va_Nw (.fieldLinkNest q.1 q.2.1 q.2.2.1 q.2.2.2.1 q.2.2.2.2.1 q.2.2.2.2.2) U) ∧ (∀ q ∈ nestM, va_Nw (.methodLinkNest q.1 q.2.1 q.2.2.1 q.2.2.2) U) ∧ (∀ E ∈ exL, ∀ F ∈ exF, E ≠ F → va_Nc E F U) ∧ (∀ w ∈ xwL, va_Nw w U) ∧ va_AO RX4 U
theorem WK.warm {D : va_G} {cI cL cS : ClassId} {s U : State} (hW : s.WarmedH U.vm) (h : WK D cI cL cS s) : WK D cI cL cS U :=
  ⟨va_K.moved hW.alike h.1, fun q hq => va_Nw.warmF hW (h.2.1 q hq), fun q hq => va_Nw.warmM hW (h.2.2.1 q hq), fun E hE F hF hne => va_Nc.moved hW.alike (h.2.2.2.1 E hE F hF hne), fun w hw => xw_warm hW hw (h.2.2.2.2.1 w hw), va_AO.moved hW.alike h.2.2.2.2.2⟩
theorem WK.same {D : va_G} {cI cL cS : ClassId} {s U : State} (hvm : s.vm = U.vm) (h : WK D cI cL cS s) : WK D cI cL cS U :=
  ⟨va_K.moved (hvm ▸ Vm.Alike.refl s.vm) h.1, fun q hq => va_Nw.same rfl hvm (h.2.1 q hq), fun q hq => va_Nw.same rfl hvm (h.2.2.1 q hq), fun E hE F hF hne => va_Nc.moved (hvm ▸ Vm.Alike.refl s.vm) (h.2.2.2.1 E hE F hF hne), fun w hw => va_Nw.same (xw_tab hw) hvm (h.2.2.2.2.1 w hw), va_AO.moved (hvm ▸ Vm.Alike.refl s.vm) h.2.2.2.2.2⟩
def WZ (hs : Nat) (U : State) (H : Heap) : Prop := vx_Zq Bundle.tN "UNASSIGNED_STACK" Bundle.steD (fun q => hs ≤ q) U H ∧ vx_Zq Bundle.tN "SUPPRESSED_SENTINEL" Bundle.listD (fun q => hs ≤ q) U H
theorem WZ.moved {hs : Nat} {u U : State} {H : Heap} (hvm : u.vm.Alike U.vm) (h : WZ hs u H) : WZ hs U H := ⟨vx_Zq.moved hvm h.1, vx_Zq.moved hvm h.2⟩
theorem WZ.kept {hs : Nat} {U : State} {H H1 : Heap} (h : WZ hs U H) (hq : ∀ a : Nat, a < H.size → ¬ hs ≤ a → H1[a]? = H[a]?) : WZ hs U H1 := ⟨vx_Zq.kept h.1 hq, vx_Zq.kept h.2 hq⟩
/-- what a method knows of its start -/
def Ctx (y : MethodName) (cc : ByteArray) (maxL : Nat) (ret : Option FieldType) (et : List ExceptionTableEntry) (p : Program) (l : Launch) (s : State) (m : MethodId) (args : Array Value) (meth : Method) (c : Code) (hs : Nat) (D : va_G) (cI cL cS : ClassId) : Prop :=
  p.tables.exec = Jvm.exec ∧ c.code = cc ∧ meth.sig.returnType = ret ∧ c.maxLocals = maxL ∧ s.vm.findClass y.cls = some m.cls ∧ (∀ w ∈ GW, w.before args s = true) ∧ meth.locks = false ∧ l.stackTraces = false ∧ WK D cI cL cS s ∧ WZ hs s s.heap ∧ hs ≤ s.heap.size ∧ c.exceptionTable.toList = et ∧ meth.name = y.name
section CtxP
variable {y : MethodName} {cc : ByteArray} {maxL : Nat} {ret : Option FieldType} {et : List ExceptionTableEntry} {p : Program} {l : Launch} {s : State} {m : MethodId} {args : Array Value} {meth : Method} {c : Code} {hs : Nat} {D : va_G} {cI cL cS : ClassId}
theorem Ctx.x (h : Ctx y cc maxL ret et p l s m args meth c hs D cI cL cS) : p.tables.exec = Jvm.exec := h.1
theorem Ctx.b (h : Ctx y cc maxL ret et p l s m args meth c hs D cI cL cS) : c.code = cc := h.2.1
theorem Ctx.r (h : Ctx y cc maxL ret et p l s m args meth c hs D cI cL cS) : meth.sig.returnType = ret := h.2.2.1
theorem Ctx.ml (h : Ctx y cc maxL ret et p l s m args meth c hs D cI cL cS) : c.maxLocals = maxL := h.2.2.2.1
theorem Ctx.ow (h : Ctx y cc maxL ret et p l s m args meth c hs D cI cL cS) : s.vm.findClass y.cls = some m.cls := h.2.2.2.2.1
theorem Ctx.ts (h : Ctx y cc maxL ret et p l s m args meth c hs D cI cL cS) : ∀ w ∈ GW, w.before args s = true := h.2.2.2.2.2.1
theorem Ctx.lk (h : Ctx y cc maxL ret et p l s m args meth c hs D cI cL cS) : meth.locks = false := h.2.2.2.2.2.2.1
theorem Ctx.st (h : Ctx y cc maxL ret et p l s m args meth c hs D cI cL cS) : l.stackTraces = false := h.2.2.2.2.2.2.2.1
theorem Ctx.wk (h : Ctx y cc maxL ret et p l s m args meth c hs D cI cL cS) : WK D cI cL cS s := h.2.2.2.2.2.2.2.2.1
theorem Ctx.wz (h : Ctx y cc maxL ret et p l s m args meth c hs D cI cL cS) : WZ hs s s.heap := h.2.2.2.2.2.2.2.2.2.1
theorem Ctx.sz (h : Ctx y cc maxL ret et p l s m args meth c hs D cI cL cS) : hs ≤ s.heap.size := h.2.2.2.2.2.2.2.2.2.2.1
theorem Ctx.ex (h : Ctx y cc maxL ret et p l s m args meth c hs D cI cL cS) : c.exceptionTable.toList = et := h.2.2.2.2.2.2.2.2.2.2.2.1
theorem Ctx.nm (h : Ctx y cc maxL ret et p l s m args meth c hs D cI cL cS) : meth.name = y.name := h.2.2.2.2.2.2.2.2.2.2.2.2
end CtxP
/-- locals: what is known of them -/
def Lr (hs : Nat) (ls : Array Slot) (nL : Nat) (lo : List (Option Value)) : Prop := ls.size = nL ∧ lv_wf ls ∧ ∀ (i : Nat) (v : Value), lo[i]? = some (some v) → ls[i]? = some (.val (ge hs v))
def asc (hs : Nat) (lo : List (Option Value)) : List (Nat × Value) := (lo.mapIdx (fun i v => (i, v))).filterMap (fun q => q.2.map (fun v => (q.1, ge hs v)))
theorem asc_mem {hs : Nat} {lo : List (Option Value)} {q : Nat × Value} : q ∈ asc hs lo ↔ ∃ v : Value, lo[q.1]? = some (some v) ∧ q.2 = ge hs v := by
  constructor
  · intro h
    obtain ⟨a, ha, hb⟩ := List.mem_filterMap.mp h
    obtain ⟨i, hi⟩ := List.getElem?_of_mem ha
    rw [List.getElem?_mapIdx] at hi
    cases hl : lo[i]? with
    | none => rw [hl] at hi; cases hi
    | some w =>
      rw [hl] at hi
      cases hi
      cases w with
      | none => cases hb
      | some v => cases hb; exact ⟨v, hl, rfl⟩
  · intro ⟨v, h1, h2⟩
    refine List.mem_filterMap.mpr ⟨(q.1, some v), ?_, ?_⟩
    · refine List.mem_of_getElem? (i := q.1) ?_
      rw [List.getElem?_mapIdx, h1]
      rfl
    · show some (q.1, ge hs v) = some q
      rw [← h2]
theorem Lr.has {hs : Nat} {ls : Array Slot} {nL : Nat} {lo : List (Option Value)} (h : Lr hs ls nL lo) : lv_has ls nL (asc hs lo) :=
  ⟨h.1, h.2.1, fun q hq => by
    obtain ⟨v, h1, h2⟩ := asc_mem.mp hq
    rw [h2]
    exact h.2.2 q.1 v h1⟩
theorem Lr.at {hs : Nat} {ls : Array Slot} {nL : Nat} {lo : List (Option Value)} (h : Lr hs ls nL lo) {i : Nat} {v : Value} (hi : lo[i]? = some (some v)) : ls[i]? = some (.val (ge hs v)) := h.2.2 i v hi
def drp (lo : List (Option Value)) (i : Nat) : List (Option Value) := match i with
  | 0 => lo
  | j + 1 => match lo.getD j none with
    | none => lo
    | some w => if w.category = 2 then lo.set j none else lo
def sto (lo : List (Option Value)) (i : Nat) (v : Value) : List (Option Value) := (drp lo i).set i (some v)
def sto2 (lo : List (Option Value)) (i : Nat) (v : Value) : List (Option Value) := ((drp lo i).set i (some v)).set (i + 1) none
theorem drp_at {lo : List (Option Value)} {i k : Nat} {v : Value} (h : (drp lo i)[k]? = some (some v)) : lo[k]? = some (some v) ∧ ¬ (k + 1 = i ∧ v.category = 2) := by
  cases i with
  | zero => exact ⟨h, fun q => by omega⟩
  | succ j =>
    simp only [drp] at h
    cases hw : lo.getD j none with
    | none =>
      rw [hw] at h
      refine ⟨h, fun q => ?_⟩
      have hk : k = j := by omega
      subst hk
      rw [List.getD_eq_getElem?_getD] at hw
      have h2 : lo[k]? = some (some v) := h
      rw [h2] at hw
      cases hw
    | some w =>
      rw [hw] at h
      dsimp only at h
      by_cases hc : w.category = 2
      · rw [if_pos hc] at h
        by_cases hk : k = j
        · subst hk
          by_cases hl : k < lo.length
          · rw [List.getElem?_set_self hl] at h
            cases h
          · rw [List.getElem?_eq_none (by rw [List.length_set]; omega)] at h
            cases h
        · rw [List.getElem?_set_ne (Ne.symm hk)] at h
          exact ⟨h, fun q => by omega⟩
      · rw [if_neg hc] at h
        refine ⟨h, fun q => ?_⟩
        have hk : k = j := by omega
        subst hk
        rw [List.getD_eq_getElem?_getD] at hw
        rw [h] at hw
        cases hw
        exact hc q.2
theorem Lr_sto {hs : Nat} {ls' : Array Slot} {nL i : Nat} {lo : List (Option Value)} {v : Value} (h : lv_has ls' nL ((i, ge hs v) :: (asc hs lo).filter (fun q => !(q.1 == i) && !(q.1 + 1 == i && q.2.category == 2)))) : Lr hs ls' nL (sto lo i v) := by
  refine ⟨h.1, h.2.1, fun k w hk => ?_⟩
  unfold sto at hk
  by_cases hki : k = i
  · subst hki
    have hl : k < (drp lo k).length := by
      have := (List.getElem?_eq_some_iff.mp hk).1
      rw [List.length_set] at this
      exact this
    rw [List.getElem?_set_self hl] at hk
    cases hk
    exact h.2.2 (k, ge hs v) List.mem_cons_self
  · rw [List.getElem?_set_ne (Ne.symm hki)] at hk
    obtain ⟨h1, h2⟩ := drp_at hk
    refine h.2.2 (k, ge hs w) (List.mem_cons_of_mem _ (List.mem_filter.mpr ⟨asc_mem.mpr ⟨w, h1, rfl⟩, ?_⟩))
    simp only [ge_cat, Bool.and_eq_true, Bool.not_eq_true', beq_eq_false_iff_ne, ne_eq, Bool.and_eq_false_iff]
    refine ⟨hki, ?_⟩
    by_cases q : k + 1 = i
    · exact Or.inr (fun z => h2 ⟨q, z⟩)
    · exact Or.inl q
theorem Lr_sto2 {hs : Nat} {ls' : Array Slot} {nL i : Nat} {lo : List (Option Value)} {v : Value} (h : lv_has ls' nL ((i, ge hs v) :: (asc hs lo).filter (fun q => !(q.1 == i) && (!(q.1 == i + 1) && !(q.1 + 1 == i && q.2.category == 2))))) : Lr hs ls' nL (sto2 lo i v) := by
  refine ⟨h.1, h.2.1, fun k w hk => ?_⟩
  simp only [sto2] at hk
  by_cases hk1 : k = i + 1
  · subst hk1
    have hl : i + 1 < ((drp lo i).set i (some v)).length := by
      have := (List.getElem?_eq_some_iff.mp hk).1
      rw [List.length_set] at this
      exact this
    rw [List.getElem?_set_self hl] at hk
    cases hk
  · rw [List.getElem?_set_ne (Ne.symm hk1)] at hk
    by_cases hki : k = i
    · subst hki
      have hl : k < (drp lo k).length := by
        have := (List.getElem?_eq_some_iff.mp hk).1
        rw [List.length_set] at this
        exact this
      rw [List.getElem?_set_self hl] at hk
      cases hk
      exact h.2.2 (k, ge hs v) List.mem_cons_self
    · rw [List.getElem?_set_ne (Ne.symm hki)] at hk
      obtain ⟨h1, h2⟩ := drp_at hk
      refine h.2.2 (k, ge hs w) (List.mem_cons_of_mem _ (List.mem_filter.mpr ⟨asc_mem.mpr ⟨w, h1, rfl⟩, ?_⟩))
      simp only [ge_cat, Bool.and_eq_true, Bool.not_eq_true', beq_eq_false_iff_ne, ne_eq, Bool.and_eq_false_iff]
      refine ⟨hki, hk1, ?_⟩
      by_cases q : k + 1 = i
      · exact Or.inr (fun z => h2 ⟨q, z⟩)
      · exact Or.inl q
/-- fewer known locals -/
def subLo : List (Option Value) → List (Option Value) → Prop
  | [], _ => True
  | none :: a, _ :: b => subLo a b
  | some v :: a, some w :: b => v = w ∧ subLo a b
  | some _ :: _, none :: _ => False
  | _ :: _, [] => False
theorem subLo_at : ∀ {a b : List (Option Value)}, subLo a b → ∀ (i : Nat) (v : Value), a[i]? = some (some v) → b[i]? = some (some v)
  | [], _, _, i, v, h => by cases h
  | none :: a, _ :: b, hs, i, v, h => by
    cases i with
    | zero => cases h
    | succ i => exact subLo_at (a := a) (b := b) hs i v h
  | some w :: a, some w2 :: b, hs, i, v, h => by
    cases i with
    | zero => rw [← hs.1]; exact h
    | succ i => exact subLo_at (a := a) (b := b) hs.2 i v h
  | some _ :: _, none :: _, hs, _, _, _ => hs.elim
  | none :: _, [], hs, _, _, _ => hs.elim
  | some _ :: _, [], hs, _, _, _ => hs.elim
theorem Lr.sub {hs : Nat} {ls : Array Slot} {nL : Nat} {lo lo' : List (Option Value)} (h : Lr hs ls nL lo) (hb : subLo lo' lo) : Lr hs ls nL lo' := ⟨h.1, h.2.1, fun i v hi => h.2.2 i v (subLo_at hb i v hi)⟩
/-- a method's ends -/
def QcE (hs : Nat) (D : va_G) (cI cL cS : ClassId) (o : Option Value ⊕ Nat) (T : Tb) (σ : Mm) : Array Value → State → Outcome → State → Prop := fun _ st oc t => match o with
  | .inl r => oc = .returned (r.map (ge hs)) ∧ va_P D vwCl (wsO hs cI cL cS T σ) t.heap ∧ va_F (fun q => hs ≤ q) st t
  | .inr _ => False
def XcE (hs : Nat) (D : va_G) (cI cL cS : ClassId) (o : Option Value ⊕ Nat) (T : Tb) (σ : Mm) : String → State → State → Prop := fun E st t => match o with
  | .inl _ => False
  | .inr e => E = exName e ∧ va_P D vwCl (wsO hs cI cL cS T σ) t.heap ∧ va_F (fun q => hs ≤ q) st t
def PreE (hs : Nat) (D : va_G) (cI cL cS : ClassId) (as : List Value) (T : Tb) (σ : Mm) : Array Value → State → Prop := va_Pc (as.map (ge hs)) (fun U => va_P D vwCl (wsO hs cI cL cS T σ) U.heap ∧ WK D cI cL cS U ∧ WZ hs U U.heap ∧ hs ≤ U.heap.size)
/-- THE CONTRACT: called with as at T, σ the method ends with o at T', σ' -/
def Ev (w0 : Cond) (y : MethodName) (rm : Room) (T : Tb) (as : List Value) (σ : Mm) (o : Option Value ⊕ Nat) (T' : Tb) (σ' : Mm) : Prop :=
  ∀ (l : Launch), l.stackTraces = false → ∀ (hs : Nat) (D : va_G) (cI cL cS : ClassId), vx_Met l y (w0 :: GW) rm (PreE hs D cI cL cS as T σ) (QcE hs D cI cL cS o T' σ') (XcE hs D cI cL cS o T' σ') rm.cells rm.slots (fun q => hs ≤ q)
/-- THE JUDGEMENT: from pc with locals lo, stack st, at T, σ, the machine comes to Qf; ex: the number of cells made is exact -/
def RnQ (y : MethodName) (cc : ByteArray) (maxL : Nat) (ret : Option FieldType) (et : List ExceptionTableEntry) (rm : Room) (Qf : List Frame → Array Value → State → Nat → va_G → ClassId → ClassId → ClassId → State → Prop) (Xf : State → Nat → Prop) (ex : Bool) (k n : Nat) (T : Tb) (pc : Nat) (lo : List (Option Value)) (st : List Value) (σ : Mm) : Prop :=
  ∀ (p : Program) (l : Launch) (e : Env) (s : State) (m : MethodId) (args : Array Value) (below : List Frame) (meth : Method) (c : Code) (hs : Nat) (D : va_G) (cI cL cS : ClassId) (H : Heap) (locs : List Loc) (ls : Array Slot),
    Ctx y cc maxL ret et p l s m args meth c hs D cI cL cS → Xf s hs → (ex = true → s.heap.size + k = hs + T.length) → va_P D vwCl (wsO hs cI cL cS T σ) H → va_S (fun q => hs ≤ q) s.heap H locs → Lr hs ls maxL lo →
    W p l e rm s m args below meth c H locs k n (Qf below args s hs D cI cL cS) (F0 m pc ls (st.map (ge hs)))
/-- .. of a method's own end with o at T', σ' -/
abbrev QfE (rm : Room) (o : Option Value ⊕ Nat) (T' : Tb) (σ' : Mm) : List Frame → Array Value → State → Nat → va_G → ClassId → ClassId → ClassId → State → Prop := fun below args s hs D cI cL cS => vx_MQ below (QcE hs D cI cL cS o T' σ') (XcE hs D cI cL cS o T' σ') args s rm.cells rm.slots (fun q => hs ≤ q)
abbrev Rn (y : MethodName) (cc : ByteArray) (maxL : Nat) (ret : Option FieldType) (et : List ExceptionTableEntry) (rm : Room) (o : Option Value ⊕ Nat) (T' : Tb) (σ' : Mm) (ex : Bool) (k n : Nat) (T : Tb) (pc : Nat) (lo : List (Option Value)) (st : List Value) (σ : Mm) : Prop := RnQ y cc maxL ret et rm (QfE rm o T' σ') (fun _ _ => True) ex k n T pc lo st σ
section RnRows
variable {yy : MethodName} {cc : ByteArray} {maxL : Nat} {ret : Option FieldType} {et : List ExceptionTableEntry} {rm : Room} {Qf : List Frame → Array Value → State → Nat → va_G → ClassId → ClassId → ClassId → State → Prop} {Xf : State → Nat → Prop} {ex : Bool} {k n : Nat} {T : Tb} {pc : Nat} {lo : List (Option Value)} {st : List Value} {σ : Mm}
theorem rn_sub {lo' : List (Option Value)} (kk : RnQ yy cc maxL ret et rm Qf Xf ex k n T pc lo' st σ) (h : subLo lo' lo) : RnQ yy cc maxL ret et rm Qf Xf ex k n T pc lo st σ := fun p l e s m args below meth c hs D cI cL cS H locs ls hC hX hZ hP hS hL => kk p l e s m args below meth c hs D cI cL cS H locs ls hC hX hZ hP hS (hL.sub h)
theorem rn_pc {pc' : Nat} (kk : RnQ yy cc maxL ret et rm Qf Xf ex k n T pc' lo st σ) (h : pc = pc') : RnQ yy cc maxL ret et rm Qf Xf ex k n T pc lo st σ := h ▸ kk
theorem rn_iadd {x y : Int32} (d : decode cc pc = .ok (.iadd, 1)) (kk : RnQ yy cc maxL ret et rm Qf Xf ex k n T (pc + 1) lo (.int (x + y) :: st) σ) : RnQ yy cc maxL ret et rm Qf Xf ex k n T pc lo (.int y :: .int x :: st) σ := fun p l e s m args below meth c hs D cI cL cS H locs ls hC hX hZ hP hS hL => lv_iadd hC.x hC.b d (kk p l e s m args below meth c hs D cI cL cS H locs ls hC hX hZ hP hS hL)
theorem rn_isub {x y : Int32} (d : decode cc pc = .ok (.isub, 1)) (kk : RnQ yy cc maxL ret et rm Qf Xf ex k n T (pc + 1) lo (.int (x - y) :: st) σ) : RnQ yy cc maxL ret et rm Qf Xf ex k n T pc lo (.int y :: .int x :: st) σ := fun p l e s m args below meth c hs D cI cL cS H locs ls hC hX hZ hP hS hL => lv_isub hC.x hC.b d (kk p l e s m args below meth c hs D cI cL cS H locs ls hC hX hZ hP hS hL)
theorem rn_imul {x y : Int32} (d : decode cc pc = .ok (.imul, 1)) (kk : RnQ yy cc maxL ret et rm Qf Xf ex k n T (pc + 1) lo (.int (x * y) :: st) σ) : RnQ yy cc maxL ret et rm Qf Xf ex k n T pc lo (.int y :: .int x :: st) σ := fun p l e s m args below meth c hs D cI cL cS H locs ls hC hX hZ hP hS hL => lv_imul hC.x hC.b d (kk p l e s m args below meth c hs D cI cL cS H locs ls hC hX hZ hP hS hL)
theorem rn_iand {x y : Int32} (d : decode cc pc = .ok (.iand, 1)) (kk : RnQ yy cc maxL ret et rm Qf Xf ex k n T (pc + 1) lo (.int (x &&& y) :: st) σ) : RnQ yy cc maxL ret et rm Qf Xf ex k n T pc lo (.int y :: .int x :: st) σ := fun p l e s m args below meth c hs D cI cL cS H locs ls hC hX hZ hP hS hL => lv_iand hC.x hC.b d (kk p l e s m args below meth c hs D cI cL cS H locs ls hC hX hZ hP hS hL)
theorem rn_idiv {x y : Int32} (hy : ¬ y = 0) (d : decode cc pc = .ok (.idiv, 1)) (kk : RnQ yy cc maxL ret et rm Qf Xf ex k n T (pc + 1) lo (.int (x / y) :: st) σ) : RnQ yy cc maxL ret et rm Qf Xf ex k n T pc lo (.int y :: .int x :: st) σ := fun p l e s m args below meth c hs D cI cL cS H locs ls hC hX hZ hP hS hL => lv_idiv hC.x hC.b d hy (kk p l e s m args below meth c hs D cI cL cS H locs ls hC hX hZ hP hS hL)
theorem rn_irem {x y : Int32} (hy : ¬ y = 0) (d : decode cc pc = .ok (.irem, 1)) (kk : RnQ yy cc maxL ret et rm Qf Xf ex k n T (pc + 1) lo (.int (x - x / y * y) :: st) σ) : RnQ yy cc maxL ret et rm Qf Xf ex k n T pc lo (.int y :: .int x :: st) σ := fun p l e s m args below meth c hs D cI cL cS H locs ls hC hX hZ hP hS hL => lv_irem hC.x hC.b d hy (kk p l e s m args below meth c hs D cI cL cS H locs ls hC hX hZ hP hS hL)
theorem rn_ineg {x : Int32} (d : decode cc pc = .ok (.ineg, 1)) (kk : RnQ yy cc maxL ret et rm Qf Xf ex k n T (pc + 1) lo (.int (-x) :: st) σ) : RnQ yy cc maxL ret et rm Qf Xf ex k n T pc lo (.int x :: st) σ := fun p l e s m args below meth c hs D cI cL cS H locs ls hC hX hZ hP hS hL => lv_ineg hC.x hC.b d (kk p l e s m args below meth c hs D cI cL cS H locs ls hC hX hZ hP hS hL)
theorem rn_ladd {x y : Int64} (d : decode cc pc = .ok (.ladd, 1)) (kk : RnQ yy cc maxL ret et rm Qf Xf ex k n T (pc + 1) lo (.long (x + y) :: st) σ) : RnQ yy cc maxL ret et rm Qf Xf ex k n T pc lo (.long y :: .long x :: st) σ := fun p l e s m args below meth c hs D cI cL cS H locs ls hC hX hZ hP hS hL => lv_ladd hC.x hC.b d (kk p l e s m args below meth c hs D cI cL cS H locs ls hC hX hZ hP hS hL)
theorem rn_lsub {x y : Int64} (d : decode cc pc = .ok (.lsub, 1)) (kk : RnQ yy cc maxL ret et rm Qf Xf ex k n T (pc + 1) lo (.long (x - y) :: st) σ) : RnQ yy cc maxL ret et rm Qf Xf ex k n T pc lo (.long y :: .long x :: st) σ := fun p l e s m args below meth c hs D cI cL cS H locs ls hC hX hZ hP hS hL => lv_lsub hC.x hC.b d (kk p l e s m args below meth c hs D cI cL cS H locs ls hC hX hZ hP hS hL)
theorem rn_lmul {x y : Int64} (d : decode cc pc = .ok (.lmul, 1)) (kk : RnQ yy cc maxL ret et rm Qf Xf ex k n T (pc + 1) lo (.long (x * y) :: st) σ) : RnQ yy cc maxL ret et rm Qf Xf ex k n T pc lo (.long y :: .long x :: st) σ := fun p l e s m args below meth c hs D cI cL cS H locs ls hC hX hZ hP hS hL => lv_lmul hC.x hC.b d (kk p l e s m args below meth c hs D cI cL cS H locs ls hC hX hZ hP hS hL)
theorem rn_lshl {x : Int64} {y : Int32} (d : decode cc pc = .ok (.lshl, 1)) (kk : RnQ yy cc maxL ret et rm Qf Xf ex k n T (pc + 1) lo (.long (x <<< (y.toInt64 &&& 63)) :: st) σ) : RnQ yy cc maxL ret et rm Qf Xf ex k n T pc lo (.int y :: .long x :: st) σ := fun p l e s m args below meth c hs D cI cL cS H locs ls hC hX hZ hP hS hL => lv_lshl hC.x hC.b d rfl (kk p l e s m args below meth c hs D cI cL cS H locs ls hC hX hZ hP hS hL)
theorem rn_i2l {x : Int32} (d : decode cc pc = .ok (.i2l, 1)) (kk : RnQ yy cc maxL ret et rm Qf Xf ex k n T (pc + 1) lo (.long x.toInt64 :: st) σ) : RnQ yy cc maxL ret et rm Qf Xf ex k n T pc lo (.int x :: st) σ := fun p l e s m args below meth c hs D cI cL cS H locs ls hC hX hZ hP hS hL => lv_i2l hC.x hC.b d rfl (kk p l e s m args below meth c hs D cI cL cS H locs ls hC hX hZ hP hS hL)
theorem rn_i2d {x : Int32} (d : decode cc pc = .ok (.i2d, 1)) (kk : RnQ yy cc maxL ret et rm Qf Xf ex k n T (pc + 1) lo (.double (FP.i2d x) :: st) σ) : RnQ yy cc maxL ret et rm Qf Xf ex k n T pc lo (.int x :: st) σ := fun p l e s m args below meth c hs D cI cL cS H locs ls hC hX hZ hP hS hL => lv_i2d hC.x hC.b d (kk p l e s m args below meth c hs D cI cL cS H locs ls hC hX hZ hP hS hL)
theorem rn_d2l {x : UInt64} (d : decode cc pc = .ok (.d2l, 1)) (kk : RnQ yy cc maxL ret et rm Qf Xf ex k n T (pc + 1) lo (.long (FP.d2l x) :: st) σ) : RnQ yy cc maxL ret et rm Qf Xf ex k n T pc lo (.double x :: st) σ := fun p l e s m args below meth c hs D cI cL cS H locs ls hC hX hZ hP hS hL => lv_d2l hC.x hC.b d (kk p l e s m args below meth c hs D cI cL cS H locs ls hC hX hZ hP hS hL)
theorem rn_ddiv {x y : UInt64} (hy : vf_n64 (FP.ddiv x y)) (d : decode cc pc = .ok (.ddiv, 1)) (kk : RnQ yy cc maxL ret et rm Qf Xf ex k n T (pc + 1) lo (.double (FP.ddiv x y) :: st) σ) : RnQ yy cc maxL ret et rm Qf Xf ex k n T pc lo (.double y :: .double x :: st) σ := fun p l e s m args below meth c hs D cI cL cS H locs ls hC hX hZ hP hS hL => lv_ddiv hC.x hC.b d hy (kk p l e s m args below meth c hs D cI cL cS H locs ls hC hX hZ hP hS hL)
theorem rn_dmul {x y : UInt64} (hy : vf_n64 (FP.dmul x y)) (d : decode cc pc = .ok (.dmul, 1)) (kk : RnQ yy cc maxL ret et rm Qf Xf ex k n T (pc + 1) lo (.double (FP.dmul x y) :: st) σ) : RnQ yy cc maxL ret et rm Qf Xf ex k n T pc lo (.double y :: .double x :: st) σ := fun p l e s m args below meth c hs D cI cL cS H locs ls hC hX hZ hP hS hL => lv_dmul hC.x hC.b d hy (kk p l e s m args below meth c hs D cI cL cS H locs ls hC hX hZ hP hS hL)
theorem rn_dsub {x y : UInt64} (hy : vf_n64 (FP.dsub x y)) (d : decode cc pc = .ok (.dsub, 1)) (kk : RnQ yy cc maxL ret et rm Qf Xf ex k n T (pc + 1) lo (.double (FP.dsub x y) :: st) σ) : RnQ yy cc maxL ret et rm Qf Xf ex k n T pc lo (.double y :: .double x :: st) σ := fun p l e s m args below meth c hs D cI cL cS H locs ls hC hX hZ hP hS hL => lv_dsub hC.x hC.b d hy (kk p l e s m args below meth c hs D cI cL cS H locs ls hC hX hZ hP hS hL)
theorem rn_dcmp {x y : UInt64} {op : CmpOp} (d : decode cc pc = .ok (.dcmp op, 1)) (kk : RnQ yy cc maxL ret et rm Qf Xf ex k n T (pc + 1) lo (.int (Op.cmpValue (FP.dcmp x y) op) :: st) σ) : RnQ yy cc maxL ret et rm Qf Xf ex k n T pc lo (.double y :: .double x :: st) σ := fun p l e s m args below meth c hs D cI cL cS H locs ls hC hX hZ hP hS hL => lv_dcmp hC.x hC.b d (kk p l e s m args below meth c hs D cI cL cS H locs ls hC hX hZ hP hS hL)
theorem rn_lcmp {x y : Int64} (d : decode cc pc = .ok (.lcmp, 1)) (kk : RnQ yy cc maxL ret et rm Qf Xf ex k n T (pc + 1) lo (.int (lg_cmp x y) :: st) σ) : RnQ yy cc maxL ret et rm Qf Xf ex k n T pc lo (.long y :: .long x :: st) σ := fun p l e s m args below meth c hs D cI cL cS H locs ls hC hX hZ hP hS hL => W.lcmp hC.x hC.b d (kk p l e s m args below meth c hs D cI cL cS H locs ls hC hX hZ hP hS hL)
theorem rn_iconst {i : Int} {v : Int32} (d : decode cc pc = .ok (.iconst i, 1)) (hv : Int32.ofInt i = v) (kk : RnQ yy cc maxL ret et rm Qf Xf ex k n T (pc + 1) lo (.int v :: st) σ) : RnQ yy cc maxL ret et rm Qf Xf ex k n T pc lo (st) σ := fun p l e s m args below meth c hs D cI cL cS H locs ls hC hX hZ hP hS hL => lv_iconst hC.x hC.b d hv (kk p l e s m args below meth c hs D cI cL cS H locs ls hC hX hZ hP hS hL)
theorem rn_bipush {i : Int} {v : Int32} (d : decode cc pc = .ok (.bipush i, 2)) (hv : (Int8.ofInt i).toInt32 = v) (kk : RnQ yy cc maxL ret et rm Qf Xf ex k n T (pc + 2) lo (.int v :: st) σ) : RnQ yy cc maxL ret et rm Qf Xf ex k n T pc lo (st) σ := fun p l e s m args below meth c hs D cI cL cS H locs ls hC hX hZ hP hS hL => lv_bipush hC.x hC.b d hv (kk p l e s m args below meth c hs D cI cL cS H locs ls hC hX hZ hP hS hL)
theorem rn_sipush {i : Int} {v : Int32} (d : decode cc pc = .ok (.sipush i, 3)) (hv : (Int16.ofInt i).toInt32 = v) (kk : RnQ yy cc maxL ret et rm Qf Xf ex k n T (pc + 3) lo (.int v :: st) σ) : RnQ yy cc maxL ret et rm Qf Xf ex k n T pc lo (st) σ := fun p l e s m args below meth c hs D cI cL cS H locs ls hC hX hZ hP hS hL => lv_sipush hC.x hC.b d hv (kk p l e s m args below meth c hs D cI cL cS H locs ls hC hX hZ hP hS hL)
theorem rn_lconst {i : Fin 2} {v : Int64} (d : decode cc pc = .ok (.lconst i, 1)) (hv : Int64.ofNat (i : Nat) = v) (kk : RnQ yy cc maxL ret et rm Qf Xf ex k n T (pc + 1) lo (.long v :: st) σ) : RnQ yy cc maxL ret et rm Qf Xf ex k n T pc lo (st) σ := fun p l e s m args below meth c hs D cI cL cS H locs ls hC hX hZ hP hS hL => lv_lconst hC.x hC.b d hv (kk p l e s m args below meth c hs D cI cL cS H locs ls hC hX hZ hP hS hL)
theorem rn_dconst0  (d : decode cc pc = .ok (.dconst 0, 1)) (kk : RnQ yy cc maxL ret et rm Qf Xf ex k n T (pc + 1) lo (.double FP.dconst0 :: st) σ) : RnQ yy cc maxL ret et rm Qf Xf ex k n T pc lo (st) σ := fun p l e s m args below meth c hs D cI cL cS H locs ls hC hX hZ hP hS hL => lv_dconst0 hC.x hC.b d (kk p l e s m args below meth c hs D cI cL cS H locs ls hC hX hZ hP hS hL)
theorem rn_dconst1  (d : decode cc pc = .ok (.dconst 1, 1)) (kk : RnQ yy cc maxL ret et rm Qf Xf ex k n T (pc + 1) lo (.double FP.dconst1 :: st) σ) : RnQ yy cc maxL ret et rm Qf Xf ex k n T pc lo (st) σ := fun p l e s m args below meth c hs D cI cL cS H locs ls hC hX hZ hP hS hL => lv_dconst1 hC.x hC.b d (kk p l e s m args below meth c hs D cI cL cS H locs ls hC hX hZ hP hS hL)
theorem rn_aconst_null  (d : decode cc pc = .ok (.aconst_null, 1)) (kk : RnQ yy cc maxL ret et rm Qf Xf ex k n T (pc + 1) lo (.null :: st) σ) : RnQ yy cc maxL ret et rm Qf Xf ex k n T pc lo (st) σ := fun p l e s m args below meth c hs D cI cL cS H locs ls hC hX hZ hP hS hL => lv_null hC.x hC.b d (kk p l e s m args below meth c hs D cI cL cS H locs ls hC hX hZ hP hS hL)
theorem rn_dup {v : Value} (d : decode cc pc = .ok (.dup, 1)) (hv : v.category = 1) (kk : RnQ yy cc maxL ret et rm Qf Xf ex k n T (pc + 1) lo (v :: v :: st) σ) : RnQ yy cc maxL ret et rm Qf Xf ex k n T pc lo (v :: st) σ := fun p l e s m args below meth c hs D cI cL cS H locs ls hC hX hZ hP hS hL => lv_dup hC.x hC.b d ((ge_cat hs v).trans hv) (kk p l e s m args below meth c hs D cI cL cS H locs ls hC hX hZ hP hS hL)
theorem rn_pop {v : Value} (d : decode cc pc = .ok (.pop, 1)) (hv : v.category = 1) (kk : RnQ yy cc maxL ret et rm Qf Xf ex k n T (pc + 1) lo (st) σ) : RnQ yy cc maxL ret et rm Qf Xf ex k n T pc lo (v :: st) σ := fun p l e s m args below meth c hs D cI cL cS H locs ls hC hX hZ hP hS hL => lv_pop hC.x hC.b d ((ge_cat hs v).trans hv) (kk p l e s m args below meth c hs D cI cL cS H locs ls hC hX hZ hP hS hL)
theorem rn_dup2 {v w : Value} (d : decode cc pc = .ok (.dup2, 1)) (hv : v.category = 1) (hw : w.category = 1) (kk : RnQ yy cc maxL ret et rm Qf Xf ex k n T (pc + 1) lo (v :: w :: v :: w :: st) σ) : RnQ yy cc maxL ret et rm Qf Xf ex k n T pc lo (v :: w :: st) σ := fun p l e s m args below meth c hs D cI cL cS H locs ls hC hX hZ hP hS hL => lv_dup2_11 hC.x hC.b d ((ge_cat hs v).trans hv) ((ge_cat hs w).trans hw) (kk p l e s m args below meth c hs D cI cL cS H locs ls hC hX hZ hP hS hL)
theorem rn_iload_n {j : Fin 4} {i : Nat} {x : Int32} (d : decode cc pc = .ok (.iload_n j, 1)) (hi : (j : Nat) = i) (hl : lo[i]? = some (some (.int x))) (kk : RnQ yy cc maxL ret et rm Qf Xf ex k n T (pc + 1) lo (.int x :: st) σ) : RnQ yy cc maxL ret et rm Qf Xf ex k n T pc lo st σ := fun p l e s m args below meth c hs D cI cL cS H locs ls hC hX hZ hP hS hL => lv_iload_n hC.x hC.b d hi (hL.at hl) (kk p l e s m args below meth c hs D cI cL cS H locs ls hC hX hZ hP hS hL)
theorem rn_iload {i : Nat} {x : Int32} (d : decode cc pc = .ok (.iload i, 2)) (hl : lo[i]? = some (some (.int x))) (kk : RnQ yy cc maxL ret et rm Qf Xf ex k n T (pc + 2) lo (.int x :: st) σ) : RnQ yy cc maxL ret et rm Qf Xf ex k n T pc lo st σ := fun p l e s m args below meth c hs D cI cL cS H locs ls hC hX hZ hP hS hL => lv_iload hC.x hC.b d (hL.at hl) (kk p l e s m args below meth c hs D cI cL cS H locs ls hC hX hZ hP hS hL)
theorem rn_lload_n {j : Fin 4} {i : Nat} {x : Int64} (d : decode cc pc = .ok (.lload_n j, 1)) (hi : (j : Nat) = i) (hl : lo[i]? = some (some (.long x))) (kk : RnQ yy cc maxL ret et rm Qf Xf ex k n T (pc + 1) lo (.long x :: st) σ) : RnQ yy cc maxL ret et rm Qf Xf ex k n T pc lo st σ := fun p l e s m args below meth c hs D cI cL cS H locs ls hC hX hZ hP hS hL => lv_lload_n hC.x hC.b d hi (hL.at hl) (kk p l e s m args below meth c hs D cI cL cS H locs ls hC hX hZ hP hS hL)
theorem rn_lload {i : Nat} {x : Int64} (d : decode cc pc = .ok (.lload i, 2)) (hl : lo[i]? = some (some (.long x))) (kk : RnQ yy cc maxL ret et rm Qf Xf ex k n T (pc + 2) lo (.long x :: st) σ) : RnQ yy cc maxL ret et rm Qf Xf ex k n T pc lo st σ := fun p l e s m args below meth c hs D cI cL cS H locs ls hC hX hZ hP hS hL => lv_lload hC.x hC.b d (hL.at hl) (kk p l e s m args below meth c hs D cI cL cS H locs ls hC hX hZ hP hS hL)
theorem rn_dload_n {j : Fin 4} {i : Nat} {x : UInt64} (d : decode cc pc = .ok (.dload_n j, 1)) (hi : (j : Nat) = i) (hl : lo[i]? = some (some (.double x))) (kk : RnQ yy cc maxL ret et rm Qf Xf ex k n T (pc + 1) lo (.double x :: st) σ) : RnQ yy cc maxL ret et rm Qf Xf ex k n T pc lo st σ := fun p l e s m args below meth c hs D cI cL cS H locs ls hC hX hZ hP hS hL => lv_dload_n hC.x hC.b d hi (hL.at hl) (kk p l e s m args below meth c hs D cI cL cS H locs ls hC hX hZ hP hS hL)
theorem rn_dload {i : Nat} {x : UInt64} (d : decode cc pc = .ok (.dload i, 2)) (hl : lo[i]? = some (some (.double x))) (kk : RnQ yy cc maxL ret et rm Qf Xf ex k n T (pc + 2) lo (.double x :: st) σ) : RnQ yy cc maxL ret et rm Qf Xf ex k n T pc lo st σ := fun p l e s m args below meth c hs D cI cL cS H locs ls hC hX hZ hP hS hL => lv_dload hC.x hC.b d (hL.at hl) (kk p l e s m args below meth c hs D cI cL cS H locs ls hC hX hZ hP hS hL)
theorem rn_aload_n {j : Fin 4} {i : Nat} {x : Nat} (d : decode cc pc = .ok (.aload_n j, 1)) (hi : (j : Nat) = i) (hl : lo[i]? = some (some (.ref x))) (kk : RnQ yy cc maxL ret et rm Qf Xf ex k n T (pc + 1) lo (.ref x :: st) σ) : RnQ yy cc maxL ret et rm Qf Xf ex k n T pc lo st σ := fun p l e s m args below meth c hs D cI cL cS H locs ls hC hX hZ hP hS hL => lv_aload_n hC.x hC.b d hi (hL.at hl) (kk p l e s m args below meth c hs D cI cL cS H locs ls hC hX hZ hP hS hL)
theorem rn_aload {i : Nat} {x : Nat} (d : decode cc pc = .ok (.aload i, 2)) (hl : lo[i]? = some (some (.ref x))) (kk : RnQ yy cc maxL ret et rm Qf Xf ex k n T (pc + 2) lo (.ref x :: st) σ) : RnQ yy cc maxL ret et rm Qf Xf ex k n T pc lo st σ := fun p l e s m args below meth c hs D cI cL cS H locs ls hC hX hZ hP hS hL => lv_aload hC.x hC.b d (hL.at hl) (kk p l e s m args below meth c hs D cI cL cS H locs ls hC hX hZ hP hS hL)
theorem rn_aload_nN {j : Fin 4} {i : Nat} (d : decode cc pc = .ok (.aload_n j, 1)) (hi : (j : Nat) = i) (hl : lo[i]? = some (some .null)) (kk : RnQ yy cc maxL ret et rm Qf Xf ex k n T (pc + 1) lo (.null :: st) σ) : RnQ yy cc maxL ret et rm Qf Xf ex k n T pc lo st σ := fun p l e s m args below meth c hs D cI cL cS H locs ls hC hX hZ hP hS hL => lv_aload_nN hC.x hC.b d hi (hL.at hl) (kk p l e s m args below meth c hs D cI cL cS H locs ls hC hX hZ hP hS hL)
theorem rn_istore_n {j : Fin 4} {i : Nat} {x : Int32} {lo' : List (Option Value)} (d : decode cc pc = .ok (.istore_n j, 1)) (hi : (j : Nat) = i) (hn : i < maxL) (hl : sto lo i (.int x) = lo') (kk : RnQ yy cc maxL ret et rm Qf Xf ex k n T (pc + 1) lo' st σ) : RnQ yy cc maxL ret et rm Qf Xf ex k n T pc lo (.int x :: st) σ := fun p l e s m args below meth c hs D cI cL cS H locs ls hC hX hZ hP hS hL => lv_istore_n hC.x hC.b d hi hL.has hn rfl (fun ls' h => kk p l e s m args below meth c hs D cI cL cS H locs ls' hC hX hZ hP hS (hl ▸ Lr_sto h))
theorem rn_istore {i : Nat} {x : Int32} {lo' : List (Option Value)} (d : decode cc pc = .ok (.istore i, 2)) (hn : i < maxL) (hl : sto lo i (.int x) = lo') (kk : RnQ yy cc maxL ret et rm Qf Xf ex k n T (pc + 2) lo' st σ) : RnQ yy cc maxL ret et rm Qf Xf ex k n T pc lo (.int x :: st) σ := fun p l e s m args below meth c hs D cI cL cS H locs ls hC hX hZ hP hS hL => lv_istore hC.x hC.b d hL.has hn rfl (fun ls' h => kk p l e s m args below meth c hs D cI cL cS H locs ls' hC hX hZ hP hS (hl ▸ Lr_sto h))
theorem rn_lstore_n {j : Fin 4} {i : Nat} {x : Int64} {lo' : List (Option Value)} (d : decode cc pc = .ok (.lstore_n j, 1)) (hi : (j : Nat) = i) (hn : i + 1 < maxL) (hl : sto2 lo i (.long x) = lo') (kk : RnQ yy cc maxL ret et rm Qf Xf ex k n T (pc + 1) lo' st σ) : RnQ yy cc maxL ret et rm Qf Xf ex k n T pc lo (.long x :: st) σ := fun p l e s m args below meth c hs D cI cL cS H locs ls hC hX hZ hP hS hL => lv_lstore_n hC.x hC.b d hi hL.has hn rfl (fun ls' h => kk p l e s m args below meth c hs D cI cL cS H locs ls' hC hX hZ hP hS (hl ▸ Lr_sto2 h))
theorem rn_lstore {i : Nat} {x : Int64} {lo' : List (Option Value)} (d : decode cc pc = .ok (.lstore i, 2)) (hn : i + 1 < maxL) (hl : sto2 lo i (.long x) = lo') (kk : RnQ yy cc maxL ret et rm Qf Xf ex k n T (pc + 2) lo' st σ) : RnQ yy cc maxL ret et rm Qf Xf ex k n T pc lo (.long x :: st) σ := fun p l e s m args below meth c hs D cI cL cS H locs ls hC hX hZ hP hS hL => lv_lstore hC.x hC.b d hL.has hn rfl (fun ls' h => kk p l e s m args below meth c hs D cI cL cS H locs ls' hC hX hZ hP hS (hl ▸ Lr_sto2 h))
theorem rn_dstore_n {j : Fin 4} {i : Nat} {x : UInt64} {lo' : List (Option Value)} (d : decode cc pc = .ok (.dstore_n j, 1)) (hi : (j : Nat) = i) (hn : i + 1 < maxL) (hl : sto2 lo i (.double x) = lo') (kk : RnQ yy cc maxL ret et rm Qf Xf ex k n T (pc + 1) lo' st σ) : RnQ yy cc maxL ret et rm Qf Xf ex k n T pc lo (.double x :: st) σ := fun p l e s m args below meth c hs D cI cL cS H locs ls hC hX hZ hP hS hL => lv_dstore_n hC.x hC.b d hi hL.has hn rfl (fun ls' h => kk p l e s m args below meth c hs D cI cL cS H locs ls' hC hX hZ hP hS (hl ▸ Lr_sto2 h))
theorem rn_dstore {i : Nat} {x : UInt64} {lo' : List (Option Value)} (d : decode cc pc = .ok (.dstore i, 2)) (hn : i + 1 < maxL) (hl : sto2 lo i (.double x) = lo') (kk : RnQ yy cc maxL ret et rm Qf Xf ex k n T (pc + 2) lo' st σ) : RnQ yy cc maxL ret et rm Qf Xf ex k n T pc lo (.double x :: st) σ := fun p l e s m args below meth c hs D cI cL cS H locs ls hC hX hZ hP hS hL => lv_dstore hC.x hC.b d hL.has hn rfl (fun ls' h => kk p l e s m args below meth c hs D cI cL cS H locs ls' hC hX hZ hP hS (hl ▸ Lr_sto2 h))
theorem rn_astore_n {j : Fin 4} {i : Nat} {x : Nat} {lo' : List (Option Value)} (d : decode cc pc = .ok (.astore_n j, 1)) (hi : (j : Nat) = i) (hn : i < maxL) (hl : sto lo i (.ref x) = lo') (kk : RnQ yy cc maxL ret et rm Qf Xf ex k n T (pc + 1) lo' st σ) : RnQ yy cc maxL ret et rm Qf Xf ex k n T pc lo (.ref x :: st) σ := fun p l e s m args below meth c hs D cI cL cS H locs ls hC hX hZ hP hS hL => lv_astore_n hC.x hC.b d hi hL.has hn rfl (fun ls' h => kk p l e s m args below meth c hs D cI cL cS H locs ls' hC hX hZ hP hS (hl ▸ Lr_sto h))
theorem rn_astore {i : Nat} {x : Nat} {lo' : List (Option Value)} (d : decode cc pc = .ok (.astore i, 2)) (hn : i < maxL) (hl : sto lo i (.ref x) = lo') (kk : RnQ yy cc maxL ret et rm Qf Xf ex k n T (pc + 2) lo' st σ) : RnQ yy cc maxL ret et rm Qf Xf ex k n T pc lo (.ref x :: st) σ := fun p l e s m args below meth c hs D cI cL cS H locs ls hC hX hZ hP hS hL => lv_astore hC.x hC.b d hL.has hn rfl (fun ls' h => kk p l e s m args below meth c hs D cI cL cS H locs ls' hC hX hZ hP hS (hl ▸ Lr_sto h))
theorem rn_astore_nN {j : Fin 4} {i : Nat} {lo' : List (Option Value)} (d : decode cc pc = .ok (.astore_n j, 1)) (hi : (j : Nat) = i) (hn : i < maxL) (hl : sto lo i .null = lo') (kk : RnQ yy cc maxL ret et rm Qf Xf ex k n T (pc + 1) lo' st σ) : RnQ yy cc maxL ret et rm Qf Xf ex k n T pc lo (.null :: st) σ := fun p l e s m args below meth c hs D cI cL cS H locs ls hC hX hZ hP hS hL => lv_astore_nN hC.x hC.b d hi hL.has hn rfl (fun ls' h => kk p l e s m args below meth c hs D cI cL cS H locs ls' hC hX hZ hP hS (hl ▸ Lr_sto (v := .null) h))
theorem rn_iinc {i : Nat} {q : Int} {x v : Int32} {lo' : List (Option Value)} (d : decode cc pc = .ok (.iinc i q, 3)) (hx : lo[i]? = some (some (.int x))) (hv : x + Int32.ofInt q = v) (hn : i < maxL) (hl : sto lo i (.int v) = lo') (kk : RnQ yy cc maxL ret et rm Qf Xf ex k n T (pc + 3) lo' st σ) : RnQ yy cc maxL ret et rm Qf Xf ex k n T pc lo st σ := by
  intro p l e s m args below meth c hs D cI cL cS H locs ls hC hX hZ hP hS hL
  obtain ⟨j, hj⟩ := List.getElem?_of_mem (asc_mem.mpr ⟨.int x, hx, rfl⟩ : (i, ge hs (.int x)) ∈ asc hs lo)
  exact lv_iinc hC.x hC.b d hL.has hj hv hn rfl (fun ls' h => kk p l e s m args below meth c hs D cI cL cS H locs ls' hC hX hZ hP hS (hl ▸ Lr_sto (v := .int v) h))
theorem rn_if_eq {x : Int32} {off : Int} {tgt : Nat} (d : decode cc pc = .ok (.ifCond .eq off, 3)) (ht : (pc : Int) + off = (tgt : Int)) (kt : x = 0 → RnQ yy cc maxL ret et rm Qf Xf ex k n T tgt lo st σ) (kf : ¬ x = 0 → RnQ yy cc maxL ret et rm Qf Xf ex k n T (pc + 3) lo st σ) : RnQ yy cc maxL ret et rm Qf Xf ex k n T pc lo (.int x :: st) σ := fun p l e s m args below meth c hs D cI cL cS H locs ls hC hX hZ hP hS hL => lv_if_eq hC.x hC.b d ht (fun h => kt h p l e s m args below meth c hs D cI cL cS H locs ls hC hX hZ hP hS hL) (fun h => kf h p l e s m args below meth c hs D cI cL cS H locs ls hC hX hZ hP hS hL)
theorem rn_icmp_eq {x y : Int32} {off : Int} {tgt : Nat} (d : decode cc pc = .ok (.if_icmp .eq off, 3)) (ht : (pc : Int) + off = (tgt : Int)) (kt : x = y → RnQ yy cc maxL ret et rm Qf Xf ex k n T tgt lo st σ) (kf : ¬ x = y → RnQ yy cc maxL ret et rm Qf Xf ex k n T (pc + 3) lo st σ) : RnQ yy cc maxL ret et rm Qf Xf ex k n T pc lo (.int y :: .int x :: st) σ := fun p l e s m args below meth c hs D cI cL cS H locs ls hC hX hZ hP hS hL => lv_icmp_eq hC.x hC.b d ht (fun h => kt h p l e s m args below meth c hs D cI cL cS H locs ls hC hX hZ hP hS hL) (fun h => kf h p l e s m args below meth c hs D cI cL cS H locs ls hC hX hZ hP hS hL)
theorem rn_if_ne {x : Int32} {off : Int} {tgt : Nat} (d : decode cc pc = .ok (.ifCond .ne off, 3)) (ht : (pc : Int) + off = (tgt : Int)) (kt : ¬ x = 0 → RnQ yy cc maxL ret et rm Qf Xf ex k n T tgt lo st σ) (kf : x = 0 → RnQ yy cc maxL ret et rm Qf Xf ex k n T (pc + 3) lo st σ) : RnQ yy cc maxL ret et rm Qf Xf ex k n T pc lo (.int x :: st) σ := fun p l e s m args below meth c hs D cI cL cS H locs ls hC hX hZ hP hS hL => lv_if_ne hC.x hC.b d ht (fun h => kt h p l e s m args below meth c hs D cI cL cS H locs ls hC hX hZ hP hS hL) (fun h => kf h p l e s m args below meth c hs D cI cL cS H locs ls hC hX hZ hP hS hL)
theorem rn_icmp_ne {x y : Int32} {off : Int} {tgt : Nat} (d : decode cc pc = .ok (.if_icmp .ne off, 3)) (ht : (pc : Int) + off = (tgt : Int)) (kt : ¬ x = y → RnQ yy cc maxL ret et rm Qf Xf ex k n T tgt lo st σ) (kf : x = y → RnQ yy cc maxL ret et rm Qf Xf ex k n T (pc + 3) lo st σ) : RnQ yy cc maxL ret et rm Qf Xf ex k n T pc lo (.int y :: .int x :: st) σ := fun p l e s m args below meth c hs D cI cL cS H locs ls hC hX hZ hP hS hL => lv_icmp_ne hC.x hC.b d ht (fun h => kt h p l e s m args below meth c hs D cI cL cS H locs ls hC hX hZ hP hS hL) (fun h => kf h p l e s m args below meth c hs D cI cL cS H locs ls hC hX hZ hP hS hL)
theorem rn_if_lt {x : Int32} {off : Int} {tgt : Nat} (d : decode cc pc = .ok (.ifCond .lt off, 3)) (ht : (pc : Int) + off = (tgt : Int)) (kt : x < 0 → RnQ yy cc maxL ret et rm Qf Xf ex k n T tgt lo st σ) (kf : ¬ x < 0 → RnQ yy cc maxL ret et rm Qf Xf ex k n T (pc + 3) lo st σ) : RnQ yy cc maxL ret et rm Qf Xf ex k n T pc lo (.int x :: st) σ := fun p l e s m args below meth c hs D cI cL cS H locs ls hC hX hZ hP hS hL => lv_if_lt hC.x hC.b d ht (fun h => kt h p l e s m args below meth c hs D cI cL cS H locs ls hC hX hZ hP hS hL) (fun h => kf h p l e s m args below meth c hs D cI cL cS H locs ls hC hX hZ hP hS hL)
theorem rn_icmp_lt {x y : Int32} {off : Int} {tgt : Nat} (d : decode cc pc = .ok (.if_icmp .lt off, 3)) (ht : (pc : Int) + off = (tgt : Int)) (kt : x < y → RnQ yy cc maxL ret et rm Qf Xf ex k n T tgt lo st σ) (kf : ¬ x < y → RnQ yy cc maxL ret et rm Qf Xf ex k n T (pc + 3) lo st σ) : RnQ yy cc maxL ret et rm Qf Xf ex k n T pc lo (.int y :: .int x :: st) σ := fun p l e s m args below meth c hs D cI cL cS H locs ls hC hX hZ hP hS hL => lv_icmp_lt hC.x hC.b d ht (fun h => kt h p l e s m args below meth c hs D cI cL cS H locs ls hC hX hZ hP hS hL) (fun h => kf h p l e s m args below meth c hs D cI cL cS H locs ls hC hX hZ hP hS hL)
theorem rn_if_ge {x : Int32} {off : Int} {tgt : Nat} (d : decode cc pc = .ok (.ifCond .ge off, 3)) (ht : (pc : Int) + off = (tgt : Int)) (kt : 0 ≤ x → RnQ yy cc maxL ret et rm Qf Xf ex k n T tgt lo st σ) (kf : ¬ 0 ≤ x → RnQ yy cc maxL ret et rm Qf Xf ex k n T (pc + 3) lo st σ) : RnQ yy cc maxL ret et rm Qf Xf ex k n T pc lo (.int x :: st) σ := fun p l e s m args below meth c hs D cI cL cS H locs ls hC hX hZ hP hS hL => lv_if_ge hC.x hC.b d ht (fun h => kt h p l e s m args below meth c hs D cI cL cS H locs ls hC hX hZ hP hS hL) (fun h => kf h p l e s m args below meth c hs D cI cL cS H locs ls hC hX hZ hP hS hL)
theorem rn_icmp_ge {x y : Int32} {off : Int} {tgt : Nat} (d : decode cc pc = .ok (.if_icmp .ge off, 3)) (ht : (pc : Int) + off = (tgt : Int)) (kt : y ≤ x → RnQ yy cc maxL ret et rm Qf Xf ex k n T tgt lo st σ) (kf : ¬ y ≤ x → RnQ yy cc maxL ret et rm Qf Xf ex k n T (pc + 3) lo st σ) : RnQ yy cc maxL ret et rm Qf Xf ex k n T pc lo (.int y :: .int x :: st) σ := fun p l e s m args below meth c hs D cI cL cS H locs ls hC hX hZ hP hS hL => lv_icmp_ge hC.x hC.b d ht (fun h => kt h p l e s m args below meth c hs D cI cL cS H locs ls hC hX hZ hP hS hL) (fun h => kf h p l e s m args below meth c hs D cI cL cS H locs ls hC hX hZ hP hS hL)
theorem rn_if_gt {x : Int32} {off : Int} {tgt : Nat} (d : decode cc pc = .ok (.ifCond .gt off, 3)) (ht : (pc : Int) + off = (tgt : Int)) (kt : 0 < x → RnQ yy cc maxL ret et rm Qf Xf ex k n T tgt lo st σ) (kf : ¬ 0 < x → RnQ yy cc maxL ret et rm Qf Xf ex k n T (pc + 3) lo st σ) : RnQ yy cc maxL ret et rm Qf Xf ex k n T pc lo (.int x :: st) σ := fun p l e s m args below meth c hs D cI cL cS H locs ls hC hX hZ hP hS hL => lv_if_gt hC.x hC.b d ht (fun h => kt h p l e s m args below meth c hs D cI cL cS H locs ls hC hX hZ hP hS hL) (fun h => kf h p l e s m args below meth c hs D cI cL cS H locs ls hC hX hZ hP hS hL)
theorem rn_icmp_gt {x y : Int32} {off : Int} {tgt : Nat} (d : decode cc pc = .ok (.if_icmp .gt off, 3)) (ht : (pc : Int) + off = (tgt : Int)) (kt : y < x → RnQ yy cc maxL ret et rm Qf Xf ex k n T tgt lo st σ) (kf : ¬ y < x → RnQ yy cc maxL ret et rm Qf Xf ex k n T (pc + 3) lo st σ) : RnQ yy cc maxL ret et rm Qf Xf ex k n T pc lo (.int y :: .int x :: st) σ := fun p l e s m args below meth c hs D cI cL cS H locs ls hC hX hZ hP hS hL => lv_icmp_gt hC.x hC.b d ht (fun h => kt h p l e s m args below meth c hs D cI cL cS H locs ls hC hX hZ hP hS hL) (fun h => kf h p l e s m args below meth c hs D cI cL cS H locs ls hC hX hZ hP hS hL)
theorem rn_if_le {x : Int32} {off : Int} {tgt : Nat} (d : decode cc pc = .ok (.ifCond .le off, 3)) (ht : (pc : Int) + off = (tgt : Int)) (kt : x ≤ 0 → RnQ yy cc maxL ret et rm Qf Xf ex k n T tgt lo st σ) (kf : ¬ x ≤ 0 → RnQ yy cc maxL ret et rm Qf Xf ex k n T (pc + 3) lo st σ) : RnQ yy cc maxL ret et rm Qf Xf ex k n T pc lo (.int x :: st) σ := fun p l e s m args below meth c hs D cI cL cS H locs ls hC hX hZ hP hS hL => lv_if_le hC.x hC.b d ht (fun h => kt h p l e s m args below meth c hs D cI cL cS H locs ls hC hX hZ hP hS hL) (fun h => kf h p l e s m args below meth c hs D cI cL cS H locs ls hC hX hZ hP hS hL)
theorem rn_icmp_le {x y : Int32} {off : Int} {tgt : Nat} (d : decode cc pc = .ok (.if_icmp .le off, 3)) (ht : (pc : Int) + off = (tgt : Int)) (kt : x ≤ y → RnQ yy cc maxL ret et rm Qf Xf ex k n T tgt lo st σ) (kf : ¬ x ≤ y → RnQ yy cc maxL ret et rm Qf Xf ex k n T (pc + 3) lo st σ) : RnQ yy cc maxL ret et rm Qf Xf ex k n T pc lo (.int y :: .int x :: st) σ := fun p l e s m args below meth c hs D cI cL cS H locs ls hC hX hZ hP hS hL => lv_icmp_le hC.x hC.b d ht (fun h => kt h p l e s m args below meth c hs D cI cL cS H locs ls hC hX hZ hP hS hL) (fun h => kf h p l e s m args below meth c hs D cI cL cS H locs ls hC hX hZ hP hS hL)
theorem rn_goto {off : Int} {tgt : Nat} (d : decode cc pc = .ok (.goto off, 3)) (ht : (pc : Int) + off = (tgt : Int)) (kk : RnQ yy cc maxL ret et rm Qf Xf ex k n T tgt lo st σ) : RnQ yy cc maxL ret et rm Qf Xf ex k n T pc lo st σ := fun p l e s m args below meth c hs D cI cL cS H locs ls hC hX hZ hP hS hL => lv_goto hC.x hC.b d ht (kk p l e s m args below meth c hs D cI cL cS H locs ls hC hX hZ hP hS hL)
theorem rn_ifnull {x : Nat} {off : Int} (d : decode cc pc = .ok (.ifnull off, 3)) (kk : RnQ yy cc maxL ret et rm Qf Xf ex k n T (pc + 3) lo st σ) : RnQ yy cc maxL ret et rm Qf Xf ex k n T pc lo (.ref x :: st) σ := fun p l e s m args below meth c hs D cI cL cS H locs ls hC hX hZ hP hS hL => lv_ifnull hC.x hC.b d (kk p l e s m args below meth c hs D cI cL cS H locs ls hC hX hZ hP hS hL)
theorem rn_ifnullN {off : Int} {tgt : Nat} (d : decode cc pc = .ok (.ifnull off, 3)) (ht : (pc : Int) + off = (tgt : Int)) (kk : RnQ yy cc maxL ret et rm Qf Xf ex k n T tgt lo st σ) : RnQ yy cc maxL ret et rm Qf Xf ex k n T pc lo (.null :: st) σ := fun p l e s m args below meth c hs D cI cL cS H locs ls hC hX hZ hP hS hL => lv_ifnullN hC.x hC.b d ht (kk p l e s m args below meth c hs D cI cL cS H locs ls hC hX hZ hP hS hL)
end RnRows
