/-- a field: the pool's entry `index` of class own is the field j of the class ci -/
def FL (own : String) (index ci j : Nat) : Prop := ∃ (C : String) (TT : u_T) (N : Nat), vwCl[ci]? = some (C, TT, N) ∧ j < N ∧ (∀ w ∈ u_ws C TT N, w ∈ GW) ∧ (Cond.fieldLink own index (TT j).1 (TT j).2.1 (TT j).2.2.1 ∈ GW ∨ ∃ host : String, (own, index, (TT j).1, (TT j).2.1, (TT j).2.2.1, host) ∈ nestF)
/-- .. that may be written, of the type ty -/
def FW (own : String) (index ci j : Nat) (ty : FieldType) : Prop := ∃ (C : String) (TT : u_T) (N : Nat) (ty0 : Nat → FieldType), vwCl[ci]? = some (C, TT, N) ∧ j < N ∧ (∀ w ∈ u_ws C TT N, w ∈ GW) ∧ (Cond.fieldLink own index (TT j).1 (TT j).2.1 (TT j).2.2.1 ∈ GW ∨ ∃ host : String, (own, index, (TT j).1, (TT j).2.1, (TT j).2.2.1, host) ∈ nestF) ∧ (∀ k, k < N → parseFieldDescriptor (TT k).2.2.1 = some (ty0 k)) ∧ (∀ a, a < N → ∀ b, b < N → a ≠ b → (TT a).2.1 ≠ (TT b).2.1) ∧ (TT j).2.2.2 = false ∧ parseFieldDescriptor (TT j).2.2.1 = some ty
/-- .. a final one, written in its own constructor -/
def FF (own : String) (index ci j : Nat) (ty : FieldType) : Prop := ∃ (C : String) (TT : u_T) (N : Nat) (ty0 : Nat → FieldType), vwCl[ci]? = some (C, TT, N) ∧ j < N ∧ (∀ w ∈ u_ws C TT N, w ∈ GW) ∧ Cond.fieldLink own index (TT j).1 (TT j).2.1 (TT j).2.2.1 ∈ GW ∧ (∀ k, k < N → parseFieldDescriptor (TT k).2.2.1 = some (ty0 k)) ∧ (∀ a, a < N → ∀ b, b < N → a ≠ b → (TT a).2.1 ≠ (TT b).2.1) ∧ (TT j).2.2.2 = true ∧ (TT j).1 = own ∧ parseFieldDescriptor (TT j).2.2.1 = some ty
section RnRows2
variable {yy : MethodName} {cc : ByteArray} {maxL : Nat} {ret : Option FieldType} {et : List ExceptionTableEntry} {rm : Room} {Qf : List Frame → Array Value → State → Nat → va_G → ClassId → ClassId → ClassId → State → Prop} {Xf : State → Nat → Prop} {ex : Bool} {k n : Nat} {T : Tb} {pc : Nat} {lo : List (Option Value)} {st : List Value} {σ : Mm}
theorem rn_get {index ci j b r : Nat} {fl : List Nat} (f : FL yy.cls index ci j) (hT : T[b]? = some (3, ci, fl)) (hl : fl[j]? = some r) {v : Value} (hv : ∀ hs : Nat, fval hs (σ b) j r = ge hs v) (d : decode cc pc = .ok (.getfield index, 3)) (kk : RnQ yy cc maxL ret et rm Qf Xf ex k n T (pc + 3) lo (v :: st) σ) : RnQ yy cc maxL ret et rm Qf Xf ex k n T pc lo (.ref b :: st) σ := by
  intro p l e s m args below meth c hs D cI cL cS H locs ls hC hX hZ hP hS hL
  obtain ⟨C, TT, N, hc, hj, hin, hlink⟩ := f
  have he : (wsO hs cI cL cS T σ)[b]? = some (hs + b, .inr (ci, fvs hs (σ b) fl)) := wsO_get hT
  have hg := fvs_get (hs := hs) (f := σ b) hl
  rw [hv hs] at hg
  rcases hlink with h | ⟨host, h⟩
  · exact va_get hC.x hC.b hC.ts hin hC.ow hC.wk.1 hP b he hc j hj (hC.ts _ h) (fun _ h => h) hg d (kk p l e s m args below meth c hs D cI cL cS H locs ls hC hX hZ hP hS hL)
  · exact va_getN hC.x hC.b hC.ts hin hC.ow hC.wk.1 hP b he hc j hj (va_Nw.use rfl (hC.wk.2.1 _ h)) (fun _ h => h) hg d (kk p l e s m args below meth c hs D cI cL cS H locs ls hC hX hZ hP hS hL)
theorem rn_getI {index ci j b : Nat} {fl : List Nat} (f : FL yy.cls index ci j) (hT : T[b]? = some (3, ci, fl)) (hl : fl[j]? = some 0) (d : decode cc pc = .ok (.getfield index, 3)) (kk : RnQ yy cc maxL ret et rm Qf Xf ex k n T (pc + 3) lo (.int (σ b j) :: st) σ) : RnQ yy cc maxL ret et rm Qf Xf ex k n T pc lo (.ref b :: st) σ := rn_get f hT hl (fun _ => rfl) d kk
theorem rn_getR {index ci j b r : Nat} {fl : List Nat} (f : FL yy.cls index ci j) (hT : T[b]? = some (3, ci, fl)) (hl : fl[j]? = some (r + 2)) (d : decode cc pc = .ok (.getfield index, 3)) (kk : RnQ yy cc maxL ret et rm Qf Xf ex k n T (pc + 3) lo (.ref r :: st) σ) : RnQ yy cc maxL ret et rm Qf Xf ex k n T pc lo (.ref b :: st) σ := rn_get f hT hl (fun _ => rfl) d kk
theorem rn_putI {index ci j b : Nat} {fl : List Nat} {ty : FieldType} {x : Int32} (f : FW yy.cls index ci j ty) (hT : T[b]? = some (3, ci, fl)) (hl : fl[j]? = some 0) (hn : narrow ty (.int x) = .int x) (hf : fits ty (.int x) = true) (d : decode cc pc = .ok (.putfield index, 3)) (kk : RnQ yy cc maxL ret et rm Qf Xf ex k n T (pc + 3) lo st (upM σ b j x)) : RnQ yy cc maxL ret et rm Qf Xf ex k n T pc lo (.int x :: .ref b :: st) σ := by
  intro p l e s m args below meth c hs D cI cL cS H locs ls hC hX hZ hP hS hL
  obtain ⟨C, TT, N, ty0, hc, hj, hin, hlink, hty, hnm, hfin, hd⟩ := f
  have he : (wsO hs cI cL cS T σ)[b]? = some (hs + b, .inr (ci, fvs hs (σ b) fl)) := wsO_get hT
  have hset : (wsO hs cI cL cS T σ).set b (hs + b, .inr (ci, (fvs hs (σ b) fl).set j (.int x))) = wsO hs cI cL cS T (upM σ b j x) := wsO_set hT j x (by rw [fvs_set hl]; rfl)
  have hlen : j < (fvs hs (σ b) fl).length := by rw [fvs_len]; exact (List.getElem?_eq_some_iff.mp hl).1
  rcases hlink with h | ⟨host, h⟩
  · exact va_put hC.x hC.b hC.ts hin ty0 hty hnm hC.ow hC.wk.1 hP wsO_D hS b he hc j hj (hC.ts _ h) (fun _ h => h) hfin hd hn hf hlen d (fun H1 locs1 hP1 _ hS1 => kk p l e s m args below meth c hs D cI cL cS H1 locs1 ls hC hX hZ (hset ▸ hP1) hS1 hL)
  · exact va_putN hC.x hC.b hC.ts hin ty0 hty hnm hC.ow hC.wk.1 hP wsO_D hS b he hc j hj (va_Nw.use rfl (hC.wk.2.1 _ h)) (fun _ h => h) hfin hd hn hf hlen d (fun H1 locs1 hP1 _ hS1 => kk p l e s m args below meth c hs D cI cL cS H1 locs1 ls hC hX hZ (hset ▸ hP1) hS1 hL)
theorem wsO_setR {hs : Nat} {cI cL cS : ClassId} {T : Tb} {σ : Mm} {b ci j r0 r : Nat} {fl : List Nat} (hT : T[b]? = some (3, ci, fl)) (hl : fl[j]? = some r0) : (wsO hs cI cL cS T σ).set b (hs + b, .inr (ci, (fvs hs (σ b) fl).set j (.ref (hs + r)))) = wsO hs cI cL cS (T.set b (3, ci, fl.set j (r + 2))) σ := by
  have hl2 := (List.getElem?_eq_some_iff.mp (wsO_get (hs := hs) (cI := cI) (cL := cL) (cS := cS) (σ := σ) hT)).1
  have hl3 := (List.getElem?_eq_some_iff.mp hT).1
  apply List.ext_getElem?
  intro i
  by_cases hi : i = b
  · subst hi
    rw [List.getElem?_set_self hl2, wsO_get (List.getElem?_set_self hl3), fvs_setR hl]
    rfl
  · rw [List.getElem?_set_ne (Ne.symm hi)]
    simp only [wsO, List.getElem?_mapIdx, List.getElem?_set_ne (Ne.symm hi)]
theorem rn_putF {index ci j b r r0 : Nat} {fl : List Nat} {ty : FieldType} (f : FF yy.cls index ci j ty) (hy : yy.name = "<init>") (hty : ty.isReference = true) (hT : T[b]? = some (3, ci, fl)) (hl : fl[j]? = some r0) (d : decode cc pc = .ok (.putfield index, 3)) (kk : RnQ yy cc maxL ret et rm Qf Xf ex k n (T.set b (3, ci, fl.set j (r + 2))) (pc + 3) lo st σ) : RnQ yy cc maxL ret et rm Qf Xf ex k n T pc lo (.ref r :: .ref b :: st) σ := by
  intro p l e s m args below meth c hs D cI cL cS H locs ls hC hX hZ hP hS hL
  obtain ⟨C, TT, N, ty0, hc, hj, hin, hlink, hty0, hnm, hfin, hdecl, hd⟩ := f
  have he : (wsO hs cI cL cS T σ)[b]? = some (hs + b, .inr (ci, fvs hs (σ b) fl)) := wsO_get hT
  have hlen : j < (fvs hs (σ b) fl).length := by rw [fvs_len]; exact (List.getElem?_eq_some_iff.mp hl).1
  exact va_putF hC.x hC.b hC.ts hin ty0 hty0 hnm hC.ow hC.wk.1 hP wsO_D hS b he hc j hj (hC.ts _ hlink) (fun _ h => h) hfin (hC.nm.trans hy) hdecl hd (by cases ty <;> first | rfl | cases hty) (by cases ty <;> first | rfl | cases hty) hlen d (fun H1 locs1 hP1 _ hS1 => kk p l e s m args below meth c hs D cI cL cS H1 locs1 ls hC hX (fun h => by rw [List.length_set]; exact hZ h) (wsO_setR hT hl ▸ hP1) hS1 hL)
theorem rn_iald {b q : Nat} {fl : List Nat} {i : Int32} (hT : T[b]? = some (0, q, fl)) (hi : vp_in i q) (d : decode cc pc = .ok (.iaload, 1)) (kk : RnQ yy cc maxL ret et rm Qf Xf ex k n T (pc + 1) lo (.int (σ b i.toNatClampNeg) :: st) σ) : RnQ yy cc maxL ret et rm Qf Xf ex k n T pc lo (.int i :: .ref b :: st) σ := fun p l e s m args below meth c hs D cI cL cS H locs ls hC hX hZ hP hS hL => 
  va_iald hC.x hC.b hC.wk.1 hP b 0 (wsO_get hT) rfl hi d (kk p l e s m args below meth c hs D cI cL cS H locs ls hC hX hZ hP hS hL)
theorem rn_iast {b q : Nat} {fl : List Nat} {i x : Int32} (hT : T[b]? = some (0, q, fl)) (hi : vp_in i q) (d : decode cc pc = .ok (.iastore, 1)) (kk : RnQ yy cc maxL ret et rm Qf Xf ex k n T (pc + 1) lo st (upM σ b i.toNatClampNeg x)) : RnQ yy cc maxL ret et rm Qf Xf ex k n T pc lo (.int x :: .int i :: .ref b :: st) σ := fun p l e s m args below meth c hs D cI cL cS H locs ls hC hX hZ hP hS hL => 
  va_iast hC.x hC.b hC.wk.1 hP wsO_D hS b 0 (wsO_get hT) rfl hi d (fun H1 locs1 hP1 _ hS1 => kk p l e s m args below meth c hs D cI cL cS H1 locs1 ls hC hX hZ (wsO_set hT i.toNatClampNeg x rfl ▸ hP1) hS1 hL)
theorem rn_alen {b q : Nat} {fl : List Nat} {v : Int32} (hT : T[b]? = some (0, q, fl)) (hv : Int32.ofNat q = v) (d : decode cc pc = .ok (.arraylength, 1)) (kk : RnQ yy cc maxL ret et rm Qf Xf ex k n T (pc + 1) lo (.int v :: st) σ) : RnQ yy cc maxL ret et rm Qf Xf ex k n T pc lo (.ref b :: st) σ := fun p l e s m args below meth c hs D cI cL cS H locs ls hC hX hZ hP hS hL => 
  va_alen hC.x hC.b hC.wk.1 hP b 0 (wsO_get hT) (ty := .int) rfl hv d (kk p l e s m args below meth c hs D cI cL cS H locs ls hC hX hZ hP hS hL)
theorem rn_alenq {b q : Nat} {fl : List Nat} {v : Int32} (hT : T[b]? = some (2, q, fl)) (hv : Int32.ofNat q = v) (d : decode cc pc = .ok (.arraylength, 1)) (kk : RnQ yy cc maxL ret et rm Qf Xf ex k n T (pc + 1) lo (.int v :: st) σ) : RnQ yy cc maxL ret et rm Qf Xf ex k n T pc lo (.ref b :: st) σ := fun p l e s m args below meth c hs D cI cL cS H locs ls hC hX hZ hP hS hL => 
  va_alen hC.x hC.b hC.wk.1 hP b 2 (wsO_get hT) (ty := .object RX4) rfl hv d (kk p l e s m args below meth c hs D cI cL cS H locs ls hC hX hZ hP hS hL)
theorem rn_aald {b q r : Nat} {fl : List Nat} {i : Int32} (hT : T[b]? = some (2, q, fl)) (hi : vp_in i q) (hr : fl.getD i.toNatClampNeg 0 = r + 1) (d : decode cc pc = .ok (.aaload, 1)) (kk : RnQ yy cc maxL ret et rm Qf Xf ex k n T (pc + 1) lo (.ref r :: st) σ) : RnQ yy cc maxL ret et rm Qf Xf ex k n T pc lo (.int i :: .ref b :: st) σ := by
  intro p l e s m args below meth c hs D cI cL cS H locs ls hC hX hZ hP hS hL
  have hv : va_rf (rfo hs fl i.toNatClampNeg) = .ref (hs + r) := by simp only [rfo, hr]; rfl
  refine va_aldq hC.x hC.b hC.wk.1 hP b 2 (wsO_get hT) rfl hi d ?_
  rw [hv]
  exact kk p l e s m args below meth c hs D cI cL cS H locs ls hC hX hZ hP hS hL
/-! the ends -/
theorem end_q {hs : Nat} {D : va_G} {cI cL cS : ClassId} {T : Tb} {σ : Mm} {r : Option Value} {args : Array Value} {s t : State} {H : Heap} {locs : List Loc} (hP : va_P D vwCl (wsO hs cI cL cS T σ) H) (hS : va_S (fun q => hs ≤ q) s.heap H locs) (ht : t.heap = H) : QcE hs D cI cL cS (.inl r) T σ args s (.returned (r.map (ge hs))) t := ⟨rfl, by rw [ht]; exact hP, hS.F ht⟩
theorem rn_iret {v : Int32}  (hk : k ≤ rm.cells) (hn : n ≤ rm.slots) (d : decode cc pc = .ok (.ireturn, 1)) : Rn yy cc maxL (some .int) et rm (.inl (some (.int v))) T σ ex k n T pc lo [.int v] σ := fun p l e s m args below meth c hs D cI cL cS H locs ls hC hX hZ hP hS hL => 
  W.widen hk hn (vx_ret (W.iret hC.x hC.b hC.r (fun t ht _ => end_q (r := (some (.int v))) hP hS ht) hS.2.2 d hC.lk))
theorem rn_zret {v : Int32} {ty : FieldType} (hz : narrow ty (.int v) = .int v) (hk : k ≤ rm.cells) (hn : n ≤ rm.slots) (d : decode cc pc = .ok (.ireturn, 1)) : Rn yy cc maxL (some ty) et rm (.inl (some (.int v))) T σ ex k n T pc lo [.int v] σ := fun p l e s m args below meth c hs D cI cL cS H locs ls hC hX hZ hP hS hL => 
  W.widen hk hn (vx_ret (W.zret hC.x hC.b hC.r hz (fun t ht _ => end_q (r := (some (.int v))) hP hS ht) hS.2.2 d hC.lk))
theorem rn_lret {v : Int64}  (hk : k ≤ rm.cells) (hn : n ≤ rm.slots) (d : decode cc pc = .ok (.lreturn, 1)) : Rn yy cc maxL (some .long) et rm (.inl (some (.long v))) T σ ex k n T pc lo [.long v] σ := fun p l e s m args below meth c hs D cI cL cS H locs ls hC hX hZ hP hS hL => 
  W.widen hk hn (vx_ret (W.lret hC.x hC.b hC.r (fun t ht _ => end_q (r := (some (.long v))) hP hS ht) hS.2.2 d hC.lk))
theorem rn_dret {v : UInt64}  (hk : k ≤ rm.cells) (hn : n ≤ rm.slots) (d : decode cc pc = .ok (.dreturn, 1)) : Rn yy cc maxL (some .double) et rm (.inl (some (.double v))) T σ ex k n T pc lo [.double v] σ := fun p l e s m args below meth c hs D cI cL cS H locs ls hC hX hZ hP hS hL => 
  W.widen hk hn (vx_ret (W.dret hC.x hC.b hC.r (fun t ht _ => end_q (r := (some (.double v))) hP hS ht) hS.2.2 d hC.lk))
theorem rn_vret   (hk : k ≤ rm.cells) (hn : n ≤ rm.slots) (d : decode cc pc = .ok (.return_, 1)) : Rn yy cc maxL none et rm (.inl none) T σ ex k n T pc lo [] σ := fun p l e s m args below meth c hs D cI cL cS H locs ls hC hX hZ hP hS hL => 
  W.widen hk hn (vx_ret (W.vret hC.x hC.b hC.r (fun t ht _ => end_q (r := none) hP hS ht) hS.2.2 d hC.lk))
theorem rn_aret {v : Nat} {nm : String}  (hk : k ≤ rm.cells) (hn : n ≤ rm.slots) (d : decode cc pc = .ok (.areturn, 1)) : Rn yy cc maxL (some (.object nm)) et rm (.inl (some (.ref v))) T σ ex k n T pc lo [.ref v] σ := fun p l e s m args below meth c hs D cI cL cS H locs ls hC hX hZ hP hS hL => 
  W.widen hk hn (vx_ret (W.aret hC.x hC.b hC.r (Or.inl ⟨nm, rfl⟩) (Or.inr ⟨_, rfl⟩) (fun t ht _ => end_q (r := (some (.ref v))) hP hS ht) hS.2.2 d hC.lk))
end RnRows2
