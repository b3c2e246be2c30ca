abbrev Dm (α : Type) : Type := Mm → Option ((α ⊕ Nat) × Mm)
def oV {α : Type} (inj : α → Option Value) (o : α ⊕ Nat) : Option Value ⊕ Nat := match o with
  | .inl a => .inl (inj a)
  | .inr e => .inr e
def iI (v : Int32) : Option Value := some (.int v)
def lI (v : Int64) : Option Value := some (.long v)
def dI9 (v : UInt64) : Option Value := some (.double v)
def vI (_ : Unit) : Option Value := none
def rI (v : Nat) : Option Value := some (.ref v)
/-- a method's walk from pc on, X says what comes of it -/
def TL {α : Type} (y : MethodName) (cc : ByteArray) (maxL : Nat) (ret : Option FieldType) (dp : Nat) (inj : α → Option Value) (T : Tb) (pc : Nat) (lo : List (Option Value)) (st : List Value) (X : Dm α) : Prop :=
  ∀ (σ : Mm) (o : α ⊕ Nat) (σ' : Mm), X σ = some (o, σ') → Rn y cc maxL ret [] (rmO dp (oV inj o)) (oV inj o) T σ' false 0 0 T pc lo st σ
/-- what is to be known of a callee's end -/
def CT {α : Type} (w0 : Cond) (y : MethodName) (dp : Nat) (inj : α → Option Value) (T : Tb) (as : List Value) (X : Dm α) : Prop :=
  ∀ (σ : Mm) (o : α ⊕ Nat) (σ' : Mm), X σ = some (o, σ') → Ev w0 y (rmO dp (oV inj o)) T as σ (oV inj o) T σ'
def gM {α β : Type} (f : Mm → β) (K : β → Dm α) : Dm α := fun σ => K (f σ) σ
def sM {α : Type} (b j : Nat) (x : Int32) (X : Dm α) : Dm α := fun σ => X (upM σ b j x)
def zM {α : Type} (b j : Nat) (x : Int32) (X : Dm α) : Dm α := fun σ => if x = 0 ∨ x = 1 then X (upM σ b j x) else none
def inB (i : Int32) (n : Nat) : Bool := !(decide (i < 0) || decide (n ≤ i.toNatClampNeg))
theorem inB_in {i : Int32} {n : Nat} (h : inB i n = true) : vp_in i n := by
  unfold inB at h
  intro q
  rcases q with q | q <;> simp [q] at h
def rdM {α : Type} (b n : Nat) (i : Int32) (K : Int32 → Dm α) : Dm α := fun σ => if inB i n = true then K (σ b i.toNatClampNeg) σ else none
def wrM {α : Type} (b n : Nat) (i x : Int32) (X : Dm α) : Dm α := fun σ => if inB i n = true then X (upM σ b i.toNatClampNeg x) else none
def invM {α β : Type} (F : Dm β) (K : β → Dm α) : Dm α := fun σ => match F σ with
  | none => none
  | some (.inl r, σ1) => K r σ1
  | some (.inr e, σ1) => some (.inr e, σ1)
def retM {α : Type} (r : α) : Dm α := fun σ => some (.inl r, σ)
def retZ (r : Int32) : Dm Int32 := fun σ => if r = 0 ∨ r = 1 then some (.inl r, σ) else none
def thrM {α : Type} (e : Nat) : Dm α := fun σ => some (.inr e, σ)
def failM {α : Type} : Dm α := fun _ => none
def jM {α κ : Type} (K : κ) (B : κ → Dm α) : Dm α := B K
def bI {α : Type} (x : Int32) (K : Int32 → Dm α) : Dm α := K x
def bL {α : Type} (x : Int64) (K : Int64 → Dm α) : Dm α := K x
def bD {α : Type} (x : UInt64) (K : UInt64 → Dm α) : Dm α := K x
def ckM {α : Type} (c : Prop) [Decidable c] (X : Dm α) : Dm α := fun σ => if c then X σ else none
def nfM {α : Type} (x : UInt64) (X : Dm α) : Dm α := fun σ => if x &&& 0x7fffffffffffffff ≤ 0x7ff0000000000000 then X σ else none
def iR (x y : Int32) : Int32 := x - x / y * y
def iMax (x y : Int32) : Int32 := if x < y then y else x
def iMin (x y : Int32) : Int32 := if y < x then y else x
def FU : Nat := 100000
theorem sub_e {b : List (Option Value)} : subLo [] b := by cases b <;> trivial
theorem sub_n {a b : List (Option Value)} {x : Option Value} (h : subLo a b) : subLo (none :: a) (x :: b) := h
theorem sub_s {a b : List (Option Value)} {v : Value} (h : subLo a b) : subLo (some v :: a) (some v :: b) := ⟨rfl, h⟩
section TlRows
variable {α : Type} {yy : MethodName} {cc : ByteArray} {maxL : Nat} {ret : Option FieldType} {dp : Nat} {inj : α → Option Value} {T : Tb} {pc : Nat} {lo : List (Option Value)} {st : List Value} {X X1 X2 : Dm α}
theorem tl_sub {lo' : List (Option Value)} (kk : TL yy cc maxL ret dp inj T pc lo' st X) (h : subLo lo' lo) : TL yy cc maxL ret dp inj T pc lo st X := fun σ o σ' hX => rn_sub (kk σ o σ' hX) h
theorem tl_pc {pc' : Nat} (kk : TL yy cc maxL ret dp inj T pc' lo st X) (h : pc = pc') : TL yy cc maxL ret dp inj T pc lo st X := h ▸ kk
theorem tl_iadd {x y : Int32} (d : decode cc pc = .ok (.iadd, 1))  (kk : TL yy cc maxL ret dp inj T (pc + 1) lo (.int (x + y) :: st) X) : TL yy cc maxL ret dp inj T pc lo (.int y :: .int x :: st) X := fun σ o σ' h => rn_iadd d (kk σ o σ' h)
theorem tl_isub {x y : Int32} (d : decode cc pc = .ok (.isub, 1))  (kk : TL yy cc maxL ret dp inj T (pc + 1) lo (.int (x - y) :: st) X) : TL yy cc maxL ret dp inj T pc lo (.int y :: .int x :: st) X := fun σ o σ' h => rn_isub d (kk σ o σ' h)
theorem tl_imul {x y : Int32} (d : decode cc pc = .ok (.imul, 1))  (kk : TL yy cc maxL ret dp inj T (pc + 1) lo (.int (x * y) :: st) X) : TL yy cc maxL ret dp inj T pc lo (.int y :: .int x :: st) X := fun σ o σ' h => rn_imul d (kk σ o σ' h)
theorem tl_iand {x y : Int32} (d : decode cc pc = .ok (.iand, 1))  (kk : TL yy cc maxL ret dp inj T (pc + 1) lo (.int (x &&& y) :: st) X) : TL yy cc maxL ret dp inj T pc lo (.int y :: .int x :: st) X := fun σ o σ' h => rn_iand d (kk σ o σ' h)
theorem tl_idiv {x y : Int32} (d : decode cc pc = .ok (.idiv, 1)) (hy : ¬ y = 0) (kk : TL yy cc maxL ret dp inj T (pc + 1) lo (.int (x / y) :: st) X) : TL yy cc maxL ret dp inj T pc lo (.int y :: .int x :: st) X := fun σ o σ' h => rn_idiv hy d (kk σ o σ' h)
theorem tl_irem {x y : Int32} (d : decode cc pc = .ok (.irem, 1)) (hy : ¬ y = 0) (kk : TL yy cc maxL ret dp inj T (pc + 1) lo (.int (iR x y) :: st) X) : TL yy cc maxL ret dp inj T pc lo (.int y :: .int x :: st) X := fun σ o σ' h => rn_irem hy d (kk σ o σ' h)
theorem tl_ineg {x : Int32} (d : decode cc pc = .ok (.ineg, 1))  (kk : TL yy cc maxL ret dp inj T (pc + 1) lo (.int (-x) :: st) X) : TL yy cc maxL ret dp inj T pc lo (.int x :: st) X := fun σ o σ' h => rn_ineg d (kk σ o σ' h)
theorem tl_ladd {x y : Int64} (d : decode cc pc = .ok (.ladd, 1))  (kk : TL yy cc maxL ret dp inj T (pc + 1) lo (.long (x + y) :: st) X) : TL yy cc maxL ret dp inj T pc lo (.long y :: .long x :: st) X := fun σ o σ' h => rn_ladd d (kk σ o σ' h)
theorem tl_lsub {x y : Int64} (d : decode cc pc = .ok (.lsub, 1))  (kk : TL yy cc maxL ret dp inj T (pc + 1) lo (.long (x - y) :: st) X) : TL yy cc maxL ret dp inj T pc lo (.long y :: .long x :: st) X := fun σ o σ' h => rn_lsub d (kk σ o σ' h)
theorem tl_lmul {x y : Int64} (d : decode cc pc = .ok (.lmul, 1))  (kk : TL yy cc maxL ret dp inj T (pc + 1) lo (.long (x * y) :: st) X) : TL yy cc maxL ret dp inj T pc lo (.long y :: .long x :: st) X := fun σ o σ' h => rn_lmul d (kk σ o σ' h)
theorem tl_lshl {x : Int64} {y : Int32} (d : decode cc pc = .ok (.lshl, 1))  (kk : TL yy cc maxL ret dp inj T (pc + 1) lo (.long (x <<< (y.toInt64 &&& 63)) :: st) X) : TL yy cc maxL ret dp inj T pc lo (.int y :: .long x :: st) X := fun σ o σ' h => rn_lshl d (kk σ o σ' h)
theorem tl_i2l {x : Int32} (d : decode cc pc = .ok (.i2l, 1))  (kk : TL yy cc maxL ret dp inj T (pc + 1) lo (.long x.toInt64 :: st) X) : TL yy cc maxL ret dp inj T pc lo (.int x :: st) X := fun σ o σ' h => rn_i2l d (kk σ o σ' h)
theorem tl_i2d {x : Int32} (d : decode cc pc = .ok (.i2d, 1))  (kk : TL yy cc maxL ret dp inj T (pc + 1) lo (.double (FP.i2d x) :: st) X) : TL yy cc maxL ret dp inj T pc lo (.int x :: st) X := fun σ o σ' h => rn_i2d d (kk σ o σ' h)
theorem tl_d2l {x : UInt64} (d : decode cc pc = .ok (.d2l, 1))  (kk : TL yy cc maxL ret dp inj T (pc + 1) lo (.long (FP.d2l x) :: st) X) : TL yy cc maxL ret dp inj T pc lo (.double x :: st) X := fun σ o σ' h => rn_d2l d (kk σ o σ' h)
theorem tl_ddiv {x y : UInt64} (d : decode cc pc = .ok (.ddiv, 1)) (kk : TL yy cc maxL ret dp inj T (pc + 1) lo (.double (FP.ddiv x y) :: st) X) : TL yy cc maxL ret dp inj T pc lo (.double y :: .double x :: st) (nfM (FP.ddiv x y) X) := by
  intro σ o σ' h
  unfold nfM at h
  split at h
  · rename_i hc
    exact rn_ddiv hc d (kk σ o σ' h)
  · cases h
theorem tl_dmul {x y : UInt64} (d : decode cc pc = .ok (.dmul, 1)) (kk : TL yy cc maxL ret dp inj T (pc + 1) lo (.double (FP.dmul x y) :: st) X) : TL yy cc maxL ret dp inj T pc lo (.double y :: .double x :: st) (nfM (FP.dmul x y) X) := by
  intro σ o σ' h
  unfold nfM at h
  split at h
  · rename_i hc
    exact rn_dmul hc d (kk σ o σ' h)
  · cases h
theorem tl_dsub {x y : UInt64} (d : decode cc pc = .ok (.dsub, 1)) (kk : TL yy cc maxL ret dp inj T (pc + 1) lo (.double (FP.dsub x y) :: st) X) : TL yy cc maxL ret dp inj T pc lo (.double y :: .double x :: st) (nfM (FP.dsub x y) X) := by
  intro σ o σ' h
  unfold nfM at h
  split at h
  · rename_i hc
    exact rn_dsub hc d (kk σ o σ' h)
  · cases h
theorem tl_dcmp {x y : UInt64} {op : CmpOp} (d : decode cc pc = .ok (.dcmp op, 1))  (kk : TL yy cc maxL ret dp inj T (pc + 1) lo (.int (Op.cmpValue (FP.dcmp x y) op) :: st) X) : TL yy cc maxL ret dp inj T pc lo (.double y :: .double x :: st) X := fun σ o σ' h => rn_dcmp d (kk σ o σ' h)
theorem tl_lcmp {x y : Int64} (d : decode cc pc = .ok (.lcmp, 1))  (kk : TL yy cc maxL ret dp inj T (pc + 1) lo (.int (lg_cmp x y) :: st) X) : TL yy cc maxL ret dp inj T pc lo (.long y :: .long x :: st) X := fun σ o σ' h => rn_lcmp d (kk σ o σ' h)
theorem tl_iconst {i : Int} {v : Int32} (d : decode cc pc = .ok (.iconst i, 1)) (hv : Int32.ofInt i = v) (kk : TL yy cc maxL ret dp inj T (pc + 1) lo (.int v :: st) X) : TL yy cc maxL ret dp inj T pc lo (st) X := fun σ o σ' h => rn_iconst d hv (kk σ o σ' h)
theorem tl_bipush {i : Int} {v : Int32} (d : decode cc pc = .ok (.bipush i, 2)) (hv : (Int8.ofInt i).toInt32 = v) (kk : TL yy cc maxL ret dp inj T (pc + 2) lo (.int v :: st) X) : TL yy cc maxL ret dp inj T pc lo (st) X := fun σ o σ' h => rn_bipush d hv (kk σ o σ' h)
theorem tl_sipush {i : Int} {v : Int32} (d : decode cc pc = .ok (.sipush i, 3)) (hv : (Int16.ofInt i).toInt32 = v) (kk : TL yy cc maxL ret dp inj T (pc + 3) lo (.int v :: st) X) : TL yy cc maxL ret dp inj T pc lo (st) X := fun σ o σ' h => rn_sipush d hv (kk σ o σ' h)
theorem tl_lconst {i : Fin 2} {v : Int64} (d : decode cc pc = .ok (.lconst i, 1)) (hv : Int64.ofNat (i : Nat) = v) (kk : TL yy cc maxL ret dp inj T (pc + 1) lo (.long v :: st) X) : TL yy cc maxL ret dp inj T pc lo (st) X := fun σ o σ' h => rn_lconst d hv (kk σ o σ' h)
theorem tl_dconst0  (d : decode cc pc = .ok (.dconst 0, 1))  (kk : TL yy cc maxL ret dp inj T (pc + 1) lo (.double FP.dconst0 :: st) X) : TL yy cc maxL ret dp inj T pc lo (st) X := fun σ o σ' h => rn_dconst0 d (kk σ o σ' h)
theorem tl_dconst1  (d : decode cc pc = .ok (.dconst 1, 1))  (kk : TL yy cc maxL ret dp inj T (pc + 1) lo (.double FP.dconst1 :: st) X) : TL yy cc maxL ret dp inj T pc lo (st) X := fun σ o σ' h => rn_dconst1 d (kk σ o σ' h)
theorem tl_dup {v : Value} (d : decode cc pc = .ok (.dup, 1)) (hv : v.category = 1) (kk : TL yy cc maxL ret dp inj T (pc + 1) lo (v :: v :: st) X) : TL yy cc maxL ret dp inj T pc lo (v :: st) X := fun σ o σ' h => rn_dup d hv (kk σ o σ' h)
theorem tl_pop {v : Value} (d : decode cc pc = .ok (.pop, 1)) (hv : v.category = 1) (kk : TL yy cc maxL ret dp inj T (pc + 1) lo (st) X) : TL yy cc maxL ret dp inj T pc lo (v :: st) X := fun σ o σ' h => rn_pop d hv (kk σ o σ' h)
theorem tl_dup2 {v w : Value} (d : decode cc pc = .ok (.dup2, 1)) (hv : v.category = 1) (hw : w.category = 1) (kk : TL yy cc maxL ret dp inj T (pc + 1) lo (v :: w :: v :: w :: st) X) : TL yy cc maxL ret dp inj T pc lo (v :: w :: st) X := fun σ o σ' h => rn_dup2 d hv hw (kk σ o σ' h)
theorem tl_iload_n {j : Fin 4} {i : Nat} {x : Int32} (d : decode cc pc = .ok (.iload_n j, 1)) (hi : (j : Nat) = i) (hl : lo[i]? = some (some (.int x))) (kk : TL yy cc maxL ret dp inj T (pc + 1) lo (.int x :: st) X) : TL yy cc maxL ret dp inj T pc lo (st) X := fun σ o σ' h => rn_iload_n d hi hl (kk σ o σ' h)
theorem tl_iload {i : Nat} {x : Int32} (d : decode cc pc = .ok (.iload i, 2)) (hl : lo[i]? = some (some (.int x))) (kk : TL yy cc maxL ret dp inj T (pc + 2) lo (.int x :: st) X) : TL yy cc maxL ret dp inj T pc lo (st) X := fun σ o σ' h => rn_iload d hl (kk σ o σ' h)
theorem tl_lload_n {j : Fin 4} {i : Nat} {x : Int64} (d : decode cc pc = .ok (.lload_n j, 1)) (hi : (j : Nat) = i) (hl : lo[i]? = some (some (.long x))) (kk : TL yy cc maxL ret dp inj T (pc + 1) lo (.long x :: st) X) : TL yy cc maxL ret dp inj T pc lo (st) X := fun σ o σ' h => rn_lload_n d hi hl (kk σ o σ' h)
theorem tl_lload {i : Nat} {x : Int64} (d : decode cc pc = .ok (.lload i, 2)) (hl : lo[i]? = some (some (.long x))) (kk : TL yy cc maxL ret dp inj T (pc + 2) lo (.long x :: st) X) : TL yy cc maxL ret dp inj T pc lo (st) X := fun σ o σ' h => rn_lload d hl (kk σ o σ' h)
theorem tl_dload_n {j : Fin 4} {i : Nat} {x : UInt64} (d : decode cc pc = .ok (.dload_n j, 1)) (hi : (j : Nat) = i) (hl : lo[i]? = some (some (.double x))) (kk : TL yy cc maxL ret dp inj T (pc + 1) lo (.double x :: st) X) : TL yy cc maxL ret dp inj T pc lo (st) X := fun σ o σ' h => rn_dload_n d hi hl (kk σ o σ' h)
theorem tl_dload {i : Nat} {x : UInt64} (d : decode cc pc = .ok (.dload i, 2)) (hl : lo[i]? = some (some (.double x))) (kk : TL yy cc maxL ret dp inj T (pc + 2) lo (.double x :: st) X) : TL yy cc maxL ret dp inj T pc lo (st) X := fun σ o σ' h => rn_dload d hl (kk σ o σ' h)
theorem tl_aload_n {j : Fin 4} {i : Nat} {x : Nat} (d : decode cc pc = .ok (.aload_n j, 1)) (hi : (j : Nat) = i) (hl : lo[i]? = some (some (.ref x))) (kk : TL yy cc maxL ret dp inj T (pc + 1) lo (.ref x :: st) X) : TL yy cc maxL ret dp inj T pc lo (st) X := fun σ o σ' h => rn_aload_n d hi hl (kk σ o σ' h)
theorem tl_aload {i : Nat} {x : Nat} (d : decode cc pc = .ok (.aload i, 2)) (hl : lo[i]? = some (some (.ref x))) (kk : TL yy cc maxL ret dp inj T (pc + 2) lo (.ref x :: st) X) : TL yy cc maxL ret dp inj T pc lo (st) X := fun σ o σ' h => rn_aload d hl (kk σ o σ' h)
theorem tl_istore_n {j : Fin 4} {i : Nat} {x : Int32} {lo' : List (Option Value)} (d : decode cc pc = .ok (.istore_n j, 1)) (hi : (j : Nat) = i) (hn : i < maxL) (hl : sto lo i (.int x) = lo') (kk : TL yy cc maxL ret dp inj T (pc + 1) lo' (st) X) : TL yy cc maxL ret dp inj T pc lo (.int x :: st) X := fun σ o σ' h => rn_istore_n d hi hn hl (kk σ o σ' h)
theorem tl_istore {i : Nat} {x : Int32} {lo' : List (Option Value)} (d : decode cc pc = .ok (.istore i, 2)) (hn : i < maxL) (hl : sto lo i (.int x) = lo') (kk : TL yy cc maxL ret dp inj T (pc + 2) lo' (st) X) : TL yy cc maxL ret dp inj T pc lo (.int x :: st) X := fun σ o σ' h => rn_istore d hn hl (kk σ o σ' h)
theorem tl_lstore_n {j : Fin 4} {i : Nat} {x : Int64} {lo' : List (Option Value)} (d : decode cc pc = .ok (.lstore_n j, 1)) (hi : (j : Nat) = i) (hn : i + 1 < maxL) (hl : sto2 lo i (.long x) = lo') (kk : TL yy cc maxL ret dp inj T (pc + 1) lo' (st) X) : TL yy cc maxL ret dp inj T pc lo (.long x :: st) X := fun σ o σ' h => rn_lstore_n d hi hn hl (kk σ o σ' h)
theorem tl_lstore {i : Nat} {x : Int64} {lo' : List (Option Value)} (d : decode cc pc = .ok (.lstore i, 2)) (hn : i + 1 < maxL) (hl : sto2 lo i (.long x) = lo') (kk : TL yy cc maxL ret dp inj T (pc + 2) lo' (st) X) : TL yy cc maxL ret dp inj T pc lo (.long x :: st) X := fun σ o σ' h => rn_lstore d hn hl (kk σ o σ' h)
theorem tl_dstore_n {j : Fin 4} {i : Nat} {x : UInt64} {lo' : List (Option Value)} (d : decode cc pc = .ok (.dstore_n j, 1)) (hi : (j : Nat) = i) (hn : i + 1 < maxL) (hl : sto2 lo i (.double x) = lo') (kk : TL yy cc maxL ret dp inj T (pc + 1) lo' (st) X) : TL yy cc maxL ret dp inj T pc lo (.double x :: st) X := fun σ o σ' h => rn_dstore_n d hi hn hl (kk σ o σ' h)
theorem tl_dstore {i : Nat} {x : UInt64} {lo' : List (Option Value)} (d : decode cc pc = .ok (.dstore i, 2)) (hn : i + 1 < maxL) (hl : sto2 lo i (.double x) = lo') (kk : TL yy cc maxL ret dp inj T (pc + 2) lo' (st) X) : TL yy cc maxL ret dp inj T pc lo (.double x :: st) X := fun σ o σ' h => rn_dstore d hn hl (kk σ o σ' h)
theorem tl_astore_n {j : Fin 4} {i : Nat} {x : Nat} {lo' : List (Option Value)} (d : decode cc pc = .ok (.astore_n j, 1)) (hi : (j : Nat) = i) (hn : i < maxL) (hl : sto lo i (.ref x) = lo') (kk : TL yy cc maxL ret dp inj T (pc + 1) lo' (st) X) : TL yy cc maxL ret dp inj T pc lo (.ref x :: st) X := fun σ o σ' h => rn_astore_n d hi hn hl (kk σ o σ' h)
theorem tl_astore {i : Nat} {x : Nat} {lo' : List (Option Value)} (d : decode cc pc = .ok (.astore i, 2)) (hn : i < maxL) (hl : sto lo i (.ref x) = lo') (kk : TL yy cc maxL ret dp inj T (pc + 2) lo' (st) X) : TL yy cc maxL ret dp inj T pc lo (.ref x :: st) X := fun σ o σ' h => rn_astore d hn hl (kk σ o σ' h)
theorem tl_iinc {i : Nat} {q : Int} {x v : Int32} {lo' : List (Option Value)} (d : decode cc pc = .ok (.iinc i q, 3)) (hx : lo[i]? = some (some (.int x))) (hv : x + Int32.ofInt q = v) (hn : i < maxL) (hl : sto lo i (.int v) = lo') (kk : TL yy cc maxL ret dp inj T (pc + 3) lo' (st) X) : TL yy cc maxL ret dp inj T pc lo (st) X := fun σ o σ' h => rn_iinc d hx hv hn hl (kk σ o σ' h)
theorem tl_if_eq {x : Int32} {off : Int} {tgt : Nat} (d : decode cc pc = .ok (.ifCond .eq off, 3)) (ht : (pc : Int) + off = (tgt : Int)) (kt : TL yy cc maxL ret dp inj T tgt lo st X1) (kf : TL yy cc maxL ret dp inj T (pc + 3) lo st X2) : TL yy cc maxL ret dp inj T pc lo (.int x :: st) (if x = 0 then X1 else X2) := fun σ o σ' h => rn_if_eq d ht (fun c => kt σ o σ' (by rw [if_pos c] at h; exact h)) (fun c => kf σ o σ' (by rw [if_neg c] at h; exact h))
theorem tl_icmp_eq {x y : Int32} {off : Int} {tgt : Nat} (d : decode cc pc = .ok (.if_icmp .eq off, 3)) (ht : (pc : Int) + off = (tgt : Int)) (kt : TL yy cc maxL ret dp inj T tgt lo st X1) (kf : TL yy cc maxL ret dp inj T (pc + 3) lo st X2) : TL yy cc maxL ret dp inj T pc lo (.int y :: .int x :: st) (if x = y then X1 else X2) := fun σ o σ' h => rn_icmp_eq d ht (fun c => kt σ o σ' (by rw [if_pos c] at h; exact h)) (fun c => kf σ o σ' (by rw [if_neg c] at h; exact h))
theorem tl_if_ne {x : Int32} {off : Int} {tgt : Nat} (d : decode cc pc = .ok (.ifCond .ne off, 3)) (ht : (pc : Int) + off = (tgt : Int)) (kt : TL yy cc maxL ret dp inj T (pc + 3) lo st X1) (kf : TL yy cc maxL ret dp inj T tgt lo st X2) : TL yy cc maxL ret dp inj T pc lo (.int x :: st) (if x = 0 then X1 else X2) := fun σ o σ' h => rn_if_ne d ht (fun c => kf σ o σ' (by rw [if_neg c] at h; exact h)) (fun c => kt σ o σ' (by rw [if_pos c] at h; exact h))
theorem tl_icmp_ne {x y : Int32} {off : Int} {tgt : Nat} (d : decode cc pc = .ok (.if_icmp .ne off, 3)) (ht : (pc : Int) + off = (tgt : Int)) (kt : TL yy cc maxL ret dp inj T (pc + 3) lo st X1) (kf : TL yy cc maxL ret dp inj T tgt lo st X2) : TL yy cc maxL ret dp inj T pc lo (.int y :: .int x :: st) (if x = y then X1 else X2) := fun σ o σ' h => rn_icmp_ne d ht (fun c => kf σ o σ' (by rw [if_neg c] at h; exact h)) (fun c => kt σ o σ' (by rw [if_pos c] at h; exact h))
theorem tl_if_lt {x : Int32} {off : Int} {tgt : Nat} (d : decode cc pc = .ok (.ifCond .lt off, 3)) (ht : (pc : Int) + off = (tgt : Int)) (kt : TL yy cc maxL ret dp inj T tgt lo st X1) (kf : TL yy cc maxL ret dp inj T (pc + 3) lo st X2) : TL yy cc maxL ret dp inj T pc lo (.int x :: st) (if x < 0 then X1 else X2) := fun σ o σ' h => rn_if_lt d ht (fun c => kt σ o σ' (by rw [if_pos c] at h; exact h)) (fun c => kf σ o σ' (by rw [if_neg c] at h; exact h))
theorem tl_icmp_lt {x y : Int32} {off : Int} {tgt : Nat} (d : decode cc pc = .ok (.if_icmp .lt off, 3)) (ht : (pc : Int) + off = (tgt : Int)) (kt : TL yy cc maxL ret dp inj T tgt lo st X1) (kf : TL yy cc maxL ret dp inj T (pc + 3) lo st X2) : TL yy cc maxL ret dp inj T pc lo (.int y :: .int x :: st) (if x < y then X1 else X2) := fun σ o σ' h => rn_icmp_lt d ht (fun c => kt σ o σ' (by rw [if_pos c] at h; exact h)) (fun c => kf σ o σ' (by rw [if_neg c] at h; exact h))
theorem tl_if_ge {x : Int32} {off : Int} {tgt : Nat} (d : decode cc pc = .ok (.ifCond .ge off, 3)) (ht : (pc : Int) + off = (tgt : Int)) (kt : TL yy cc maxL ret dp inj T tgt lo st X1) (kf : TL yy cc maxL ret dp inj T (pc + 3) lo st X2) : TL yy cc maxL ret dp inj T pc lo (.int x :: st) (if 0 ≤ x then X1 else X2) := fun σ o σ' h => rn_if_ge d ht (fun c => kt σ o σ' (by rw [if_pos c] at h; exact h)) (fun c => kf σ o σ' (by rw [if_neg c] at h; exact h))
theorem tl_icmp_ge {x y : Int32} {off : Int} {tgt : Nat} (d : decode cc pc = .ok (.if_icmp .ge off, 3)) (ht : (pc : Int) + off = (tgt : Int)) (kt : TL yy cc maxL ret dp inj T tgt lo st X1) (kf : TL yy cc maxL ret dp inj T (pc + 3) lo st X2) : TL yy cc maxL ret dp inj T pc lo (.int y :: .int x :: st) (if y ≤ x then X1 else X2) := fun σ o σ' h => rn_icmp_ge d ht (fun c => kt σ o σ' (by rw [if_pos c] at h; exact h)) (fun c => kf σ o σ' (by rw [if_neg c] at h; exact h))
theorem tl_if_gt {x : Int32} {off : Int} {tgt : Nat} (d : decode cc pc = .ok (.ifCond .gt off, 3)) (ht : (pc : Int) + off = (tgt : Int)) (kt : TL yy cc maxL ret dp inj T tgt lo st X1) (kf : TL yy cc maxL ret dp inj T (pc + 3) lo st X2) : TL yy cc maxL ret dp inj T pc lo (.int x :: st) (if 0 < x then X1 else X2) := fun σ o σ' h => rn_if_gt d ht (fun c => kt σ o σ' (by rw [if_pos c] at h; exact h)) (fun c => kf σ o σ' (by rw [if_neg c] at h; exact h))
theorem tl_icmp_gt {x y : Int32} {off : Int} {tgt : Nat} (d : decode cc pc = .ok (.if_icmp .gt off, 3)) (ht : (pc : Int) + off = (tgt : Int)) (kt : TL yy cc maxL ret dp inj T tgt lo st X1) (kf : TL yy cc maxL ret dp inj T (pc + 3) lo st X2) : TL yy cc maxL ret dp inj T pc lo (.int y :: .int x :: st) (if y < x then X1 else X2) := fun σ o σ' h => rn_icmp_gt d ht (fun c => kt σ o σ' (by rw [if_pos c] at h; exact h)) (fun c => kf σ o σ' (by rw [if_neg c] at h; exact h))
theorem tl_if_le {x : Int32} {off : Int} {tgt : Nat} (d : decode cc pc = .ok (.ifCond .le off, 3)) (ht : (pc : Int) + off = (tgt : Int)) (kt : TL yy cc maxL ret dp inj T tgt lo st X1) (kf : TL yy cc maxL ret dp inj T (pc + 3) lo st X2) : TL yy cc maxL ret dp inj T pc lo (.int x :: st) (if x ≤ 0 then X1 else X2) := fun σ o σ' h => rn_if_le d ht (fun c => kt σ o σ' (by rw [if_pos c] at h; exact h)) (fun c => kf σ o σ' (by rw [if_neg c] at h; exact h))
theorem tl_icmp_le {x y : Int32} {off : Int} {tgt : Nat} (d : decode cc pc = .ok (.if_icmp .le off, 3)) (ht : (pc : Int) + off = (tgt : Int)) (kt : TL yy cc maxL ret dp inj T tgt lo st X1) (kf : TL yy cc maxL ret dp inj T (pc + 3) lo st X2) : TL yy cc maxL ret dp inj T pc lo (.int y :: .int x :: st) (if x ≤ y then X1 else X2) := fun σ o σ' h => rn_icmp_le d ht (fun c => kt σ o σ' (by rw [if_pos c] at h; exact h)) (fun c => kf σ o σ' (by rw [if_neg c] at h; exact h))
theorem tl_if {c : Prop} [Decidable c] (kt : c → TL yy cc maxL ret dp inj T pc lo st X1) (kf : ¬ c → TL yy cc maxL ret dp inj T pc lo st X2) : TL yy cc maxL ret dp inj T pc lo st (if c then X1 else X2) := by
  intro σ o σ' h
  by_cases c9 : c
  · rw [if_pos c9] at h; exact kt c9 σ o σ' h
  · rw [if_neg c9] at h; exact kf c9 σ o σ' h
theorem tl_goto {off : Int} {tgt : Nat} (d : decode cc pc = .ok (.goto off, 3)) (ht : (pc : Int) + off = (tgt : Int)) (kk : TL yy cc maxL ret dp inj T tgt lo st X) : TL yy cc maxL ret dp inj T pc lo st X := fun σ o σ' h => rn_goto d ht (kk σ o σ' h)
theorem tl_ifnull {x : Nat} {off : Int} (d : decode cc pc = .ok (.ifnull off, 3)) (kk : TL yy cc maxL ret dp inj T (pc + 3) lo st X) : TL yy cc maxL ret dp inj T pc lo (.ref x :: st) X := fun σ o σ' h => rn_ifnull d (kk σ o σ' h)
theorem rn_tableIn {yy : MethodName} {cc : ByteArray} {maxL : Nat} {ret : Option FieldType} {et : List ExceptionTableEntry} {rm : Room} {Qf : List Frame → Array Value → State → Nat → va_G → ClassId → ClassId → ClassId → State → Prop} {Xf : State → Nat → Prop} {ex : Bool} {k n : Nat} {T : Tb} {pc : Nat} {lo : List (Option Value)} {st : List Value} {σ : Mm} {dflt a b : Int} {offs : Array Int} {len : Nat} {x : Int32} {off : Int} {tgt : Nat} (d : decode cc pc = .ok (.tableswitch dflt a b offs, len)) (h1 : ¬ x.toInt < a) (h2 : ¬ b < x.toInt) (ho : offs[(x.toInt - a).toNat]? = some off) (ht : (pc : Int) + off = (tgt : Int)) (kk : RnQ yy cc maxL ret et rm Qf Xf ex k n T tgt lo st σ) : RnQ yy cc maxL ret et rm Qf Xf ex k n T pc lo (.int x :: st) σ := fun p l e s m args below meth c hs D cI cL cS H locs ls hC hX hZ hP hS hL => lv_tableIn hC.x hC.b d h1 h2 ho ht (kk p l e s m args below meth c hs D cI cL cS H locs ls hC hX hZ hP hS hL)
theorem rn_tableOut {yy : MethodName} {cc : ByteArray} {maxL : Nat} {ret : Option FieldType} {et : List ExceptionTableEntry} {rm : Room} {Qf : List Frame → Array Value → State → Nat → va_G → ClassId → ClassId → ClassId → State → Prop} {Xf : State → Nat → Prop} {ex : Bool} {k n : Nat} {T : Tb} {pc : Nat} {lo : List (Option Value)} {st : List Value} {σ : Mm} {dflt a b : Int} {offs : Array Int} {len : Nat} {x : Int32} {tgt : Nat} (d : decode cc pc = .ok (.tableswitch dflt a b offs, len)) (h : x.toInt < a ∨ b < x.toInt) (ht : (pc : Int) + dflt = (tgt : Int)) (kk : RnQ yy cc maxL ret et rm Qf Xf ex k n T tgt lo st σ) : RnQ yy cc maxL ret et rm Qf Xf ex k n T pc lo (.int x :: st) σ := fun p l e s m args below meth c hs D cI cL cS H locs ls hC hX hZ hP hS hL => lv_tableOut hC.x hC.b d h ht (kk p l e s m args below meth c hs D cI cL cS H locs ls hC hX hZ hP hS hL)
theorem rn_lookup {yy : MethodName} {cc : ByteArray} {maxL : Nat} {ret : Option FieldType} {et : List ExceptionTableEntry} {rm : Room} {Qf : List Frame → Array Value → State → Nat → va_G → ClassId → ClassId → ClassId → State → Prop} {Xf : State → Nat → Prop} {ex : Bool} {k n : Nat} {T : Tb} {pc : Nat} {lo : List (Option Value)} {st : List Value} {σ : Mm} {dflt : Int} {ps : Array (Int × Int)} {len : Nat} {x : Int32} {off : Int} {tgt : Nat} (d : decode cc pc = .ok (.lookupswitch dflt ps, len)) (hp : (ps.toList.zip (ps.toList.drop 1)).all (fun (a, next) => a.1 < next.1) = true) (ho : Op.lookupswitch.offset ps.toList dflt x.toInt = off) (ht : (pc : Int) + off = (tgt : Int)) (kk : RnQ yy cc maxL ret et rm Qf Xf ex k n T tgt lo st σ) : RnQ yy cc maxL ret et rm Qf Xf ex k n T pc lo (.int x :: st) σ := fun p l e s m args below meth c hs D cI cL cS H locs ls hC hX hZ hP hS hL => lv_lookup hC.x hC.b d hp ho ht (kk p l e s m args below meth c hs D cI cL cS H locs ls hC hX hZ hP hS hL)
theorem tl_tableIn {dflt a b : Int} {offs : Array Int} {len : Nat} {x : Int32} (v : Int32) {off : Int} {tgt : Nat} (hx : x = v) (d : decode cc pc = .ok (.tableswitch dflt a b offs, len)) (h1 : ¬ v.toInt < a) (h2 : ¬ b < v.toInt) (ho : offs[(v.toInt - a).toNat]? = some off) (ht : (pc : Int) + off = (tgt : Int)) (kk : TL yy cc maxL ret dp inj T tgt lo st X) : TL yy cc maxL ret dp inj T pc lo (.int x :: st) X := fun σ o σ' h => rn_tableIn d (by rw [hx]; exact h1) (by rw [hx]; exact h2) (by rw [hx]; exact ho) ht (kk σ o σ' h)
theorem tl_tableOut {dflt a b : Int} {offs : Array Int} {len : Nat} {x : Int32} {tgt : Nat} (d : decode cc pc = .ok (.tableswitch dflt a b offs, len)) (hx : x.toInt < a ∨ b < x.toInt) (ht : (pc : Int) + dflt = (tgt : Int)) (kk : TL yy cc maxL ret dp inj T tgt lo st X) : TL yy cc maxL ret dp inj T pc lo (.int x :: st) X := fun σ o σ' h => rn_tableOut d hx ht (kk σ o σ' h)
theorem tl_lookup {dflt : Int} {ps : Array (Int × Int)} {len : Nat} {x : Int32} {off : Int} {tgt : Nat} (d : decode cc pc = .ok (.lookupswitch dflt ps, len)) (hp : (ps.toList.zip (ps.toList.drop 1)).all (fun (a, next) => a.1 < next.1) = true) (ho : Op.lookupswitch.offset ps.toList dflt x.toInt = off) (ht : (pc : Int) + off = (tgt : Int)) (kk : TL yy cc maxL ret dp inj T tgt lo st X) : TL yy cc maxL ret dp inj T pc lo (.int x :: st) X := fun σ o σ' h => rn_lookup d hp ho ht (kk σ o σ' h)
theorem tl_getI {index ci j b : Nat} {fl : List Nat} {K : Int32 → Dm α} (f : FL yy.cls index ci j) (hT : T[b]? = some (3, ci, fl)) (hl : fl[j]? = some 0) (d : decode cc pc = .ok (.getfield index, 3)) (kk : ∀ x : Int32, TL yy cc maxL ret dp inj T (pc + 3) lo (.int x :: st) (K x)) : TL yy cc maxL ret dp inj T pc lo (.ref b :: st) (gM (fun σ => σ b j) K) := fun σ o σ' h => rn_getI f hT hl d (kk (σ b j) σ o σ' h)
theorem tl_getR {index ci j b r : Nat} {fl : List Nat} (f : FL yy.cls index ci j) (hT : T[b]? = some (3, ci, fl)) (hl : fl[j]? = some (r + 2)) (d : decode cc pc = .ok (.getfield index, 3)) (kk : TL yy cc maxL ret dp inj T (pc + 3) lo (.ref r :: st) X) : TL yy cc maxL ret dp inj T pc lo (.ref b :: st) X := fun σ o σ' h => rn_getR f hT hl d (kk σ o σ' h)
theorem tl_putI {index ci j b : Nat} {fl : List Nat} {x : Int32} (f : FW yy.cls index ci j .int) (hT : T[b]? = some (3, ci, fl)) (hl : fl[j]? = some 0) (d : decode cc pc = .ok (.putfield index, 3)) (kk : TL yy cc maxL ret dp inj T (pc + 3) lo st X) : TL yy cc maxL ret dp inj T pc lo (.int x :: .ref b :: st) (sM b j x X) := fun σ o σ' h => rn_putI f hT hl rfl rfl d (kk (upM σ b j x) o σ' h)
theorem narZ {x : Int32} (h : x = 0 ∨ x = 1) : narrow .boolean (.int x) = .int x ∧ fits .boolean (.int x) = true := by
  rcases h with rfl | rfl <;> exact ⟨rfl, rfl⟩
theorem tl_putZ {index ci j b : Nat} {fl : List Nat} {x : Int32} (f : FW yy.cls index ci j .boolean) (hT : T[b]? = some (3, ci, fl)) (hl : fl[j]? = some 0) (d : decode cc pc = .ok (.putfield index, 3)) (kk : TL yy cc maxL ret dp inj T (pc + 3) lo st X) : TL yy cc maxL ret dp inj T pc lo (.int x :: .ref b :: st) (zM b j x X) := by
  intro σ o σ' h
  unfold zM at h
  split at h
  · rename_i hc
    exact rn_putI f hT hl (narZ hc).1 (narZ hc).2 d (kk (upM σ b j x) o σ' h)
  · cases h
theorem tl_iald {b q : Nat} {fl : List Nat} {i : Int32} {K : Int32 → Dm α} (hT : T[b]? = some (0, q, fl)) (d : decode cc pc = .ok (.iaload, 1)) (kk : ∀ x : Int32, TL yy cc maxL ret dp inj T (pc + 1) lo (.int x :: st) (K x)) : TL yy cc maxL ret dp inj T pc lo (.int i :: .ref b :: st) (rdM b q i K) := by
  intro σ o σ' h
  unfold rdM at h
  split at h
  · rename_i hc
    exact rn_iald hT (inB_in hc) d (kk _ σ o σ' h)
  · cases h
theorem tl_iast {b q : Nat} {fl : List Nat} {i x : Int32} (hT : T[b]? = some (0, q, fl)) (d : decode cc pc = .ok (.iastore, 1)) (kk : TL yy cc maxL ret dp inj T (pc + 1) lo st X) : TL yy cc maxL ret dp inj T pc lo (.int x :: .int i :: .ref b :: st) (wrM b q i x X) := by
  intro σ o σ' h
  unfold wrM at h
  split at h
  · rename_i hc
    exact rn_iast hT (inB_in hc) d (kk _ o σ' h)
  · cases h
theorem tl_alen {b q : Nat} {fl : List Nat} (hT : T[b]? = some (0, q, fl)) (d : decode cc pc = .ok (.arraylength, 1)) (kk : TL yy cc maxL ret dp inj T (pc + 1) lo (.int (Int32.ofNat q) :: st) X) : TL yy cc maxL ret dp inj T pc lo (.ref b :: st) X := fun σ o σ' h => rn_alen hT rfl d (kk σ o σ' h)
theorem tl_alenq {b q : Nat} {fl : List Nat} (hT : T[b]? = some (2, q, fl)) (d : decode cc pc = .ok (.arraylength, 1)) (kk : TL yy cc maxL ret dp inj T (pc + 1) lo (.int (Int32.ofNat q) :: st) X) : TL yy cc maxL ret dp inj T pc lo (.ref b :: st) X := fun σ o σ' h => rn_alenq hT rfl d (kk σ o σ' h)
theorem tl_mmax {idx : Nat} {x y : Int32} (hlk : Cond.methodLink yy.cls idx Lib.Math.max.name ∈ GW) (hst1 : Cond.static Lib.Math.max.name ∈ GW) (hin : Cond.initialized "java/lang/Math" ∈ GW) (hcd : Cond.code Lib.Math.max.name Lib.Math.max.code 2 (some .int) ∈ GW) (hfr : 1 ≤ dp) (hw : (st.map fun v => v.category).sum ≤ 8) (d : decode cc pc = .ok (.invokestatic idx, 3)) (kk : TL yy cc maxL ret dp inj T (pc + 3) lo (.int (iMax x y) :: st) X) : TL yy cc maxL ret dp inj T pc lo (.int y :: .int x :: st) X := fun σ o σ' h => rn_mmax hlk hst1 hin hcd hfr (by show _ ≤ 44 * dp; omega) (Nat.zero_le _) (Nat.zero_le _) d (kk σ o σ' h)
theorem tl_mmin {idx : Nat} {x y : Int32} (hlk : Cond.methodLink yy.cls idx Lib.Math.min.name ∈ GW) (hst1 : Cond.static Lib.Math.min.name ∈ GW) (hin : Cond.initialized "java/lang/Math" ∈ GW) (hcd : Cond.code Lib.Math.min.name Lib.Math.min.code 2 (some .int) ∈ GW) (hfr : 1 ≤ dp) (hw : (st.map fun v => v.category).sum ≤ 8) (d : decode cc pc = .ok (.invokestatic idx, 3)) (kk : TL yy cc maxL ret dp inj T (pc + 3) lo (.int (iMin x y) :: st) X) : TL yy cc maxL ret dp inj T pc lo (.int y :: .int x :: st) X := fun σ o σ' h => rn_mmin hlk hst1 hin hcd hfr (by show _ ≤ 44 * dp; omega) (Nat.zero_le _) (Nat.zero_le _) d (kk σ o σ' h)
theorem tl_ldc {idx : Nat} {v : Int32} (hlk : Cond.constant yy.cls idx v ∈ GW) (d : decode cc pc = .ok (.ldc idx, 2)) (kk : TL yy cc maxL ret dp inj T (pc + 2) lo (.int v :: st) X) : TL yy cc maxL ret dp inj T pc lo st X := fun σ o σ' h => rn_ldc hlk d (kk σ o σ' h)
theorem tl_ldc2 {idx : Nat} {v : Int64} (hlk : Cond.constantLong yy.cls idx v ∈ GW) (d : decode cc pc = .ok (.ldc2_w idx, 3)) (kk : TL yy cc maxL ret dp inj T (pc + 3) lo (.long v :: st) X) : TL yy cc maxL ret dp inj T pc lo st X := fun σ o σ' h => rn_ldc2 hlk d (kk σ o σ' h)
theorem tl_ldc2d {idx : Nat} {v : UInt64} (hlk : Cond.constantDouble yy.cls idx v ∈ GW) (d : decode cc pc = .ok (.ldc2_w idx, 3)) (kk : TL yy cc maxL ret dp inj T (pc + 3) lo (.double v :: st) X) : TL yy cc maxL ret dp inj T pc lo st X := fun σ o σ' h => rn_ldc2d hlk d (kk σ o σ' h)
theorem tl_throw {er ik ic : Nat} {names : List String} (hcls : Bundle.fit (exName er) = true) (hnames : ∀ z ∈ names, Bundle.fit z = true) (hk9 : Cond.classLink yy.cls ik (exName er) ∈ GW) (hini : Cond.initialized (exName er) ∈ GW) (hat : ∀ w ∈ vx_at0 yy.cls ic (exName er) names, w ∈ GW ∨ w ∈ xwL) (d0 : decode cc pc = .ok (.new ik, 3)) (d3 : decode cc (pc + 3) = .ok (.dup, 1)) (d4 : decode cc (pc + 4) = .ok (.invokespecial ic, 3)) (d7 : decode cc (pc + 7) = .ok (.athrow, 1)) (hfr : names.length + 3 < dp) (hw : (st.map fun v => v.category).sum ≤ 8) : TL yy cc maxL ret dp inj T pc lo st (thrM er) := by
  intro σ o σ' h
  cases h
  exact rn_throw hcls hnames hk9 hini hat d0 d3 d4 d7 hfr (by show _ ≤ 44 * dp; omega) (Nat.le_refl _) (Nat.le_refl _)
theorem tl_fail : TL yy cc maxL ret dp inj T pc lo st failM := by
  intro σ o σ' h
  cases h
theorem tl_j {κ : Type} {K : κ} {B : κ → Dm α} (Pp : κ → Prop) (hK : Pp K) (hB : ∀ k : κ, Pp k → TL yy cc maxL ret dp inj T pc lo st (B k)) : TL yy cc maxL ret dp inj T pc lo st (jM K B) := hB K hK
theorem tl_bI {x : Int32} {K : Int32 → Dm α} (kk : ∀ z : Int32, TL yy cc maxL ret dp inj T pc lo (.int z :: st) (K z)) : TL yy cc maxL ret dp inj T pc lo (.int x :: st) (bI x K) := kk x
theorem tl_bL {x : Int64} {K : Int64 → Dm α} (kk : ∀ z : Int64, TL yy cc maxL ret dp inj T pc lo (.long z :: st) (K z)) : TL yy cc maxL ret dp inj T pc lo (.long x :: st) (bL x K) := kk x
theorem tl_bD {x : UInt64} {K : UInt64 → Dm α} (kk : ∀ z : UInt64, TL yy cc maxL ret dp inj T pc lo (.double z :: st) (K z)) : TL yy cc maxL ret dp inj T pc lo (.double x :: st) (bD x K) := kk x
theorem tl_ck {c : Prop} [Decidable c] (kk : c → TL yy cc maxL ret dp inj T pc lo st X) : TL yy cc maxL ret dp inj T pc lo st (ckM c X) := by
  intro σ o σ' h
  unfold ckM at h
  split at h
  · rename_i hc
    exact kk hc σ o σ' h
  · cases h
variable {β : Type} {inj' : β → Option Value} {F : Dm β} {K : β → Dm α} {d' : Nat} {y' : MethodName} {bytes : ByteArray} {mL a idx : Nat} {rt : Option FieldType} {as st0 : List Value}
theorem tl_callV {b ci : Nat} {fl : List Nat} (cal : Cal y' bytes mL rt a ∧ Cond.instanceMethod y' ∈ GW ∧ Cond.selects y'.cls y' y' ∈ GW ∧ mL ≤ 25) (hlk : Cond.methodLink yy.cls idx y' ∈ GW) (hT : T[b]? = some (3, ci, fl)) (hci : ∃ (TT : u_T) (N : Nat), vwCl[ci]? = some (y'.cls, TT, N)) (ev : CT (.code y' bytes mL rt) y' d' inj' T (.ref b :: as) F) (hlen : as.length = a) (hst : st0 = as.reverse ++ .ref b :: st) (hw : (st.map fun v => v.category).sum ≤ 8) (hfr : d' + 1 ≤ dp) (d : decode cc pc = .ok (.invokevirtual idx, 3)) (kk : ∀ r : β, TL yy cc maxL ret dp inj T (pc + 3) lo ((inj' r).toList ++ st) (K r)) : TL yy cc maxL ret dp inj T pc lo st0 (invM F K) := by
  intro σ o σ' h
  unfold invM at h
  cases hF : F σ with
  | none => rw [hF] at h; cases h
  | some q =>
    obtain ⟨o1, σ1⟩ := q
    rw [hF] at h
    cases o1 with
    | inl r => exact rn_callV hT hci cal.1 cal.2.1 cal.2.2.1 hlk (ev σ (.inl r) σ1 hF) hlen hst hw hfr (by show 8 + (mL + 11) + 44 * d' ≤ 44 * dp; have := cal.2.2.2; omega) (Nat.zero_le _) (Nat.zero_le _) (fun h => by cases h) d (kk r σ1 o σ' h)
    | inr e =>
      cases h
      exact rn_callVx hT hci cal.1 cal.2.1 cal.2.2.1 hlk (ev σ (.inr e) _ hF) hlen hst hw hfr (by show 8 + (mL + 11) + 44 * d' ≤ 44 * dp; have := cal.2.2.2; omega) (Nat.le_refl _) (Nat.le_refl _) d
theorem tl_callS (cal : Cal y' bytes mL rt a ∧ Cond.static y' ∈ GW ∧ mL ≤ 25) (hlk : Cond.methodLink yy.cls idx y' ∈ GW) (ev : CT (.code y' bytes mL rt) y' d' inj' T as F) (hlen : as.length = a) (hst : st0 = as.reverse ++ st) (hw : (st.map fun v => v.category).sum ≤ 8) (hfr : d' + 1 ≤ dp) (d : decode cc pc = .ok (.invokestatic idx, 3)) (kk : ∀ r : β, TL yy cc maxL ret dp inj T (pc + 3) lo ((inj' r).toList ++ st) (K r)) : TL yy cc maxL ret dp inj T pc lo st0 (invM F K) := by
  intro σ o σ' h
  unfold invM at h
  cases hF : F σ with
  | none => rw [hF] at h; cases h
  | some q =>
    obtain ⟨o1, σ1⟩ := q
    rw [hF] at h
    cases o1 with
    | inl r => exact rn_callS cal.1 cal.2.1 hlk (ev σ (.inl r) σ1 hF) hlen hst hw hfr (by show 8 + (mL + 11) + 44 * d' ≤ 44 * dp; have := cal.2.2; omega) (Nat.zero_le _) (Nat.zero_le _) (fun h => by cases h) d (kk r σ1 o σ' h)
    | inr e =>
      cases h
      exact rn_callSx cal.1 cal.2.1 hlk (ev σ (.inr e) _ hF) hlen hst hw hfr (by show 8 + (mL + 11) + 44 * d' ≤ 44 * dp; have := cal.2.2; omega) (Nat.le_refl _) (Nat.le_refl _) d
/-- a nest mate's, that throws nothing -/
theorem tl_callSN {host : String} (cal : Cal y' bytes mL rt a ∧ Cond.static y' ∈ GW ∧ mL ≤ 25) (hlk : (yy.cls, idx, y', host) ∈ nestM) (ev : CT (.code y' bytes mL rt) y' d' inj' T as F) (hnx : ∀ σ e σ1, F σ ≠ some (.inr e, σ1)) (hlen : as.length = a) (hst : st0 = as.reverse ++ st) (hw : (st.map fun v => v.category).sum ≤ 8) (hfr : d' + 1 ≤ dp) (d : decode cc pc = .ok (.invokestatic idx, 3)) (kk : ∀ r : β, TL yy cc maxL ret dp inj T (pc + 3) lo ((inj' r).toList ++ st) (K r)) : TL yy cc maxL ret dp inj T pc lo st0 (invM F K) := by
  intro σ o σ' h
  unfold invM at h
  cases hF : F σ with
  | none => rw [hF] at h; cases h
  | some q =>
    obtain ⟨o1, σ1⟩ := q
    rw [hF] at h
    cases o1 with
    | inl r => exact rn_callSN cal.1 cal.2.1 hlk (ev σ (.inl r) σ1 hF) hlen hst hw hfr (by show 8 + (mL + 11) + 44 * d' ≤ 44 * dp; have := cal.2.2; omega) (Nat.zero_le _) (Nat.zero_le _) (fun h => by cases h) d (kk r σ1 o σ' h)
    | inr e => exact absurd hF (hnx σ e σ1)
end TlRows
section TlEnds
variable {yy : MethodName} {cc : ByteArray} {maxL : Nat} {dp : Nat} {T : Tb} {pc : Nat} {lo : List (Option Value)} {st : List Value}
theorem tl_iret {v : Int32} (d : decode cc pc = .ok (.ireturn, 1)) : TL yy cc maxL (some .int) dp iI T pc lo [.int v] (retM v) := by
  intro σ o σ' h
  cases h
  exact rn_iret (Nat.zero_le _) (Nat.zero_le _) d
theorem tl_zret {v : Int32} (d : decode cc pc = .ok (.ireturn, 1)) : TL yy cc maxL (some .boolean) dp iI T pc lo [.int v] (retZ v) := by
  intro σ o σ' h
  unfold retZ at h
  split at h
  · rename_i hc
    cases h
    exact rn_zret (narZ hc).1 (Nat.zero_le _) (Nat.zero_le _) d
  · cases h
theorem tl_lret {v : Int64} (d : decode cc pc = .ok (.lreturn, 1)) : TL yy cc maxL (some .long) dp lI T pc lo [.long v] (retM v) := by
  intro σ o σ' h
  cases h
  exact rn_lret (Nat.zero_le _) (Nat.zero_le _) d
theorem tl_dret {v : UInt64} (d : decode cc pc = .ok (.dreturn, 1)) : TL yy cc maxL (some .double) dp dI9 T pc lo [.double v] (retM v) := by
  intro σ o σ' h
  cases h
  exact rn_dret (Nat.zero_le _) (Nat.zero_le _) d
theorem tl_vret (d : decode cc pc = .ok (.return_, 1)) : TL yy cc maxL none dp vI T pc lo [] (retM ()) := by
  intro σ o σ' h
  cases h
  exact rn_vret (Nat.zero_le _) (Nat.zero_le _) d
theorem tl_aret {v : Nat} {nm : String} (d : decode cc pc = .ok (.areturn, 1)) : TL yy cc maxL (some (.object nm)) dp rI T pc lo [.ref v] (retM v) := by
  intro σ o σ' h
  cases h
  exact rn_aret (Nat.zero_le _) (Nat.zero_le _) d
theorem ct_of {α : Type} {inj : α → Option Value} {ret : Option FieldType} {a j : Nat} {as : List Value} {X : Dm α} (cal : Cal yy cc maxL ret a) (hlo : lo = loA as ++ List.replicate j none) (hlen : ∀ hs : Nat, (lg_sl (as.map (ge hs))).length ≤ maxL) (h : TL yy cc maxL ret dp inj T 0 lo [] X) : CT (.code yy cc maxL ret) yy dp inj T as X := fun σ o σ' hX => ev_of cal hlo hlen (h σ o σ' hX)
end TlEnds
