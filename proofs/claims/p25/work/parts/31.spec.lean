/-! THE STATE, AS THE REFERENCE'S ARRAY HOLDS IT, AND WHAT IT SAYS -/
abbrev Sv : Type := Nat → Int32
def nv (x : Int32) : Nat := x.toNatClampNeg
theorem nv_iN {a : Nat} (h : a < 2147483648) : nv (iN a) = a := iN_nat h
def tbS (s : Sv) : Nat := nv (s 0)
def roS (s : Sv) (t : Nat) : Nat := nv (s (2 + t))
def coS (s : Sv) (t : Nat) : Nat := nv (s (7 + t))
def kiS (s : Sv) (q : Nat) : Nat := nv (s (12 + q))
def nuS (s : Sv) (q : Nat) : Int32 := s (137 + q)
def hiS (s : Sv) (q : Nat) : Nat := nv (s (262 + q))
def brS (s : Sv) (q : Nat) : Nat := nv (s (387 + q))
def owS (s : Sv) (q : Nat) : Nat := nv (s (512 + q))
def ruS (s : Sv) (i : Nat) : Nat := nv (s (637 + i))
/-- a square of its table -/
def isOf (s : Sv) (q : Nat) : Prop := q / 25 < tbS s ∧ q % 25 / 5 < roS s (q / 25) ∧ q % 5 < coS s (q / 25)
def isCl (s : Sv) (q : Nat) : Prop := isOf s q ∧ owS s q = q
/-- the square q lies in the rectangle of the cell o -/
def inRc (s : Sv) (o q : Nat) : Prop := q / 25 = o / 25 ∧ o % 25 / 5 ≤ q % 25 / 5 ∧ q % 25 / 5 < o % 25 / 5 + hiS s o ∧ o % 5 ≤ q % 5 ∧ q % 5 < o % 5 + brS s o
/-- what holds of a sheet at all times -/
def WF (s : Sv) : Prop :=
  (s 0 = iN (tbS s) ∧ 1 ≤ tbS s ∧ tbS s ≤ 5) ∧
  (∃ h, s 1 = iN h ∧ 1 ≤ h ∧ h ≤ 60) ∧
  (∀ t, t < tbS s → s (2 + t) = iN (roS s t) ∧ 1 ≤ roS s t ∧ roS s t ≤ 5 ∧ s (7 + t) = iN (coS s t) ∧ 1 ≤ coS s t ∧ coS s t ≤ 5) ∧
  (∀ q, isOf s q → s (512 + q) = iN (owS s q) ∧ isCl s (owS s q) ∧ inRc s (owS s q) q) ∧
  (∀ o, isCl s o → s (262 + o) = iN (hiS s o) ∧ s (387 + o) = iN (brS s o) ∧ 1 ≤ hiS s o ∧ 1 ≤ brS s o ∧ o % 25 / 5 + hiS s o ≤ roS s (o / 25) ∧ o % 5 + brS s o ≤ coS s (o / 25) ∧ ∀ q, inRc s o q → owS s q = o) ∧
  (∀ q, isOf s q → s (12 + q) = iN (kiS s q) ∧ kiS s q ≤ 6 ∧ (∀ i, i < 4 → s (637 + (4 * q + i)) = iN (ruS s (4 * q + i)) ∧ ruS s (4 * q + i) ≤ 3) ∧ (owS s q ≠ q → kiS s q = 0)) ∧
  (∀ q, isCl s q → (kiS s q = 1 → -999 ≤ (nuS s q).toInt ∧ (nuS s q).toInt ≤ 999) ∧ (kiS s q = 2 → ∃ w, nuS s q = iN w ∧ 1 ≤ w ∧ w ≤ 12) ∧ (kiS s q = 3 → nuS s q = iN (nv (nuS s q)) ∧ q / 25 < nv (nuS s q) ∧ nv (nuS s q) < tbS s)) ∧
  (∀ t, 1 ≤ t → t < tbS s → ∃ q, isCl s q ∧ kiS s q = 3 ∧ nv (nuS s q) = t) ∧
  (∀ q q', isCl s q → isCl s q' → kiS s q = 3 → kiS s q' = 3 → nv (nuS s q) = nv (nuS s q') → q = q')
/-- the class's sheet at b holds s -/
def Rel (b : Nat) (s : Sv) (σ : Mm) : Prop :=
  σ b 1 = s 0 ∧ σ b 0 = s 1 ∧
  (∀ t, t < tbS s → σ (b + 2) (2 * t + 1) = s (2 + t) ∧ σ (b + 2) (2 * t) = s (7 + t)) ∧
  (∀ q, q / 25 < tbS s → ¬ isOf s q → σ (b + 6) q = mI) ∧
  (∀ q, isOf s q → σ (b + 6) q = s (512 + q) ∧ σ (b + 8) q = s (12 + q) ∧ σ (b + 10) q = s (137 + q) ∧ σ (b + 12) (2 * q + 1) = s (262 + q) ∧ σ (b + 12) (2 * q) = s (387 + q) ∧ ∀ i, i < 4 → σ (b + 14) (4 * q + i) = s (637 + (4 * q + i))) ∧
  (∀ q, q / 25 < tbS s → ¬ isOf s q → σ (b + 8) q = iN 0 ∧ ∀ i, i < 4 → σ (b + 14) (4 * q + i) = iN 0) ∧
  σ (b + 4) 0 = mI ∧
  (∀ q, isCl s q → kiS s q = 3 → σ (b + 4) (nv (nuS s q)) = iN q)
theorem isOf_lt {s : Sv} (hw : WF s) {q : Nat} (h : isOf s q) : q < 125 := by
  have h1 := hw.1.2.2
  have h2 := h.1
  omega
theorem rel_isCell {b : Nat} {s : Sv} {σ : Mm} (hw : WF s) (hr : Rel b s σ) {q : Nat} (hq : q / 25 < tbS s) : (σ (b + 6) q = iN q) = isCl s q := by
  have h5 := hw.1.2.2
  by_cases h : isOf s q
  · have h1 := hr.2.2.2.2.1 q h
    have h2 := hw.2.2.2.1 q h
    have h3 := isOf_lt hw h
    have h4 := isOf_lt hw h2.2.1.1
    rw [h1.1, h2.1, iN_eq (by omega) (by omega)]
    exact propext ⟨fun e => ⟨h, e⟩, fun e => e.2⟩
  · rw [hr.2.2.2.1 q hq h, mI_iN (by omega)]
    exact propext ⟨fun e => e.elim, fun e => h e.1⟩
/-! along and across -/
def alS (k q : Nat) : Nat := if k = 4 then q % 25 / 5 else q % 5
/-- the greatest of some numbers -/
def mxN (g : Nat → Nat) (lo : Nat) : Nat → Nat
  | 0 => 0
  | n + 1 => if lo ≤ n then max (mxN g lo n) (g n) else 0
theorem mxN_0 {g : Nat → Nat} {lo : Nat} : mxN g lo lo = 0 := by
  cases lo with
  | zero => rfl
  | succ n => unfold mxN; rw [if_neg (by omega)]
theorem mxN_s {g : Nat → Nat} {lo i : Nat} (h : lo ≤ i) : mxN g lo (i + 1) = max (mxN g lo i) (g i) := by
  show (if lo ≤ i then max (mxN g lo i) (g i) else 0) = _
  rw [if_pos h]
theorem mxN_le {g : Nat → Nat} {lo B : Nat} (hg : ∀ i, g i ≤ B) : ∀ hi, mxN g lo hi ≤ B
  | 0 => Nat.zero_le _
  | n + 1 => by
    unfold mxN
    by_cases h1 : lo ≤ n
    · rw [if_pos h1]
      exact Nat.max_le.mpr ⟨mxN_le hg n, hg n⟩
    · rw [if_neg h1]
      exact Nat.zero_le _

