/-- how many lines are drawn across the way w; e: the edges, L: the table's lines -/
def lnS (e : Nat → Nat) (t w L : Nat) : Nat := (if 0 < grS (fun q => e (q * 4 + (if w = 1 then 2 else 1))) t w (L - 1) then 1 else 0) + smN (fun l => if 0 < grS (fun q => e (q * 4 + (if w = 1 then 0 else 3))) t w l then 1 else 0) 0 L
theorem smN_le {g : Nat → Nat} {B : Nat} (hg : ∀ i, g i ≤ B) : ∀ hi, smN g 0 hi ≤ hi * B
  | 0 => Nat.zero_le _
  | n + 1 => by
    rw [smN_s (Nat.zero_le n), Nat.add_mul, Nat.one_mul]
    have := smN_le hg n
    have := hg n
    omega
theorem lnS_le {e : Nat → Nat} {t w L : Nat} (hL : L ≤ 5) : lnS e t w L ≤ 6 := by
  unfold lnS
  have h1 := smN_le (g := fun l => if 0 < grS (fun q => e (q * 4 + (if w = 1 then 0 else 3))) t w l then 1 else 0) (B := 1) (fun i => by
    show (if 0 < grS (fun q => e (q * 4 + (if w = 1 then 0 else 3))) t w i then 1 else 0) ≤ 1
    by_cases h : 0 < grS (fun q => e (q * 4 + (if w = 1 then 0 else 3))) t w i
    · rw [if_pos h]; omega
    · rw [if_neg h]; omega) L
  by_cases h : 0 < grS (fun q => e (q * 4 + (if w = 1 then 2 else 1))) t w (L - 1)
  · rw [if_pos h]; omega
  · rw [if_neg h]; omega
def liS (s : Sv) (w t : Nat) : Nat := if w = 1 then roS s t else coS s t
theorem rel_lines {b t w : Nat} {s : Sv} {σ : Mm} (hw : WF s) (hr : Rel b s σ) (ht : t < tbS s) (h2 : w < 2) : σ (b + 2) (2 * t + w) = iN (liS s w t) ∧ 1 ≤ liS s w t ∧ liS s w t ≤ 5 := by
  have a1 := hw.2.2.1 t ht
  have r1 := hr.2.2.1 t ht
  have hw2 : w = 0 ∨ w = 1 := by omega
  unfold liS
  rcases hw2 with h | h
  · subst h
    rw [if_neg (by omega)]
    exact ⟨r1.2.trans a1.2.2.2.1, a1.2.2.2.2.1, a1.2.2.2.2.2⟩
  · subst h
    rw [if_pos rfl]
    exact ⟨r1.1.trans a1.1, a1.2.1, a1.2.2.1⟩

