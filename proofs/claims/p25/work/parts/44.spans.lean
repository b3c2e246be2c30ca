/-- a sum of naturals -/
def smN (g : Nat → Nat) (lo : Nat) : Nat → Nat
  | 0 => 0
  | n + 1 => if lo ≤ n then smN g lo n + g n else 0
theorem smN_0 {g : Nat → Nat} {lo : Nat} : smN g lo lo = 0 := by
  cases lo with
  | zero => rfl
  | succ n => unfold smN; rw [if_neg (by omega)]
theorem smN_s {g : Nat → Nat} {lo i : Nat} (h : lo ≤ i) : smN g lo (i + 1) = smN g lo i + g i := by
  show (if lo ≤ i then smN g lo i + g i else 0) = _
  rw [if_pos h]
theorem smI_iN {g : Nat → Nat} {lo : Nat} : ∀ hi, smI (fun i => iN (g i)) lo hi = iN (smN g lo hi)
  | 0 => rfl
  | n + 1 => by
    unfold smI smN
    by_cases h : lo ≤ n
    · rw [if_pos h, if_pos h, smI_iN n, iN_add]
    · rw [if_neg h, if_neg h]
theorem smN_congr {g g' : Nat → Nat} {lo : Nat} : ∀ {hi : Nat}, (∀ j, lo ≤ j → j < hi → g j = g' j) → smN g lo hi = smN g' lo hi
  | 0, _ => rfl
  | n + 1, h => by
    unfold smN
    by_cases h1 : lo ≤ n
    · rw [if_pos h1, if_pos h1, smN_congr (fun j a b => h j a (by omega)), h n h1 (by omega)]
    · rw [if_neg h1, if_neg h1]
theorem smN_sub {g : Nat → Nat} {lo lo' : Nat} (h0 : lo' ≤ lo) : ∀ {hi hi' : Nat}, hi ≤ hi' → smN g lo hi ≤ smN g lo' hi'
  | 0, _, _ => Nat.zero_le _
  | n + 1, 0, h => by omega
  | n + 1, m + 1, h => by
    by_cases h1 : lo ≤ n
    · by_cases h2 : n = m
      · subst h2
        rw [smN_s h1, smN_s (by omega)]
        have := smN_sub (g := g) h0 (Nat.le_refl n)
        omega
      · have h3 : n + 1 ≤ m := by omega
        have h4 := smN_sub (g := g) h0 h3
        rw [smN_s (g := g) (lo := lo') (i := m) (by omega)]
        omega
    · show (if lo ≤ n then smN g lo n + g n else 0) ≤ _
      rw [if_neg h1]
      exact Nat.zero_le _
theorem iMax_sub {a c : Nat} (ha : a < 1000000000) (hc : c < 1000000000) : iMax (iN 0) (iN a - iN c) = iN (a - c) := by
  by_cases h : c ≤ a
  · rw [iN_sub h, iMax_iN (by omega) (by omega), Nat.zero_max]
  · unfold iMax
    have h1 : ¬ iN 0 < iN a - iN c := by
      rw [Int32.lt_iff_toInt_lt, Int32.toInt_sub, iN_int (by omega), iN_int (by omega), iN_int (by omega), Int.bmod_eq_of_le (by omega) (by omega)]
      omega
    rw [if_neg h1, show a - c = 0 by omega]
/-- a line's size behind the cells that lie in several lines, of the squares before i -/
def spZ (s : Sv) (wa : Nat → Nat) (w : Nat) (z0 : Nat → Nat) (lo : Nat) : Nat → Nat → Nat
  | 0 => z0
  | n + 1 => if lo ≤ n then (if (clB s n && decide (1 < spW s w n)) = true then (fun l => if l = plS w n + spW s w n - 1 then spZ s wa w z0 lo n l + (wa n - smN (spZ s wa w z0 lo n) (plS w n) (plS w n + spW s w n)) else spZ s wa w z0 lo n l) else spZ s wa w z0 lo n) else z0
theorem smN_upd {z : Nat → Nat} {x v lo : Nat} : ∀ {hi : Nat}, smN (fun l => if l = x then z l + v else z l) lo hi ≤ smN z lo hi + v
  | 0 => Nat.zero_le _
  | n + 1 => by
    by_cases h1 : lo ≤ n
    · rw [smN_s h1, smN_s h1]
      by_cases h2 : n = x
      · have e : smN (fun l => if l = x then z l + v else z l) lo n = smN z lo n := smN_congr (fun j a b => by
          show (if j = x then z j + v else z j) = z j
          rw [if_neg (by omega)])
        rw [e]
        show smN z lo n + (if n = x then z n + v else z n) ≤ _
        rw [if_pos h2]
        omega
      · have := smN_upd (z := z) (x := x) (v := v) (lo := lo) (hi := n)
        show smN _ lo n + (if n = x then z n + v else z n) ≤ _
        rw [if_neg h2]
        omega
    · show (if lo ≤ n then _ else 0) ≤ _
      rw [if_neg h1]
      exact Nat.zero_le _
theorem spZ_sum {s : Sv} {wa : Nat → Nat} {w lo Wm : Nat} {z0 : Nat → Nat} (hwa : ∀ q, wa q ≤ Wm) : ∀ i, lo ≤ i → smN (spZ s wa w z0 lo i) 0 5 ≤ smN z0 0 5 + (i - lo) * Wm
  | 0, h => by
    have : lo = 0 := by omega
    subst this
    show smN z0 0 5 ≤ _
    omega
  | n + 1, h => by
    by_cases h1 : lo ≤ n
    · have ih := spZ_sum (s := s) (w := w) (z0 := z0) hwa n h1
      have e : (n + 1 - lo) * Wm = (n - lo) * Wm + Wm := by rw [show n + 1 - lo = (n - lo) + 1 by omega, Nat.add_mul, Nat.one_mul]
      rw [e]
      unfold spZ
      rw [if_pos h1]
      by_cases h2 : (clB s n && decide (1 < spW s w n)) = true
      · rw [if_pos h2]
        have h3 := smN_upd (z := spZ s wa w z0 lo n) (x := plS w n + spW s w n - 1) (v := wa n - smN (spZ s wa w z0 lo n) (plS w n) (plS w n + spW s w n)) (lo := 0) (hi := 5)
        have h4 := hwa n
        omega
      · rw [if_neg h2]
        omega
    · unfold spZ
      rw [if_neg h1]
      omega

