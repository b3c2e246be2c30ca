/-! BOUNDS OF THE LAYOUT -/
theorem mxN_leR {g : Nat → Nat} {lo B : Nat} : ∀ hi, (∀ i, lo ≤ i → i < hi → g i ≤ B) → mxN g lo hi ≤ B
  | 0, _ => Nat.zero_le _
  | n + 1, h => by
    unfold mxN
    by_cases h1 : lo ≤ n
    · rw [if_pos h1]
      exact Nat.max_le.mpr ⟨mxN_leR n (fun i a b => h i a (by omega)), h n h1 (by omega)⟩
    · rw [if_neg h1]
      exact Nat.zero_le _
theorem bdS_le {s : Sv} {e : Nat → Nat} {t i B : Nat} (h4 : i < 4) (h : ∀ k, k / 100 = t → e k ≤ B) : bdS s e t i ≤ B := by
  unfold bdS grS
  refine mxN_leR _ (fun j h1 h2 => ?_)
  by_cases hp : plS (if i = 0 ∨ i = 2 then 1 else 0) j = (if i = 0 ∨ i = 3 then 0 else if i = 2 then roS s t - 1 else coS s t - 1)
  · rw [if_pos hp]
    exact h _ (by omega)
  · rw [if_neg hp]
    exact Nat.zero_le _
theorem rlS_le {s : Sv} {e : Nat → Nat} (hw : WF s) {q i : Nat} (h4 : i < 4) (h : ∀ k, q / 25 < k / 100 → k / 100 < tbS s → e k ≤ 3) : rlS s e q i ≤ 3 := by
  unfold rlS inS
  refine Nat.max_le.mpr ⟨?_, ?_⟩
  · by_cases hq : ofB s q = true
    · rw [if_pos hq]
      exact ((hw.2.2.2.2.2.1 q (ofB_iff.mp hq)).2.2.1 i h4).2
    · rw [if_neg hq]
      omega
  · by_cases hc : (clB s q && decide (kiS s q = 3)) = true
    · rw [if_pos hc]
      rw [Bool.and_eq_true, decide_eq_true_eq] at hc
      have w7 := (hw.2.2.2.2.2.2.1 q (clB_iff.mp hc.1)).2.2 hc.2
      exact bdS_le h4 (fun k hk => h k (by omega) (by omega))
    · rw [if_neg hc]
      omega
theorem edN_le {s : Sv} {rl : Nat → Nat} {B : Nat} (hw : WF s) {q i : Nat} (h4 : i < 4) (hq : isOf s q) (h : ∀ j, j / 100 = q / 25 → rl j ≤ B) : edN s rl q i ≤ B := by
  have o : ∀ z, isOf s z → z / 25 = q / 25 → owS s z / 25 = q / 25 := fun z h1 h2 => by
    have := (hw.2.2.2.1 z h1).2.2.1
    omega
  have o1 := o q hq rfl
  unfold edN
  split
  · exact h _ (by omega)
  · rename_i q' e
    have b1 := bsS_of hw hq e
    have o2 := o q' b1.1 b1.2
    by_cases he : owS s q' = owS s q
    · rw [if_pos he]
      exact Nat.zero_le _
    · rw [if_neg he]
      exact Nat.max_le.mpr ⟨h _ (by omega), h _ (by omega)⟩
theorem eL_le {s : Sv} (hw : WF s) : ∀ n k, tbS s ≤ k / 100 + n → eL s k ≤ 3
  | 0, k, h => by
    have e1 := eL_eq hw (q := k / 4) (i := k % 4) (by omega)
    rw [show k / 4 * 4 + k % 4 = k by omega, ofB_not (fun g => by have := g.1; omega), if_neg (by decide)] at e1
    omega
  | n + 1, k, h => by
    have e1 := eL_eq hw (q := k / 4) (i := k % 4) (by omega)
    rw [show k / 4 * 4 + k % 4 = k by omega] at e1
    rw [e1]
    by_cases hq : ofB s (k / 4) = true
    · rw [if_pos hq]
      exact edN_le hw (by omega) (ofB_iff.mp hq) (fun j hj => rlS_le hw (by omega) (fun k' h1 h2 => eL_le hw n k' (by omega)))
    · rw [if_neg hq]
      omega
theorem eL_le3 {s : Sv} (hw : WF s) (k : Nat) : eL s k ≤ 3 := eL_le hw (tbS s) k (by omega)
theorem eL_lt {s : Sv} (hw : WF s) (k : Nat) : eL s k < 1000 := by
  have := eL_le3 hw k
  omega
theorem rlL_le3 {s : Sv} (hw : WF s) (k : Nat) : rlL s k ≤ 3 := rlS_le hw (by omega) (fun k' _ _ => eL_le3 hw k')
/-! sizes -/
theorem smN_leB {g : Nat → Nat} {B : Nat} (hg : ∀ i, g i ≤ B) : smN g 0 5 ≤ 5 * B := smN_le hg 5
theorem sgS_le {s : Sv} {wa : Nat → Nat} {t w l i B : Nat} (h : ∀ q, wa q ≤ B) : sgS s wa t w l i ≤ B := by
  unfold sgS
  refine mxN_le (fun q => ?_) _
  by_cases hc : (clB s q && decide (spW s w q = 1) && decide (plS w q = l)) = true
  · rw [if_pos hc]
    exact h q
  · rw [if_neg hc]
    exact Nat.zero_le _
theorem szF_sum {s : Sv} {wa : Nat → Nat} {t w B L : Nat} (h : ∀ q, wa q ≤ B) (hL : L ≤ 5) : smN (szF s wa t w) 0 L ≤ 30 * B := by
  have h1 := smN_sub (g := szF s wa t w) (lo := 0) (lo' := 0) (Nat.le_refl _) hL
  have h2 := spZ_sum (s := s) (w := w) (z0 := fun l => sgS s wa t w l ((t + 1) * 25)) (lo := t * 25) h ((t + 1) * 25) (by omega)
  have h3 := smN_leB (g := fun l => sgS s wa t w l ((t + 1) * 25)) (B := B) (fun l => sgS_le h)
  have h4 : (t + 1) * 25 - t * 25 = 25 := by omega
  rw [h4] at h2
  unfold szF at h1 ⊢
  omega
def bdT : Nat → Nat
  | 0 => 366
  | n + 1 => 6 + 30 * bdT n
def bdW : Nat → Nat
  | 0 => 12
  | n + 1 => bdT n
theorem bdT_W (n : Nat) : 6 + 30 * bdW n = bdT n := by
  cases n <;> rfl
theorem bdW_12 (n : Nat) : 12 ≤ bdW n := by
  cases n with
  | zero => exact Nat.le_refl _
  | succ n =>
    cases n with
    | zero => exact Nat.le_of_ble_eq_true rfl
    | succ n => show 12 ≤ 6 + 30 * bdT n; have : 1 ≤ bdT n := (by cases n <;> unfold bdT <;> omega); omega
theorem waS_le {s : Sv} {sh : Nat → Int32} {ts : Nat → Nat} {q w B : Nat} (hw : WF s) (hc : isCl s q) (h12 : 12 ≤ B) (h : kiS s q = 3 → ts (2 * nv (nuS s q) + w) ≤ B) : waS s sh ts q w ≤ B := by
  unfold waS
  by_cases h0 : kiS s q = 0
  · rw [if_pos h0]
    omega
  · rw [if_neg h0]
    by_cases h3 : kiS s q = 3
    · rw [if_pos h3]
      exact h h3
    · rw [if_neg h3]
      by_cases h1 : w = 1
      · rw [if_pos h1]
        omega
      · rw [if_neg h1]
        by_cases h2 : kiS s q = 2
        · rw [if_pos h2]
          obtain ⟨x, e1, e2, e3⟩ := (hw.2.2.2.2.2.2.1 q hc).2.1 h2
          rw [e1, nv_iN (by omega)]
          omega
        · rw [if_neg h2]
          exact Nat.le_trans sgnI_lt h12
theorem waT_le {s : Sv} (hw : WF s) {t w B : Nat} (h2 : w < 2) (h12 : 12 ≤ B) (h : ∀ t', t < t' → t' < tbS s → tsL s (2 * t' + w) ≤ B) (q : Nat) : waT s t w q ≤ B := by
  unfold waT
  by_cases hq : q / 25 = t
  · rw [if_pos hq, waL_eq h2]
    by_cases hc : clB s q = true
    · rw [if_pos hc]
      refine waS_le hw (clB_iff.mp hc) h12 (fun h3 => ?_)
      have w7 := (hw.2.2.2.2.2.2.1 q (clB_iff.mp hc)).2.2 h3
      exact h _ (by omega) (by omega)
    · rw [if_neg hc]
      exact Nat.zero_le _
  · rw [if_neg hq]
    exact Nat.zero_le _
theorem li_le {s : Sv} (hw : WF s) {t w : Nat} (ht : t < tbS s) : 1 ≤ liS s w t ∧ liS s w t ≤ 5 := by
  have a1 := hw.2.2.1 t ht
  unfold liS
  by_cases h1 : w = 1
  · rw [if_pos h1]; omega
  · rw [if_neg h1]; omega
theorem tsL_step {s : Sv} (hw : WF s) {t w B : Nat} (ht : t < tbS s) (h2 : w < 2) (hW : ∀ q, waT s t w q ≤ B) : tsL s (2 * t + w) ≤ 6 + 30 * B := by
  rw [tsL_eq hw h2]
  have h5 := (li_le hw (w := w) ht).2
  have h1 : drL s t w ≤ 6 := lnS_le h5
  have h3 : smN (szL s t w) 0 (liS s w t) ≤ 30 * B := szF_sum hW h5
  omega
theorem tsL_le {s : Sv} (hw : WF s) {w : Nat} (h2 : w < 2) : ∀ n t, tbS s ≤ t + n + 1 → t < tbS s → (∀ q, waT s t w q ≤ bdW n) ∧ tsL s (2 * t + w) ≤ bdT n
  | 0, t, h, ht => by
    have hW := waT_le hw h2 (bdW_12 0) (t := t) (fun t' h3 h4 => by omega)
    exact ⟨hW, by rw [← bdT_W]; exact tsL_step hw ht h2 hW⟩
  | n + 1, t, h, ht => by
    have hW := waT_le hw h2 (bdW_12 (n + 1)) (t := t) (fun t' h3 h4 => by
      have h5 : ∃ m, m ≤ n ∧ tbS s ≤ t' + m + 1 := ⟨n, by omega, by omega⟩
      exact (tsL_le hw h2 n t' (by omega) h4).2)
    exact ⟨hW, by rw [← bdT_W]; exact tsL_step hw ht h2 hW⟩
theorem tsL_max {s : Sv} (hw : WF s) {t w : Nat} (h2 : w < 2) (ht : t < tbS s) : (∀ q, waT s t w q ≤ 10000000) ∧ tsL s (2 * t + w) ≤ 300000000 := by
  have h5 := hw.1.2.2
  have h := tsL_le hw h2 4 t (by omega) ht
  have e1 : bdW 4 ≤ 10000000 := Nat.le_of_ble_eq_true rfl
  have e2 : bdT 4 ≤ 300000000 := Nat.le_of_ble_eq_true rfl
  exact ⟨fun q => Nat.le_trans (h.1 q) e1, Nat.le_trans h.2 e2⟩
theorem waL_max {s : Sv} (hw : WF s) {q w : Nat} (h2 : w < 2) : waL s (2 * q + w) ≤ 10000000 := by
  by_cases hq : q / 25 < tbS s
  · have h := (tsL_max hw h2 hq).1 q
    unfold waT at h
    rw [if_pos rfl] at h
    exact h
  · rw [waL_eq h2, if_neg (fun g => hq (clB_iff.mp g).1.1)]
    exact Nat.zero_le _
theorem szL_max {s : Sv} (hw : WF s) {t w : Nat} (h2 : w < 2) (ht : t < tbS s) {L : Nat} (hL : L ≤ 5) : smN (szL s t w) 0 L ≤ 300000000 := szF_sum (tsL_max hw h2 ht).1 hL
