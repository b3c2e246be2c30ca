/-! NUMBERS, AND WHAT A METHOD'S TEXT SAYS AT ONE MEMORY -/
def iN (n : Nat) : Int32 := Int32.ofNat n
theorem nl_0 : (0 : Int32) = iN 0 := Eq.trans rfl rfl
theorem nl_1 : (1 : Int32) = iN 1 := Eq.trans rfl rfl
theorem nl_2 : (2 : Int32) = iN 2 := Eq.trans rfl rfl
theorem nl_3 : (3 : Int32) = iN 3 := Eq.trans rfl rfl
theorem nl_4 : (4 : Int32) = iN 4 := Eq.trans rfl rfl
theorem nl_5 : (5 : Int32) = iN 5 := Eq.trans rfl rfl
theorem nl_6 : (6 : Int32) = iN 6 := Eq.trans rfl rfl
theorem nl_7 : (7 : Int32) = iN 7 := Eq.trans rfl rfl
theorem nl_8 : (8 : Int32) = iN 8 := Eq.trans rfl rfl
theorem nl_9 : (9 : Int32) = iN 9 := Eq.trans rfl rfl
theorem nl_10 : (10 : Int32) = iN 10 := Eq.trans rfl rfl
theorem nl_11 : (11 : Int32) = iN 11 := Eq.trans rfl rfl
theorem nl_12 : (12 : Int32) = iN 12 := Eq.trans rfl rfl
theorem nl_13 : (13 : Int32) = iN 13 := Eq.trans rfl rfl
theorem nl_25 : (25 : Int32) = iN 25 := Eq.trans rfl rfl
theorem nl_33 : (33 : Int32) = iN 33 := Eq.trans rfl rfl
theorem nl_35 : (35 : Int32) = iN 35 := Eq.trans rfl rfl
theorem nl_45 : (45 : Int32) = iN 45 := Eq.trans rfl rfl
theorem nl_48 : (48 : Int32) = iN 48 := Eq.trans rfl rfl
theorem nl_49 : (49 : Int32) = iN 49 := Eq.trans rfl rfl
theorem nl_50 : (50 : Int32) = iN 50 := Eq.trans rfl rfl
theorem nl_52 : (52 : Int32) = iN 52 := Eq.trans rfl rfl
theorem nl_53 : (53 : Int32) = iN 53 := Eq.trans rfl rfl
theorem nl_57 : (57 : Int32) = iN 57 := Eq.trans rfl rfl
theorem nl_59 : (59 : Int32) = iN 59 := Eq.trans rfl rfl
theorem nl_60 : (60 : Int32) = iN 60 := Eq.trans rfl rfl
theorem nl_61 : (61 : Int32) = iN 61 := Eq.trans rfl rfl
theorem nl_77 : (77 : Int32) = iN 77 := Eq.trans rfl rfl
theorem nl_94 : (94 : Int32) = iN 94 := Eq.trans rfl rfl
theorem nl_97 : (97 : Int32) = iN 97 := Eq.trans rfl rfl
theorem nl_100 : (100 : Int32) = iN 100 := Eq.trans rfl rfl
theorem nl_101 : (101 : Int32) = iN 101 := Eq.trans rfl rfl
theorem nl_119 : (119 : Int32) = iN 119 := Eq.trans rfl rfl
theorem nl_125 : (125 : Int32) = iN 125 := Eq.trans rfl rfl
theorem nl_126 : (126 : Int32) = iN 126 := Eq.trans rfl rfl
theorem nl_137 : (137 : Int32) = iN 137 := Eq.trans rfl rfl
theorem nl_262 : (262 : Int32) = iN 262 := Eq.trans rfl rfl
theorem nl_387 : (387 : Int32) = iN 387 := Eq.trans rfl rfl
theorem nl_500 : (500 : Int32) = iN 500 := Eq.trans rfl rfl
theorem nl_512 : (512 : Int32) = iN 512 := Eq.trans rfl rfl
theorem nl_637 : (637 : Int32) = iN 637 := Eq.trans rfl rfl
theorem nl_999 : (999 : Int32) = iN 999 := Eq.trans rfl rfl
theorem nl_1022 : (1022 : Int32) = iN 1022 := Eq.trans rfl rfl
theorem nl_1137 : (1137 : Int32) = iN 1137 := Eq.trans rfl rfl
theorem nl_5685 : (5685 : Int32) = iN 5685 := Eq.trans rfl rfl
theorem iN_int {a : Nat} (h : a < 2147483648) : (iN a).toInt = (a : Int) := Int32.toInt_ofNat_of_lt h
theorem iN_add {a b : Nat} : iN a + iN b = iN (a + b) := (Int32.ofNat_add a b).symm
theorem iN_mul {a b : Nat} : iN a * iN b = iN (a * b) := (Int32.ofNat_mul a b).symm
theorem iN_sub {a b : Nat} (h : b ≤ a) : iN a - iN b = iN (a - b) := by
  have : iN a = iN (a - b) + iN b := by rw [iN_add, Nat.sub_add_cancel h]
  rw [this, Int32.add_sub_cancel]
theorem iN_lt {a b : Nat} (ha : a < 2147483648) (hb : b < 2147483648) : (iN a < iN b) = (a < b) := by
  rw [Int32.lt_iff_toInt_lt, iN_int ha, iN_int hb]
  exact propext Int.ofNat_lt
theorem iN_le {a b : Nat} (ha : a < 2147483648) (hb : b < 2147483648) : (iN a ≤ iN b) = (a ≤ b) := by
  rw [Int32.le_iff_toInt_le, iN_int ha, iN_int hb]
  exact propext Int.ofNat_le
theorem iN_eq {a b : Nat} (ha : a < 2147483648) (hb : b < 2147483648) : (iN a = iN b) = (a = b) := by
  rw [← Int32.toInt_inj, iN_int ha, iN_int hb]
  exact propext Int.ofNat_inj
theorem iN_nat {a : Nat} (h : a < 2147483648) : (iN a).toNatClampNeg = a := by
  show (iN a).toInt.toNat = a
  rw [iN_int h]
  rfl
theorem inB_iN {a n : Nat} (h : a < 2147483648) : (inB (iN a) n = true) = (a < n) := by
  have h0 : ¬ iN a < 0 := by
    rw [show (iN a < 0) = (a < 0) from iN_lt (b := 0) h (by omega)]
    omega
  unfold inB
  rw [iN_nat h]
  simp [h0]
theorem iN_div {a b : Nat} (ha : a < 2147483648) (hb : b < 2147483648) : iN a / iN b = iN (a / b) := by
  have h1 : a / b ≤ a := Nat.div_le_self a b
  rw [← Int32.toInt_inj, Int32.toInt_div, iN_int ha, iN_int hb, iN_int (by omega)]
  rw [Int.tdiv_eq_ediv_of_nonneg (Int.natCast_nonneg a)]
  rw [← Int.natCast_ediv]
  obtain ⟨q, hq⟩ : ∃ q, q = a / b := ⟨_, rfl⟩
  rw [← hq] at h1 ⊢
  exact Int.bmod_eq_of_le (by omega) (by omega)
theorem iN_rem {a b : Nat} (ha : a < 2147483648) (hb : b < 2147483648) : iR (iN a) (iN b) = iN (a % b) := by
  unfold iR
  have h1 : a / b * b ≤ a := Nat.div_mul_le_self a b
  rw [iN_div ha hb, iN_mul, iN_sub h1]
  congr 1
  have := Nat.div_add_mod' a b
  omega
/-- -1 -/
def mI : Int32 := -1
theorem nm_1 : (-1 : Int32) = mI := Eq.trans rfl rfl
theorem nm_1b : -(iN 1) = mI := Eq.trans rfl rfl
theorem mI_int : mI.toInt = -1 := rfl
theorem iN_mI {a : Nat} (h : a < 2147483648) : (iN a = mI) = False := by
  rw [← Int32.toInt_inj, iN_int h, mI_int]
  exact propext ⟨fun q => by omega, fun q => q.elim⟩
theorem mI_iN {a : Nat} (h : a < 2147483648) : (mI = iN a) = False := by rw [show (mI = iN a) = (iN a = mI) from propext eq_comm, iN_mI h]
theorem mI_lt {a : Nat} (h : a < 2147483648) : (mI < iN a) = True := by
  rw [Int32.lt_iff_toInt_lt, iN_int h, mI_int]
  exact propext ⟨fun _ => trivial, fun _ => by omega⟩
/-! the monad, at one memory -/
theorem retM_ap {α : Type} {r : α} {σ : Mm} : retM r σ = some (.inl r, σ) := rfl
theorem retZ_ap0 {σ : Mm} : retZ (iN 0) σ = some (.inl (iN 0), σ) := rfl
theorem retZ_ap1 {σ : Mm} : retZ (iN 1) σ = some (.inl (iN 1), σ) := rfl
theorem gM_ap {α β : Type} {f : Mm → β} {K : β → Dm α} {σ : Mm} : gM f K σ = K (f σ) σ := rfl
theorem sM_ap {α : Type} {b j : Nat} {x : Int32} {X : Dm α} {σ : Mm} : sM b j x X σ = X (upM σ b j x) := rfl
theorem jM_ap {α κ : Type} {K : κ} {B : κ → Dm α} : jM K B = B K := rfl
theorem bI_ap {α : Type} {x : Int32} {K : Int32 → Dm α} : bI x K = K x := rfl
theorem bL_ap {α : Type} {x : Int64} {K : Int64 → Dm α} : bL x K = K x := rfl
theorem bD_ap {α : Type} {x : UInt64} {K : UInt64 → Dm α} : bD x K = K x := rfl
theorem rdM_ap {α : Type} {b n i : Nat} {K : Int32 → Dm α} {σ : Mm} (hi : i < 2147483648) (h : i < n) : rdM b n (iN i) K σ = K (σ b i) σ := by
  unfold rdM
  rw [if_pos ((inB_iN hi).mpr h), iN_nat hi]
theorem wrM_ap {α : Type} {b n i : Nat} {x : Int32} {X : Dm α} {σ : Mm} (hi : i < 2147483648) (h : i < n) : wrM b n (iN i) x X σ = X (upM σ b i x) := by
  unfold wrM
  rw [if_pos ((inB_iN hi).mpr h), iN_nat hi]
theorem thrM_ap {α : Type} {e : Nat} {σ : Mm} : (thrM e : Dm α) σ = some (.inr e, σ) := rfl
theorem invM_l {α β : Type} {F : Dm β} {K : β → Dm α} {σ σ1 : Mm} {r : β} (h : F σ = some (.inl r, σ1)) : invM F K σ = K r σ1 := by
  unfold invM
  rw [h]
theorem invM_r {α β : Type} {F : Dm β} {K : β → Dm α} {σ σ1 : Mm} {e : Nat} (h : F σ = some (.inr e, σ1)) : invM F K σ = some (.inr e, σ1) := by
  unfold invM
  rw [h]
theorem ite_ap {α : Type} {c : Prop} {inst : Decidable c} {X Y : Dm α} {σ : Mm} : (@ite _ c inst X Y) σ = @ite _ c inst (X σ) (Y σ) := by
  by_cases h : c
  · rw [if_pos h, if_pos h]
  · rw [if_neg h, if_neg h]
/-- a loop, its states known ahead -/
theorem lp {A R : Type} (X : Nat → Nat → A → R) (a : Nat → A) {r : R} {i0 N : Nat} (h : i0 ≤ N) (hF : N < FU) (step : ∀ n i, i0 ≤ i → i < N → X (n + 1) i (a i) = X n (i + 1) (a (i + 1))) (fin : ∀ n, X (n + 1) N (a N) = r) : X FU i0 (a i0) = r := by
  have key : ∀ d i n, i0 ≤ i → i + d = N → d < n → X n i (a i) = r := by
    intro d
    induction d with
    | zero =>
      intro i n _ h1 h2
      obtain ⟨m, rfl⟩ : ∃ m, n = m + 1 := ⟨n - 1, by omega⟩
      have : i = N := by omega
      subst this
      exact fin m
    | succ d ih =>
      intro i n h0 h1 h2
      obtain ⟨m, rfl⟩ : ∃ m, n = m + 1 := ⟨n - 1, by omega⟩
      rw [step m i h0 (by omega)]
      exact ih (i + 1) m (by omega) (by omega) (by omega)
  exact key (N - i0) i0 FU (Nat.le_refl _) (by omega) (by omega)
/-- the memory with the places lo .. hi - 1 of the object k as F says -/
def setS (σ : Mm) (k lo hi : Nat) (F : Nat → Int32) : Mm := fun k' j => if k' = k ∧ lo ≤ j ∧ j < hi then F j else σ k' j
theorem setS_0 {σ : Mm} {k lo : Nat} {F : Nat → Int32} : setS σ k lo lo F = σ := by
  funext k' j
  unfold setS
  rw [if_neg (by omega)]
theorem setS_up {σ : Mm} {k lo i : Nat} {F : Nat → Int32} (h : lo ≤ i) {v : Int32} (hv : v = F i) : upM (setS σ k lo i F) k i v = setS σ k lo (i + 1) F := by
  subst hv
  funext k' j
  unfold setS upM upd
  by_cases h1 : k' = k
  · subst h1
    by_cases h2 : j = i
    · subst h2
      simp [h]
    · have : (lo ≤ j ∧ j < i) = (lo ≤ j ∧ j < i + 1) := propext ⟨fun q => by omega, fun q => by omega⟩
      simp [h2, this]
  · simp [h1]
theorem setS_ne {σ : Mm} {k lo hi k' j : Nat} {F : Nat → Int32} (h : k' ≠ k) : setS σ k lo hi F k' j = σ k' j := by
  unfold setS
  rw [if_neg (by omega)]
theorem setS_in {σ : Mm} {k lo hi j : Nat} {F : Nat → Int32} (h1 : lo ≤ j) (h2 : j < hi) : setS σ k lo hi F k j = F j := by
  unfold setS
  rw [if_pos ⟨rfl, h1, h2⟩]
theorem setS_out {σ : Mm} {k lo hi j : Nat} {F : Nat → Int32} (h : j < lo ∨ hi ≤ j) : setS σ k lo hi F k j = σ k j := by
  unfold setS
  rw [if_neg (by omega)]
theorem upM_ne {σ : Mm} {k k' i j : Nat} {v : Int32} (h : k' ≠ k) : upM σ k i v k' j = σ k' j := by
  unfold upM
  rw [if_neg h]
theorem upM_ni {σ : Mm} {k i j : Nat} {v : Int32} (h : j ≠ i) : upM σ k i v k j = σ k j := by
  unfold upM upd
  rw [if_pos rfl, if_neg h]
theorem upM_at {σ : Mm} {k i : Nat} {v : Int32} : upM σ k i v k i = v := by
  unfold upM upd
  rw [if_pos rfl, if_pos rfl]
/-- a sum, a number at a time -/
def smI (g : Nat → Int32) (lo : Nat) : Nat → Int32
  | 0 => iN 0
  | n + 1 => if lo ≤ n then smI g lo n + g n else iN 0
theorem smI_0 {g : Nat → Int32} {lo : Nat} : smI g lo lo = iN 0 := by
  cases lo with
  | zero => rfl
  | succ n => unfold smI; rw [if_neg (by omega)]
theorem smI_s {g : Nat → Int32} {lo i : Nat} (h : lo ≤ i) : smI g lo (i + 1) = smI g lo i + g i := by
  show (if lo ≤ i then smI g lo i + g i else iN 0) = _
  rw [if_pos h]
theorem smI_congr {g g' : Nat → Int32} {lo : Nat} : ∀ {hi : Nat}, (∀ j, lo ≤ j → j < hi → g j = g' j) → smI g lo hi = smI g' lo hi
  | 0, _ => rfl
  | n + 1, h => by
    unfold smI
    by_cases h1 : lo ≤ n
    · rw [if_pos h1, if_pos h1, smI_congr (fun j a b => h j a (by omega)), h n h1 (by omega)]
    · rw [if_neg h1, if_neg h1]

