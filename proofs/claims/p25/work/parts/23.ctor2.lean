theorem tb_at2 {T0 L R : Tb} {b : Nat} (hb : T0.length = b) (i : Nat) {x : Nat × Nat × List Nat} (h : L[i]? = some x) : (T0 ++ (L ++ R))[b + i]? = some x := by
  rw [tb_at hb, List.getElem?_append_left (List.getElem?_eq_some_iff.mp h).1]
  exact h
def layL (b : Nat) : Tb := [(3, 1, [b + 1 + 2, b + 16 + 2, b + 18 + 2, b + 20 + 2, b + 22 + 2, b + 24 + 2, b + 26 + 2, b + 28 + 2, b + 30 + 2, b + 32 + 2, b + 34 + 2]), (3, 4, [0, 0, (b + 1) + 1 + 2, (b + 1) + 3 + 2, (b + 1) + 5 + 2, (b + 1) + 7 + 2, (b + 1) + 9 + 2, (b + 1) + 11 + 2, (b + 1) + 13 + 2]), (3, 2, [(b + 1) + 1 + 1 + 2]), (0, 10, []), (3, 2, [(b + 1) + 3 + 1 + 2]), (0, 5, []), (3, 2, [(b + 1) + 5 + 1 + 2]), (0, 125, []), (3, 2, [(b + 1) + 7 + 1 + 2]), (0, 125, []), (3, 2, [(b + 1) + 9 + 1 + 2]), (0, 125, []), (3, 2, [(b + 1) + 11 + 1 + 2]), (0, 250, []), (3, 2, [(b + 1) + 13 + 1 + 2]), (0, 500, []), (3, 2, [b + 16 + 1 + 2]), (0, 125, []), (3, 2, [b + 18 + 1 + 2]), (0, 125, []), (3, 2, [b + 20 + 1 + 2]), (0, 125, []), (3, 2, [b + 22 + 1 + 2]), (0, 250, []), (3, 2, [b + 24 + 1 + 2]), (0, 500, []), (3, 2, [b + 26 + 1 + 2]), (0, 500, []), (3, 2, [b + 28 + 1 + 2]), (0, 50, []), (3, 2, [b + 30 + 1 + 2]), (0, 10, []), (3, 2, [b + 32 + 1 + 2]), (0, 10, []), (3, 2, [b + 34 + 1 + 2]), (0, 5, [])]
def shtL (b : Nat) : Tb := [(3, 4, [0, 0, b + 1 + 2, b + 3 + 2, b + 5 + 2, b + 7 + 2, b + 9 + 2, b + 11 + 2, b + 13 + 2]), (3, 2, [b + 1 + 1 + 2]), (0, 10, []), (3, 2, [b + 3 + 1 + 2]), (0, 5, []), (3, 2, [b + 5 + 1 + 2]), (0, 125, []), (3, 2, [b + 7 + 1 + 2]), (0, 125, []), (3, 2, [b + 9 + 1 + 2]), (0, 125, []), (3, 2, [b + 11 + 1 + 2]), (0, 250, []), (3, 2, [b + 13 + 1 + 2]), (0, 500, [])]
def hisL (b : Nat) : Tb := [(3, 0, [b + 1 + 2, 0, 0]), (2, 6, [(b + 2) + 1, (b + 17) + 1, (b + 32) + 1, (b + 47) + 1, (b + 62) + 1, (b + 77) + 1]), (3, 4, [0, 0, (b + 2) + 1 + 2, (b + 2) + 3 + 2, (b + 2) + 5 + 2, (b + 2) + 7 + 2, (b + 2) + 9 + 2, (b + 2) + 11 + 2, (b + 2) + 13 + 2]), (3, 2, [(b + 2) + 1 + 1 + 2]), (0, 10, []), (3, 2, [(b + 2) + 3 + 1 + 2]), (0, 5, []), (3, 2, [(b + 2) + 5 + 1 + 2]), (0, 125, []), (3, 2, [(b + 2) + 7 + 1 + 2]), (0, 125, []), (3, 2, [(b + 2) + 9 + 1 + 2]), (0, 125, []), (3, 2, [(b + 2) + 11 + 1 + 2]), (0, 250, []), (3, 2, [(b + 2) + 13 + 1 + 2]), (0, 500, []), (3, 4, [0, 0, (b + 17) + 1 + 2, (b + 17) + 3 + 2, (b + 17) + 5 + 2, (b + 17) + 7 + 2, (b + 17) + 9 + 2, (b + 17) + 11 + 2, (b + 17) + 13 + 2]), (3, 2, [(b + 17) + 1 + 1 + 2]), (0, 10, []), (3, 2, [(b + 17) + 3 + 1 + 2]), (0, 5, []), (3, 2, [(b + 17) + 5 + 1 + 2]), (0, 125, []), (3, 2, [(b + 17) + 7 + 1 + 2]), (0, 125, []), (3, 2, [(b + 17) + 9 + 1 + 2]), (0, 125, []), (3, 2, [(b + 17) + 11 + 1 + 2]), (0, 250, []), (3, 2, [(b + 17) + 13 + 1 + 2]), (0, 500, []), (3, 4, [0, 0, (b + 32) + 1 + 2, (b + 32) + 3 + 2, (b + 32) + 5 + 2, (b + 32) + 7 + 2, (b + 32) + 9 + 2, (b + 32) + 11 + 2, (b + 32) + 13 + 2]), (3, 2, [(b + 32) + 1 + 1 + 2]), (0, 10, []), (3, 2, [(b + 32) + 3 + 1 + 2]), (0, 5, []), (3, 2, [(b + 32) + 5 + 1 + 2]), (0, 125, []), (3, 2, [(b + 32) + 7 + 1 + 2]), (0, 125, []), (3, 2, [(b + 32) + 9 + 1 + 2]), (0, 125, []), (3, 2, [(b + 32) + 11 + 1 + 2]), (0, 250, []), (3, 2, [(b + 32) + 13 + 1 + 2]), (0, 500, []), (3, 4, [0, 0, (b + 47) + 1 + 2, (b + 47) + 3 + 2, (b + 47) + 5 + 2, (b + 47) + 7 + 2, (b + 47) + 9 + 2, (b + 47) + 11 + 2, (b + 47) + 13 + 2]), (3, 2, [(b + 47) + 1 + 1 + 2]), (0, 10, []), (3, 2, [(b + 47) + 3 + 1 + 2]), (0, 5, []), (3, 2, [(b + 47) + 5 + 1 + 2]), (0, 125, []), (3, 2, [(b + 47) + 7 + 1 + 2]), (0, 125, []), (3, 2, [(b + 47) + 9 + 1 + 2]), (0, 125, []), (3, 2, [(b + 47) + 11 + 1 + 2]), (0, 250, []), (3, 2, [(b + 47) + 13 + 1 + 2]), (0, 500, []), (3, 4, [0, 0, (b + 62) + 1 + 2, (b + 62) + 3 + 2, (b + 62) + 5 + 2, (b + 62) + 7 + 2, (b + 62) + 9 + 2, (b + 62) + 11 + 2, (b + 62) + 13 + 2]), (3, 2, [(b + 62) + 1 + 1 + 2]), (0, 10, []), (3, 2, [(b + 62) + 3 + 1 + 2]), (0, 5, []), (3, 2, [(b + 62) + 5 + 1 + 2]), (0, 125, []), (3, 2, [(b + 62) + 7 + 1 + 2]), (0, 125, []), (3, 2, [(b + 62) + 9 + 1 + 2]), (0, 125, []), (3, 2, [(b + 62) + 11 + 1 + 2]), (0, 250, []), (3, 2, [(b + 62) + 13 + 1 + 2]), (0, 500, []), (3, 4, [0, 0, (b + 77) + 1 + 2, (b + 77) + 3 + 2, (b + 77) + 5 + 2, (b + 77) + 7 + 2, (b + 77) + 9 + 2, (b + 77) + 11 + 2, (b + 77) + 13 + 2]), (3, 2, [(b + 77) + 1 + 1 + 2]), (0, 10, []), (3, 2, [(b + 77) + 3 + 1 + 2]), (0, 5, []), (3, 2, [(b + 77) + 5 + 1 + 2]), (0, 125, []), (3, 2, [(b + 77) + 7 + 1 + 2]), (0, 125, []), (3, 2, [(b + 77) + 9 + 1 + 2]), (0, 125, []), (3, 2, [(b + 77) + 11 + 1 + 2]), (0, 250, []), (3, 2, [(b + 77) + 13 + 1 + 2]), (0, 500, [])]
def texL (b : Nat) : Tb := [(3, 3, [b + 1 + 2, 0]), (3, 2, [b + 1 + 1 + 2]), (0, 60, [])]
theorem layL_len (b : Nat) : (layL b).length = 36 := rfl
theorem hisL_len (b : Nat) : (hisL b).length = 92 := rfl
theorem texL_len (b : Nat) : (texL b).length = 3 := rfl
theorem isLay_of {T0 R : Tb} {b : Nat} (hb : T0.length = b) : isLay (T0 ++ (layL b ++ R)) b := by
  unfold isLay isSheet isNum
  exact ⟨tb_at2 hb 0 rfl, ⟨tb_at2 hb 1 rfl, ⟨tb_at2 hb 2 rfl, tb_at2 hb 3 rfl⟩, ⟨tb_at2 hb 4 rfl, tb_at2 hb 5 rfl⟩, ⟨tb_at2 hb 6 rfl, tb_at2 hb 7 rfl⟩, ⟨tb_at2 hb 8 rfl, tb_at2 hb 9 rfl⟩, ⟨tb_at2 hb 10 rfl, tb_at2 hb 11 rfl⟩, ⟨tb_at2 hb 12 rfl, tb_at2 hb 13 rfl⟩, ⟨tb_at2 hb 14 rfl, tb_at2 hb 15 rfl⟩⟩, ⟨tb_at2 hb 16 rfl, tb_at2 hb 17 rfl⟩, ⟨tb_at2 hb 18 rfl, tb_at2 hb 19 rfl⟩, ⟨tb_at2 hb 20 rfl, tb_at2 hb 21 rfl⟩, ⟨tb_at2 hb 22 rfl, tb_at2 hb 23 rfl⟩, ⟨tb_at2 hb 24 rfl, tb_at2 hb 25 rfl⟩, ⟨tb_at2 hb 26 rfl, tb_at2 hb 27 rfl⟩, ⟨tb_at2 hb 28 rfl, tb_at2 hb 29 rfl⟩, ⟨tb_at2 hb 30 rfl, tb_at2 hb 31 rfl⟩, ⟨tb_at2 hb 32 rfl, tb_at2 hb 33 rfl⟩, ⟨tb_at2 hb 34 rfl, tb_at2 hb 35 rfl⟩⟩
theorem isHist_of {T0 R : Tb} (hb : T0.length = 73) : isHist (T0 ++ (hisL 73 ++ R)) := by
  refine ⟨tb_at2 hb 0 rfl, tb_at2 hb 1 rfl, ?_⟩
  intro r hr
  simp only [hB, List.mem_cons, List.not_mem_nil, or_false] at hr
  unfold isSheet isNum
  rcases hr with rfl | rfl | rfl | rfl | rfl | rfl
  · exact ⟨tb_at2 hb 2 rfl, ⟨tb_at2 hb 3 rfl, tb_at2 hb 4 rfl⟩, ⟨tb_at2 hb 5 rfl, tb_at2 hb 6 rfl⟩, ⟨tb_at2 hb 7 rfl, tb_at2 hb 8 rfl⟩, ⟨tb_at2 hb 9 rfl, tb_at2 hb 10 rfl⟩, ⟨tb_at2 hb 11 rfl, tb_at2 hb 12 rfl⟩, ⟨tb_at2 hb 13 rfl, tb_at2 hb 14 rfl⟩, ⟨tb_at2 hb 15 rfl, tb_at2 hb 16 rfl⟩⟩
  · exact ⟨tb_at2 hb 17 rfl, ⟨tb_at2 hb 18 rfl, tb_at2 hb 19 rfl⟩, ⟨tb_at2 hb 20 rfl, tb_at2 hb 21 rfl⟩, ⟨tb_at2 hb 22 rfl, tb_at2 hb 23 rfl⟩, ⟨tb_at2 hb 24 rfl, tb_at2 hb 25 rfl⟩, ⟨tb_at2 hb 26 rfl, tb_at2 hb 27 rfl⟩, ⟨tb_at2 hb 28 rfl, tb_at2 hb 29 rfl⟩, ⟨tb_at2 hb 30 rfl, tb_at2 hb 31 rfl⟩⟩
  · exact ⟨tb_at2 hb 32 rfl, ⟨tb_at2 hb 33 rfl, tb_at2 hb 34 rfl⟩, ⟨tb_at2 hb 35 rfl, tb_at2 hb 36 rfl⟩, ⟨tb_at2 hb 37 rfl, tb_at2 hb 38 rfl⟩, ⟨tb_at2 hb 39 rfl, tb_at2 hb 40 rfl⟩, ⟨tb_at2 hb 41 rfl, tb_at2 hb 42 rfl⟩, ⟨tb_at2 hb 43 rfl, tb_at2 hb 44 rfl⟩, ⟨tb_at2 hb 45 rfl, tb_at2 hb 46 rfl⟩⟩
  · exact ⟨tb_at2 hb 47 rfl, ⟨tb_at2 hb 48 rfl, tb_at2 hb 49 rfl⟩, ⟨tb_at2 hb 50 rfl, tb_at2 hb 51 rfl⟩, ⟨tb_at2 hb 52 rfl, tb_at2 hb 53 rfl⟩, ⟨tb_at2 hb 54 rfl, tb_at2 hb 55 rfl⟩, ⟨tb_at2 hb 56 rfl, tb_at2 hb 57 rfl⟩, ⟨tb_at2 hb 58 rfl, tb_at2 hb 59 rfl⟩, ⟨tb_at2 hb 60 rfl, tb_at2 hb 61 rfl⟩⟩
  · exact ⟨tb_at2 hb 62 rfl, ⟨tb_at2 hb 63 rfl, tb_at2 hb 64 rfl⟩, ⟨tb_at2 hb 65 rfl, tb_at2 hb 66 rfl⟩, ⟨tb_at2 hb 67 rfl, tb_at2 hb 68 rfl⟩, ⟨tb_at2 hb 69 rfl, tb_at2 hb 70 rfl⟩, ⟨tb_at2 hb 71 rfl, tb_at2 hb 72 rfl⟩, ⟨tb_at2 hb 73 rfl, tb_at2 hb 74 rfl⟩, ⟨tb_at2 hb 75 rfl, tb_at2 hb 76 rfl⟩⟩
  · exact ⟨tb_at2 hb 77 rfl, ⟨tb_at2 hb 78 rfl, tb_at2 hb 79 rfl⟩, ⟨tb_at2 hb 80 rfl, tb_at2 hb 81 rfl⟩, ⟨tb_at2 hb 82 rfl, tb_at2 hb 83 rfl⟩, ⟨tb_at2 hb 84 rfl, tb_at2 hb 85 rfl⟩, ⟨tb_at2 hb 86 rfl, tb_at2 hb 87 rfl⟩, ⟨tb_at2 hb 88 rfl, tb_at2 hb 89 rfl⟩, ⟨tb_at2 hb 90 rfl, tb_at2 hb 91 rfl⟩⟩
theorem isText_of {T0 R : Tb} (hb : T0.length = 165) : isText (T0 ++ (texL 165 ++ R)) := by
  unfold isText isNum
  exact ⟨tb_at2 hb 0 rfl, ⟨tb_at2 hb 1 rfl, tb_at2 hb 2 rfl⟩⟩
def nsE : Nat × Nat × List Nat := (3, 5, [1 + 2, 2 + 2, 37 + 2, 73 + 2, 165 + 2])
def tabR (R : Tb) : Tb := [nsE] ++ (layL 1 ++ (layL 37 ++ (hisL 73 ++ (texL 165 ++ R))))
theorem isNS_of (R : Tb) : isNS (tabR R) := by
  refine ⟨rfl, isLay_of rfl, ?_, ?_, ?_⟩
  · have h := isLay_of (T0 := [nsE] ++ layL 1) (R := hisL 73 ++ (texL 165 ++ R)) (b := 37) rfl
    rw [List.append_assoc] at h
    exact h
  · have h := isHist_of (T0 := [nsE] ++ (layL 1 ++ layL 37)) (R := texL 165 ++ R) rfl
    simp only [List.append_assoc] at h
    exact h
  · have h := isText_of (T0 := [nsE] ++ (layL 1 ++ (layL 37 ++ hisL 73))) (R := R) rfl
    simp only [List.append_assoc] at h
    exact h
theorem k_X5_init : Cal yX5_init cX5_init 1 none 0 := ⟨gw_20, gw_1, ⟨by decide, by decide⟩, by decide +kernel, by decide +kernel⟩
theorem hfl_1 : ∀ (hs j : Nat), j < 11 → defaultValue (tyX1 j) = vp_V (fvs hs (fun _ => 0) [1, 1, 1, 1, 1, 1, 1, 1, 1, 1, 1]) j := fun hs j hj => match j, hj with
  | 0, _ => rfl
  | 1, _ => rfl
  | 2, _ => rfl
  | 3, _ => rfl
  | 4, _ => rfl
  | 5, _ => rfl
  | 6, _ => rfl
  | 7, _ => rfl
  | 8, _ => rfl
  | 9, _ => rfl
  | 10, _ => rfl
  | j + 11, h => absurd h (by omega)
theorem ff_X5_12 : FF RX5 12 5 0 (.object "NestedSums$Layout") := ⟨RX5, TX5, 5, tyX5, rfl, by decide, inGW_5, gw_321, tyX5_ok, nmX5, rfl, rfl, tyX5_ok 0 (by decide)⟩
theorem ff_X5_20 : FF RX5 20 5 1 (.object "NestedSums$Sheet") := ⟨RX5, TX5, 5, tyX5, rfl, by decide, inGW_5, gw_322, tyX5_ok, nmX5, rfl, rfl, tyX5_ok 1 (by decide)⟩
theorem ff_X5_21 : FF RX5 21 5 2 (.object "NestedSums$Layout") := ⟨RX5, TX5, 5, tyX5, rfl, by decide, inGW_5, gw_323, tyX5_ok, nmX5, rfl, rfl, tyX5_ok 2 (by decide)⟩
theorem hfl_0 : ∀ (hs j : Nat), j < 3 → defaultValue (tyX0 j) = vp_V (fvs hs (fun _ => 0) [1, 0, 0]) j := fun hs j hj => match j, hj with
  | 0, _ => rfl
  | 1, _ => rfl
  | 2, _ => rfl
  | j + 3, h => absurd h (by omega)
theorem ff_X5_27 : FF RX5 27 5 3 (.object "NestedSums$History") := ⟨RX5, TX5, 5, tyX5, rfl, by decide, inGW_5, gw_324, tyX5_ok, nmX5, rfl, rfl, tyX5_ok 3 (by decide)⟩
theorem hfl_3 : ∀ (hs j : Nat), j < 2 → defaultValue (tyX3 j) = vp_V (fvs hs (fun _ => 0) [1, 0]) j := fun hs j hj => match j, hj with
  | 0, _ => rfl
  | 1, _ => rfl
  | j + 2, h => absurd h (by omega)
theorem ff_X5_34 : FF RX5 34 5 4 (.object "NestedSums$OrderText") := ⟨RX5, TX5, 5, tyX5, rfl, by decide, inGW_5, gw_325, tyX5_ok, nmX5, rfl, rfl, tyX5_ok 4 (by decide)⟩
set_option maxRecDepth 100000 in
set_option maxHeartbeats 1000000 in
theorem cc_NS (σ σa σb : Mm) (hz : ∀ k, σ k = fun _ => 0) (h1 : F_X4_startAnew 2 3 3 (upM (upM (upM (upM (upM (upM (upM (upM σ 2 0 (10 : Int32)) 38 0 (10 : Int32)) 75 0 (10 : Int32)) 90 0 (10 : Int32)) 105 0 (10 : Int32)) 120 0 (10 : Int32)) 135 0 (10 : Int32)) 150 0 (10 : Int32)) = some (.inl (), σa)) (h2 : F_X1_measure 1 σa = some (.inl (), σb)) : EvC (.code yX5_init cX5_init 1 none) yX5_init { frames := 9, cells := 167, slots := 12762, locals := 396 } [(3, 5, [1, 1, 1, 1, 1])] [.ref 0] σ (tabR []) σb := by
  refine evC_of (lo := [some (.ref 0)]) (j := 0) k_X5_init rfl (fun _ => Nat.le_of_ble_eq_true rfl) ?_
  refine rn_aload_n (pc := 0) (i := 0) dX5_init_0 rfl rfl ?_
  refine rc_obj (pc := 1) gw_21 gw_22 gw_23 (Nat.le_of_ble_eq_true rfl) (Nat.le_of_ble_eq_true rfl) dX5_init_1 ?_
  refine rn_aload_n (pc := 4) (i := 0) dX5_init_4 rfl rfl ?_
  refine rc_new (pc := 5) (q := 1) (T1 := [(3, 5, [1, 1, 1, 1, 1])] ++ [(3, 1, [1, 1, 1, 1, 1, 1, 1, 1, 1, 1, 1])]) (ci := 1) (N := 11) rfl inGW_1 tyX1_ok gw_24 gw_25 gw_2 (hz 1) hfl_1 rfl rfl (by decide) (by decide) dX5_init_5 ?_
  refine rn_dup (pc := 8) dX5_init_8 rfl ?_
  refine rc_callI (pc := 9) (T1 := [(3, 5, [1, 1, 1, 1, 1])] ++ layL 1) k_X1_init gw_27 rfl (Or.inr ⟨_, nm_X5_11⟩) (cc_Layout [(3, 5, [1, 1, 1, 1, 1])] 1 rfl σ (fun k hk => hz k)) rfl rfl (Nat.le_of_ble_eq_true rfl) (by decide) (by decide) (Nat.le_of_ble_eq_true rfl) (Nat.le_of_ble_eq_true rfl) (by rw [List.length_append, List.length_append]; rfl) dX5_init_9 ?_
  refine rn_putF (pc := 12) ff_X5_12 rfl rfl (T := _) rfl rfl dX5_init_12 ?_
  refine rc_eq (T1 := ((3, 5, [1 + 2, 1, 1, 1, 1]) :: layL 1)) rfl rfl ?_
  refine rn_aload_n (pc := 15) (i := 0) dX5_init_15 rfl rfl ?_
  refine rn_aload_n (pc := 16) (i := 0) dX5_init_16 rfl rfl ?_
  refine rn_getR (pc := 17) (r := 1) fl_X5_12 rfl rfl dX5_init_17 ?_
  refine rn_getR (pc := 20) (r := 2) fl_X5_16 (show (((3, 5, [1 + 2, 1, 1, 1, 1]) :: layL 1))[1]? = some (3, 1, [1 + 1 + 2, 1 + 16 + 2, 1 + 18 + 2, 1 + 20 + 2, 1 + 22 + 2, 1 + 24 + 2, 1 + 26 + 2, 1 + 28 + 2, 1 + 30 + 2, 1 + 32 + 2, 1 + 34 + 2]) from rfl) rfl dX5_init_20 ?_
  refine rn_putF (pc := 23) ff_X5_20 rfl rfl rfl rfl dX5_init_23 ?_
  refine rc_eq (T1 := ((3, 5, [1 + 2, 2 + 2, 1, 1, 1]) :: layL 1)) rfl rfl ?_
  refine rn_aload_n (pc := 26) (i := 0) dX5_init_26 rfl rfl ?_
  refine rc_new (pc := 27) (q := 37) (T1 := ((3, 5, [1 + 2, 2 + 2, 1, 1, 1]) :: layL 1) ++ [(3, 1, [1, 1, 1, 1, 1, 1, 1, 1, 1, 1, 1])]) (ci := 1) (N := 11) rfl inGW_1 tyX1_ok gw_24 gw_25 gw_2 (up_zero (by decide) (hz 37)) hfl_1 rfl rfl (by decide) (by decide) dX5_init_27 ?_
  refine rn_dup (pc := 30) dX5_init_30 rfl ?_
  refine rc_callI (pc := 31) (T1 := ((3, 5, [1 + 2, 2 + 2, 1, 1, 1]) :: layL 1) ++ layL 37) k_X1_init gw_27 rfl (Or.inr ⟨_, nm_X5_11⟩) (cc_Layout ((3, 5, [1 + 2, 2 + 2, 1, 1, 1]) :: layL 1) 37 rfl (upM σ 2 0 (10 : Int32)) (fun k hk => up_zero (by omega) (hz k))) rfl rfl (Nat.le_of_ble_eq_true rfl) (by decide) (by decide) (Nat.le_of_ble_eq_true rfl) (Nat.le_of_ble_eq_true rfl) (by rw [List.length_append, List.length_append]; rfl) dX5_init_31 ?_
  refine rn_putF (pc := 34) ff_X5_21 rfl rfl (T := _) rfl rfl dX5_init_34 ?_
  refine rc_eq (T1 := ((3, 5, [1 + 2, 2 + 2, 37 + 2, 1, 1]) :: (layL 1 ++ layL 37))) rfl rfl ?_
  refine rn_aload_n (pc := 37) (i := 0) dX5_init_37 rfl rfl ?_
  refine rc_new (pc := 38) (q := 73) (T1 := ((3, 5, [1 + 2, 2 + 2, 37 + 2, 1, 1]) :: (layL 1 ++ layL 37)) ++ [(3, 0, [1, 0, 0])]) (ci := 0) (N := 3) rfl inGW_0 tyX0_ok gw_134 gw_135 gw_6 (up_zero (by decide) (up_zero (by decide) (hz 73))) hfl_0 rfl rfl (by decide) (by decide) dX5_init_38 ?_
  refine rn_dup (pc := 41) dX5_init_41 rfl ?_
  refine rc_callI (pc := 42) (T1 := ((3, 5, [1 + 2, 2 + 2, 37 + 2, 1, 1]) :: (layL 1 ++ layL 37)) ++ hisL 73) k_X0_init gw_137 rfl (Or.inl gw_136) (cc_History ((3, 5, [1 + 2, 2 + 2, 37 + 2, 1, 1]) :: (layL 1 ++ layL 37)) 73 rfl (upM (upM σ 2 0 (10 : Int32)) 38 0 (10 : Int32)) (fun k hk => up_zero (by omega) (up_zero (by omega) (hz k)))) rfl rfl (Nat.le_of_ble_eq_true rfl) (by decide) (by decide) (Nat.le_of_ble_eq_true rfl) (Nat.le_of_ble_eq_true rfl) (by rw [List.length_append, List.length_append]; rfl) dX5_init_42 ?_
  refine rn_putF (pc := 45) ff_X5_27 rfl rfl (T := _) rfl rfl dX5_init_45 ?_
  refine rc_eq (T1 := ((3, 5, [1 + 2, 2 + 2, 37 + 2, 73 + 2, 1]) :: ((layL 1 ++ layL 37) ++ hisL 73))) rfl rfl ?_
  refine rn_aload_n (pc := 48) (i := 0) dX5_init_48 rfl rfl ?_
  refine rc_new (pc := 49) (q := 165) (T1 := ((3, 5, [1 + 2, 2 + 2, 37 + 2, 73 + 2, 1]) :: ((layL 1 ++ layL 37) ++ hisL 73)) ++ [(3, 3, [1, 0])]) (ci := 3) (N := 2) rfl inGW_3 tyX3_ok gw_154 gw_155 gw_7 (up_zero (by decide) (up_zero (by decide) (up_zero (by decide) (up_zero (by decide) (up_zero (by decide) (up_zero (by decide) (up_zero (by decide) (up_zero (by decide) (hz 165))))))))) hfl_3 rfl rfl (by decide) (by decide) dX5_init_49 ?_
  refine rn_dup (pc := 52) dX5_init_52 rfl ?_
  refine rc_callI (pc := 53) (T1 := ((3, 5, [1 + 2, 2 + 2, 37 + 2, 73 + 2, 1]) :: ((layL 1 ++ layL 37) ++ hisL 73)) ++ texL 165) k_X3_init gw_157 rfl (Or.inr ⟨_, nm_X5_33⟩) (cc_OrderText ((3, 5, [1 + 2, 2 + 2, 37 + 2, 73 + 2, 1]) :: ((layL 1 ++ layL 37) ++ hisL 73)) 165 rfl (upM (upM (upM (upM (upM (upM (upM (upM σ 2 0 (10 : Int32)) 38 0 (10 : Int32)) 75 0 (10 : Int32)) 90 0 (10 : Int32)) 105 0 (10 : Int32)) 120 0 (10 : Int32)) 135 0 (10 : Int32)) 150 0 (10 : Int32)) (fun k hk => up_zero (by omega) (up_zero (by omega) (up_zero (by omega) (up_zero (by omega) (up_zero (by omega) (up_zero (by omega) (up_zero (by omega) (up_zero (by omega) (hz k)))))))))) rfl rfl (Nat.le_of_ble_eq_true rfl) (by decide) (by decide) (Nat.le_of_ble_eq_true rfl) (Nat.le_of_ble_eq_true rfl) (by rw [List.length_append, List.length_append]; rfl) dX5_init_53 ?_
  refine rn_putF (pc := 56) ff_X5_34 rfl rfl (T := _) rfl rfl dX5_init_56 ?_
  refine rc_eq (T1 := ((3, 5, [1 + 2, 2 + 2, 37 + 2, 73 + 2, 165 + 2]) :: (((layL 1 ++ layL 37) ++ hisL 73) ++ texL 165))) rfl rfl ?_
  refine rc_eq (T1 := tabR []) (by unfold tabR; rw [List.append_nil]; simp only [List.append_assoc, List.cons_append, List.nil_append]; rfl) rfl ?_
  have hN := isNS_of []
  refine rn_aload_n (pc := 59) (i := 0) dX5_init_59 rfl rfl ?_
  refine rn_getR (pc := 60) (r := 2) fl_X5_20 hN.1 rfl dX5_init_60 ?_
  refine rn_iconst (pc := 63) (v := 3) dX5_init_63 (by decide) ?_
  refine rn_iconst (pc := 64) (v := 3) dX5_init_64 (by decide) ?_
  refine rn_callV (pc := 65) (r := none) hN.2.1.2.1.1 ⟨_, _, rfl⟩ k_X4_startAnew.1 k_X4_startAnew.2.1 k_X4_startAnew.2.2.1 gw_168 (c_X4_startAnew _ 2 3 3 hN.2.1.2.1 _ _ _ h1) rfl rfl (Nat.le_of_ble_eq_true rfl) (by decide) (by decide) (by decide) (by decide) (fun _ => rfl) dX5_init_65 ?_
  refine rn_aload_n (pc := 68) (i := 0) dX5_init_68 rfl rfl ?_
  refine rn_getR (pc := 69) (r := 1) fl_X5_12 hN.1 rfl dX5_init_69 ?_
  refine rn_callV (pc := 72) (r := none) hN.2.1.1 ⟨_, _, rfl⟩ k_X1_measure.1 k_X1_measure.2.1 k_X1_measure.2.2.1 gw_191 (c_X1_measure _ 1 hN.2.1 _ _ _ h2) rfl rfl (Nat.le_of_ble_eq_true rfl) (by decide) (by decide) (by decide) (by decide) (fun _ => rfl) dX5_init_72 ?_
  exact rn_vret (pc := 75) (by decide) (by decide) dX5_init_75
