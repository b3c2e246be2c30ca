abbrev TL_X5_placeOf (T : Tb) (pc : Nat) (lo : List (Option Value)) (st : List Value) (X : Dm Int32) : Prop := TL yX5_placeOf cX5_placeOf 2 (some .int) 0 iI T pc lo st X
set_option maxRecDepth 100000 in
theorem c_X5_placeOf (T : Tb) (p0 : Int32) (p1 : Int32)  : CT (.code yX5_placeOf cX5_placeOf 2 (some .int)) yX5_placeOf 0 iI T [.int p0, .int p1] (F_X5_placeOf p0 p1) := by
  refine ct_of (lo := [some (.int p0), some (.int p1)]) (j := 0) k_X5_placeOf.1 rfl (fun _ => Nat.le_of_ble_eq_true rfl) ?_
  show TL_X5_placeOf T 0 _ _ _
  rw [F_X5_placeOf]
  refine tl_iload_n (pc := 0) (i := 1) dX5_placeOf_0 rfl rfl ?_
  refine tl_iconst (pc := 1) (v := 1) dX5_placeOf_1 (by decide) ?_
  refine tl_icmp_ne (pc := 2) (tgt := 14) dX5_placeOf_2 rfl ?_ ?_
  · refine tl_iload_n (pc := 5) (i := 0) dX5_placeOf_5 rfl rfl ?_
    refine tl_bipush (pc := 6) (v := 25) dX5_placeOf_6 (by decide) ?_
    refine tl_irem (pc := 8) dX5_placeOf_8 (by decide) ?_
    refine tl_iconst (pc := 9) (v := 5) dX5_placeOf_9 (by decide) ?_
    refine tl_idiv (pc := 10) dX5_placeOf_10 (by decide) ?_
    refine tl_goto (pc := 11) (tgt := 17) dX5_placeOf_11 rfl ?_
    exact tl_iret (pc := 17) dX5_placeOf_17
  · refine tl_iload_n (pc := 14) (i := 0) dX5_placeOf_14 rfl rfl ?_
    refine tl_iconst (pc := 15) (v := 5) dX5_placeOf_15 (by decide) ?_
    refine tl_irem (pc := 16) dX5_placeOf_16 (by decide) ?_
    exact tl_iret (pc := 17) dX5_placeOf_17
abbrev TL_X5_isSum (T : Tb) (pc : Nat) (lo : List (Option Value)) (st : List Value) (X : Dm Int32) : Prop := TL yX5_isSum cX5_isSum 1 (some .boolean) 0 iI T pc lo st X
set_option maxRecDepth 100000 in
theorem c_X5_isSum (T : Tb) (p0 : Int32)  : CT (.code yX5_isSum cX5_isSum 1 (some .boolean)) yX5_isSum 0 iI T [.int p0] (F_X5_isSum p0) := by
  refine ct_of (lo := [some (.int p0)]) (j := 0) k_X5_isSum.1 rfl (fun _ => Nat.le_of_ble_eq_true rfl) ?_
  show TL_X5_isSum T 0 _ _ _
  rw [F_X5_isSum]
  refine tl_iload_n (pc := 0) (i := 0) dX5_isSum_0 rfl rfl ?_
  refine tl_iconst (pc := 1) (v := 4) dX5_isSum_1 (by decide) ?_
  refine tl_icmp_eq (pc := 2) (tgt := 16) dX5_isSum_2 rfl ?_ ?_
  · refine tl_iconst (pc := 16) (v := 1) dX5_isSum_16 (by decide) ?_
    refine tl_goto (pc := 17) (tgt := 21) dX5_isSum_17 rfl ?_
    exact tl_zret (pc := 21) dX5_isSum_21
  · refine tl_iload_n (pc := 5) (i := 0) dX5_isSum_5 rfl rfl ?_
    refine tl_iconst (pc := 6) (v := 5) dX5_isSum_6 (by decide) ?_
    refine tl_icmp_eq (pc := 7) (tgt := 16) dX5_isSum_7 rfl ?_ ?_
    · refine tl_iconst (pc := 16) (v := 1) dX5_isSum_16 (by decide) ?_
      refine tl_goto (pc := 17) (tgt := 21) dX5_isSum_17 rfl ?_
      exact tl_zret (pc := 21) dX5_isSum_21
    · refine tl_iload_n (pc := 10) (i := 0) dX5_isSum_10 rfl rfl ?_
      refine tl_bipush (pc := 11) (v := 6) dX5_isSum_11 (by decide) ?_
      refine tl_icmp_ne (pc := 13) (tgt := 20) dX5_isSum_13 rfl ?_ ?_
      · refine tl_iconst (pc := 16) (v := 1) dX5_isSum_16 (by decide) ?_
        refine tl_goto (pc := 17) (tgt := 21) dX5_isSum_17 rfl ?_
        exact tl_zret (pc := 21) dX5_isSum_21
      · refine tl_iconst (pc := 20) (v := 0) dX5_isSum_20 (by decide) ?_
        exact tl_zret (pc := 21) dX5_isSum_21
abbrev TL_X5_tableOf (T : Tb) (pc : Nat) (lo : List (Option Value)) (st : List Value) (X : Dm Int32) : Prop := TL yX5_tableOf cX5_tableOf 1 (some .int) 0 iI T pc lo st X
set_option maxRecDepth 100000 in
theorem c_X5_tableOf (T : Tb) (p0 : Int32)  : CT (.code yX5_tableOf cX5_tableOf 1 (some .int)) yX5_tableOf 0 iI T [.int p0] (F_X5_tableOf p0) := by
  refine ct_of (lo := [some (.int p0)]) (j := 0) k_X5_tableOf.1 rfl (fun _ => Nat.le_of_ble_eq_true rfl) ?_
  show TL_X5_tableOf T 0 _ _ _
  rw [F_X5_tableOf]
  refine tl_iload_n (pc := 0) (i := 0) dX5_tableOf_0 rfl rfl ?_
  refine tl_bipush (pc := 1) (v := 25) dX5_tableOf_1 (by decide) ?_
  refine tl_idiv (pc := 3) dX5_tableOf_3 (by decide) ?_
  exact tl_iret (pc := 4) dX5_tableOf_4
abbrev TL_X5_isBetween (T : Tb) (pc : Nat) (lo : List (Option Value)) (st : List Value) (X : Dm Int32) : Prop := TL yX5_isBetween cX5_isBetween 3 (some .boolean) 0 iI T pc lo st X
set_option maxRecDepth 100000 in
theorem c_X5_isBetween (T : Tb) (p0 : Int32) (p1 : Int32) (p2 : Int32)  : CT (.code yX5_isBetween cX5_isBetween 3 (some .boolean)) yX5_isBetween 0 iI T [.int p0, .int p1, .int p2] (F_X5_isBetween p0 p1 p2) := by
  refine ct_of (lo := [some (.int p0), some (.int p1), some (.int p2)]) (j := 0) k_X5_isBetween.1 rfl (fun _ => Nat.le_of_ble_eq_true rfl) ?_
  show TL_X5_isBetween T 0 _ _ _
  rw [F_X5_isBetween]
  refine tl_iload_n (pc := 0) (i := 0) dX5_isBetween_0 rfl rfl ?_
  refine tl_iload_n (pc := 1) (i := 1) dX5_isBetween_1 rfl rfl ?_
  refine tl_icmp_lt (pc := 2) (tgt := 14) dX5_isBetween_2 rfl ?_ ?_
  · refine tl_iconst (pc := 14) (v := 0) dX5_isBetween_14 (by decide) ?_
    exact tl_zret (pc := 15) dX5_isBetween_15
  · refine tl_iload_n (pc := 5) (i := 0) dX5_isBetween_5 rfl rfl ?_
    refine tl_iload_n (pc := 6) (i := 2) dX5_isBetween_6 rfl rfl ?_
    refine tl_icmp_gt (pc := 7) (tgt := 14) dX5_isBetween_7 rfl ?_ ?_
    · refine tl_iconst (pc := 14) (v := 0) dX5_isBetween_14 (by decide) ?_
      exact tl_zret (pc := 15) dX5_isBetween_15
    · refine tl_iconst (pc := 10) (v := 1) dX5_isBetween_10 (by decide) ?_
      refine tl_goto (pc := 11) (tgt := 15) dX5_isBetween_11 rfl ?_
      exact tl_zret (pc := 15) dX5_isBetween_15
abbrev TL_X5_signsOf (T : Tb) (pc : Nat) (lo : List (Option Value)) (st : List Value) (X : Dm Int32) : Prop := TL yX5_signsOf cX5_signsOf 4 (some .int) 0 iI T pc lo st X
set_option maxRecDepth 100000 in
theorem lp_X5_signsOf_17 (T : Tb) (p0 : Int32)      : ∀ (n : Nat) (x3 : Int32) (x4 : Int32) (x5 : Int32), TL_X5_signsOf T 17 [none, some (.int x3), some (.int x4), some (.int x5)] [] (L_X5_signsOf_17  n x3 x4 x5 ) := by
  intro n
  induction n with
  | zero => intros; exact tl_fail
  | succ n ih =>
    intro x3 x4 x5
    rw [L_X5_signsOf_17]
    refine tl_iload_n (pc := 17) (i := 3) dX5_signsOf_17 rfl rfl ?_
    refine tl_bipush (pc := 18) (v := 10) dX5_signsOf_18 (by decide) ?_
    refine tl_icmp_ge (pc := 20) (tgt := 41) dX5_signsOf_20 rfl ?_ ?_
    · refine tl_iload_n (pc := 41) (i := 1) dX5_signsOf_41 rfl rfl ?_
      exact tl_iret (pc := 42) dX5_signsOf_42
    · refine tl_iload_n (pc := 23) (i := 2) dX5_signsOf_23 rfl rfl ?_
      refine tl_if_eq (pc := 24) (tgt := 41) dX5_signsOf_24 rfl ?_ ?_
      · refine tl_iload_n (pc := 41) (i := 1) dX5_signsOf_41 rfl rfl ?_
        exact tl_iret (pc := 42) dX5_signsOf_42
      · refine tl_iload_n (pc := 27) (i := 2) dX5_signsOf_27 rfl rfl ?_
        refine tl_bipush (pc := 28) (v := 10) dX5_signsOf_28 (by decide) ?_
        refine tl_idiv (pc := 30) dX5_signsOf_30 (by decide) ?_
        refine tl_bI (fun x6 => ?_)
        refine tl_istore_n (pc := 31) (i := 2) (lo' := [none, some (.int x3), some (.int x6), some (.int x5)]) dX5_signsOf_31 rfl (by decide) rfl ?_
        refine tl_iinc (pc := 32) (i := 1) (v := x3 + (1 : Int32)) (lo' := [none, some (.int (x3 + (1 : Int32))), some (.int x6), some (.int x5)]) dX5_signsOf_32 rfl rfl (by decide) rfl ?_
        refine tl_iinc (pc := 35) (i := 3) (v := x5 + (1 : Int32)) (lo' := [none, some (.int (x3 + (1 : Int32))), some (.int x6), some (.int (x5 + (1 : Int32)))]) dX5_signsOf_35 rfl rfl (by decide) rfl ?_
        refine tl_goto (pc := 38) (tgt := 17) dX5_signsOf_38 rfl ?_
        exact tl_sub (ih _ _ _) (sub_n (sub_s (sub_s (sub_s sub_e))))
set_option maxRecDepth 100000 in
theorem c_X5_signsOf (T : Tb) (p0 : Int32)  : CT (.code yX5_signsOf cX5_signsOf 4 (some .int)) yX5_signsOf 0 iI T [.int p0] (F_X5_signsOf p0) := by
  refine ct_of (lo := [some (.int p0), none, none, none]) (j := 3) k_X5_signsOf.1 rfl (fun _ => Nat.le_of_ble_eq_true rfl) ?_
  show TL_X5_signsOf T 0 _ _ _
  rw [F_X5_signsOf]
  refine tl_iload_n (pc := 0) (i := 0) dX5_signsOf_0 rfl rfl ?_
  refine tl_j (fun (k : Int32 → Dm Int32) => ∀ (x1 : Int32), TL_X5_signsOf T 9 [some (.int p0), none, none, none] [.int x1] (k x1)) (fun x1 => ?_) (fun k1 hk1 => ?_)
  · refine tl_istore_n (pc := 9) (i := 1) (lo' := [some (.int p0), some (.int x1), none, none]) dX5_signsOf_9 rfl (by decide) rfl ?_
    refine tl_iload_n (pc := 10) (i := 0) dX5_signsOf_10 rfl rfl ?_
    refine tl_bipush (pc := 11) (v := 10) dX5_signsOf_11 (by decide) ?_
    refine tl_idiv (pc := 13) dX5_signsOf_13 (by decide) ?_
    refine tl_bI (fun x2 => ?_)
    refine tl_istore_n (pc := 14) (i := 2) (lo' := [some (.int p0), some (.int x1), some (.int x2), none]) dX5_signsOf_14 rfl (by decide) rfl ?_
    refine tl_iconst (pc := 15) (v := 0) dX5_signsOf_15 (by decide) ?_
    refine tl_istore_n (pc := 16) (i := 3) (lo' := [some (.int p0), some (.int x1), some (.int x2), some (.int (0 : Int32))]) dX5_signsOf_16 rfl (by decide) rfl ?_
    refine tl_sub (lp_X5_signsOf_17 T p0     FU _ _ _) (sub_n (sub_s (sub_s (sub_s sub_e))))
  · refine tl_if_ge (pc := 1) (tgt := 8) dX5_signsOf_1 rfl ?_ ?_
    · refine tl_iconst (pc := 8) (v := 1) dX5_signsOf_8 (by decide) ?_
      exact tl_sub (hk1 _) (sub_s (sub_n (sub_n (sub_n sub_e))))
    · refine tl_iconst (pc := 4) (v := 2) dX5_signsOf_4 (by decide) ?_
      refine tl_goto (pc := 5) (tgt := 9) dX5_signsOf_5 rfl ?_
      exact tl_sub (hk1 _) (sub_s (sub_n (sub_n (sub_n sub_e))))
abbrev TL_X2_store (T : Tb) (pc : Nat) (lo : List (Option Value)) (st : List Value) (X : Dm Unit) : Prop := TL yX2_store cX2_store 3 none 0 vI T pc lo st X
set_option maxRecDepth 100000 in
theorem c_X2_store (T : Tb) (b nb : Nat) (p0 : Int32) (p1 : Int32) (hb : isNum T b nb) : CT (.code yX2_store cX2_store 3 none) yX2_store 0 vI T [.ref b, .int p0, .int p1] (F_X2_store b nb p0 p1) := by
  refine ct_of (lo := [some (.ref b), some (.int p0), some (.int p1)]) (j := 0) k_X2_store.1 rfl (fun _ => Nat.le_of_ble_eq_true rfl) ?_
  show TL_X2_store T 0 _ _ _
  rw [F_X2_store]
  refine tl_iload_n (pc := 0) (i := 1) dX2_store_0 rfl rfl ?_
  refine tl_if_lt (pc := 1) (tgt := 20) dX2_store_1 rfl ?_ ?_
  · exact tl_vret (pc := 20) dX2_store_20
  · refine tl_iload_n (pc := 4) (i := 1) dX2_store_4 rfl rfl ?_
    refine tl_aload_n (pc := 5) (i := 0) dX2_store_5 rfl rfl ?_
    refine tl_getR (pc := 6) (r := (b + 1)) fl_X2_13 hb.1 rfl dX2_store_6 ?_
    refine tl_alen (pc := 9) hb.2 dX2_store_9 ?_
    refine tl_icmp_ge (pc := 10) (tgt := 20) dX2_store_10 rfl ?_ ?_
    · exact tl_vret (pc := 20) dX2_store_20
    · refine tl_aload_n (pc := 13) (i := 0) dX2_store_13 rfl rfl ?_
      refine tl_getR (pc := 14) (r := (b + 1)) fl_X2_13 hb.1 rfl dX2_store_14 ?_
      refine tl_iload_n (pc := 17) (i := 1) dX2_store_17 rfl rfl ?_
      refine tl_iload_n (pc := 18) (i := 2) dX2_store_18 rfl rfl ?_
      refine tl_iast (pc := 19) hb.2 dX2_store_19 ?_
      exact tl_vret (pc := 20) dX2_store_20
abbrev TL_X4_squaresEnd (T : Tb) (pc : Nat) (lo : List (Option Value)) (st : List Value) (X : Dm Int32) : Prop := TL yX4_squaresEnd cX4_squaresEnd 1 (some .int) 0 iI T pc lo st X
set_option maxRecDepth 100000 in
theorem c_X4_squaresEnd (T : Tb) (b : Nat) (hb : isSheet T b) : CT (.code yX4_squaresEnd cX4_squaresEnd 1 (some .int)) yX4_squaresEnd 0 iI T [.ref b] (F_X4_squaresEnd b) := by
  refine ct_of (lo := [some (.ref b)]) (j := 0) k_X4_squaresEnd.1 rfl (fun _ => Nat.le_of_ble_eq_true rfl) ?_
  show TL_X4_squaresEnd T 0 _ _ _
  rw [F_X4_squaresEnd]
  refine tl_aload_n (pc := 0) (i := 0) dX4_squaresEnd_0 rfl rfl ?_
  refine tl_getI (pc := 1) fl_X4_42 hb.1 rfl dX4_squaresEnd_1 (fun x1 => ?_)
  refine tl_bipush (pc := 4) (v := 25) dX4_squaresEnd_4 (by decide) ?_
  refine tl_imul (pc := 6) dX4_squaresEnd_6 ?_
  exact tl_iret (pc := 7) dX4_squaresEnd_7
abbrev TL_X4_makeEmpty (T : Tb) (pc : Nat) (lo : List (Option Value)) (st : List Value) (X : Dm Unit) : Prop := TL yX4_makeEmpty cX4_makeEmpty 3 none 1 vI T pc lo st X
set_option maxRecDepth 100000 in
theorem lp_X4_makeEmpty_55 (T : Tb) (b : Nat) (p0 : Int32)  (hb : isSheet T b)    : ∀ (n : Nat) (x1 : Int32), TL_X4_makeEmpty T 55 [some (.ref b), some (.int p0), some (.int x1)] [] (L_X4_makeEmpty_55 b p0 n x1 ) := by
  intro n
  induction n with
  | zero => intros; exact tl_fail
  | succ n ih =>
    intro x1
    rw [L_X4_makeEmpty_55]
    refine tl_iload_n (pc := 55) (i := 2) dX4_makeEmpty_55 rfl rfl ?_
    refine tl_iconst (pc := 56) (v := 4) dX4_makeEmpty_56 (by decide) ?_
    refine tl_icmp_ge (pc := 57) (tgt := 79) dX4_makeEmpty_57 rfl ?_ ?_
    · exact tl_vret (pc := 79) dX4_makeEmpty_79
    · refine tl_aload_n (pc := 60) (i := 0) dX4_makeEmpty_60 rfl rfl ?_
      refine tl_getR (pc := 61) (r := (b + 13)) fl_X4_39 hb.1 rfl dX4_makeEmpty_61 ?_
      refine tl_iload_n (pc := 64) (i := 1) dX4_makeEmpty_64 rfl rfl ?_
      refine tl_iconst (pc := 65) (v := 4) dX4_makeEmpty_65 (by decide) ?_
      refine tl_imul (pc := 66) dX4_makeEmpty_66 ?_
      refine tl_iload_n (pc := 67) (i := 2) dX4_makeEmpty_67 rfl rfl ?_
      refine tl_iadd (pc := 68) dX4_makeEmpty_68 ?_
      refine tl_iconst (pc := 69) (v := 0) dX4_makeEmpty_69 (by decide) ?_
      refine tl_callVv (pc := 70) k_X2_store gw_182 hb.2.2.2.2.2.2.2.1 ⟨_, _, rfl⟩ (c_X2_store T _ _ _ _ hb.2.2.2.2.2.2.2) rfl rfl (Nat.le_of_ble_eq_true rfl) (Nat.le_of_ble_eq_true rfl) dX4_makeEmpty_70 (fun _ => ?_)
      refine tl_iinc (pc := 73) (i := 2) (v := x1 + (1 : Int32)) (lo' := [some (.ref b), some (.int p0), some (.int (x1 + (1 : Int32)))]) dX4_makeEmpty_73 rfl rfl (by decide) rfl ?_
      refine tl_goto (pc := 76) (tgt := 55) dX4_makeEmpty_76 rfl ?_
      exact tl_sub (ih _) (sub_s (sub_s (sub_s sub_e)))
set_option maxRecDepth 100000 in
theorem c_X4_makeEmpty (T : Tb) (b : Nat) (p0 : Int32) (hb : isSheet T b) : CT (.code yX4_makeEmpty cX4_makeEmpty 3 none) yX4_makeEmpty 1 vI T [.ref b, .int p0] (F_X4_makeEmpty b p0) := by
  refine ct_of (lo := [some (.ref b), some (.int p0), none]) (j := 1) k_X4_makeEmpty.1 rfl (fun _ => Nat.le_of_ble_eq_true rfl) ?_
  show TL_X4_makeEmpty T 0 _ _ _
  rw [F_X4_makeEmpty]
  refine tl_aload_n (pc := 0) (i := 0) dX4_makeEmpty_0 rfl rfl ?_
  refine tl_getR (pc := 1) (r := (b + 5)) fl_X4_27 hb.1 rfl dX4_makeEmpty_1 ?_
  refine tl_iload_n (pc := 4) (i := 1) dX4_makeEmpty_4 rfl rfl ?_
  refine tl_iload_n (pc := 5) (i := 1) dX4_makeEmpty_5 rfl rfl ?_
  refine tl_callVv (pc := 6) k_X2_store gw_182 hb.2.2.2.1.1 ⟨_, _, rfl⟩ (c_X2_store T _ _ _ _ hb.2.2.2.1) rfl rfl (Nat.le_of_ble_eq_true rfl) (Nat.le_of_ble_eq_true rfl) dX4_makeEmpty_6 (fun _ => ?_)
  refine tl_aload_n (pc := 9) (i := 0) dX4_makeEmpty_9 rfl rfl ?_
  refine tl_getR (pc := 10) (r := (b + 7)) fl_X4_30 hb.1 rfl dX4_makeEmpty_10 ?_
  refine tl_iload_n (pc := 13) (i := 1) dX4_makeEmpty_13 rfl rfl ?_
  refine tl_iconst (pc := 14) (v := 0) dX4_makeEmpty_14 (by decide) ?_
  refine tl_callVv (pc := 15) k_X2_store gw_182 hb.2.2.2.2.1.1 ⟨_, _, rfl⟩ (c_X2_store T _ _ _ _ hb.2.2.2.2.1) rfl rfl (Nat.le_of_ble_eq_true rfl) (Nat.le_of_ble_eq_true rfl) dX4_makeEmpty_15 (fun _ => ?_)
  refine tl_aload_n (pc := 18) (i := 0) dX4_makeEmpty_18 rfl rfl ?_
  refine tl_getR (pc := 19) (r := (b + 9)) fl_X4_33 hb.1 rfl dX4_makeEmpty_19 ?_
  refine tl_iload_n (pc := 22) (i := 1) dX4_makeEmpty_22 rfl rfl ?_
  refine tl_iconst (pc := 23) (v := 0) dX4_makeEmpty_23 (by decide) ?_
  refine tl_callVv (pc := 24) k_X2_store gw_182 hb.2.2.2.2.2.1.1 ⟨_, _, rfl⟩ (c_X2_store T _ _ _ _ hb.2.2.2.2.2.1) rfl rfl (Nat.le_of_ble_eq_true rfl) (Nat.le_of_ble_eq_true rfl) dX4_makeEmpty_24 (fun _ => ?_)
  refine tl_aload_n (pc := 27) (i := 0) dX4_makeEmpty_27 rfl rfl ?_
  refine tl_getR (pc := 28) (r := (b + 11)) fl_X4_36 hb.1 rfl dX4_makeEmpty_28 ?_
  refine tl_iload_n (pc := 31) (i := 1) dX4_makeEmpty_31 rfl rfl ?_
  refine tl_iconst (pc := 32) (v := 2) dX4_makeEmpty_32 (by decide) ?_
  refine tl_imul (pc := 33) dX4_makeEmpty_33 ?_
  refine tl_iconst (pc := 34) (v := 1) dX4_makeEmpty_34 (by decide) ?_
  refine tl_iadd (pc := 35) dX4_makeEmpty_35 ?_
  refine tl_iconst (pc := 36) (v := 1) dX4_makeEmpty_36 (by decide) ?_
  refine tl_callVv (pc := 37) k_X2_store gw_182 hb.2.2.2.2.2.2.1.1 ⟨_, _, rfl⟩ (c_X2_store T _ _ _ _ hb.2.2.2.2.2.2.1) rfl rfl (Nat.le_of_ble_eq_true rfl) (Nat.le_of_ble_eq_true rfl) dX4_makeEmpty_37 (fun _ => ?_)
  refine tl_aload_n (pc := 40) (i := 0) dX4_makeEmpty_40 rfl rfl ?_
  refine tl_getR (pc := 41) (r := (b + 11)) fl_X4_36 hb.1 rfl dX4_makeEmpty_41 ?_
  refine tl_iload_n (pc := 44) (i := 1) dX4_makeEmpty_44 rfl rfl ?_
  refine tl_iconst (pc := 45) (v := 2) dX4_makeEmpty_45 (by decide) ?_
  refine tl_imul (pc := 46) dX4_makeEmpty_46 ?_
  refine tl_iconst (pc := 47) (v := 0) dX4_makeEmpty_47 (by decide) ?_
  refine tl_iadd (pc := 48) dX4_makeEmpty_48 ?_
  refine tl_iconst (pc := 49) (v := 1) dX4_makeEmpty_49 (by decide) ?_
  refine tl_callVv (pc := 50) k_X2_store gw_182 hb.2.2.2.2.2.2.1.1 ⟨_, _, rfl⟩ (c_X2_store T _ _ _ _ hb.2.2.2.2.2.2.1) rfl rfl (Nat.le_of_ble_eq_true rfl) (Nat.le_of_ble_eq_true rfl) dX4_makeEmpty_50 (fun _ => ?_)
  refine tl_iconst (pc := 53) (v := 0) dX4_makeEmpty_53 (by decide) ?_
  refine tl_istore_n (pc := 54) (i := 2) (lo' := [some (.ref b), some (.int p0), some (.int (0 : Int32))]) dX4_makeEmpty_54 rfl (by decide) rfl ?_
  refine tl_sub (lp_X4_makeEmpty_55 T b p0 hb    FU _) (sub_s (sub_s (sub_s sub_e)))
abbrev TL_X4_layOut (T : Tb) (pc : Nat) (lo : List (Option Value)) (st : List Value) (X : Dm Unit) : Prop := TL yX4_layOut cX4_layOut 6 none 2 vI T pc lo st X
set_option maxRecDepth 100000 in
theorem lp_X4_layOut_61 (T : Tb) (b : Nat) (p0 : Int32) (p1 : Int32) (p2 : Int32)  (hb : isSheet T b)    : ∀ (n : Nat) (x4 : Int32), TL_X4_layOut T 61 [some (.ref b), none, some (.int p1), some (.int p2), none, some (.int x4)] [] (L_X4_layOut_61 b p1 p2 n x4 ) := by
  intro n
  induction n with
  | zero => intros; exact tl_fail
  | succ n ih =>
    intro x4
    rw [L_X4_layOut_61]
    refine tl_iload (pc := 61) (i := 5) dX4_layOut_61 rfl ?_
    refine tl_aload_n (pc := 63) (i := 0) dX4_layOut_63 rfl rfl ?_
    refine tl_callVi (pc := 64) k_X4_squaresEnd gw_186 hb.1 ⟨_, _, rfl⟩ (c_X4_squaresEnd T _ hb) rfl rfl (Nat.le_of_ble_eq_true rfl) (Nat.le_of_ble_eq_true rfl) dX4_layOut_64 (fun x5 => ?_)
    refine tl_icmp_ge (pc := 67) (tgt := 112) dX4_layOut_67 rfl ?_ ?_
    · exact tl_vret (pc := 112) dX4_layOut_112
    · refine tl_aload_n (pc := 70) (i := 0) dX4_layOut_70 rfl rfl ?_
      refine tl_iload (pc := 71) (i := 5) dX4_layOut_71 rfl ?_
      refine tl_callVv (pc := 73) k_X4_makeEmpty gw_190 hb.1 ⟨_, _, rfl⟩ (c_X4_makeEmpty T _ _ hb) rfl rfl (Nat.le_of_ble_eq_true rfl) (Nat.le_of_ble_eq_true rfl) dX4_layOut_73 (fun _ => ?_)
      refine tl_iload (pc := 76) (i := 5) dX4_layOut_76 rfl ?_
      refine tl_iconst (pc := 78) (v := 1) dX4_layOut_78 (by decide) ?_
      refine tl_callSNi (pc := 79) k_X5_placeOf nm_X4_64 (c_X5_placeOf T _ _) (nx_X5_placeOf _ _) rfl rfl (Nat.le_of_ble_eq_true rfl) (Nat.le_of_ble_eq_true rfl) dX4_layOut_79 (fun x6 => ?_)
      refine tl_iload_n (pc := 82) (i := 2) dX4_layOut_82 rfl rfl ?_
      refine tl_j (fun (k : Unit → Dm Unit) => ∀ (_ : Unit), TL_X4_layOut T 106 [some (.ref b), none, some (.int p1), some (.int p2), none, some (.int x4)] [] (k ())) (fun _ => ?_) (fun k1 hk1 => ?_)
      · refine tl_iinc (pc := 106) (i := 5) (v := x4 + (1 : Int32)) (lo' := [some (.ref b), none, some (.int p1), some (.int p2), none, some (.int (x4 + (1 : Int32)))]) dX4_layOut_106 rfl rfl (by decide) rfl ?_
        refine tl_goto (pc := 109) (tgt := 61) dX4_layOut_109 rfl ?_
        exact tl_sub (ih _) (sub_s (sub_n (sub_s (sub_s (sub_n (sub_s sub_e))))))
      · refine tl_j (fun (k : Unit → Dm Unit) => ∀ (_ : Unit), TL_X4_layOut T 96 [some (.ref b), none, some (.int p1), some (.int p2), none, some (.int x4)] [] (k ())) (fun _ => ?_) (fun k2 hk2 => ?_)
        · refine tl_aload_n (pc := 96) (i := 0) dX4_layOut_96 rfl rfl ?_
          refine tl_getR (pc := 97) (r := (b + 5)) fl_X4_27 hb.1 rfl dX4_layOut_97 ?_
          refine tl_iload (pc := 100) (i := 5) dX4_layOut_100 rfl ?_
          refine tl_iconst (pc := 102) (v := -1) dX4_layOut_102 (by decide) ?_
          refine tl_callVv (pc := 103) k_X2_store gw_182 hb.2.2.2.1.1 ⟨_, _, rfl⟩ (c_X2_store T _ _ _ _ hb.2.2.2.1) rfl rfl (Nat.le_of_ble_eq_true rfl) (Nat.le_of_ble_eq_true rfl) dX4_layOut_103 (fun _ => ?_)
          exact tl_sub (hk1 ()) (sub_s (sub_n (sub_s (sub_s (sub_n (sub_s sub_e))))))
        · refine tl_icmp_ge (pc := 83) (tgt := 96) dX4_layOut_83 rfl ?_ ?_
          · exact tl_sub (hk2 ()) (sub_s (sub_n (sub_s (sub_s (sub_n (sub_s sub_e))))))
          · refine tl_iload (pc := 86) (i := 5) dX4_layOut_86 rfl ?_
            refine tl_iconst (pc := 88) (v := 0) dX4_layOut_88 (by decide) ?_
            refine tl_callSNi (pc := 89) k_X5_placeOf nm_X4_64 (c_X5_placeOf T _ _) (nx_X5_placeOf _ _) rfl rfl (Nat.le_of_ble_eq_true rfl) (Nat.le_of_ble_eq_true rfl) dX4_layOut_89 (fun x7 => ?_)
            refine tl_iload_n (pc := 92) (i := 3) dX4_layOut_92 rfl rfl ?_
            refine tl_icmp_lt (pc := 93) (tgt := 106) dX4_layOut_93 rfl ?_ ?_
            · exact tl_sub (hk1 ()) (sub_s (sub_n (sub_s (sub_s (sub_n (sub_s sub_e))))))
            · exact tl_sub (hk2 ()) (sub_s (sub_n (sub_s (sub_s (sub_n (sub_s sub_e))))))
set_option maxRecDepth 100000 in
theorem c_X4_layOut (T : Tb) (b : Nat) (p0 : Int32) (p1 : Int32) (p2 : Int32) (hb : isSheet T b) : CT (.code yX4_layOut cX4_layOut 6 none) yX4_layOut 2 vI T [.ref b, .int p0, .int p1, .int p2] (F_X4_layOut b p0 p1 p2) := by
  refine ct_of (lo := [some (.ref b), some (.int p0), some (.int p1), some (.int p2), none, none]) (j := 2) k_X4_layOut.1 rfl (fun _ => Nat.le_of_ble_eq_true rfl) ?_
  show TL_X4_layOut T 0 _ _ _
  rw [F_X4_layOut]
  refine tl_aload_n (pc := 0) (i := 0) dX4_layOut_0 rfl rfl ?_
  refine tl_getI (pc := 1) fl_X4_42 hb.1 rfl dX4_layOut_1 (fun x1 => ?_)
  refine tl_istore (pc := 4) (i := 4) (lo' := [some (.ref b), some (.int p0), some (.int p1), some (.int p2), some (.int x1), none]) dX4_layOut_4 (by decide) rfl ?_
  refine tl_aload_n (pc := 6) (i := 0) dX4_layOut_6 rfl rfl ?_
  refine tl_dup (pc := 7) dX4_layOut_7 rfl ?_
  refine tl_getI (pc := 8) fl_X4_42 hb.1 rfl dX4_layOut_8 (fun x2 => ?_)
  refine tl_iconst (pc := 11) (v := 1) dX4_layOut_11 (by decide) ?_
  refine tl_iadd (pc := 12) dX4_layOut_12 ?_
  refine tl_putI (pc := 13) fw_X4_42 hb.1 rfl dX4_layOut_13 ?_
  refine tl_aload_n (pc := 16) (i := 0) dX4_layOut_16 rfl rfl ?_
  refine tl_getR (pc := 17) (r := (b + 1)) fl_X4_20 hb.1 rfl dX4_layOut_17 ?_
  refine tl_iload (pc := 20) (i := 4) dX4_layOut_20 rfl ?_
  refine tl_iconst (pc := 22) (v := 2) dX4_layOut_22 (by decide) ?_
  refine tl_imul (pc := 23) dX4_layOut_23 ?_
  refine tl_iconst (pc := 24) (v := 1) dX4_layOut_24 (by decide) ?_
  refine tl_iadd (pc := 25) dX4_layOut_25 ?_
  refine tl_iload_n (pc := 26) (i := 2) dX4_layOut_26 rfl rfl ?_
  refine tl_callVv (pc := 27) k_X2_store gw_182 hb.2.1.1 ⟨_, _, rfl⟩ (c_X2_store T _ _ _ _ hb.2.1) rfl rfl (Nat.le_of_ble_eq_true rfl) (Nat.le_of_ble_eq_true rfl) dX4_layOut_27 (fun _ => ?_)
  refine tl_aload_n (pc := 30) (i := 0) dX4_layOut_30 rfl rfl ?_
  refine tl_getR (pc := 31) (r := (b + 1)) fl_X4_20 hb.1 rfl dX4_layOut_31 ?_
  refine tl_iload (pc := 34) (i := 4) dX4_layOut_34 rfl ?_
  refine tl_iconst (pc := 36) (v := 2) dX4_layOut_36 (by decide) ?_
  refine tl_imul (pc := 37) dX4_layOut_37 ?_
  refine tl_iconst (pc := 38) (v := 0) dX4_layOut_38 (by decide) ?_
  refine tl_iadd (pc := 39) dX4_layOut_39 ?_
  refine tl_iload_n (pc := 40) (i := 3) dX4_layOut_40 rfl rfl ?_
  refine tl_callVv (pc := 41) k_X2_store gw_182 hb.2.1.1 ⟨_, _, rfl⟩ (c_X2_store T _ _ _ _ hb.2.1) rfl rfl (Nat.le_of_ble_eq_true rfl) (Nat.le_of_ble_eq_true rfl) dX4_layOut_41 (fun _ => ?_)
  refine tl_aload_n (pc := 44) (i := 0) dX4_layOut_44 rfl rfl ?_
  refine tl_getR (pc := 45) (r := (b + 3)) fl_X4_24 hb.1 rfl dX4_layOut_45 ?_
  refine tl_iload (pc := 48) (i := 4) dX4_layOut_48 rfl ?_
  refine tl_iload_n (pc := 50) (i := 1) dX4_layOut_50 rfl rfl ?_
  refine tl_callVv (pc := 51) k_X2_store gw_182 hb.2.2.1.1 ⟨_, _, rfl⟩ (c_X2_store T _ _ _ _ hb.2.2.1) rfl rfl (Nat.le_of_ble_eq_true rfl) (Nat.le_of_ble_eq_true rfl) dX4_layOut_51 (fun _ => ?_)
  refine tl_iload (pc := 54) (i := 4) dX4_layOut_54 rfl ?_
  refine tl_bipush (pc := 56) (v := 25) dX4_layOut_56 (by decide) ?_
  refine tl_imul (pc := 58) dX4_layOut_58 ?_
  refine tl_bI (fun x3 => ?_)
  refine tl_istore (pc := 59) (i := 5) (lo' := [some (.ref b), some (.int p0), some (.int p1), some (.int p2), some (.int x1), some (.int x3)]) dX4_layOut_59 (by decide) rfl ?_
  refine tl_sub (lp_X4_layOut_61 T b p0 p1 p2 hb    FU _) (sub_s (sub_n (sub_s (sub_s (sub_n (sub_s sub_e))))))
abbrev TL_X4_startAnew (T : Tb) (pc : Nat) (lo : List (Option Value)) (st : List Value) (X : Dm Unit) : Prop := TL yX4_startAnew cX4_startAnew 3 none 3 vI T pc lo st X
set_option maxRecDepth 100000 in
theorem c_X4_startAnew (T : Tb) (b : Nat) (p0 : Int32) (p1 : Int32) (hb : isSheet T b) : CT (.code yX4_startAnew cX4_startAnew 3 none) yX4_startAnew 3 vI T [.ref b, .int p0, .int p1] (F_X4_startAnew b p0 p1) := by
  refine ct_of (lo := [some (.ref b), some (.int p0), some (.int p1)]) (j := 0) k_X4_startAnew.1 rfl (fun _ => Nat.le_of_ble_eq_true rfl) ?_
  show TL_X4_startAnew T 0 _ _ _
  rw [F_X4_startAnew]
  refine tl_aload_n (pc := 0) (i := 0) dX4_startAnew_0 rfl rfl ?_
  refine tl_iconst (pc := 1) (v := 0) dX4_startAnew_1 (by decide) ?_
  refine tl_putI (pc := 2) fw_X4_42 hb.1 rfl dX4_startAnew_2 ?_
  refine tl_aload_n (pc := 5) (i := 0) dX4_startAnew_5 rfl rfl ?_
  refine tl_iconst (pc := 6) (v := -1) dX4_startAnew_6 (by decide) ?_
  refine tl_iload_n (pc := 7) (i := 1) dX4_startAnew_7 rfl rfl ?_
  refine tl_iload_n (pc := 8) (i := 2) dX4_startAnew_8 rfl rfl ?_
  refine tl_callVv (pc := 9) k_X4_layOut gw_178 hb.1 ⟨_, _, rfl⟩ (c_X4_layOut T _ _ _ _ hb) rfl rfl (Nat.le_of_ble_eq_true rfl) (Nat.le_of_ble_eq_true rfl) dX4_startAnew_9 (fun _ => ?_)
  exact tl_vret (pc := 12) dX4_startAnew_12
abbrev TL_J7_fill_53178 (T : Tb) (pc : Nat) (lo : List (Option Value)) (st : List Value) (X : Dm Unit) : Prop := TL yJ7_fill_53178 cJ7_fill_53178 4 none 0 vI T pc lo st X
set_option maxRecDepth 100000 in
theorem lp_J7_fill_53178_5 (T : Tb) (a0 na0 : Nat) (p1 : Int32) (x1 : Int32) (ha0 : T[a0]? = some (0, na0, []))    : ∀ (n : Nat) (x2 : Int32), TL_J7_fill_53178 T 5 [some (.ref a0), some (.int p1), some (.int x2), some (.int x1)] [] (L_J7_fill_53178_5 a0 na0 p1 x1 n x2 ) := by
  intro n
  induction n with
  | zero => intros; exact tl_fail
  | succ n ih =>
    intro x2
    rw [L_J7_fill_53178_5]
    refine tl_iload_n (pc := 5) (i := 2) dJ7_fill_53178_5 rfl rfl ?_
    refine tl_iload_n (pc := 6) (i := 3) dJ7_fill_53178_6 rfl rfl ?_
    refine tl_icmp_ge (pc := 7) (tgt := 20) dJ7_fill_53178_7 rfl ?_ ?_
    · exact tl_vret (pc := 20) dJ7_fill_53178_20
    · refine tl_aload_n (pc := 10) (i := 0) dJ7_fill_53178_10 rfl rfl ?_
      refine tl_iload_n (pc := 11) (i := 2) dJ7_fill_53178_11 rfl rfl ?_
      refine tl_iload_n (pc := 12) (i := 1) dJ7_fill_53178_12 rfl rfl ?_
      refine tl_iast (pc := 13) ha0 dJ7_fill_53178_13 ?_
      refine tl_iinc (pc := 14) (i := 2) (v := x2 + (1 : Int32)) (lo' := [some (.ref a0), some (.int p1), some (.int (x2 + (1 : Int32))), some (.int x1)]) dJ7_fill_53178_14 rfl rfl (by decide) rfl ?_
      refine tl_goto (pc := 17) (tgt := 5) dJ7_fill_53178_17 rfl ?_
      exact tl_sub (ih _) (sub_s (sub_s (sub_s (sub_s sub_e))))
set_option maxRecDepth 100000 in
theorem c_J7_fill_53178 (T : Tb) (a0 na0 : Nat) (p1 : Int32) (ha0 : T[a0]? = some (0, na0, [])) : CT (.code yJ7_fill_53178 cJ7_fill_53178 4 none) yJ7_fill_53178 0 vI T [.ref a0, .int p1] (F_J7_fill_53178 a0 na0 p1) := by
  refine ct_of (lo := [some (.ref a0), some (.int p1), none, none]) (j := 2) k_J7_fill_53178.1 rfl (fun _ => Nat.le_of_ble_eq_true rfl) ?_
  show TL_J7_fill_53178 T 0 _ _ _
  rw [F_J7_fill_53178]
  refine tl_iconst (pc := 0) (v := 0) dJ7_fill_53178_0 (by decide) ?_
  refine tl_istore_n (pc := 1) (i := 2) (lo' := [some (.ref a0), some (.int p1), some (.int (0 : Int32)), none]) dJ7_fill_53178_1 rfl (by decide) rfl ?_
  refine tl_aload_n (pc := 2) (i := 0) dJ7_fill_53178_2 rfl rfl ?_
  refine tl_alen (pc := 3) ha0 dJ7_fill_53178_3 ?_
  refine tl_bI (fun x1 => ?_)
  refine tl_istore_n (pc := 4) (i := 3) (lo' := [some (.ref a0), some (.int p1), some (.int (0 : Int32)), some (.int x1)]) dJ7_fill_53178_4 rfl (by decide) rfl ?_
  refine tl_sub (lp_J7_fill_53178_5 T a0 na0 p1 x1 ha0    FU _) (sub_s (sub_s (sub_s (sub_s sub_e))))
abbrev TL_X2_clear (T : Tb) (pc : Nat) (lo : List (Option Value)) (st : List Value) (X : Dm Unit) : Prop := TL yX2_clear cX2_clear 1 none 1 vI T pc lo st X
set_option maxRecDepth 100000 in
theorem c_X2_clear (T : Tb) (b nb : Nat) (hb : isNum T b nb) : CT (.code yX2_clear cX2_clear 1 none) yX2_clear 1 vI T [.ref b] (F_X2_clear b nb) := by
  refine ct_of (lo := [some (.ref b)]) (j := 0) k_X2_clear.1 rfl (fun _ => Nat.le_of_ble_eq_true rfl) ?_
  show TL_X2_clear T 0 _ _ _
  rw [F_X2_clear]
  refine tl_aload_n (pc := 0) (i := 0) dX2_clear_0 rfl rfl ?_
  refine tl_getR (pc := 1) (r := (b + 1)) fl_X2_13 hb.1 rfl dX2_clear_1 ?_
  refine tl_iconst (pc := 4) (v := 0) dX2_clear_4 (by decide) ?_
  refine tl_callSv (pc := 5) k_J7_fill_53178 gw_205 (c_J7_fill_53178 T _ _ _ hb.2) rfl rfl (Nat.le_of_ble_eq_true rfl) (Nat.le_of_ble_eq_true rfl) dX2_clear_5 (fun _ => ?_)
  exact tl_vret (pc := 8) dX2_clear_8
abbrev TL_X2_at (T : Tb) (pc : Nat) (lo : List (Option Value)) (st : List Value) (X : Dm Int32) : Prop := TL yX2_at cX2_at 2 (some .int) 0 iI T pc lo st X
set_option maxRecDepth 100000 in
theorem c_X2_at (T : Tb) (b nb : Nat) (p0 : Int32) (hb : isNum T b nb) : CT (.code yX2_at cX2_at 2 (some .int)) yX2_at 0 iI T [.ref b, .int p0] (F_X2_at b nb p0) := by
  refine ct_of (lo := [some (.ref b), some (.int p0)]) (j := 0) k_X2_at.1 rfl (fun _ => Nat.le_of_ble_eq_true rfl) ?_
  show TL_X2_at T 0 _ _ _
  rw [F_X2_at]
  refine tl_iload_n (pc := 0) (i := 1) dX2_at_0 rfl rfl ?_
  refine tl_if_lt (pc := 1) (tgt := 22) dX2_at_1 rfl ?_ ?_
  · refine tl_iconst (pc := 22) (v := 0) dX2_at_22 (by decide) ?_
    exact tl_iret (pc := 23) dX2_at_23
  · refine tl_iload_n (pc := 4) (i := 1) dX2_at_4 rfl rfl ?_
    refine tl_aload_n (pc := 5) (i := 0) dX2_at_5 rfl rfl ?_
    refine tl_getR (pc := 6) (r := (b + 1)) fl_X2_13 hb.1 rfl dX2_at_6 ?_
    refine tl_alen (pc := 9) hb.2 dX2_at_9 ?_
    refine tl_icmp_ge (pc := 10) (tgt := 22) dX2_at_10 rfl ?_ ?_
    · refine tl_iconst (pc := 22) (v := 0) dX2_at_22 (by decide) ?_
      exact tl_iret (pc := 23) dX2_at_23
    · refine tl_aload_n (pc := 13) (i := 0) dX2_at_13 rfl rfl ?_
      refine tl_getR (pc := 14) (r := (b + 1)) fl_X2_13 hb.1 rfl dX2_at_14 ?_
      refine tl_iload_n (pc := 17) (i := 1) dX2_at_17 rfl rfl ?_
      refine tl_iald (pc := 18) hb.2 dX2_at_18 (fun x1 => ?_)
      refine tl_goto (pc := 19) (tgt := 23) dX2_at_19 rfl ?_
      exact tl_iret (pc := 23) dX2_at_23
abbrev TL_X4_isCell (T : Tb) (pc : Nat) (lo : List (Option Value)) (st : List Value) (X : Dm Int32) : Prop := TL yX4_isCell cX4_isCell 2 (some .boolean) 1 iI T pc lo st X
set_option maxRecDepth 100000 in
theorem c_X4_isCell (T : Tb) (b : Nat) (p0 : Int32) (hb : isSheet T b) : CT (.code yX4_isCell cX4_isCell 2 (some .boolean)) yX4_isCell 1 iI T [.ref b, .int p0] (F_X4_isCell b p0) := by
  refine ct_of (lo := [some (.ref b), some (.int p0)]) (j := 0) k_X4_isCell.1 rfl (fun _ => Nat.le_of_ble_eq_true rfl) ?_
  show TL_X4_isCell T 0 _ _ _
  rw [F_X4_isCell]
  refine tl_iload_n (pc := 0) (i := 1) dX4_isCell_0 rfl rfl ?_
  refine tl_iconst (pc := 1) (v := -1) dX4_isCell_1 (by decide) ?_
  refine tl_icmp_eq (pc := 2) (tgt := 21) dX4_isCell_2 rfl ?_ ?_
  · refine tl_iconst (pc := 21) (v := 0) dX4_isCell_21 (by decide) ?_
    exact tl_zret (pc := 22) dX4_isCell_22
  · refine tl_aload_n (pc := 5) (i := 0) dX4_isCell_5 rfl rfl ?_
    refine tl_getR (pc := 6) (r := (b + 5)) fl_X4_27 hb.1 rfl dX4_isCell_6 ?_
    refine tl_iload_n (pc := 9) (i := 1) dX4_isCell_9 rfl rfl ?_
    refine tl_callVi (pc := 10) k_X2_at gw_219 hb.2.2.2.1.1 ⟨_, _, rfl⟩ (c_X2_at T _ _ _ hb.2.2.2.1) rfl rfl (Nat.le_of_ble_eq_true rfl) (Nat.le_of_ble_eq_true rfl) dX4_isCell_10 (fun x1 => ?_)
    refine tl_iload_n (pc := 13) (i := 1) dX4_isCell_13 rfl rfl ?_
    refine tl_icmp_ne (pc := 14) (tgt := 21) dX4_isCell_14 rfl ?_ ?_
    · refine tl_iconst (pc := 17) (v := 1) dX4_isCell_17 (by decide) ?_
      refine tl_goto (pc := 18) (tgt := 22) dX4_isCell_18 rfl ?_
      exact tl_zret (pc := 22) dX4_isCell_22
    · refine tl_iconst (pc := 21) (v := 0) dX4_isCell_21 (by decide) ?_
      exact tl_zret (pc := 22) dX4_isCell_22
abbrev TL_X4_tableWithin (T : Tb) (pc : Nat) (lo : List (Option Value)) (st : List Value) (X : Dm Int32) : Prop := TL yX4_tableWithin cX4_tableWithin 2 (some .int) 1 iI T pc lo st X
set_option maxRecDepth 100000 in
theorem c_X4_tableWithin (T : Tb) (b : Nat) (p0 : Int32) (hb : isSheet T b) : CT (.code yX4_tableWithin cX4_tableWithin 2 (some .int)) yX4_tableWithin 1 iI T [.ref b, .int p0] (F_X4_tableWithin b p0) := by
  refine ct_of (lo := [some (.ref b), some (.int p0)]) (j := 0) k_X4_tableWithin.1 rfl (fun _ => Nat.le_of_ble_eq_true rfl) ?_
  show TL_X4_tableWithin T 0 _ _ _
  rw [F_X4_tableWithin]
  refine tl_aload_n (pc := 0) (i := 0) dX4_tableWithin_0 rfl rfl ?_
  refine tl_getR (pc := 1) (r := (b + 7)) fl_X4_30 hb.1 rfl dX4_tableWithin_1 ?_
  refine tl_iload_n (pc := 4) (i := 1) dX4_tableWithin_4 rfl rfl ?_
  refine tl_callVi (pc := 5) k_X2_at gw_219 hb.2.2.2.2.1.1 ⟨_, _, rfl⟩ (c_X2_at T _ _ _ hb.2.2.2.2.1) rfl rfl (Nat.le_of_ble_eq_true rfl) (Nat.le_of_ble_eq_true rfl) dX4_tableWithin_5 (fun x1 => ?_)
  refine tl_iconst (pc := 8) (v := 3) dX4_tableWithin_8 (by decide) ?_
  refine tl_icmp_ne (pc := 9) (tgt := 23) dX4_tableWithin_9 rfl ?_ ?_
  · refine tl_aload_n (pc := 12) (i := 0) dX4_tableWithin_12 rfl rfl ?_
    refine tl_getR (pc := 13) (r := (b + 9)) fl_X4_33 hb.1 rfl dX4_tableWithin_13 ?_
    refine tl_iload_n (pc := 16) (i := 1) dX4_tableWithin_16 rfl rfl ?_
    refine tl_callVi (pc := 17) k_X2_at gw_219 hb.2.2.2.2.2.1.1 ⟨_, _, rfl⟩ (c_X2_at T _ _ _ hb.2.2.2.2.2.1) rfl rfl (Nat.le_of_ble_eq_true rfl) (Nat.le_of_ble_eq_true rfl) dX4_tableWithin_17 (fun x2 => ?_)
    refine tl_goto (pc := 20) (tgt := 24) dX4_tableWithin_20 rfl ?_
    exact tl_iret (pc := 24) dX4_tableWithin_24
  · refine tl_iconst (pc := 23) (v := -1) dX4_tableWithin_23 (by decide) ?_
    exact tl_iret (pc := 24) dX4_tableWithin_24
abbrev TL_X4_linesOf (T : Tb) (pc : Nat) (lo : List (Option Value)) (st : List Value) (X : Dm Int32) : Prop := TL yX4_linesOf cX4_linesOf 3 (some .int) 1 iI T pc lo st X
set_option maxRecDepth 100000 in
theorem c_X4_linesOf (T : Tb) (b : Nat) (p0 : Int32) (p1 : Int32) (hb : isSheet T b) : CT (.code yX4_linesOf cX4_linesOf 3 (some .int)) yX4_linesOf 1 iI T [.ref b, .int p0, .int p1] (F_X4_linesOf b p0 p1) := by
  refine ct_of (lo := [some (.ref b), some (.int p0), some (.int p1)]) (j := 0) k_X4_linesOf.1 rfl (fun _ => Nat.le_of_ble_eq_true rfl) ?_
  show TL_X4_linesOf T 0 _ _ _
  rw [F_X4_linesOf]
  refine tl_aload_n (pc := 0) (i := 0) dX4_linesOf_0 rfl rfl ?_
  refine tl_getR (pc := 1) (r := (b + 1)) fl_X4_20 hb.1 rfl dX4_linesOf_1 ?_
  refine tl_iload_n (pc := 4) (i := 1) dX4_linesOf_4 rfl rfl ?_
  refine tl_iconst (pc := 5) (v := 2) dX4_linesOf_5 (by decide) ?_
  refine tl_imul (pc := 6) dX4_linesOf_6 ?_
  refine tl_iload_n (pc := 7) (i := 2) dX4_linesOf_7 rfl rfl ?_
  refine tl_iadd (pc := 8) dX4_linesOf_8 ?_
  refine tl_callVi (pc := 9) k_X2_at gw_219 hb.2.1.1 ⟨_, _, rfl⟩ (c_X2_at T _ _ _ hb.2.1) rfl rfl (Nat.le_of_ble_eq_true rfl) (Nat.le_of_ble_eq_true rfl) dX4_linesOf_9 (fun x1 => ?_)
  exact tl_iret (pc := 12) dX4_linesOf_12
abbrev TL_X4_ownerBeside (T : Tb) (pc : Nat) (lo : List (Option Value)) (st : List Value) (X : Dm Int32) : Prop := TL yX4_ownerBeside cX4_ownerBeside 7 (some .int) 1 iI T pc lo st X
set_option maxRecDepth 100000 in
theorem c_X4_ownerBeside (T : Tb) (b : Nat) (p0 : Int32) (p1 : Int32) (hb : isSheet T b) : CT (.code yX4_ownerBeside cX4_ownerBeside 7 (some .int)) yX4_ownerBeside 1 iI T [.ref b, .int p0, .int p1] (F_X4_ownerBeside b p0 p1) := by
  refine ct_of (lo := [some (.ref b), some (.int p0), some (.int p1), none, none, none, none]) (j := 4) k_X4_ownerBeside.1 rfl (fun _ => Nat.le_of_ble_eq_true rfl) ?_
  show TL_X4_ownerBeside T 0 _ _ _
  rw [F_X4_ownerBeside]
  refine tl_iload_n (pc := 0) (i := 1) dX4_ownerBeside_0 rfl rfl ?_
  refine tl_iconst (pc := 1) (v := 1) dX4_ownerBeside_1 (by decide) ?_
  refine tl_callSNi (pc := 2) k_X5_placeOf nm_X4_64 (c_X5_placeOf T _ _) (nx_X5_placeOf _ _) rfl rfl (Nat.le_of_ble_eq_true rfl) (Nat.le_of_ble_eq_true rfl) dX4_ownerBeside_2 (fun x1 => ?_)
  refine tl_iload_n (pc := 5) (i := 2) dX4_ownerBeside_5 rfl rfl ?_
  refine tl_iconst (pc := 6) (v := 2) dX4_ownerBeside_6 (by decide) ?_
  refine tl_j (fun (k : Int32 → Dm Int32) => ∀ (x2 : Int32), TL_X4_ownerBeside T 15 [some (.ref b), some (.int p0), some (.int p1), none, none, none, none] [.int x2, .int x1] (k x2)) (fun x2 => ?_) (fun k1 hk1 => ?_)
  · refine tl_iadd (pc := 15) dX4_ownerBeside_15 ?_
    refine tl_iload_n (pc := 16) (i := 2) dX4_ownerBeside_16 rfl rfl ?_
    refine tl_j (fun (k : Int32 → Dm Int32) => ∀ (x3 : Int32), TL_X4_ownerBeside T 25 [some (.ref b), some (.int p0), some (.int p1), none, none, none, none] [.int x3, .int (x1 + x2)] (k x3)) (fun x3 => ?_) (fun k2 hk2 => ?_)
    · refine tl_isub (pc := 25) dX4_ownerBeside_25 ?_
      refine tl_bI (fun x4 => ?_)
      refine tl_istore_n (pc := 26) (i := 3) (lo' := [some (.ref b), some (.int p0), some (.int p1), some (.int x4), none, none, none]) dX4_ownerBeside_26 rfl (by decide) rfl ?_
      refine tl_iload_n (pc := 27) (i := 1) dX4_ownerBeside_27 rfl rfl ?_
      refine tl_iconst (pc := 28) (v := 0) dX4_ownerBeside_28 (by decide) ?_
      refine tl_callSNi (pc := 29) k_X5_placeOf nm_X4_64 (c_X5_placeOf T _ _) (nx_X5_placeOf _ _) rfl rfl (Nat.le_of_ble_eq_true rfl) (Nat.le_of_ble_eq_true rfl) dX4_ownerBeside_29 (fun x5 => ?_)
      refine tl_iload_n (pc := 32) (i := 2) dX4_ownerBeside_32 rfl rfl ?_
      refine tl_iconst (pc := 33) (v := 1) dX4_ownerBeside_33 (by decide) ?_
      refine tl_j (fun (k : Int32 → Dm Int32) => ∀ (x6 : Int32), TL_X4_ownerBeside T 42 [some (.ref b), some (.int p0), some (.int p1), some (.int x4), none, none, none] [.int x6, .int x5] (k x6)) (fun x6 => ?_) (fun k3 hk3 => ?_)
      · refine tl_iadd (pc := 42) dX4_ownerBeside_42 ?_
        refine tl_iload_n (pc := 43) (i := 2) dX4_ownerBeside_43 rfl rfl ?_
        refine tl_iconst (pc := 44) (v := 3) dX4_ownerBeside_44 (by decide) ?_
        refine tl_j (fun (k : Int32 → Dm Int32) => ∀ (x7 : Int32), TL_X4_ownerBeside T 53 [some (.ref b), some (.int p0), none, some (.int x4), none, none, none] [.int x7, .int (x5 + x6)] (k x7)) (fun x7 => ?_) (fun k4 hk4 => ?_)
        · refine tl_isub (pc := 53) dX4_ownerBeside_53 ?_
          refine tl_bI (fun x8 => ?_)
          refine tl_istore (pc := 54) (i := 4) (lo' := [some (.ref b), some (.int p0), none, some (.int x4), some (.int x8), none, none]) dX4_ownerBeside_54 (by decide) rfl ?_
          refine tl_iload_n (pc := 56) (i := 3) dX4_ownerBeside_56 rfl rfl ?_
          refine tl_iconst (pc := 57) (v := 0) dX4_ownerBeside_57 (by decide) ?_
          refine tl_iconst (pc := 58) (v := 4) dX4_ownerBeside_58 (by decide) ?_
          refine tl_callSNi (pc := 59) k_X5_isBetween nm_X4_79 (c_X5_isBetween T _ _ _) (nx_X5_isBetween _ _ _) rfl rfl (Nat.le_of_ble_eq_true rfl) (Nat.le_of_ble_eq_true rfl) dX4_ownerBeside_59 (fun x9 => ?_)
          refine tl_j (fun (k : Int32 → Dm Int32) => ∀ (x10 : Int32), TL_X4_ownerBeside T 80 [some (.ref b), some (.int p0), none, some (.int x4), some (.int x8), none, none] [.int x10] (k x10)) (fun x10 => ?_) (fun k5 hk5 => ?_)
          · refine tl_istore (pc := 80) (i := 5) (lo' := [some (.ref b), some (.int p0), none, some (.int x4), some (.int x8), some (.int x10), none]) dX4_ownerBeside_80 (by decide) rfl ?_
            refine tl_iload_n (pc := 82) (i := 1) dX4_ownerBeside_82 rfl rfl ?_
            refine tl_callSNi (pc := 83) k_X5_tableOf nm_X4_83 (c_X5_tableOf T _) (nx_X5_tableOf _) rfl rfl (Nat.le_of_ble_eq_true rfl) (Nat.le_of_ble_eq_true rfl) dX4_ownerBeside_83 (fun x11 => ?_)
            refine tl_bipush (pc := 86) (v := 25) dX4_ownerBeside_86 (by decide) ?_
            refine tl_imul (pc := 88) dX4_ownerBeside_88 ?_
            refine tl_bI (fun x12 => ?_)
            refine tl_istore (pc := 89) (i := 6) (lo' := [some (.ref b), some (.int p0), none, some (.int x4), some (.int x8), some (.int x10), some (.int x12)]) dX4_ownerBeside_89 (by decide) rfl ?_
            refine tl_iload (pc := 91) (i := 5) dX4_ownerBeside_91 rfl ?_
            refine tl_if_eq (pc := 93) (tgt := 115) dX4_ownerBeside_93 rfl ?_ ?_
            · refine tl_iconst (pc := 115) (v := -1) dX4_ownerBeside_115 (by decide) ?_
              exact tl_iret (pc := 116) dX4_ownerBeside_116
            · refine tl_aload_n (pc := 96) (i := 0) dX4_ownerBeside_96 rfl rfl ?_
              refine tl_getR (pc := 97) (r := (b + 5)) fl_X4_27 hb.1 rfl dX4_ownerBeside_97 ?_
              refine tl_iload (pc := 100) (i := 6) dX4_ownerBeside_100 rfl ?_
              refine tl_iload_n (pc := 102) (i := 3) dX4_ownerBeside_102 rfl rfl ?_
              refine tl_iconst (pc := 103) (v := 5) dX4_ownerBeside_103 (by decide) ?_
              refine tl_imul (pc := 104) dX4_ownerBeside_104 ?_
              refine tl_iadd (pc := 105) dX4_ownerBeside_105 ?_
              refine tl_iload (pc := 106) (i := 4) dX4_ownerBeside_106 rfl ?_
              refine tl_iadd (pc := 108) dX4_ownerBeside_108 ?_
              refine tl_callVi (pc := 109) k_X2_at gw_219 hb.2.2.2.1.1 ⟨_, _, rfl⟩ (c_X2_at T _ _ _ hb.2.2.2.1) rfl rfl (Nat.le_of_ble_eq_true rfl) (Nat.le_of_ble_eq_true rfl) dX4_ownerBeside_109 (fun x13 => ?_)
              refine tl_goto (pc := 112) (tgt := 116) dX4_ownerBeside_112 rfl ?_
              exact tl_iret (pc := 116) dX4_ownerBeside_116
          · refine tl_j (fun (k : Unit → Dm Int32) => ∀ (_ : Unit), TL_X4_ownerBeside T 79 [some (.ref b), some (.int p0), none, some (.int x4), some (.int x8), none, none] [] (k ())) (fun _ => ?_) (fun k6 hk6 => ?_)
            · refine tl_iconst (pc := 79) (v := 0) dX4_ownerBeside_79 (by decide) ?_
              exact tl_sub (hk5 _) (sub_s (sub_s (sub_n (sub_s (sub_s (sub_n (sub_n sub_e)))))))
            · refine tl_if_eq (pc := 62) (tgt := 79) dX4_ownerBeside_62 rfl ?_ ?_
              · exact tl_sub (hk6 ()) (sub_s (sub_s (sub_n (sub_s (sub_s (sub_n (sub_n sub_e)))))))
              · refine tl_iload (pc := 65) (i := 4) dX4_ownerBeside_65 rfl ?_
                refine tl_iconst (pc := 67) (v := 0) dX4_ownerBeside_67 (by decide) ?_
                refine tl_iconst (pc := 68) (v := 4) dX4_ownerBeside_68 (by decide) ?_
                refine tl_callSNi (pc := 69) k_X5_isBetween nm_X4_79 (c_X5_isBetween T _ _ _) (nx_X5_isBetween _ _ _) rfl rfl (Nat.le_of_ble_eq_true rfl) (Nat.le_of_ble_eq_true rfl) dX4_ownerBeside_69 (fun x14 => ?_)
                refine tl_if_eq (pc := 72) (tgt := 79) dX4_ownerBeside_72 rfl ?_ ?_
                · exact tl_sub (hk6 ()) (sub_s (sub_s (sub_n (sub_s (sub_s (sub_n (sub_n sub_e)))))))
                · refine tl_iconst (pc := 75) (v := 1) dX4_ownerBeside_75 (by decide) ?_
                  refine tl_goto (pc := 76) (tgt := 80) dX4_ownerBeside_76 rfl ?_
                  exact tl_sub (hk5 _) (sub_s (sub_s (sub_n (sub_s (sub_s (sub_n (sub_n sub_e)))))))
        · refine tl_icmp_ne (pc := 45) (tgt := 52) dX4_ownerBeside_45 rfl ?_ ?_
          · refine tl_iconst (pc := 48) (v := 1) dX4_ownerBeside_48 (by decide) ?_
            refine tl_goto (pc := 49) (tgt := 53) dX4_ownerBeside_49 rfl ?_
            exact tl_sub (hk4 _) (sub_s (sub_s (sub_n (sub_s (sub_n (sub_n (sub_n sub_e)))))))
          · refine tl_iconst (pc := 52) (v := 0) dX4_ownerBeside_52 (by decide) ?_
            exact tl_sub (hk4 _) (sub_s (sub_s (sub_n (sub_s (sub_n (sub_n (sub_n sub_e)))))))
      · refine tl_icmp_ne (pc := 34) (tgt := 41) dX4_ownerBeside_34 rfl ?_ ?_
        · refine tl_iconst (pc := 37) (v := 1) dX4_ownerBeside_37 (by decide) ?_
          refine tl_goto (pc := 38) (tgt := 42) dX4_ownerBeside_38 rfl ?_
          exact tl_sub (hk3 _) (sub_s (sub_s (sub_s (sub_s (sub_n (sub_n (sub_n sub_e)))))))
        · refine tl_iconst (pc := 41) (v := 0) dX4_ownerBeside_41 (by decide) ?_
          exact tl_sub (hk3 _) (sub_s (sub_s (sub_s (sub_s (sub_n (sub_n (sub_n sub_e)))))))
    · refine tl_if_ne (pc := 17) (tgt := 24) dX4_ownerBeside_17 rfl ?_ ?_
      · refine tl_iconst (pc := 20) (v := 1) dX4_ownerBeside_20 (by decide) ?_
        refine tl_goto (pc := 21) (tgt := 25) dX4_ownerBeside_21 rfl ?_
        exact tl_sub (hk2 _) (sub_s (sub_s (sub_s (sub_n (sub_n (sub_n (sub_n sub_e)))))))
      · refine tl_iconst (pc := 24) (v := 0) dX4_ownerBeside_24 (by decide) ?_
        exact tl_sub (hk2 _) (sub_s (sub_s (sub_s (sub_n (sub_n (sub_n (sub_n sub_e)))))))
  · refine tl_icmp_ne (pc := 7) (tgt := 14) dX4_ownerBeside_7 rfl ?_ ?_
    · refine tl_iconst (pc := 10) (v := 1) dX4_ownerBeside_10 (by decide) ?_
      refine tl_goto (pc := 11) (tgt := 15) dX4_ownerBeside_11 rfl ?_
      exact tl_sub (hk1 _) (sub_s (sub_s (sub_s (sub_n (sub_n (sub_n (sub_n sub_e)))))))
    · refine tl_iconst (pc := 14) (v := 0) dX4_ownerBeside_14 (by decide) ?_
      exact tl_sub (hk1 _) (sub_s (sub_s (sub_s (sub_n (sub_n (sub_n (sub_n sub_e)))))))
abbrev TL_X4_spanOf (T : Tb) (pc : Nat) (lo : List (Option Value)) (st : List Value) (X : Dm Int32) : Prop := TL yX4_spanOf cX4_spanOf 3 (some .int) 1 iI T pc lo st X
set_option maxRecDepth 100000 in
theorem c_X4_spanOf (T : Tb) (b : Nat) (p0 : Int32) (p1 : Int32) (hb : isSheet T b) : CT (.code yX4_spanOf cX4_spanOf 3 (some .int)) yX4_spanOf 1 iI T [.ref b, .int p0, .int p1] (F_X4_spanOf b p0 p1) := by
  refine ct_of (lo := [some (.ref b), some (.int p0), some (.int p1)]) (j := 0) k_X4_spanOf.1 rfl (fun _ => Nat.le_of_ble_eq_true rfl) ?_
  show TL_X4_spanOf T 0 _ _ _
  rw [F_X4_spanOf]
  refine tl_aload_n (pc := 0) (i := 0) dX4_spanOf_0 rfl rfl ?_
  refine tl_getR (pc := 1) (r := (b + 11)) fl_X4_36 hb.1 rfl dX4_spanOf_1 ?_
  refine tl_iload_n (pc := 4) (i := 1) dX4_spanOf_4 rfl rfl ?_
  refine tl_iconst (pc := 5) (v := 2) dX4_spanOf_5 (by decide) ?_
  refine tl_imul (pc := 6) dX4_spanOf_6 ?_
  refine tl_iload_n (pc := 7) (i := 2) dX4_spanOf_7 rfl rfl ?_
  refine tl_iadd (pc := 8) dX4_spanOf_8 ?_
  refine tl_callVi (pc := 9) k_X2_at gw_219 hb.2.2.2.2.2.2.1.1 ⟨_, _, rfl⟩ (c_X2_at T _ _ _ hb.2.2.2.2.2.2.1) rfl rfl (Nat.le_of_ble_eq_true rfl) (Nat.le_of_ble_eq_true rfl) dX4_spanOf_9 (fun x1 => ?_)
  exact tl_iret (pc := 12) dX4_spanOf_12
abbrev TL_X2_copyFrom (T : Tb) (pc : Nat) (lo : List (Option Value)) (st : List Value) (X : Dm Unit) : Prop := TL yX2_copyFrom cX2_copyFrom 2 none 1 vI T pc lo st X
set_option maxRecDepth 100000 in
theorem c_X2_copyFrom (T : Tb) (b nb : Nat) (o0 no0 : Nat) (hb : isNum T b nb) (ho0 : isNum T o0 no0) : CT (.code yX2_copyFrom cX2_copyFrom 2 none) yX2_copyFrom 1 vI T [.ref b, .ref o0] (F_X2_copyFrom b nb o0 no0) := by
  refine ct_of (lo := [some (.ref b), some (.ref o0)]) (j := 0) k_X2_copyFrom.1 rfl (fun _ => Nat.le_of_ble_eq_true rfl) ?_
  show TL_X2_copyFrom T 0 _ _ _
  rw [F_X2_copyFrom]
  refine tl_aload_n (pc := 0) (i := 1) dX2_copyFrom_0 rfl rfl ?_
  refine tl_getR (pc := 1) (r := (o0 + 1)) fl_X2_13 ho0.1 rfl dX2_copyFrom_1 ?_
  refine tl_iconst (pc := 4) (v := 0) dX2_copyFrom_4 (by decide) ?_
  refine tl_aload_n (pc := 5) (i := 0) dX2_copyFrom_5 rfl rfl ?_
  refine tl_getR (pc := 6) (r := (b + 1)) fl_X2_13 hb.1 rfl dX2_copyFrom_6 ?_
  refine tl_iconst (pc := 9) (v := 0) dX2_copyFrom_9 (by decide) ?_
  refine tl_aload_n (pc := 10) (i := 0) dX2_copyFrom_10 rfl rfl ?_
  refine tl_getR (pc := 11) (r := (b + 1)) fl_X2_13 hb.1 rfl dX2_copyFrom_11 ?_
  refine tl_alen (pc := 14) hb.2 dX2_copyFrom_14 ?_
  refine tl_aload_n (pc := 15) (i := 1) dX2_copyFrom_15 rfl rfl ?_
  refine tl_getR (pc := 16) (r := (o0 + 1)) fl_X2_13 ho0.1 rfl dX2_copyFrom_16 ?_
  refine tl_alen (pc := 19) ho0.2 dX2_copyFrom_19 ?_
  refine tl_mmin (pc := 20) gw_553 gw_554 gw_5 gw_555 (Nat.le_of_ble_eq_true rfl) (Nat.le_of_ble_eq_true rfl) dX2_copyFrom_20 ?_
  refine tl_copy (pc := 23) ho0.2 hb.2 gw_556 gw_558 gw_557 gw_14 (Nat.le_of_ble_eq_true rfl) (Nat.le_of_ble_eq_true rfl) dX2_copyFrom_23 ?_
  exact tl_vret (pc := 26) dX2_copyFrom_26
abbrev TL_X4_copyFrom (T : Tb) (pc : Nat) (lo : List (Option Value)) (st : List Value) (X : Dm Unit) : Prop := TL yX4_copyFrom cX4_copyFrom 2 none 2 vI T pc lo st X
set_option maxRecDepth 100000 in
theorem c_X4_copyFrom (T : Tb) (b : Nat) (o0 : Nat) (hb : isSheet T b) (ho0 : isSheet T o0) : CT (.code yX4_copyFrom cX4_copyFrom 2 none) yX4_copyFrom 2 vI T [.ref b, .ref o0] (F_X4_copyFrom b o0) := by
  refine ct_of (lo := [some (.ref b), some (.ref o0)]) (j := 0) k_X4_copyFrom.1 rfl (fun _ => Nat.le_of_ble_eq_true rfl) ?_
  show TL_X4_copyFrom T 0 _ _ _
  rw [F_X4_copyFrom]
  refine tl_aload_n (pc := 0) (i := 0) dX4_copyFrom_0 rfl rfl ?_
  refine tl_aload_n (pc := 1) (i := 1) dX4_copyFrom_1 rfl rfl ?_
  refine tl_getI (pc := 2) fl_X4_9 ho0.1 rfl dX4_copyFrom_2 (fun x1 => ?_)
  refine tl_putI (pc := 5) fw_X4_9 hb.1 rfl dX4_copyFrom_5 ?_
  refine tl_aload_n (pc := 8) (i := 0) dX4_copyFrom_8 rfl rfl ?_
  refine tl_aload_n (pc := 9) (i := 1) dX4_copyFrom_9 rfl rfl ?_
  refine tl_getI (pc := 10) fl_X4_42 ho0.1 rfl dX4_copyFrom_10 (fun x2 => ?_)
  refine tl_putI (pc := 13) fw_X4_42 hb.1 rfl dX4_copyFrom_13 ?_
  refine tl_aload_n (pc := 16) (i := 0) dX4_copyFrom_16 rfl rfl ?_
  refine tl_getR (pc := 17) (r := (b + 1)) fl_X4_20 hb.1 rfl dX4_copyFrom_17 ?_
  refine tl_aload_n (pc := 20) (i := 1) dX4_copyFrom_20 rfl rfl ?_
  refine tl_getR (pc := 21) (r := (o0 + 1)) fl_X4_20 ho0.1 rfl dX4_copyFrom_21 ?_
  refine tl_callVv (pc := 24) k_X2_copyFrom gw_549 hb.2.1.1 ⟨_, _, rfl⟩ (c_X2_copyFrom T _ _ _ _ hb.2.1 ho0.2.1) rfl rfl (Nat.le_of_ble_eq_true rfl) (Nat.le_of_ble_eq_true rfl) dX4_copyFrom_24 (fun _ => ?_)
  refine tl_aload_n (pc := 27) (i := 0) dX4_copyFrom_27 rfl rfl ?_
  refine tl_getR (pc := 28) (r := (b + 3)) fl_X4_24 hb.1 rfl dX4_copyFrom_28 ?_
  refine tl_aload_n (pc := 31) (i := 1) dX4_copyFrom_31 rfl rfl ?_
  refine tl_getR (pc := 32) (r := (o0 + 3)) fl_X4_24 ho0.1 rfl dX4_copyFrom_32 ?_
  refine tl_callVv (pc := 35) k_X2_copyFrom gw_549 hb.2.2.1.1 ⟨_, _, rfl⟩ (c_X2_copyFrom T _ _ _ _ hb.2.2.1 ho0.2.2.1) rfl rfl (Nat.le_of_ble_eq_true rfl) (Nat.le_of_ble_eq_true rfl) dX4_copyFrom_35 (fun _ => ?_)
  refine tl_aload_n (pc := 38) (i := 0) dX4_copyFrom_38 rfl rfl ?_
  refine tl_getR (pc := 39) (r := (b + 5)) fl_X4_27 hb.1 rfl dX4_copyFrom_39 ?_
  refine tl_aload_n (pc := 42) (i := 1) dX4_copyFrom_42 rfl rfl ?_
  refine tl_getR (pc := 43) (r := (o0 + 5)) fl_X4_27 ho0.1 rfl dX4_copyFrom_43 ?_
  refine tl_callVv (pc := 46) k_X2_copyFrom gw_549 hb.2.2.2.1.1 ⟨_, _, rfl⟩ (c_X2_copyFrom T _ _ _ _ hb.2.2.2.1 ho0.2.2.2.1) rfl rfl (Nat.le_of_ble_eq_true rfl) (Nat.le_of_ble_eq_true rfl) dX4_copyFrom_46 (fun _ => ?_)
  refine tl_aload_n (pc := 49) (i := 0) dX4_copyFrom_49 rfl rfl ?_
  refine tl_getR (pc := 50) (r := (b + 7)) fl_X4_30 hb.1 rfl dX4_copyFrom_50 ?_
  refine tl_aload_n (pc := 53) (i := 1) dX4_copyFrom_53 rfl rfl ?_
  refine tl_getR (pc := 54) (r := (o0 + 7)) fl_X4_30 ho0.1 rfl dX4_copyFrom_54 ?_
  refine tl_callVv (pc := 57) k_X2_copyFrom gw_549 hb.2.2.2.2.1.1 ⟨_, _, rfl⟩ (c_X2_copyFrom T _ _ _ _ hb.2.2.2.2.1 ho0.2.2.2.2.1) rfl rfl (Nat.le_of_ble_eq_true rfl) (Nat.le_of_ble_eq_true rfl) dX4_copyFrom_57 (fun _ => ?_)
  refine tl_aload_n (pc := 60) (i := 0) dX4_copyFrom_60 rfl rfl ?_
  refine tl_getR (pc := 61) (r := (b + 9)) fl_X4_33 hb.1 rfl dX4_copyFrom_61 ?_
  refine tl_aload_n (pc := 64) (i := 1) dX4_copyFrom_64 rfl rfl ?_
  refine tl_getR (pc := 65) (r := (o0 + 9)) fl_X4_33 ho0.1 rfl dX4_copyFrom_65 ?_
  refine tl_callVv (pc := 68) k_X2_copyFrom gw_549 hb.2.2.2.2.2.1.1 ⟨_, _, rfl⟩ (c_X2_copyFrom T _ _ _ _ hb.2.2.2.2.2.1 ho0.2.2.2.2.2.1) rfl rfl (Nat.le_of_ble_eq_true rfl) (Nat.le_of_ble_eq_true rfl) dX4_copyFrom_68 (fun _ => ?_)
  refine tl_aload_n (pc := 71) (i := 0) dX4_copyFrom_71 rfl rfl ?_
  refine tl_getR (pc := 72) (r := (b + 11)) fl_X4_36 hb.1 rfl dX4_copyFrom_72 ?_
  refine tl_aload_n (pc := 75) (i := 1) dX4_copyFrom_75 rfl rfl ?_
  refine tl_getR (pc := 76) (r := (o0 + 11)) fl_X4_36 ho0.1 rfl dX4_copyFrom_76 ?_
  refine tl_callVv (pc := 79) k_X2_copyFrom gw_549 hb.2.2.2.2.2.2.1.1 ⟨_, _, rfl⟩ (c_X2_copyFrom T _ _ _ _ hb.2.2.2.2.2.2.1 ho0.2.2.2.2.2.2.1) rfl rfl (Nat.le_of_ble_eq_true rfl) (Nat.le_of_ble_eq_true rfl) dX4_copyFrom_79 (fun _ => ?_)
  refine tl_aload_n (pc := 82) (i := 0) dX4_copyFrom_82 rfl rfl ?_
  refine tl_getR (pc := 83) (r := (b + 13)) fl_X4_39 hb.1 rfl dX4_copyFrom_83 ?_
  refine tl_aload_n (pc := 86) (i := 1) dX4_copyFrom_86 rfl rfl ?_
  refine tl_getR (pc := 87) (r := (o0 + 13)) fl_X4_39 ho0.1 rfl dX4_copyFrom_87 ?_
  refine tl_callVv (pc := 90) k_X2_copyFrom gw_549 hb.2.2.2.2.2.2.2.1 ⟨_, _, rfl⟩ (c_X2_copyFrom T _ _ _ _ hb.2.2.2.2.2.2.2 ho0.2.2.2.2.2.2.2) rfl rfl (Nat.le_of_ble_eq_true rfl) (Nat.le_of_ble_eq_true rfl) dX4_copyFrom_90 (fun _ => ?_)
  exact tl_vret (pc := 93) dX4_copyFrom_93
abbrev TL_X4_hasTable (T : Tb) (pc : Nat) (lo : List (Option Value)) (st : List Value) (X : Dm Int32) : Prop := TL yX4_hasTable cX4_hasTable 2 (some .boolean) 0 iI T pc lo st X
set_option maxRecDepth 100000 in
theorem c_X4_hasTable (T : Tb) (b : Nat) (p0 : Int32) (hb : isSheet T b) : CT (.code yX4_hasTable cX4_hasTable 2 (some .boolean)) yX4_hasTable 0 iI T [.ref b, .int p0] (F_X4_hasTable b p0) := by
  refine ct_of (lo := [some (.ref b), some (.int p0)]) (j := 0) k_X4_hasTable.1 rfl (fun _ => Nat.le_of_ble_eq_true rfl) ?_
  show TL_X4_hasTable T 0 _ _ _
  rw [F_X4_hasTable]
  refine tl_iload_n (pc := 0) (i := 1) dX4_hasTable_0 rfl rfl ?_
  refine tl_if_lt (pc := 1) (tgt := 16) dX4_hasTable_1 rfl ?_ ?_
  · refine tl_iconst (pc := 16) (v := 0) dX4_hasTable_16 (by decide) ?_
    exact tl_zret (pc := 17) dX4_hasTable_17
  · refine tl_iload_n (pc := 4) (i := 1) dX4_hasTable_4 rfl rfl ?_
    refine tl_aload_n (pc := 5) (i := 0) dX4_hasTable_5 rfl rfl ?_
    refine tl_getI (pc := 6) fl_X4_42 hb.1 rfl dX4_hasTable_6 (fun x1 => ?_)
    refine tl_icmp_ge (pc := 9) (tgt := 16) dX4_hasTable_9 rfl ?_ ?_
    · refine tl_iconst (pc := 16) (v := 0) dX4_hasTable_16 (by decide) ?_
      exact tl_zret (pc := 17) dX4_hasTable_17
    · refine tl_iconst (pc := 12) (v := 1) dX4_hasTable_12 (by decide) ?_
      refine tl_goto (pc := 13) (tgt := 17) dX4_hasTable_13 rfl ?_
      exact tl_zret (pc := 17) dX4_hasTable_17
abbrev TL_X4_squareAt (T : Tb) (pc : Nat) (lo : List (Option Value)) (st : List Value) (X : Dm Int32) : Prop := TL yX4_squareAt cX4_squareAt 5 (some .int) 2 iI T pc lo st X
set_option maxRecDepth 100000 in
theorem c_X4_squareAt (T : Tb) (b : Nat) (p0 : Int32) (p1 : Int32) (p2 : Int32) (hb : isSheet T b) : CT (.code yX4_squareAt cX4_squareAt 5 (some .int)) yX4_squareAt 2 iI T [.ref b, .int p0, .int p1, .int p2] (F_X4_squareAt b p0 p1 p2) := by
  refine ct_of (lo := [some (.ref b), some (.int p0), some (.int p1), some (.int p2), none]) (j := 1) k_X4_squareAt.1 rfl (fun _ => Nat.le_of_ble_eq_true rfl) ?_
  show TL_X4_squareAt T 0 _ _ _
  rw [F_X4_squareAt]
  refine tl_aload_n (pc := 0) (i := 0) dX4_squareAt_0 rfl rfl ?_
  refine tl_iload_n (pc := 1) (i := 1) dX4_squareAt_1 rfl rfl ?_
  refine tl_callVi (pc := 2) k_X4_hasTable gw_497 hb.1 ⟨_, _, rfl⟩ (c_X4_hasTable T _ _ hb) rfl rfl (Nat.le_of_ble_eq_true rfl) (Nat.le_of_ble_eq_true rfl) dX4_squareAt_2 (fun x1 => ?_)
  refine tl_j (fun (k : Int32 → Dm Int32) => ∀ (x2 : Int32), TL_X4_squareAt T 41 [none, some (.int p0), some (.int p1), some (.int p2), none] [.int x2] (k x2)) (fun x2 => ?_) (fun k1 hk1 => ?_)
  · refine tl_istore (pc := 41) (i := 4) (lo' := [none, some (.int p0), some (.int p1), some (.int p2), some (.int x2)]) dX4_squareAt_41 (by decide) rfl ?_
    refine tl_iload (pc := 43) (i := 4) dX4_squareAt_43 rfl ?_
    refine tl_if_eq (pc := 45) (tgt := 61) dX4_squareAt_45 rfl ?_ ?_
    · refine tl_iconst (pc := 61) (v := -1) dX4_squareAt_61 (by decide) ?_
      exact tl_iret (pc := 62) dX4_squareAt_62
    · refine tl_iload_n (pc := 48) (i := 1) dX4_squareAt_48 rfl rfl ?_
      refine tl_bipush (pc := 49) (v := 25) dX4_squareAt_49 (by decide) ?_
      refine tl_imul (pc := 51) dX4_squareAt_51 ?_
      refine tl_iload_n (pc := 52) (i := 2) dX4_squareAt_52 rfl rfl ?_
      refine tl_iconst (pc := 53) (v := 5) dX4_squareAt_53 (by decide) ?_
      refine tl_imul (pc := 54) dX4_squareAt_54 ?_
      refine tl_iadd (pc := 55) dX4_squareAt_55 ?_
      refine tl_iload_n (pc := 56) (i := 3) dX4_squareAt_56 rfl rfl ?_
      refine tl_iadd (pc := 57) dX4_squareAt_57 ?_
      refine tl_goto (pc := 58) (tgt := 62) dX4_squareAt_58 rfl ?_
      exact tl_iret (pc := 62) dX4_squareAt_62
  · refine tl_j (fun (k : Unit → Dm Int32) => ∀ (_ : Unit), TL_X4_squareAt T 40 [none, some (.int p0), some (.int p1), some (.int p2), none] [] (k ())) (fun _ => ?_) (fun k2 hk2 => ?_)
    · refine tl_iconst (pc := 40) (v := 0) dX4_squareAt_40 (by decide) ?_
      exact tl_sub (hk1 _) (sub_n (sub_s (sub_s (sub_s (sub_n sub_e)))))
    · refine tl_if_eq (pc := 5) (tgt := 40) dX4_squareAt_5 rfl ?_ ?_
      · exact tl_sub (hk2 ()) (sub_n (sub_s (sub_s (sub_s (sub_n sub_e)))))
      · refine tl_iload_n (pc := 8) (i := 2) dX4_squareAt_8 rfl rfl ?_
        refine tl_if_lt (pc := 9) (tgt := 40) dX4_squareAt_9 rfl ?_ ?_
        · exact tl_sub (hk2 ()) (sub_n (sub_s (sub_s (sub_s (sub_n sub_e)))))
        · refine tl_iload_n (pc := 12) (i := 2) dX4_squareAt_12 rfl rfl ?_
          refine tl_aload_n (pc := 13) (i := 0) dX4_squareAt_13 rfl rfl ?_
          refine tl_iload_n (pc := 14) (i := 1) dX4_squareAt_14 rfl rfl ?_
          refine tl_iconst (pc := 15) (v := 1) dX4_squareAt_15 (by decide) ?_
          refine tl_callVi (pc := 16) k_X4_linesOf gw_476 hb.1 ⟨_, _, rfl⟩ (c_X4_linesOf T _ _ _ hb) rfl rfl (Nat.le_of_ble_eq_true rfl) (Nat.le_of_ble_eq_true rfl) dX4_squareAt_16 (fun x3 => ?_)
          refine tl_icmp_ge (pc := 19) (tgt := 40) dX4_squareAt_19 rfl ?_ ?_
          · exact tl_sub (hk2 ()) (sub_n (sub_s (sub_s (sub_s (sub_n sub_e)))))
          · refine tl_iload_n (pc := 22) (i := 3) dX4_squareAt_22 rfl rfl ?_
            refine tl_if_lt (pc := 23) (tgt := 40) dX4_squareAt_23 rfl ?_ ?_
            · exact tl_sub (hk2 ()) (sub_n (sub_s (sub_s (sub_s (sub_n sub_e)))))
            · refine tl_iload_n (pc := 26) (i := 3) dX4_squareAt_26 rfl rfl ?_
              refine tl_aload_n (pc := 27) (i := 0) dX4_squareAt_27 rfl rfl ?_
              refine tl_iload_n (pc := 28) (i := 1) dX4_squareAt_28 rfl rfl ?_
              refine tl_iconst (pc := 29) (v := 0) dX4_squareAt_29 (by decide) ?_
              refine tl_callVi (pc := 30) k_X4_linesOf gw_476 hb.1 ⟨_, _, rfl⟩ (c_X4_linesOf T _ _ _ hb) rfl rfl (Nat.le_of_ble_eq_true rfl) (Nat.le_of_ble_eq_true rfl) dX4_squareAt_30 (fun x4 => ?_)
              refine tl_icmp_ge (pc := 33) (tgt := 40) dX4_squareAt_33 rfl ?_ ?_
              · exact tl_sub (hk2 ()) (sub_n (sub_s (sub_s (sub_s (sub_n sub_e)))))
              · refine tl_iconst (pc := 36) (v := 1) dX4_squareAt_36 (by decide) ?_
                refine tl_goto (pc := 37) (tgt := 41) dX4_squareAt_37 rfl ?_
                exact tl_sub (hk1 _) (sub_n (sub_s (sub_s (sub_s (sub_n sub_e)))))
abbrev TL_X4_addTable (T : Tb) (pc : Nat) (lo : List (Option Value)) (st : List Value) (X : Dm Int32) : Prop := TL yX4_addTable cX4_addTable 5 (some .int) 3 iI T pc lo st X
set_option maxRecDepth 100000 in
theorem c_X4_addTable (T : Tb) (b : Nat) (p0 : Int32) (p1 : Int32) (p2 : Int32) (hb : isSheet T b) : CT (.code yX4_addTable cX4_addTable 5 (some .int)) yX4_addTable 3 iI T [.ref b, .int p0, .int p1, .int p2] (F_X4_addTable b p0 p1 p2) := by
  refine ct_of (lo := [some (.ref b), some (.int p0), some (.int p1), some (.int p2), none]) (j := 1) k_X4_addTable.1 rfl (fun _ => Nat.le_of_ble_eq_true rfl) ?_
  show TL_X4_addTable T 0 _ _ _
  rw [F_X4_addTable]
  refine tl_aload_n (pc := 0) (i := 0) dX4_addTable_0 rfl rfl ?_
  refine tl_getI (pc := 1) fl_X4_42 hb.1 rfl dX4_addTable_1 (fun x1 => ?_)
  refine tl_istore (pc := 4) (i := 4) (lo' := [some (.ref b), some (.int p0), some (.int p1), some (.int p2), some (.int x1)]) dX4_addTable_4 (by decide) rfl ?_
  refine tl_aload_n (pc := 6) (i := 0) dX4_addTable_6 rfl rfl ?_
  refine tl_getR (pc := 7) (r := (b + 7)) fl_X4_30 hb.1 rfl dX4_addTable_7 ?_
  refine tl_iload_n (pc := 10) (i := 1) dX4_addTable_10 rfl rfl ?_
  refine tl_iconst (pc := 11) (v := 3) dX4_addTable_11 (by decide) ?_
  refine tl_callVv (pc := 12) k_X2_store gw_182 hb.2.2.2.2.1.1 ⟨_, _, rfl⟩ (c_X2_store T _ _ _ _ hb.2.2.2.2.1) rfl rfl (Nat.le_of_ble_eq_true rfl) (Nat.le_of_ble_eq_true rfl) dX4_addTable_12 (fun _ => ?_)
  refine tl_aload_n (pc := 15) (i := 0) dX4_addTable_15 rfl rfl ?_
  refine tl_getR (pc := 16) (r := (b + 9)) fl_X4_33 hb.1 rfl dX4_addTable_16 ?_
  refine tl_iload_n (pc := 19) (i := 1) dX4_addTable_19 rfl rfl ?_
  refine tl_iload (pc := 20) (i := 4) dX4_addTable_20 rfl ?_
  refine tl_callVv (pc := 22) k_X2_store gw_182 hb.2.2.2.2.2.1.1 ⟨_, _, rfl⟩ (c_X2_store T _ _ _ _ hb.2.2.2.2.2.1) rfl rfl (Nat.le_of_ble_eq_true rfl) (Nat.le_of_ble_eq_true rfl) dX4_addTable_22 (fun _ => ?_)
  refine tl_aload_n (pc := 25) (i := 0) dX4_addTable_25 rfl rfl ?_
  refine tl_iload_n (pc := 26) (i := 1) dX4_addTable_26 rfl rfl ?_
  refine tl_iload_n (pc := 27) (i := 2) dX4_addTable_27 rfl rfl ?_
  refine tl_iload_n (pc := 28) (i := 3) dX4_addTable_28 rfl rfl ?_
  refine tl_callVv (pc := 29) k_X4_layOut gw_178 hb.1 ⟨_, _, rfl⟩ (c_X4_layOut T _ _ _ _ hb) rfl rfl (Nat.le_of_ble_eq_true rfl) (Nat.le_of_ble_eq_true rfl) dX4_addTable_29 (fun _ => ?_)
  refine tl_iload (pc := 32) (i := 4) dX4_addTable_32 rfl ?_
  exact tl_iret (pc := 34) dX4_addTable_34
abbrev TL_X4_canFill (T : Tb) (pc : Nat) (lo : List (Option Value)) (st : List Value) (X : Dm Int32) : Prop := TL yX4_canFill cX4_canFill 2 (some .boolean) 2 iI T pc lo st X
set_option maxRecDepth 100000 in
theorem c_X4_canFill (T : Tb) (b : Nat) (p0 : Int32) (hb : isSheet T b) : CT (.code yX4_canFill cX4_canFill 2 (some .boolean)) yX4_canFill 2 iI T [.ref b, .int p0] (F_X4_canFill b p0) := by
  refine ct_of (lo := [some (.ref b), some (.int p0)]) (j := 0) k_X4_canFill.1 rfl (fun _ => Nat.le_of_ble_eq_true rfl) ?_
  show TL_X4_canFill T 0 _ _ _
  rw [F_X4_canFill]
  refine tl_aload_n (pc := 0) (i := 0) dX4_canFill_0 rfl rfl ?_
  refine tl_iload_n (pc := 1) (i := 1) dX4_canFill_1 rfl rfl ?_
  refine tl_callVi (pc := 2) k_X4_isCell gw_374 hb.1 ⟨_, _, rfl⟩ (c_X4_isCell T _ _ hb) rfl rfl (Nat.le_of_ble_eq_true rfl) (Nat.le_of_ble_eq_true rfl) dX4_canFill_2 (fun x1 => ?_)
  refine tl_if_eq (pc := 5) (tgt := 41) dX4_canFill_5 rfl ?_ ?_
  · refine tl_iconst (pc := 41) (v := 0) dX4_canFill_41 (by decide) ?_
    exact tl_zret (pc := 42) dX4_canFill_42
  · refine tl_aload_n (pc := 8) (i := 0) dX4_canFill_8 rfl rfl ?_
    refine tl_getR (pc := 9) (r := (b + 7)) fl_X4_30 hb.1 rfl dX4_canFill_9 ?_
    refine tl_iload_n (pc := 12) (i := 1) dX4_canFill_12 rfl rfl ?_
    refine tl_callVi (pc := 13) k_X2_at gw_219 hb.2.2.2.2.1.1 ⟨_, _, rfl⟩ (c_X2_at T _ _ _ hb.2.2.2.2.1) rfl rfl (Nat.le_of_ble_eq_true rfl) (Nat.le_of_ble_eq_true rfl) dX4_canFill_13 (fun x2 => ?_)
    refine tl_iconst (pc := 16) (v := 3) dX4_canFill_16 (by decide) ?_
    refine tl_icmp_ne (pc := 17) (tgt := 37) dX4_canFill_17 rfl ?_ ?_
    · refine tl_aload_n (pc := 20) (i := 0) dX4_canFill_20 rfl rfl ?_
      refine tl_getR (pc := 21) (r := (b + 9)) fl_X4_33 hb.1 rfl dX4_canFill_21 ?_
      refine tl_iload_n (pc := 24) (i := 1) dX4_canFill_24 rfl rfl ?_
      refine tl_callVi (pc := 25) k_X2_at gw_219 hb.2.2.2.2.2.1.1 ⟨_, _, rfl⟩ (c_X2_at T _ _ _ hb.2.2.2.2.2.1) rfl rfl (Nat.le_of_ble_eq_true rfl) (Nat.le_of_ble_eq_true rfl) dX4_canFill_25 (fun x3 => ?_)
      refine tl_aload_n (pc := 28) (i := 0) dX4_canFill_28 rfl rfl ?_
      refine tl_getI (pc := 29) fl_X4_42 hb.1 rfl dX4_canFill_29 (fun x4 => ?_)
      refine tl_iconst (pc := 32) (v := 1) dX4_canFill_32 (by decide) ?_
      refine tl_isub (pc := 33) dX4_canFill_33 ?_
      refine tl_icmp_ne (pc := 34) (tgt := 41) dX4_canFill_34 rfl ?_ ?_
      · refine tl_iconst (pc := 37) (v := 1) dX4_canFill_37 (by decide) ?_
        refine tl_goto (pc := 38) (tgt := 42) dX4_canFill_38 rfl ?_
        exact tl_zret (pc := 42) dX4_canFill_42
      · refine tl_iconst (pc := 41) (v := 0) dX4_canFill_41 (by decide) ?_
        exact tl_zret (pc := 42) dX4_canFill_42
    · refine tl_iconst (pc := 37) (v := 1) dX4_canFill_37 (by decide) ?_
      refine tl_goto (pc := 38) (tgt := 42) dX4_canFill_38 rfl ?_
      exact tl_zret (pc := 42) dX4_canFill_42
abbrev TL_X4_fill (T : Tb) (pc : Nat) (lo : List (Option Value)) (st : List Value) (X : Dm Int32) : Prop := TL yX4_fill cX4_fill 5 (some .int) 1 iI T pc lo st X
set_option maxRecDepth 100000 in
theorem c_X4_fill (T : Tb) (b : Nat) (p0 : Int32) (p1 : Int32) (p2 : Int32) (hb : isSheet T b) : CT (.code yX4_fill cX4_fill 5 (some .int)) yX4_fill 1 iI T [.ref b, .int p0, .int p1, .int p2] (F_X4_fill b p0 p1 p2) := by
  refine ct_of (lo := [some (.ref b), some (.int p0), some (.int p1), some (.int p2), none]) (j := 1) k_X4_fill.1 rfl (fun _ => Nat.le_of_ble_eq_true rfl) ?_
  show TL_X4_fill T 0 _ _ _
  rw [F_X4_fill]
  refine tl_aload_n (pc := 0) (i := 0) dX4_fill_0 rfl rfl ?_
  refine tl_getR (pc := 1) (r := (b + 7)) fl_X4_30 hb.1 rfl dX4_fill_1 ?_
  refine tl_iload_n (pc := 4) (i := 1) dX4_fill_4 rfl rfl ?_
  refine tl_callVi (pc := 5) k_X2_at gw_219 hb.2.2.2.2.1.1 ⟨_, _, rfl⟩ (c_X2_at T _ _ _ hb.2.2.2.2.1) rfl rfl (Nat.le_of_ble_eq_true rfl) (Nat.le_of_ble_eq_true rfl) dX4_fill_5 (fun x1 => ?_)
  refine tl_istore (pc := 8) (i := 4) (lo' := [some (.ref b), some (.int p0), some (.int p1), some (.int p2), some (.int x1)]) dX4_fill_8 (by decide) rfl ?_
  refine tl_iload (pc := 10) (i := 4) dX4_fill_10 rfl ?_
  refine tl_iconst (pc := 12) (v := 3) dX4_fill_12 (by decide) ?_
  refine tl_j (fun (k : Unit → Dm Int32) => ∀ (_ : Unit), TL_X4_fill T 26 [some (.ref b), some (.int p0), some (.int p1), some (.int p2), some (.int x1)] [] (k ())) (fun _ => ?_) (fun k1 hk1 => ?_)
  · refine tl_aload_n (pc := 26) (i := 0) dX4_fill_26 rfl rfl ?_
    refine tl_getR (pc := 27) (r := (b + 7)) fl_X4_30 hb.1 rfl dX4_fill_27 ?_
    refine tl_iload_n (pc := 30) (i := 1) dX4_fill_30 rfl rfl ?_
    refine tl_iload_n (pc := 31) (i := 2) dX4_fill_31 rfl rfl ?_
    refine tl_callVv (pc := 32) k_X2_store gw_182 hb.2.2.2.2.1.1 ⟨_, _, rfl⟩ (c_X2_store T _ _ _ _ hb.2.2.2.2.1) rfl rfl (Nat.le_of_ble_eq_true rfl) (Nat.le_of_ble_eq_true rfl) dX4_fill_32 (fun _ => ?_)
    refine tl_aload_n (pc := 35) (i := 0) dX4_fill_35 rfl rfl ?_
    refine tl_getR (pc := 36) (r := (b + 9)) fl_X4_33 hb.1 rfl dX4_fill_36 ?_
    refine tl_iload_n (pc := 39) (i := 1) dX4_fill_39 rfl rfl ?_
    refine tl_iload_n (pc := 40) (i := 2) dX4_fill_40 rfl rfl ?_
    refine tl_iconst (pc := 41) (v := 1) dX4_fill_41 (by decide) ?_
    refine tl_icmp_eq (pc := 42) (tgt := 50) dX4_fill_42 rfl ?_ ?_
    · refine tl_iload_n (pc := 50) (i := 3) dX4_fill_50 rfl rfl ?_
      refine tl_goto (pc := 51) (tgt := 55) dX4_fill_51 rfl ?_
      refine tl_callVv (pc := 55) k_X2_store gw_182 hb.2.2.2.2.2.1.1 ⟨_, _, rfl⟩ (c_X2_store T _ _ _ _ hb.2.2.2.2.2.1) rfl rfl (Nat.le_of_ble_eq_true rfl) (Nat.le_of_ble_eq_true rfl) dX4_fill_55 (fun _ => ?_)
      refine tl_iload (pc := 58) (i := 4) dX4_fill_58 rfl ?_
      exact tl_iret (pc := 60) dX4_fill_60
    · refine tl_iload_n (pc := 45) (i := 2) dX4_fill_45 rfl rfl ?_
      refine tl_iconst (pc := 46) (v := 2) dX4_fill_46 (by decide) ?_
      refine tl_icmp_ne (pc := 47) (tgt := 54) dX4_fill_47 rfl ?_ ?_
      · refine tl_iload_n (pc := 50) (i := 3) dX4_fill_50 rfl rfl ?_
        refine tl_goto (pc := 51) (tgt := 55) dX4_fill_51 rfl ?_
        refine tl_callVv (pc := 55) k_X2_store gw_182 hb.2.2.2.2.2.1.1 ⟨_, _, rfl⟩ (c_X2_store T _ _ _ _ hb.2.2.2.2.2.1) rfl rfl (Nat.le_of_ble_eq_true rfl) (Nat.le_of_ble_eq_true rfl) dX4_fill_55 (fun _ => ?_)
        refine tl_iload (pc := 58) (i := 4) dX4_fill_58 rfl ?_
        exact tl_iret (pc := 60) dX4_fill_60
      · refine tl_iconst (pc := 54) (v := 0) dX4_fill_54 (by decide) ?_
        refine tl_callVv (pc := 55) k_X2_store gw_182 hb.2.2.2.2.2.1.1 ⟨_, _, rfl⟩ (c_X2_store T _ _ _ _ hb.2.2.2.2.2.1) rfl rfl (Nat.le_of_ble_eq_true rfl) (Nat.le_of_ble_eq_true rfl) dX4_fill_55 (fun _ => ?_)
        refine tl_iload (pc := 58) (i := 4) dX4_fill_58 rfl ?_
        exact tl_iret (pc := 60) dX4_fill_60
  · refine tl_icmp_ne (pc := 13) (tgt := 26) dX4_fill_13 rfl ?_ ?_
    · refine tl_aload_n (pc := 16) (i := 0) dX4_fill_16 rfl rfl ?_
      refine tl_dup (pc := 17) dX4_fill_17 rfl ?_
      refine tl_getI (pc := 18) fl_X4_42 hb.1 rfl dX4_fill_18 (fun x2 => ?_)
      refine tl_iconst (pc := 21) (v := 1) dX4_fill_21 (by decide) ?_
      refine tl_isub (pc := 22) dX4_fill_22 ?_
      refine tl_putI (pc := 23) fw_X4_42 hb.1 rfl dX4_fill_23 ?_
      exact tl_sub (hk1 ()) (sub_s (sub_s (sub_s (sub_s (sub_s sub_e)))))
    · exact tl_sub (hk1 ()) (sub_s (sub_s (sub_s (sub_s (sub_s sub_e)))))
abbrev TL_X4_isSingleEmpty (T : Tb) (pc : Nat) (lo : List (Option Value)) (st : List Value) (X : Dm Int32) : Prop := TL yX4_isSingleEmpty cX4_isSingleEmpty 2 (some .boolean) 2 iI T pc lo st X
set_option maxRecDepth 100000 in
theorem c_X4_isSingleEmpty (T : Tb) (b : Nat) (p0 : Int32) (hb : isSheet T b) : CT (.code yX4_isSingleEmpty cX4_isSingleEmpty 2 (some .boolean)) yX4_isSingleEmpty 2 iI T [.ref b, .int p0] (F_X4_isSingleEmpty b p0) := by
  refine ct_of (lo := [some (.ref b), some (.int p0)]) (j := 0) k_X4_isSingleEmpty.1 rfl (fun _ => Nat.le_of_ble_eq_true rfl) ?_
  show TL_X4_isSingleEmpty T 0 _ _ _
  rw [F_X4_isSingleEmpty]
  refine tl_aload_n (pc := 0) (i := 0) dX4_isSingleEmpty_0 rfl rfl ?_
  refine tl_getR (pc := 1) (r := (b + 7)) fl_X4_30 hb.1 rfl dX4_isSingleEmpty_1 ?_
  refine tl_iload_n (pc := 4) (i := 1) dX4_isSingleEmpty_4 rfl rfl ?_
  refine tl_callVi (pc := 5) k_X2_at gw_219 hb.2.2.2.2.1.1 ⟨_, _, rfl⟩ (c_X2_at T _ _ _ hb.2.2.2.2.1) rfl rfl (Nat.le_of_ble_eq_true rfl) (Nat.le_of_ble_eq_true rfl) dX4_isSingleEmpty_5 (fun x1 => ?_)
  refine tl_if_ne (pc := 8) (tgt := 35) dX4_isSingleEmpty_8 rfl ?_ ?_
  · refine tl_aload_n (pc := 11) (i := 0) dX4_isSingleEmpty_11 rfl rfl ?_
    refine tl_iload_n (pc := 12) (i := 1) dX4_isSingleEmpty_12 rfl rfl ?_
    refine tl_iconst (pc := 13) (v := 1) dX4_isSingleEmpty_13 (by decide) ?_
    refine tl_callVi (pc := 14) k_X4_spanOf gw_665 hb.1 ⟨_, _, rfl⟩ (c_X4_spanOf T _ _ _ hb) rfl rfl (Nat.le_of_ble_eq_true rfl) (Nat.le_of_ble_eq_true rfl) dX4_isSingleEmpty_14 (fun x2 => ?_)
    refine tl_iconst (pc := 17) (v := 1) dX4_isSingleEmpty_17 (by decide) ?_
    refine tl_icmp_ne (pc := 18) (tgt := 35) dX4_isSingleEmpty_18 rfl ?_ ?_
    · refine tl_aload_n (pc := 21) (i := 0) dX4_isSingleEmpty_21 rfl rfl ?_
      refine tl_iload_n (pc := 22) (i := 1) dX4_isSingleEmpty_22 rfl rfl ?_
      refine tl_iconst (pc := 23) (v := 0) dX4_isSingleEmpty_23 (by decide) ?_
      refine tl_callVi (pc := 24) k_X4_spanOf gw_665 hb.1 ⟨_, _, rfl⟩ (c_X4_spanOf T _ _ _ hb) rfl rfl (Nat.le_of_ble_eq_true rfl) (Nat.le_of_ble_eq_true rfl) dX4_isSingleEmpty_24 (fun x3 => ?_)
      refine tl_iconst (pc := 27) (v := 1) dX4_isSingleEmpty_27 (by decide) ?_
      refine tl_icmp_ne (pc := 28) (tgt := 35) dX4_isSingleEmpty_28 rfl ?_ ?_
      · refine tl_iconst (pc := 31) (v := 1) dX4_isSingleEmpty_31 (by decide) ?_
        refine tl_goto (pc := 32) (tgt := 36) dX4_isSingleEmpty_32 rfl ?_
        exact tl_zret (pc := 36) dX4_isSingleEmpty_36
      · refine tl_iconst (pc := 35) (v := 0) dX4_isSingleEmpty_35 (by decide) ?_
        exact tl_zret (pc := 36) dX4_isSingleEmpty_36
    · refine tl_iconst (pc := 35) (v := 0) dX4_isSingleEmpty_35 (by decide) ?_
      exact tl_zret (pc := 36) dX4_isSingleEmpty_36
  · refine tl_iconst (pc := 35) (v := 0) dX4_isSingleEmpty_35 (by decide) ?_
    exact tl_zret (pc := 36) dX4_isSingleEmpty_36
abbrev TL_X4_canCover (T : Tb) (pc : Nat) (lo : List (Option Value)) (st : List Value) (X : Dm Int32) : Prop := TL yX4_canCover cX4_canCover 7 (some .boolean) 3 iI T pc lo st X
set_option maxRecDepth 100000 in
theorem lp_X4_canCover_12 (T : Tb) (b : Nat) (p0 : Int32) (p1 : Int32) (p2 : Int32) (x1 : Int32) (hb : isSheet T b)  (k1 : Unit → Dm Int32) (hk1 : ∀ (_ : Unit), TL_X4_canCover T 59 [some (.ref b), some (.int p0), some (.int p1), some (.int p2), some (.int x1), none, none] [] (k1 ())) : ∀ (n : Nat) (x2 : Int32), TL_X4_canCover T 12 [some (.ref b), some (.int p0), some (.int p1), some (.int p2), some (.int x1), some (.int x2), none] [] (L_X4_canCover_12 b p0 p2 x1 n x2 k1) := by
  intro n
  induction n with
  | zero => intros; exact tl_fail
  | succ n ih =>
    intro x2
    rw [L_X4_canCover_12]
    refine tl_iload (pc := 12) (i := 5) dX4_canCover_12 rfl ?_
    refine tl_iload_n (pc := 14) (i := 3) dX4_canCover_14 rfl rfl ?_
    refine tl_icmp_ge (pc := 15) (tgt := 59) dX4_canCover_15 rfl ?_ ?_
    · exact tl_sub (hk1 ()) (sub_s (sub_s (sub_s (sub_s (sub_s (sub_n (sub_n sub_e)))))))
    · refine tl_aload_n (pc := 18) (i := 0) dX4_canCover_18 rfl rfl ?_
      refine tl_getR (pc := 19) (r := (b + 5)) fl_X4_27 hb.1 rfl dX4_canCover_19 ?_
      refine tl_iload_n (pc := 22) (i := 1) dX4_canCover_22 rfl rfl ?_
      refine tl_iload (pc := 23) (i := 4) dX4_canCover_23 rfl ?_
      refine tl_iconst (pc := 25) (v := 5) dX4_canCover_25 (by decide) ?_
      refine tl_imul (pc := 26) dX4_canCover_26 ?_
      refine tl_iadd (pc := 27) dX4_canCover_27 ?_
      refine tl_iload (pc := 28) (i := 5) dX4_canCover_28 rfl ?_
      refine tl_iadd (pc := 30) dX4_canCover_30 ?_
      refine tl_callVi (pc := 31) k_X2_at gw_219 hb.2.2.2.1.1 ⟨_, _, rfl⟩ (c_X2_at T _ _ _ hb.2.2.2.1) rfl rfl (Nat.le_of_ble_eq_true rfl) (Nat.le_of_ble_eq_true rfl) dX4_canCover_31 (fun x3 => ?_)
      refine tl_istore (pc := 34) (i := 6) (lo' := [some (.ref b), some (.int p0), some (.int p1), some (.int p2), some (.int x1), some (.int x2), some (.int x3)]) dX4_canCover_34 (by decide) rfl ?_
      refine tl_iload (pc := 36) (i := 6) dX4_canCover_36 rfl ?_
      refine tl_iload_n (pc := 38) (i := 1) dX4_canCover_38 rfl rfl ?_
      refine tl_j (fun (k : Unit → Dm Int32) => ∀ (_ : Unit), TL_X4_canCover T 53 [some (.ref b), some (.int p0), some (.int p1), some (.int p2), some (.int x1), some (.int x2), none] [] (k ())) (fun _ => ?_) (fun k2 hk2 => ?_)
      · refine tl_iinc (pc := 53) (i := 5) (v := x2 + (1 : Int32)) (lo' := [some (.ref b), some (.int p0), some (.int p1), some (.int p2), some (.int x1), some (.int (x2 + (1 : Int32))), none]) dX4_canCover_53 rfl rfl (by decide) rfl ?_
        refine tl_goto (pc := 56) (tgt := 12) dX4_canCover_56 rfl ?_
        exact tl_sub (ih _) (sub_s (sub_s (sub_s (sub_s (sub_s (sub_s (sub_n sub_e)))))))
      · refine tl_icmp_eq (pc := 39) (tgt := 53) dX4_canCover_39 rfl ?_ ?_
        · exact tl_sub (hk2 ()) (sub_s (sub_s (sub_s (sub_s (sub_s (sub_s (sub_n sub_e)))))))
        · refine tl_aload_n (pc := 42) (i := 0) dX4_canCover_42 rfl rfl ?_
          refine tl_iload (pc := 43) (i := 6) dX4_canCover_43 rfl ?_
          refine tl_callVi (pc := 45) k_X4_isSingleEmpty gw_661 hb.1 ⟨_, _, rfl⟩ (c_X4_isSingleEmpty T _ _ hb) rfl rfl (Nat.le_of_ble_eq_true rfl) (Nat.le_of_ble_eq_true rfl) dX4_canCover_45 (fun x4 => ?_)
          refine tl_if_ne (pc := 48) (tgt := 53) dX4_canCover_48 rfl ?_ ?_
          · refine tl_iconst (pc := 51) (v := 0) dX4_canCover_51 (by decide) ?_
            exact tl_zret (pc := 52) dX4_canCover_52
          · exact tl_sub (hk2 ()) (sub_s (sub_s (sub_s (sub_s (sub_s (sub_s (sub_n sub_e)))))))
set_option maxRecDepth 100000 in
theorem lp_X4_canCover_3 (T : Tb) (b : Nat) (p0 : Int32) (p1 : Int32) (p2 : Int32)  (hb : isSheet T b)    : ∀ (n : Nat) (x1 : Int32), TL_X4_canCover T 3 [some (.ref b), some (.int p0), some (.int p1), some (.int p2), some (.int x1), none, none] [] (L_X4_canCover_3 b p0 p1 p2 n x1 ) := by
  intro n
  induction n with
  | zero => intros; exact tl_fail
  | succ n ih =>
    intro x1
    rw [L_X4_canCover_3]
    refine tl_iload (pc := 3) (i := 4) dX4_canCover_3 rfl ?_
    refine tl_iload_n (pc := 5) (i := 2) dX4_canCover_5 rfl rfl ?_
    refine tl_icmp_ge (pc := 6) (tgt := 65) dX4_canCover_6 rfl ?_ ?_
    · refine tl_iconst (pc := 65) (v := 1) dX4_canCover_65 (by decide) ?_
      exact tl_zret (pc := 66) dX4_canCover_66
    · refine tl_iconst (pc := 9) (v := 0) dX4_canCover_9 (by decide) ?_
      refine tl_istore (pc := 10) (i := 5) (lo' := [some (.ref b), some (.int p0), some (.int p1), some (.int p2), some (.int x1), some (.int (0 : Int32)), none]) dX4_canCover_10 (by decide) rfl ?_
      refine tl_sub (lp_X4_canCover_12 T b p0 p1 p2 x1 hb  _ (fun _ => ?_) FU _) (sub_s (sub_s (sub_s (sub_s (sub_s (sub_s (sub_n sub_e)))))))
      refine tl_iinc (pc := 59) (i := 4) (v := x1 + (1 : Int32)) (lo' := [some (.ref b), some (.int p0), some (.int p1), some (.int p2), some (.int (x1 + (1 : Int32))), none, none]) dX4_canCover_59 rfl rfl (by decide) rfl ?_
      refine tl_goto (pc := 62) (tgt := 3) dX4_canCover_62 rfl ?_
      exact tl_sub (ih _) (sub_s (sub_s (sub_s (sub_s (sub_s (sub_n (sub_n sub_e)))))))
set_option maxRecDepth 100000 in
theorem c_X4_canCover (T : Tb) (b : Nat) (p0 : Int32) (p1 : Int32) (p2 : Int32) (hb : isSheet T b) : CT (.code yX4_canCover cX4_canCover 7 (some .boolean)) yX4_canCover 3 iI T [.ref b, .int p0, .int p1, .int p2] (F_X4_canCover b p0 p1 p2) := by
  refine ct_of (lo := [some (.ref b), some (.int p0), some (.int p1), some (.int p2), none, none, none]) (j := 3) k_X4_canCover.1 rfl (fun _ => Nat.le_of_ble_eq_true rfl) ?_
  show TL_X4_canCover T 0 _ _ _
  rw [F_X4_canCover]
  refine tl_iconst (pc := 0) (v := 0) dX4_canCover_0 (by decide) ?_
  refine tl_istore (pc := 1) (i := 4) (lo' := [some (.ref b), some (.int p0), some (.int p1), some (.int p2), some (.int (0 : Int32)), none, none]) dX4_canCover_1 (by decide) rfl ?_
  refine tl_sub (lp_X4_canCover_3 T b p0 p1 p2 hb    FU _) (sub_s (sub_s (sub_s (sub_s (sub_s (sub_n (sub_n sub_e)))))))
abbrev TL_X4_giveSquares (T : Tb) (pc : Nat) (lo : List (Option Value)) (st : List Value) (X : Dm Unit) : Prop := TL yX4_giveSquares cX4_giveSquares 8 none 2 vI T pc lo st X
set_option maxRecDepth 100000 in
theorem lp_X4_giveSquares_12 (T : Tb) (b : Nat) (p0 : Int32) (p1 : Int32) (p2 : Int32) (p3 : Int32) (x1 : Int32) (hb : isSheet T b)  (k1 : Unit → Dm Unit) (hk1 : ∀ (_ : Unit), TL_X4_giveSquares T 67 [some (.ref b), some (.int p0), some (.int p1), some (.int p2), some (.int p3), some (.int x1), none, none] [] (k1 ())) : ∀ (n : Nat) (x2 : Int32), TL_X4_giveSquares T 12 [some (.ref b), some (.int p0), some (.int p1), some (.int p2), some (.int p3), some (.int x1), some (.int x2), none] [] (L_X4_giveSquares_12 b p0 p2 p3 x1 n x2 k1) := by
  intro n
  induction n with
  | zero => intros; exact tl_fail
  | succ n ih =>
    intro x2
    rw [L_X4_giveSquares_12]
    refine tl_iload (pc := 12) (i := 6) dX4_giveSquares_12 rfl ?_
    refine tl_iload_n (pc := 14) (i := 3) dX4_giveSquares_14 rfl rfl ?_
    refine tl_icmp_ge (pc := 15) (tgt := 67) dX4_giveSquares_15 rfl ?_ ?_
    · exact tl_sub (hk1 ()) (sub_s (sub_s (sub_s (sub_s (sub_s (sub_s (sub_n (sub_n sub_e))))))))
    · refine tl_iload_n (pc := 18) (i := 1) dX4_giveSquares_18 rfl rfl ?_
      refine tl_iload (pc := 19) (i := 5) dX4_giveSquares_19 rfl ?_
      refine tl_iconst (pc := 21) (v := 5) dX4_giveSquares_21 (by decide) ?_
      refine tl_imul (pc := 22) dX4_giveSquares_22 ?_
      refine tl_iadd (pc := 23) dX4_giveSquares_23 ?_
      refine tl_iload (pc := 24) (i := 6) dX4_giveSquares_24 rfl ?_
      refine tl_iadd (pc := 26) dX4_giveSquares_26 ?_
      refine tl_bI (fun x3 => ?_)
      refine tl_istore (pc := 27) (i := 7) (lo' := [some (.ref b), some (.int p0), some (.int p1), some (.int p2), some (.int p3), some (.int x1), some (.int x2), some (.int x3)]) dX4_giveSquares_27 (by decide) rfl ?_
      refine tl_iload (pc := 29) (i := 7) dX4_giveSquares_29 rfl ?_
      refine tl_iload_n (pc := 31) (i := 1) dX4_giveSquares_31 rfl rfl ?_
      refine tl_j (fun (k : Unit → Dm Unit) => ∀ (_ : Unit), TL_X4_giveSquares T 61 [some (.ref b), some (.int p0), some (.int p1), some (.int p2), some (.int p3), some (.int x1), some (.int x2), none] [] (k ())) (fun _ => ?_) (fun k2 hk2 => ?_)
      · refine tl_iinc (pc := 61) (i := 6) (v := x2 + (1 : Int32)) (lo' := [some (.ref b), some (.int p0), some (.int p1), some (.int p2), some (.int p3), some (.int x1), some (.int (x2 + (1 : Int32))), none]) dX4_giveSquares_61 rfl rfl (by decide) rfl ?_
        refine tl_goto (pc := 64) (tgt := 12) dX4_giveSquares_64 rfl ?_
        exact tl_sub (ih _) (sub_s (sub_s (sub_s (sub_s (sub_s (sub_s (sub_s (sub_n sub_e))))))))
      · refine tl_icmp_eq (pc := 32) (tgt := 61) dX4_giveSquares_32 rfl ?_ ?_
        · exact tl_sub (hk2 ()) (sub_s (sub_s (sub_s (sub_s (sub_s (sub_s (sub_s (sub_n sub_e))))))))
        · refine tl_aload_n (pc := 35) (i := 0) dX4_giveSquares_35 rfl rfl ?_
          refine tl_iload (pc := 36) (i := 7) dX4_giveSquares_36 rfl ?_
          refine tl_callVv (pc := 38) k_X4_makeEmpty gw_190 hb.1 ⟨_, _, rfl⟩ (c_X4_makeEmpty T _ _ hb) rfl rfl (Nat.le_of_ble_eq_true rfl) (Nat.le_of_ble_eq_true rfl) dX4_giveSquares_38 (fun _ => ?_)
          refine tl_aload_n (pc := 41) (i := 0) dX4_giveSquares_41 rfl rfl ?_
          refine tl_getR (pc := 42) (r := (b + 5)) fl_X4_27 hb.1 rfl dX4_giveSquares_42 ?_
          refine tl_iload (pc := 45) (i := 7) dX4_giveSquares_45 rfl ?_
          refine tl_iload (pc := 47) (i := 4) dX4_giveSquares_47 rfl ?_
          refine tl_j (fun (k : Int32 → Dm Unit) => ∀ (x4 : Int32), TL_X4_giveSquares T 58 [some (.ref b), some (.int p0), some (.int p1), some (.int p2), some (.int p3), some (.int x1), some (.int x2), none] [.int x4, .int x3, .ref (b + 5)] (k x4)) (fun x4 => ?_) (fun k3 hk3 => ?_)
          · refine tl_callVv (pc := 58) k_X2_store gw_182 hb.2.2.2.1.1 ⟨_, _, rfl⟩ (c_X2_store T _ _ _ _ hb.2.2.2.1) rfl rfl (Nat.le_of_ble_eq_true rfl) (Nat.le_of_ble_eq_true rfl) dX4_giveSquares_58 (fun _ => ?_)
            exact tl_sub (hk2 ()) (sub_s (sub_s (sub_s (sub_s (sub_s (sub_s (sub_s (sub_n sub_e))))))))
          · refine tl_if_eq (pc := 49) (tgt := 56) dX4_giveSquares_49 rfl ?_ ?_
            · refine tl_iload (pc := 56) (i := 7) dX4_giveSquares_56 rfl ?_
              exact tl_sub (hk3 _) (sub_s (sub_s (sub_s (sub_s (sub_s (sub_s (sub_s (sub_n sub_e))))))))
            · refine tl_iload_n (pc := 52) (i := 1) dX4_giveSquares_52 rfl rfl ?_
              refine tl_goto (pc := 53) (tgt := 58) dX4_giveSquares_53 rfl ?_
              exact tl_sub (hk3 _) (sub_s (sub_s (sub_s (sub_s (sub_s (sub_s (sub_s (sub_n sub_e))))))))
set_option maxRecDepth 100000 in
theorem lp_X4_giveSquares_3 (T : Tb) (b : Nat) (p0 : Int32) (p1 : Int32) (p2 : Int32) (p3 : Int32)  (hb : isSheet T b)    : ∀ (n : Nat) (x1 : Int32), TL_X4_giveSquares T 3 [some (.ref b), some (.int p0), some (.int p1), some (.int p2), some (.int p3), some (.int x1), none, none] [] (L_X4_giveSquares_3 b p0 p1 p2 p3 n x1 ) := by
  intro n
  induction n with
  | zero => intros; exact tl_fail
  | succ n ih =>
    intro x1
    rw [L_X4_giveSquares_3]
    refine tl_iload (pc := 3) (i := 5) dX4_giveSquares_3 rfl ?_
    refine tl_iload_n (pc := 5) (i := 2) dX4_giveSquares_5 rfl rfl ?_
    refine tl_icmp_ge (pc := 6) (tgt := 73) dX4_giveSquares_6 rfl ?_ ?_
    · exact tl_vret (pc := 73) dX4_giveSquares_73
    · refine tl_iconst (pc := 9) (v := 0) dX4_giveSquares_9 (by decide) ?_
      refine tl_istore (pc := 10) (i := 6) (lo' := [some (.ref b), some (.int p0), some (.int p1), some (.int p2), some (.int p3), some (.int x1), some (.int (0 : Int32)), none]) dX4_giveSquares_10 (by decide) rfl ?_
      refine tl_sub (lp_X4_giveSquares_12 T b p0 p1 p2 p3 x1 hb  _ (fun _ => ?_) FU _) (sub_s (sub_s (sub_s (sub_s (sub_s (sub_s (sub_s (sub_n sub_e))))))))
      refine tl_iinc (pc := 67) (i := 5) (v := x1 + (1 : Int32)) (lo' := [some (.ref b), some (.int p0), some (.int p1), some (.int p2), some (.int p3), some (.int (x1 + (1 : Int32))), none, none]) dX4_giveSquares_67 rfl rfl (by decide) rfl ?_
      refine tl_goto (pc := 70) (tgt := 3) dX4_giveSquares_70 rfl ?_
      exact tl_sub (ih _) (sub_s (sub_s (sub_s (sub_s (sub_s (sub_s (sub_n (sub_n sub_e))))))))
set_option maxRecDepth 100000 in
theorem c_X4_giveSquares (T : Tb) (b : Nat) (p0 : Int32) (p1 : Int32) (p2 : Int32) (p3 : Int32) (hb : isSheet T b) : CT (.code yX4_giveSquares cX4_giveSquares 8 none) yX4_giveSquares 2 vI T [.ref b, .int p0, .int p1, .int p2, .int p3] (F_X4_giveSquares b p0 p1 p2 p3) := by
  refine ct_of (lo := [some (.ref b), some (.int p0), some (.int p1), some (.int p2), some (.int p3), none, none, none]) (j := 3) k_X4_giveSquares.1 rfl (fun _ => Nat.le_of_ble_eq_true rfl) ?_
  show TL_X4_giveSquares T 0 _ _ _
  rw [F_X4_giveSquares]
  refine tl_iconst (pc := 0) (v := 0) dX4_giveSquares_0 (by decide) ?_
  refine tl_istore (pc := 1) (i := 5) (lo' := [some (.ref b), some (.int p0), some (.int p1), some (.int p2), some (.int p3), some (.int (0 : Int32)), none, none]) dX4_giveSquares_1 (by decide) rfl ?_
  refine tl_sub (lp_X4_giveSquares_3 T b p0 p1 p2 p3 hb    FU _) (sub_s (sub_s (sub_s (sub_s (sub_s (sub_s (sub_n (sub_n sub_e))))))))
abbrev TL_X4_cover (T : Tb) (pc : Nat) (lo : List (Option Value)) (st : List Value) (X : Dm Unit) : Prop := TL yX4_cover cX4_cover 4 none 3 vI T pc lo st X
set_option maxRecDepth 100000 in
theorem c_X4_cover (T : Tb) (b : Nat) (p0 : Int32) (p1 : Int32) (p2 : Int32) (hb : isSheet T b) : CT (.code yX4_cover cX4_cover 4 none) yX4_cover 3 vI T [.ref b, .int p0, .int p1, .int p2] (F_X4_cover b p0 p1 p2) := by
  refine ct_of (lo := [some (.ref b), some (.int p0), some (.int p1), some (.int p2)]) (j := 0) k_X4_cover.1 rfl (fun _ => Nat.le_of_ble_eq_true rfl) ?_
  show TL_X4_cover T 0 _ _ _
  rw [F_X4_cover]
  refine tl_aload_n (pc := 0) (i := 0) dX4_cover_0 rfl rfl ?_
  refine tl_iload_n (pc := 1) (i := 1) dX4_cover_1 rfl rfl ?_
  refine tl_aload_n (pc := 2) (i := 0) dX4_cover_2 rfl rfl ?_
  refine tl_iload_n (pc := 3) (i := 1) dX4_cover_3 rfl rfl ?_
  refine tl_iconst (pc := 4) (v := 1) dX4_cover_4 (by decide) ?_
  refine tl_callVi (pc := 5) k_X4_spanOf gw_665 hb.1 ⟨_, _, rfl⟩ (c_X4_spanOf T _ _ _ hb) rfl rfl (Nat.le_of_ble_eq_true rfl) (Nat.le_of_ble_eq_true rfl) dX4_cover_5 (fun x1 => ?_)
  refine tl_aload_n (pc := 8) (i := 0) dX4_cover_8 rfl rfl ?_
  refine tl_iload_n (pc := 9) (i := 1) dX4_cover_9 rfl rfl ?_
  refine tl_iconst (pc := 10) (v := 0) dX4_cover_10 (by decide) ?_
  refine tl_callVi (pc := 11) k_X4_spanOf gw_665 hb.1 ⟨_, _, rfl⟩ (c_X4_spanOf T _ _ _ hb) rfl rfl (Nat.le_of_ble_eq_true rfl) (Nat.le_of_ble_eq_true rfl) dX4_cover_11 (fun x2 => ?_)
  refine tl_iconst (pc := 14) (v := 0) dX4_cover_14 (by decide) ?_
  refine tl_callVv (pc := 15) k_X4_giveSquares gw_670 hb.1 ⟨_, _, rfl⟩ (c_X4_giveSquares T _ _ _ _ _ hb) rfl rfl (Nat.le_of_ble_eq_true rfl) (Nat.le_of_ble_eq_true rfl) dX4_cover_15 (fun _ => ?_)
  refine tl_aload_n (pc := 18) (i := 0) dX4_cover_18 rfl rfl ?_
  refine tl_iload_n (pc := 19) (i := 1) dX4_cover_19 rfl rfl ?_
  refine tl_iload_n (pc := 20) (i := 2) dX4_cover_20 rfl rfl ?_
  refine tl_iload_n (pc := 21) (i := 3) dX4_cover_21 rfl rfl ?_
  refine tl_iconst (pc := 22) (v := 1) dX4_cover_22 (by decide) ?_
  refine tl_callVv (pc := 23) k_X4_giveSquares gw_670 hb.1 ⟨_, _, rfl⟩ (c_X4_giveSquares T _ _ _ _ _ hb) rfl rfl (Nat.le_of_ble_eq_true rfl) (Nat.le_of_ble_eq_true rfl) dX4_cover_23 (fun _ => ?_)
  refine tl_aload_n (pc := 26) (i := 0) dX4_cover_26 rfl rfl ?_
  refine tl_getR (pc := 27) (r := (b + 11)) fl_X4_36 hb.1 rfl dX4_cover_27 ?_
  refine tl_iload_n (pc := 30) (i := 1) dX4_cover_30 rfl rfl ?_
  refine tl_iconst (pc := 31) (v := 2) dX4_cover_31 (by decide) ?_
  refine tl_imul (pc := 32) dX4_cover_32 ?_
  refine tl_iconst (pc := 33) (v := 1) dX4_cover_33 (by decide) ?_
  refine tl_iadd (pc := 34) dX4_cover_34 ?_
  refine tl_iload_n (pc := 35) (i := 2) dX4_cover_35 rfl rfl ?_
  refine tl_callVv (pc := 36) k_X2_store gw_182 hb.2.2.2.2.2.2.1.1 ⟨_, _, rfl⟩ (c_X2_store T _ _ _ _ hb.2.2.2.2.2.2.1) rfl rfl (Nat.le_of_ble_eq_true rfl) (Nat.le_of_ble_eq_true rfl) dX4_cover_36 (fun _ => ?_)
  refine tl_aload_n (pc := 39) (i := 0) dX4_cover_39 rfl rfl ?_
  refine tl_getR (pc := 40) (r := (b + 11)) fl_X4_36 hb.1 rfl dX4_cover_40 ?_
  refine tl_iload_n (pc := 43) (i := 1) dX4_cover_43 rfl rfl ?_
  refine tl_iconst (pc := 44) (v := 2) dX4_cover_44 (by decide) ?_
  refine tl_imul (pc := 45) dX4_cover_45 ?_
  refine tl_iconst (pc := 46) (v := 0) dX4_cover_46 (by decide) ?_
  refine tl_iadd (pc := 47) dX4_cover_47 ?_
  refine tl_iload_n (pc := 48) (i := 3) dX4_cover_48 rfl rfl ?_
  refine tl_callVv (pc := 49) k_X2_store gw_182 hb.2.2.2.2.2.2.1.1 ⟨_, _, rfl⟩ (c_X2_store T _ _ _ _ hb.2.2.2.2.2.2.1) rfl rfl (Nat.le_of_ble_eq_true rfl) (Nat.le_of_ble_eq_true rfl) dX4_cover_49 (fun _ => ?_)
  exact tl_vret (pc := 52) dX4_cover_52
abbrev TL_X3_add (T : Tb) (pc : Nat) (lo : List (Option Value)) (st : List Value) (X : Dm Unit) : Prop := TL yX3_add cX3_add 2 none 1 vI T pc lo st X
set_option maxRecDepth 100000 in
theorem c_X3_add (T : Tb) (p0 : Int32) (hb : isText T) : CT (.code yX3_add cX3_add 2 none) yX3_add 1 vI T [.ref 165, .int p0] (F_X3_add p0) := by
  refine ct_of (lo := [some (.ref 165), some (.int p0)]) (j := 0) k_X3_add.1 rfl (fun _ => Nat.le_of_ble_eq_true rfl) ?_
  show TL_X3_add T 0 _ _ _
  rw [F_X3_add]
  refine tl_aload_n (pc := 0) (i := 0) dX3_add_0 rfl rfl ?_
  refine tl_getR (pc := 1) (r := 166) fl_X3_14 hb.1 rfl dX3_add_1 ?_
  refine tl_aload_n (pc := 4) (i := 0) dX3_add_4 rfl rfl ?_
  refine tl_getI (pc := 5) fl_X3_20 hb.1 rfl dX3_add_5 (fun x1 => ?_)
  refine tl_iload_n (pc := 8) (i := 1) dX3_add_8 rfl rfl ?_
  refine tl_callVv (pc := 9) k_X2_store gw_700 hb.2.1 ⟨_, _, rfl⟩ (c_X2_store T _ _ _ _ hb.2) rfl rfl (Nat.le_of_ble_eq_true rfl) (Nat.le_of_ble_eq_true rfl) dX3_add_9 (fun _ => ?_)
  refine tl_aload_n (pc := 12) (i := 0) dX3_add_12 rfl rfl ?_
  refine tl_dup (pc := 13) dX3_add_13 rfl ?_
  refine tl_getI (pc := 14) fl_X3_20 hb.1 rfl dX3_add_14 (fun x2 => ?_)
  refine tl_iconst (pc := 17) (v := 1) dX3_add_17 (by decide) ?_
  refine tl_iadd (pc := 18) dX3_add_18 ?_
  refine tl_putI (pc := 19) fw_X3_20 hb.1 rfl dX3_add_19 ?_
  exact tl_vret (pc := 22) dX3_add_22
abbrev TL_X3_afterContent (T : Tb) (pc : Nat) (lo : List (Option Value)) (st : List Value) (X : Dm Int32) : Prop := TL yX3_afterContent cX3_afterContent 1 (some .int) 0 iI T pc lo st X
set_option maxRecDepth 100000 in
theorem c_X3_afterContent (T : Tb) (p0 : Int32)  : CT (.code yX3_afterContent cX3_afterContent 1 (some .int)) yX3_afterContent 0 iI T [.int p0] (F_X3_afterContent p0) := by
  refine ct_of (lo := [some (.int p0)]) (j := 0) k_X3_afterContent.1 rfl (fun _ => Nat.le_of_ble_eq_true rfl) ?_
  show TL_X3_afterContent T 0 _ _ _
  rw [F_X3_afterContent]
  refine tl_iload_n (pc := 0) (i := 0) dX3_afterContent_0 rfl rfl ?_
  refine tl_if (fun cs1_0 => ?_) (fun cs1_0 => ?_)
  · refine tl_lookup (pc := 1) (tgt := 65) (off := 64) dX3_afterContent_1 (by decide) (by rw [cs1_0]; decide) rfl ?_
    refine tl_bipush (pc := 65) (v := 10) dX3_afterContent_65 (by decide) ?_
    exact tl_iret (pc := 67) dX3_afterContent_67
  · refine tl_if (fun cs1_1 => ?_) (fun cs1_1 => ?_)
    · refine tl_lookup (pc := 1) (tgt := 65) (off := 64) dX3_afterContent_1 (by decide) (by rw [cs1_1]; decide) rfl ?_
      refine tl_bipush (pc := 65) (v := 10) dX3_afterContent_65 (by decide) ?_
      exact tl_iret (pc := 67) dX3_afterContent_67
    · refine tl_if (fun cs1_2 => ?_) (fun cs1_2 => ?_)
      · refine tl_lookup (pc := 1) (tgt := 65) (off := 64) dX3_afterContent_1 (by decide) (by rw [cs1_2]; decide) rfl ?_
        refine tl_bipush (pc := 65) (v := 10) dX3_afterContent_65 (by decide) ?_
        exact tl_iret (pc := 67) dX3_afterContent_67
      · refine tl_if (fun cs1_3 => ?_) (fun cs1_3 => ?_)
        · refine tl_lookup (pc := 1) (tgt := 60) (off := 59) dX3_afterContent_1 (by decide) (by rw [cs1_3]; decide) rfl ?_
          refine tl_iconst (pc := 60) (v := 4) dX3_afterContent_60 (by decide) ?_
          exact tl_iret (pc := 61) dX3_afterContent_61
        · refine tl_if (fun cs1_4 => ?_) (fun cs1_4 => ?_)
          · refine tl_lookup (pc := 1) (tgt := 65) (off := 64) dX3_afterContent_1 (by decide) (by rw [cs1_4]; decide) rfl ?_
            refine tl_bipush (pc := 65) (v := 10) dX3_afterContent_65 (by decide) ?_
            exact tl_iret (pc := 67) dX3_afterContent_67
          · refine tl_if (fun cs1_5 => ?_) (fun cs1_5 => ?_)
            · refine tl_lookup (pc := 1) (tgt := 62) (off := 61) dX3_afterContent_1 (by decide) (by rw [cs1_5]; decide) rfl ?_
              refine tl_bipush (pc := 62) (v := 6) dX3_afterContent_62 (by decide) ?_
              exact tl_iret (pc := 64) dX3_afterContent_64
            · refine tl_lookup (pc := 1) (tgt := 68) (off := 67) dX3_afterContent_1 (by decide) (by rw [show (Op.lookupswitch.offset _ _ _ = _) from lv_osw cs1_0 (by decide)]; rw [show (Op.lookupswitch.offset _ _ _ = _) from lv_osw cs1_1 (by decide)]; rw [show (Op.lookupswitch.offset _ _ _ = _) from lv_osw cs1_2 (by decide)]; rw [show (Op.lookupswitch.offset _ _ _ = _) from lv_osw cs1_3 (by decide)]; rw [show (Op.lookupswitch.offset _ _ _ = _) from lv_osw cs1_4 (by decide)]; rw [show (Op.lookupswitch.offset _ _ _ = _) from lv_osw cs1_5 (by decide)]; rfl) rfl ?_
              refine tl_iconst (pc := 68) (v := -1) dX3_afterContent_68 (by decide) ?_
              exact tl_iret (pc := 69) dX3_afterContent_69
abbrev TL_X3_afterFirstDigit (T : Tb) (pc : Nat) (lo : List (Option Value)) (st : List Value) (X : Dm Int32) : Prop := TL yX3_afterFirstDigit cX3_afterFirstDigit 1 (some .int) 1 iI T pc lo st X
set_option maxRecDepth 100000 in
theorem c_X3_afterFirstDigit (T : Tb) (p0 : Int32)  : CT (.code yX3_afterFirstDigit cX3_afterFirstDigit 1 (some .int)) yX3_afterFirstDigit 1 iI T [.int p0] (F_X3_afterFirstDigit p0) := by
  refine ct_of (lo := [some (.int p0)]) (j := 0) k_X3_afterFirstDigit.1 rfl (fun _ => Nat.le_of_ble_eq_true rfl) ?_
  show TL_X3_afterFirstDigit T 0 _ _ _
  rw [F_X3_afterFirstDigit]
  refine tl_iload_n (pc := 0) (i := 0) dX3_afterFirstDigit_0 rfl rfl ?_
  refine tl_bipush (pc := 1) (v := 48) dX3_afterFirstDigit_1 (by decide) ?_
  refine tl_icmp_ne (pc := 3) (tgt := 9) dX3_afterFirstDigit_3 rfl ?_ ?_
  · refine tl_bipush (pc := 6) (v := 10) dX3_afterFirstDigit_6 (by decide) ?_
    exact tl_iret (pc := 8) dX3_afterFirstDigit_8
  · refine tl_iload_n (pc := 9) (i := 0) dX3_afterFirstDigit_9 rfl rfl ?_
    refine tl_bipush (pc := 10) (v := 49) dX3_afterFirstDigit_10 (by decide) ?_
    refine tl_bipush (pc := 12) (v := 57) dX3_afterFirstDigit_12 (by decide) ?_
    refine tl_callSNi (pc := 14) k_X5_isBetween nm_X3_36 (c_X5_isBetween T _ _ _) (nx_X5_isBetween _ _ _) rfl rfl (Nat.le_of_ble_eq_true rfl) (Nat.le_of_ble_eq_true rfl) dX3_afterFirstDigit_14 (fun x1 => ?_)
    refine tl_if_eq (pc := 17) (tgt := 25) dX3_afterFirstDigit_17 rfl ?_ ?_
    · refine tl_iconst (pc := 25) (v := -1) dX3_afterFirstDigit_25 (by decide) ?_
      exact tl_iret (pc := 26) dX3_afterFirstDigit_26
    · refine tl_bipush (pc := 20) (v := 7) dX3_afterFirstDigit_20 (by decide) ?_
      refine tl_goto (pc := 22) (tgt := 26) dX3_afterFirstDigit_22 rfl ?_
      exact tl_iret (pc := 26) dX3_afterFirstDigit_26
abbrev TL_X3_expectedAfter (T : Tb) (pc : Nat) (lo : List (Option Value)) (st : List Value) (X : Dm Int32) : Prop := TL yX3_expectedAfter cX3_expectedAfter 2 (some .int) 2 iI T pc lo st X
set_option maxRecDepth 100000 in
theorem c_X3_expectedAfter (T : Tb) (p0 : Int32) (p1 : Int32)  : CT (.code yX3_expectedAfter cX3_expectedAfter 2 (some .int)) yX3_expectedAfter 2 iI T [.int p0, .int p1] (F_X3_expectedAfter p0 p1) := by
  refine ct_of (lo := [some (.int p0), some (.int p1)]) (j := 0) k_X3_expectedAfter.1 rfl (fun _ => Nat.le_of_ble_eq_true rfl) ?_
  show TL_X3_expectedAfter T 0 _ _ _
  rw [F_X3_expectedAfter]
  refine tl_iload_n (pc := 0) (i := 0) dX3_expectedAfter_0 rfl rfl ?_
  refine tl_bipush (pc := 1) (v := 7) dX3_expectedAfter_1 (by decide) ?_
  refine tl_j (fun (k : Unit → Dm Int32) => ∀ (_ : Unit), TL_X3_expectedAfter T 14 [some (.int p0), some (.int p1)] [] (k ())) (fun _ => ?_) (fun k1 hk1 => ?_)
  · refine tl_iload_n (pc := 14) (i := 0) dX3_expectedAfter_14 rfl rfl ?_
    refine tl_if (fun cs15_0 => ?_) (fun cs15_0 => ?_)
    · refine tl_tableIn (pc := 15) (tgt := 68) (off := 53) (0 : Int32) cs15_0 dX3_expectedAfter_15 (by decide) (by decide) (by decide) rfl ?_
      refine tl_iload_n (pc := 68) (i := 1) dX3_expectedAfter_68 rfl rfl ?_
      refine tl_bipush (pc := 69) (v := 48) dX3_expectedAfter_69 (by decide) ?_
      refine tl_bipush (pc := 71) (v := 52) dX3_expectedAfter_71 (by decide) ?_
      refine tl_callSNi (pc := 73) k_X5_isBetween nm_X3_36 (c_X5_isBetween T _ _ _) (nx_X5_isBetween _ _ _) rfl rfl (Nat.le_of_ble_eq_true rfl) (Nat.le_of_ble_eq_true rfl) dX3_expectedAfter_73 (fun x1 => ?_)
      refine tl_if_eq (pc := 76) (tgt := 83) dX3_expectedAfter_76 rfl ?_ ?_
      · refine tl_iconst (pc := 83) (v := -1) dX3_expectedAfter_83 (by decide) ?_
        exact tl_iret (pc := 84) dX3_expectedAfter_84
      · refine tl_iconst (pc := 79) (v := 1) dX3_expectedAfter_79 (by decide) ?_
        refine tl_goto (pc := 80) (tgt := 84) dX3_expectedAfter_80 rfl ?_
        exact tl_iret (pc := 84) dX3_expectedAfter_84
    · refine tl_if (fun cs15_1 => ?_) (fun cs15_1 => ?_)
      · refine tl_tableIn (pc := 15) (tgt := 85) (off := 70) (1 : Int32) cs15_1 dX3_expectedAfter_15 (by decide) (by decide) (by decide) rfl ?_
        refine tl_iload_n (pc := 85) (i := 1) dX3_expectedAfter_85 rfl rfl ?_
        refine tl_bipush (pc := 86) (v := 97) dX3_expectedAfter_86 (by decide) ?_
        refine tl_bipush (pc := 88) (v := 101) dX3_expectedAfter_88 (by decide) ?_
        refine tl_callSNi (pc := 90) k_X5_isBetween nm_X3_36 (c_X5_isBetween T _ _ _) (nx_X5_isBetween _ _ _) rfl rfl (Nat.le_of_ble_eq_true rfl) (Nat.le_of_ble_eq_true rfl) dX3_expectedAfter_90 (fun x2 => ?_)
        refine tl_if_eq (pc := 93) (tgt := 100) dX3_expectedAfter_93 rfl ?_ ?_
        · refine tl_iconst (pc := 100) (v := -1) dX3_expectedAfter_100 (by decide) ?_
          exact tl_iret (pc := 101) dX3_expectedAfter_101
        · refine tl_iconst (pc := 96) (v := 2) dX3_expectedAfter_96 (by decide) ?_
          refine tl_goto (pc := 97) (tgt := 101) dX3_expectedAfter_97 rfl ?_
          exact tl_iret (pc := 101) dX3_expectedAfter_101
      · refine tl_if (fun cs15_2 => ?_) (fun cs15_2 => ?_)
        · refine tl_tableIn (pc := 15) (tgt := 102) (off := 87) (2 : Int32) cs15_2 dX3_expectedAfter_15 (by decide) (by decide) (by decide) rfl ?_
          refine tl_iload_n (pc := 102) (i := 1) dX3_expectedAfter_102 rfl rfl ?_
          refine tl_bipush (pc := 103) (v := 49) dX3_expectedAfter_103 (by decide) ?_
          refine tl_bipush (pc := 105) (v := 53) dX3_expectedAfter_105 (by decide) ?_
          refine tl_callSNi (pc := 107) k_X5_isBetween nm_X3_36 (c_X5_isBetween T _ _ _) (nx_X5_isBetween _ _ _) rfl rfl (Nat.le_of_ble_eq_true rfl) (Nat.le_of_ble_eq_true rfl) dX3_expectedAfter_107 (fun x3 => ?_)
          refine tl_if_eq (pc := 110) (tgt := 117) dX3_expectedAfter_110 rfl ?_ ?_
          · refine tl_iconst (pc := 117) (v := -1) dX3_expectedAfter_117 (by decide) ?_
            exact tl_iret (pc := 118) dX3_expectedAfter_118
          · refine tl_iconst (pc := 113) (v := 3) dX3_expectedAfter_113 (by decide) ?_
            refine tl_goto (pc := 114) (tgt := 118) dX3_expectedAfter_114 rfl ?_
            exact tl_iret (pc := 118) dX3_expectedAfter_118
        · refine tl_if (fun cs15_3 => ?_) (fun cs15_3 => ?_)
          · refine tl_tableIn (pc := 15) (tgt := 119) (off := 104) (3 : Int32) cs15_3 dX3_expectedAfter_15 (by decide) (by decide) (by decide) rfl ?_
            refine tl_iload_n (pc := 119) (i := 1) dX3_expectedAfter_119 rfl rfl ?_
            refine tl_callSi (pc := 120) k_X3_afterContent gw_360 (c_X3_afterContent T _) rfl rfl (Nat.le_of_ble_eq_true rfl) (Nat.le_of_ble_eq_true rfl) dX3_expectedAfter_120 (fun x4 => ?_)
            exact tl_iret (pc := 123) dX3_expectedAfter_123
          · refine tl_if (fun cs15_4 => ?_) (fun cs15_4 => ?_)
            · refine tl_tableIn (pc := 15) (tgt := 124) (off := 109) (4 : Int32) cs15_4 dX3_expectedAfter_15 (by decide) (by decide) (by decide) rfl ?_
              refine tl_iload_n (pc := 124) (i := 1) dX3_expectedAfter_124 rfl rfl ?_
              refine tl_bipush (pc := 125) (v := 45) dX3_expectedAfter_125 (by decide) ?_
              refine tl_icmp_ne (pc := 127) (tgt := 134) dX3_expectedAfter_127 rfl ?_ ?_
              · refine tl_iconst (pc := 130) (v := 5) dX3_expectedAfter_130 (by decide) ?_
                refine tl_goto (pc := 131) (tgt := 138) dX3_expectedAfter_131 rfl ?_
                exact tl_iret (pc := 138) dX3_expectedAfter_138
              · refine tl_iload_n (pc := 134) (i := 1) dX3_expectedAfter_134 rfl rfl ?_
                refine tl_callSi (pc := 135) k_X3_afterFirstDigit gw_363 (c_X3_afterFirstDigit T _) rfl rfl (Nat.le_of_ble_eq_true rfl) (Nat.le_of_ble_eq_true rfl) dX3_expectedAfter_135 (fun x5 => ?_)
                exact tl_iret (pc := 138) dX3_expectedAfter_138
            · refine tl_if (fun cs15_5 => ?_) (fun cs15_5 => ?_)
              · refine tl_tableIn (pc := 15) (tgt := 139) (off := 124) (5 : Int32) cs15_5 dX3_expectedAfter_15 (by decide) (by decide) (by decide) rfl ?_
                refine tl_iload_n (pc := 139) (i := 1) dX3_expectedAfter_139 rfl rfl ?_
                refine tl_callSi (pc := 140) k_X3_afterFirstDigit gw_363 (c_X3_afterFirstDigit T _) rfl rfl (Nat.le_of_ble_eq_true rfl) (Nat.le_of_ble_eq_true rfl) dX3_expectedAfter_140 (fun x6 => ?_)
                exact tl_iret (pc := 143) dX3_expectedAfter_143
              · refine tl_if (fun cs15_6 => ?_) (fun cs15_6 => ?_)
                · refine tl_tableIn (pc := 15) (tgt := 144) (off := 129) (6 : Int32) cs15_6 dX3_expectedAfter_15 (by decide) (by decide) (by decide) rfl ?_
                  refine tl_iload_n (pc := 144) (i := 1) dX3_expectedAfter_144 rfl rfl ?_
                  refine tl_bipush (pc := 145) (v := 49) dX3_expectedAfter_145 (by decide) ?_
                  refine tl_icmp_ne (pc := 147) (tgt := 155) dX3_expectedAfter_147 rfl ?_ ?_
                  · refine tl_bipush (pc := 150) (v := 9) dX3_expectedAfter_150 (by decide) ?_
                    refine tl_goto (pc := 152) (tgt := 172) dX3_expectedAfter_152 rfl ?_
                    exact tl_iret (pc := 172) dX3_expectedAfter_172
                  · refine tl_iload_n (pc := 155) (i := 1) dX3_expectedAfter_155 rfl rfl ?_
                    refine tl_bipush (pc := 156) (v := 50) dX3_expectedAfter_156 (by decide) ?_
                    refine tl_bipush (pc := 158) (v := 57) dX3_expectedAfter_158 (by decide) ?_
                    refine tl_callSNi (pc := 160) k_X5_isBetween nm_X3_36 (c_X5_isBetween T _ _ _) (nx_X5_isBetween _ _ _) rfl rfl (Nat.le_of_ble_eq_true rfl) (Nat.le_of_ble_eq_true rfl) dX3_expectedAfter_160 (fun x7 => ?_)
                    refine tl_if_eq (pc := 163) (tgt := 171) dX3_expectedAfter_163 rfl ?_ ?_
                    · refine tl_iconst (pc := 171) (v := -1) dX3_expectedAfter_171 (by decide) ?_
                      exact tl_iret (pc := 172) dX3_expectedAfter_172
                    · refine tl_bipush (pc := 166) (v := 10) dX3_expectedAfter_166 (by decide) ?_
                      refine tl_goto (pc := 168) (tgt := 172) dX3_expectedAfter_168 rfl ?_
                      exact tl_iret (pc := 172) dX3_expectedAfter_172
                · refine tl_if (fun cs15_7 => ?_) (fun cs15_7 => ?_)
                  · refine tl_tableIn (pc := 15) (tgt := 173) (off := 158) (7 : Int32) cs15_7 dX3_expectedAfter_15 (by decide) (by decide) (by decide) rfl ?_
                    refine tl_iload_n (pc := 173) (i := 1) dX3_expectedAfter_173 rfl rfl ?_
                    refine tl_bipush (pc := 174) (v := 48) dX3_expectedAfter_174 (by decide) ?_
                    refine tl_bipush (pc := 176) (v := 57) dX3_expectedAfter_176 (by decide) ?_
                    refine tl_callSNi (pc := 178) k_X5_isBetween nm_X3_36 (c_X5_isBetween T _ _ _) (nx_X5_isBetween _ _ _) rfl rfl (Nat.le_of_ble_eq_true rfl) (Nat.le_of_ble_eq_true rfl) dX3_expectedAfter_178 (fun x8 => ?_)
                    refine tl_if_eq (pc := 181) (tgt := 189) dX3_expectedAfter_181 rfl ?_ ?_
                    · refine tl_iconst (pc := 189) (v := -1) dX3_expectedAfter_189 (by decide) ?_
                      exact tl_iret (pc := 190) dX3_expectedAfter_190
                    · refine tl_bipush (pc := 184) (v := 8) dX3_expectedAfter_184 (by decide) ?_
                      refine tl_goto (pc := 186) (tgt := 190) dX3_expectedAfter_186 rfl ?_
                      exact tl_iret (pc := 190) dX3_expectedAfter_190
                  · refine tl_if (fun cs15_8 => ?_) (fun cs15_8 => ?_)
                    · refine tl_tableIn (pc := 15) (tgt := 191) (off := 176) (8 : Int32) cs15_8 dX3_expectedAfter_15 (by decide) (by decide) (by decide) rfl ?_
                      refine tl_iload_n (pc := 191) (i := 1) dX3_expectedAfter_191 rfl rfl ?_
                      refine tl_bipush (pc := 192) (v := 48) dX3_expectedAfter_192 (by decide) ?_
                      refine tl_bipush (pc := 194) (v := 57) dX3_expectedAfter_194 (by decide) ?_
                      refine tl_callSNi (pc := 196) k_X5_isBetween nm_X3_36 (c_X5_isBetween T _ _ _) (nx_X5_isBetween _ _ _) rfl rfl (Nat.le_of_ble_eq_true rfl) (Nat.le_of_ble_eq_true rfl) dX3_expectedAfter_196 (fun x9 => ?_)
                      refine tl_if_eq (pc := 199) (tgt := 207) dX3_expectedAfter_199 rfl ?_ ?_
                      · refine tl_iconst (pc := 207) (v := -1) dX3_expectedAfter_207 (by decide) ?_
                        exact tl_iret (pc := 208) dX3_expectedAfter_208
                      · refine tl_bipush (pc := 202) (v := 10) dX3_expectedAfter_202 (by decide) ?_
                        refine tl_goto (pc := 204) (tgt := 208) dX3_expectedAfter_204 rfl ?_
                        exact tl_iret (pc := 208) dX3_expectedAfter_208
                    · refine tl_if (fun cs15_9 => ?_) (fun cs15_9 => ?_)
                      · refine tl_tableIn (pc := 15) (tgt := 209) (off := 194) (9 : Int32) cs15_9 dX3_expectedAfter_15 (by decide) (by decide) (by decide) rfl ?_
                        refine tl_iload_n (pc := 209) (i := 1) dX3_expectedAfter_209 rfl rfl ?_
                        refine tl_bipush (pc := 210) (v := 48) dX3_expectedAfter_210 (by decide) ?_
                        refine tl_bipush (pc := 212) (v := 50) dX3_expectedAfter_212 (by decide) ?_
                        refine tl_callSNi (pc := 214) k_X5_isBetween nm_X3_36 (c_X5_isBetween T _ _ _) (nx_X5_isBetween _ _ _) rfl rfl (Nat.le_of_ble_eq_true rfl) (Nat.le_of_ble_eq_true rfl) dX3_expectedAfter_214 (fun x10 => ?_)
                        refine tl_if_eq (pc := 217) (tgt := 225) dX3_expectedAfter_217 rfl ?_ ?_
                        · refine tl_iconst (pc := 225) (v := -1) dX3_expectedAfter_225 (by decide) ?_
                          exact tl_iret (pc := 226) dX3_expectedAfter_226
                        · refine tl_bipush (pc := 220) (v := 10) dX3_expectedAfter_220 (by decide) ?_
                          refine tl_goto (pc := 222) (tgt := 226) dX3_expectedAfter_222 rfl ?_
                          exact tl_iret (pc := 226) dX3_expectedAfter_226
                      · refine tl_tableOut (pc := 15) (tgt := 227) dX3_expectedAfter_15 (by have n0 := lv_neT cs15_0 (a := 0) (by decide); have n1 := lv_neT cs15_1 (a := 1) (by decide); have n2 := lv_neT cs15_2 (a := 2) (by decide); have n3 := lv_neT cs15_3 (a := 3) (by decide); have n4 := lv_neT cs15_4 (a := 4) (by decide); have n5 := lv_neT cs15_5 (a := 5) (by decide); have n6 := lv_neT cs15_6 (a := 6) (by decide); have n7 := lv_neT cs15_7 (a := 7) (by decide); have n8 := lv_neT cs15_8 (a := 8) (by decide); have n9 := lv_neT cs15_9 (a := 9) (by decide); omega) rfl ?_
                        refine tl_iconst (pc := 227) (v := -1) dX3_expectedAfter_227 (by decide) ?_
                        exact tl_iret (pc := 228) dX3_expectedAfter_228
  · refine tl_icmp_lt (pc := 3) (tgt := 14) dX3_expectedAfter_3 rfl ?_ ?_
    · exact tl_sub (hk1 ()) (sub_s (sub_s sub_e))
    · refine tl_iload_n (pc := 6) (i := 1) dX3_expectedAfter_6 rfl rfl ?_
      refine tl_bipush (pc := 7) (v := 59) dX3_expectedAfter_7 (by decide) ?_
      refine tl_icmp_ne (pc := 9) (tgt := 14) dX3_expectedAfter_9 rfl ?_ ?_
      · refine tl_iconst (pc := 12) (v := 0) dX3_expectedAfter_12 (by decide) ?_
        exact tl_iret (pc := 13) dX3_expectedAfter_13
      · exact tl_sub (hk1 ()) (sub_s (sub_s sub_e))
abbrev TL_X3_firstFault (T : Tb) (pc : Nat) (lo : List (Option Value)) (st : List Value) (X : Dm Int32) : Prop := TL yX3_firstFault cX3_firstFault 3 (some .int) 3 iI T pc lo st X
set_option maxRecDepth 100000 in
theorem lp_X3_firstFault_4 (T : Tb)   (hb : isText T)    : ∀ (n : Nat) (x1 : Int32) (x2 : Int32), TL_X3_firstFault T 4 [some (.ref 165), some (.int x1), some (.int x2)] [] (L_X3_firstFault_4  n x1 x2 ) := by
  intro n
  induction n with
  | zero => intros; exact tl_fail
  | succ n ih =>
    intro x1 x2
    rw [L_X3_firstFault_4]
    refine tl_iload_n (pc := 4) (i := 2) dX3_firstFault_4 rfl rfl ?_
    refine tl_aload_n (pc := 5) (i := 0) dX3_firstFault_5 rfl rfl ?_
    refine tl_getI (pc := 6) fl_X3_20 hb.1 rfl dX3_firstFault_6 (fun x3 => ?_)
    refine tl_icmp_ge (pc := 9) (tgt := 38) dX3_firstFault_9 rfl ?_ ?_
    · refine tl_aload_n (pc := 38) (i := 0) dX3_firstFault_38 rfl rfl ?_
      refine tl_getI (pc := 39) fl_X3_20 hb.1 rfl dX3_firstFault_39 (fun x4 => ?_)
      exact tl_iret (pc := 42) dX3_firstFault_42
    · refine tl_iload_n (pc := 12) (i := 1) dX3_firstFault_12 rfl rfl ?_
      refine tl_aload_n (pc := 13) (i := 0) dX3_firstFault_13 rfl rfl ?_
      refine tl_getR (pc := 14) (r := 166) fl_X3_14 hb.1 rfl dX3_firstFault_14 ?_
      refine tl_iload_n (pc := 17) (i := 2) dX3_firstFault_17 rfl rfl ?_
      refine tl_callVi (pc := 18) k_X2_at gw_355 hb.2.1 ⟨_, _, rfl⟩ (c_X2_at T _ _ _ hb.2) rfl rfl (Nat.le_of_ble_eq_true rfl) (Nat.le_of_ble_eq_true rfl) dX3_firstFault_18 (fun x5 => ?_)
      refine tl_callSi (pc := 21) k_X3_expectedAfter gw_356 (c_X3_expectedAfter T _ _) rfl rfl (Nat.le_of_ble_eq_true rfl) (Nat.le_of_ble_eq_true rfl) dX3_firstFault_21 (fun x6 => ?_)
      refine tl_istore_n (pc := 24) (i := 1) (lo' := [some (.ref 165), some (.int x6), some (.int x2)]) dX3_firstFault_24 rfl (by decide) rfl ?_
      refine tl_iload_n (pc := 25) (i := 1) dX3_firstFault_25 rfl rfl ?_
      refine tl_iconst (pc := 26) (v := -1) dX3_firstFault_26 (by decide) ?_
      refine tl_icmp_ne (pc := 27) (tgt := 32) dX3_firstFault_27 rfl ?_ ?_
      · refine tl_iload_n (pc := 30) (i := 2) dX3_firstFault_30 rfl rfl ?_
        exact tl_iret (pc := 31) dX3_firstFault_31
      · refine tl_iinc (pc := 32) (i := 2) (v := x2 + (1 : Int32)) (lo' := [some (.ref 165), some (.int x6), some (.int (x2 + (1 : Int32)))]) dX3_firstFault_32 rfl rfl (by decide) rfl ?_
        refine tl_goto (pc := 35) (tgt := 4) dX3_firstFault_35 rfl ?_
        exact tl_sub (ih _ _) (sub_s (sub_s (sub_s sub_e)))
set_option maxRecDepth 100000 in
theorem c_X3_firstFault (T : Tb)  (hb : isText T) : CT (.code yX3_firstFault cX3_firstFault 3 (some .int)) yX3_firstFault 3 iI T [.ref 165] (F_X3_firstFault) := by
  refine ct_of (lo := [some (.ref 165), none, none]) (j := 2) k_X3_firstFault.1 rfl (fun _ => Nat.le_of_ble_eq_true rfl) ?_
  show TL_X3_firstFault T 0 _ _ _
  rw [F_X3_firstFault]
  refine tl_iconst (pc := 0) (v := 0) dX3_firstFault_0 (by decide) ?_
  refine tl_istore_n (pc := 1) (i := 1) (lo' := [some (.ref 165), some (.int (0 : Int32)), none]) dX3_firstFault_1 rfl (by decide) rfl ?_
  refine tl_iconst (pc := 2) (v := 0) dX3_firstFault_2 (by decide) ?_
  refine tl_istore_n (pc := 3) (i := 2) (lo' := [some (.ref 165), some (.int (0 : Int32)), some (.int (0 : Int32))]) dX3_firstFault_3 rfl (by decide) rfl ?_
  refine tl_sub (lp_X3_firstFault_4 T  hb    FU _ _) (sub_s (sub_s (sub_s sub_e)))
abbrev TL_X3_isOrders (T : Tb) (pc : Nat) (lo : List (Option Value)) (st : List Value) (X : Dm Int32) : Prop := TL yX3_isOrders cX3_isOrders 3 (some .boolean) 3 iI T pc lo st X
set_option maxRecDepth 100000 in
theorem lp_X3_isOrders_4 (T : Tb)   (hb : isText T)  (k1 : Int32 → Dm Int32) (hk1 : ∀ (y4_0 : Int32), TL_X3_isOrders T 36 [none, some (.int y4_0), none] [] (k1 y4_0)) : ∀ (n : Nat) (x1 : Int32) (x2 : Int32), TL_X3_isOrders T 4 [some (.ref 165), some (.int x1), some (.int x2)] [] (L_X3_isOrders_4  n x1 x2 k1) := by
  intro n
  induction n with
  | zero => intros; exact tl_fail
  | succ n ih =>
    intro x1 x2
    rw [L_X3_isOrders_4]
    refine tl_iload_n (pc := 4) (i := 2) dX3_isOrders_4 rfl rfl ?_
    refine tl_aload_n (pc := 5) (i := 0) dX3_isOrders_5 rfl rfl ?_
    refine tl_getI (pc := 6) fl_X3_20 hb.1 rfl dX3_isOrders_6 (fun x3 => ?_)
    refine tl_icmp_ge (pc := 9) (tgt := 36) dX3_isOrders_9 rfl ?_ ?_
    · exact tl_sub (hk1 _) (sub_n (sub_s (sub_n sub_e)))
    · refine tl_iload_n (pc := 12) (i := 1) dX3_isOrders_12 rfl rfl ?_
      refine tl_iconst (pc := 13) (v := -1) dX3_isOrders_13 (by decide) ?_
      refine tl_icmp_eq (pc := 14) (tgt := 36) dX3_isOrders_14 rfl ?_ ?_
      · exact tl_sub (hk1 _) (sub_n (sub_s (sub_n sub_e)))
      · refine tl_iload_n (pc := 17) (i := 1) dX3_isOrders_17 rfl rfl ?_
        refine tl_aload_n (pc := 18) (i := 0) dX3_isOrders_18 rfl rfl ?_
        refine tl_getR (pc := 19) (r := 166) fl_X3_14 hb.1 rfl dX3_isOrders_19 ?_
        refine tl_iload_n (pc := 22) (i := 2) dX3_isOrders_22 rfl rfl ?_
        refine tl_callVi (pc := 23) k_X2_at gw_355 hb.2.1 ⟨_, _, rfl⟩ (c_X2_at T _ _ _ hb.2) rfl rfl (Nat.le_of_ble_eq_true rfl) (Nat.le_of_ble_eq_true rfl) dX3_isOrders_23 (fun x4 => ?_)
        refine tl_callSi (pc := 26) k_X3_expectedAfter gw_356 (c_X3_expectedAfter T _ _) rfl rfl (Nat.le_of_ble_eq_true rfl) (Nat.le_of_ble_eq_true rfl) dX3_isOrders_26 (fun x5 => ?_)
        refine tl_istore_n (pc := 29) (i := 1) (lo' := [some (.ref 165), some (.int x5), some (.int x2)]) dX3_isOrders_29 rfl (by decide) rfl ?_
        refine tl_iinc (pc := 30) (i := 2) (v := x2 + (1 : Int32)) (lo' := [some (.ref 165), some (.int x5), some (.int (x2 + (1 : Int32)))]) dX3_isOrders_30 rfl rfl (by decide) rfl ?_
        refine tl_goto (pc := 33) (tgt := 4) dX3_isOrders_33 rfl ?_
        exact tl_sub (ih _ _) (sub_s (sub_s (sub_s sub_e)))
set_option maxRecDepth 100000 in
theorem c_X3_isOrders (T : Tb)  (hb : isText T) : CT (.code yX3_isOrders cX3_isOrders 3 (some .boolean)) yX3_isOrders 3 iI T [.ref 165] (F_X3_isOrders) := by
  refine ct_of (lo := [some (.ref 165), none, none]) (j := 2) k_X3_isOrders.1 rfl (fun _ => Nat.le_of_ble_eq_true rfl) ?_
  show TL_X3_isOrders T 0 _ _ _
  rw [F_X3_isOrders]
  refine tl_iconst (pc := 0) (v := 0) dX3_isOrders_0 (by decide) ?_
  refine tl_istore_n (pc := 1) (i := 1) (lo' := [some (.ref 165), some (.int (0 : Int32)), none]) dX3_isOrders_1 rfl (by decide) rfl ?_
  refine tl_iconst (pc := 2) (v := 0) dX3_isOrders_2 (by decide) ?_
  refine tl_istore_n (pc := 3) (i := 2) (lo' := [some (.ref 165), some (.int (0 : Int32)), some (.int (0 : Int32))]) dX3_isOrders_3 rfl (by decide) rfl ?_
  refine tl_sub (lp_X3_isOrders_4 T  hb  _ (fun x6 => ?_) FU _ _) (sub_s (sub_s (sub_s sub_e)))
  refine tl_iload_n (pc := 36) (i := 1) dX3_isOrders_36 rfl rfl ?_
  refine tl_bipush (pc := 37) (v := 7) dX3_isOrders_37 (by decide) ?_
  refine tl_icmp_lt (pc := 39) (tgt := 46) dX3_isOrders_39 rfl ?_ ?_
  · refine tl_iconst (pc := 46) (v := 0) dX3_isOrders_46 (by decide) ?_
    exact tl_zret (pc := 47) dX3_isOrders_47
  · refine tl_iconst (pc := 42) (v := 1) dX3_isOrders_42 (by decide) ?_
    refine tl_goto (pc := 43) (tgt := 47) dX3_isOrders_43 rfl ?_
    exact tl_zret (pc := 47) dX3_isOrders_47
abbrev TL_X3_isOrderEnd (T : Tb) (pc : Nat) (lo : List (Option Value)) (st : List Value) (X : Dm Int32) : Prop := TL yX3_isOrderEnd cX3_isOrderEnd 2 (some .boolean) 1 iI T pc lo st X
set_option maxRecDepth 100000 in
theorem c_X3_isOrderEnd (T : Tb) (p0 : Int32) (hb : isText T) : CT (.code yX3_isOrderEnd cX3_isOrderEnd 2 (some .boolean)) yX3_isOrderEnd 1 iI T [.ref 165, .int p0] (F_X3_isOrderEnd p0) := by
  refine ct_of (lo := [some (.ref 165), some (.int p0)]) (j := 0) k_X3_isOrderEnd.1 rfl (fun _ => Nat.le_of_ble_eq_true rfl) ?_
  show TL_X3_isOrderEnd T 0 _ _ _
  rw [F_X3_isOrderEnd]
  refine tl_iload_n (pc := 0) (i := 1) dX3_isOrderEnd_0 rfl rfl ?_
  refine tl_aload_n (pc := 1) (i := 0) dX3_isOrderEnd_1 rfl rfl ?_
  refine tl_getI (pc := 2) fl_X3_20 hb.1 rfl dX3_isOrderEnd_2 (fun x1 => ?_)
  refine tl_icmp_ge (pc := 5) (tgt := 21) dX3_isOrderEnd_5 rfl ?_ ?_
  · refine tl_iconst (pc := 21) (v := 1) dX3_isOrderEnd_21 (by decide) ?_
    refine tl_goto (pc := 22) (tgt := 26) dX3_isOrderEnd_22 rfl ?_
    exact tl_zret (pc := 26) dX3_isOrderEnd_26
  · refine tl_aload_n (pc := 8) (i := 0) dX3_isOrderEnd_8 rfl rfl ?_
    refine tl_getR (pc := 9) (r := 166) fl_X3_14 hb.1 rfl dX3_isOrderEnd_9 ?_
    refine tl_iload_n (pc := 12) (i := 1) dX3_isOrderEnd_12 rfl rfl ?_
    refine tl_callVi (pc := 13) k_X2_at gw_355 hb.2.1 ⟨_, _, rfl⟩ (c_X2_at T _ _ _ hb.2) rfl rfl (Nat.le_of_ble_eq_true rfl) (Nat.le_of_ble_eq_true rfl) dX3_isOrderEnd_13 (fun x2 => ?_)
    refine tl_bipush (pc := 16) (v := 59) dX3_isOrderEnd_16 (by decide) ?_
    refine tl_icmp_ne (pc := 18) (tgt := 25) dX3_isOrderEnd_18 rfl ?_ ?_
    · refine tl_iconst (pc := 21) (v := 1) dX3_isOrderEnd_21 (by decide) ?_
      refine tl_goto (pc := 22) (tgt := 26) dX3_isOrderEnd_22 rfl ?_
      exact tl_zret (pc := 26) dX3_isOrderEnd_26
    · refine tl_iconst (pc := 25) (v := 0) dX3_isOrderEnd_25 (by decide) ?_
      exact tl_zret (pc := 26) dX3_isOrderEnd_26
abbrev TL_X3_tableAt (T : Tb) (pc : Nat) (lo : List (Option Value)) (st : List Value) (X : Dm Int32) : Prop := TL yX3_tableAt cX3_tableAt 2 (some .int) 1 iI T pc lo st X
set_option maxRecDepth 100000 in
theorem c_X3_tableAt (T : Tb) (p0 : Int32) (hb : isText T) : CT (.code yX3_tableAt cX3_tableAt 2 (some .int)) yX3_tableAt 1 iI T [.ref 165, .int p0] (F_X3_tableAt p0) := by
  refine ct_of (lo := [some (.ref 165), some (.int p0)]) (j := 0) k_X3_tableAt.1 rfl (fun _ => Nat.le_of_ble_eq_true rfl) ?_
  show TL_X3_tableAt T 0 _ _ _
  rw [F_X3_tableAt]
  refine tl_aload_n (pc := 0) (i := 0) dX3_tableAt_0 rfl rfl ?_
  refine tl_getR (pc := 1) (r := 166) fl_X3_14 hb.1 rfl dX3_tableAt_1 ?_
  refine tl_iload_n (pc := 4) (i := 1) dX3_tableAt_4 rfl rfl ?_
  refine tl_callVi (pc := 5) k_X2_at gw_355 hb.2.1 ⟨_, _, rfl⟩ (c_X2_at T _ _ _ hb.2) rfl rfl (Nat.le_of_ble_eq_true rfl) (Nat.le_of_ble_eq_true rfl) dX3_tableAt_5 (fun x1 => ?_)
  refine tl_bipush (pc := 8) (v := 48) dX3_tableAt_8 (by decide) ?_
  refine tl_isub (pc := 10) dX3_tableAt_10 ?_
  exact tl_iret (pc := 11) dX3_tableAt_11
abbrev TL_X3_rowAt (T : Tb) (pc : Nat) (lo : List (Option Value)) (st : List Value) (X : Dm Int32) : Prop := TL yX3_rowAt cX3_rowAt 2 (some .int) 1 iI T pc lo st X
set_option maxRecDepth 100000 in
theorem c_X3_rowAt (T : Tb) (p0 : Int32) (hb : isText T) : CT (.code yX3_rowAt cX3_rowAt 2 (some .int)) yX3_rowAt 1 iI T [.ref 165, .int p0] (F_X3_rowAt p0) := by
  refine ct_of (lo := [some (.ref 165), some (.int p0)]) (j := 0) k_X3_rowAt.1 rfl (fun _ => Nat.le_of_ble_eq_true rfl) ?_
  show TL_X3_rowAt T 0 _ _ _
  rw [F_X3_rowAt]
  refine tl_aload_n (pc := 0) (i := 0) dX3_rowAt_0 rfl rfl ?_
  refine tl_getR (pc := 1) (r := 166) fl_X3_14 hb.1 rfl dX3_rowAt_1 ?_
  refine tl_iload_n (pc := 4) (i := 1) dX3_rowAt_4 rfl rfl ?_
  refine tl_iconst (pc := 5) (v := 2) dX3_rowAt_5 (by decide) ?_
  refine tl_iadd (pc := 6) dX3_rowAt_6 ?_
  refine tl_callVi (pc := 7) k_X2_at gw_355 hb.2.1 ⟨_, _, rfl⟩ (c_X2_at T _ _ _ hb.2) rfl rfl (Nat.le_of_ble_eq_true rfl) (Nat.le_of_ble_eq_true rfl) dX3_rowAt_7 (fun x1 => ?_)
  refine tl_bipush (pc := 10) (v := 49) dX3_rowAt_10 (by decide) ?_
  refine tl_isub (pc := 12) dX3_rowAt_12 ?_
  exact tl_iret (pc := 13) dX3_rowAt_13
abbrev TL_X3_columnAt (T : Tb) (pc : Nat) (lo : List (Option Value)) (st : List Value) (X : Dm Int32) : Prop := TL yX3_columnAt cX3_columnAt 2 (some .int) 1 iI T pc lo st X
set_option maxRecDepth 100000 in
theorem c_X3_columnAt (T : Tb) (p0 : Int32) (hb : isText T) : CT (.code yX3_columnAt cX3_columnAt 2 (some .int)) yX3_columnAt 1 iI T [.ref 165, .int p0] (F_X3_columnAt p0) := by
  refine ct_of (lo := [some (.ref 165), some (.int p0)]) (j := 0) k_X3_columnAt.1 rfl (fun _ => Nat.le_of_ble_eq_true rfl) ?_
  show TL_X3_columnAt T 0 _ _ _
  rw [F_X3_columnAt]
  refine tl_aload_n (pc := 0) (i := 0) dX3_columnAt_0 rfl rfl ?_
  refine tl_getR (pc := 1) (r := 166) fl_X3_14 hb.1 rfl dX3_columnAt_1 ?_
  refine tl_iload_n (pc := 4) (i := 1) dX3_columnAt_4 rfl rfl ?_
  refine tl_iconst (pc := 5) (v := 1) dX3_columnAt_5 (by decide) ?_
  refine tl_iadd (pc := 6) dX3_columnAt_6 ?_
  refine tl_callVi (pc := 7) k_X2_at gw_355 hb.2.1 ⟨_, _, rfl⟩ (c_X2_at T _ _ _ hb.2) rfl rfl (Nat.le_of_ble_eq_true rfl) (Nat.le_of_ble_eq_true rfl) dX3_columnAt_7 (fun x1 => ?_)
  refine tl_bipush (pc := 10) (v := 97) dX3_columnAt_10 (by decide) ?_
  refine tl_isub (pc := 12) dX3_columnAt_12 ?_
  exact tl_iret (pc := 13) dX3_columnAt_13
abbrev TL_X3_kindAt (T : Tb) (pc : Nat) (lo : List (Option Value)) (st : List Value) (X : Dm Int32) : Prop := TL yX3_kindAt cX3_kindAt 2 (some .int) 1 iI T pc lo st X
set_option maxRecDepth 100000 in
theorem c_X3_kindAt (T : Tb) (p0 : Int32) (hb : isText T) : CT (.code yX3_kindAt cX3_kindAt 2 (some .int)) yX3_kindAt 1 iI T [.ref 165, .int p0] (F_X3_kindAt p0) := by
  refine ct_of (lo := [some (.ref 165), some (.int p0)]) (j := 0) k_X3_kindAt.1 rfl (fun _ => Nat.le_of_ble_eq_true rfl) ?_
  show TL_X3_kindAt T 0 _ _ _
  rw [F_X3_kindAt]
  refine tl_aload_n (pc := 0) (i := 0) dX3_kindAt_0 rfl rfl ?_
  refine tl_getR (pc := 1) (r := 166) fl_X3_14 hb.1 rfl dX3_kindAt_1 ?_
  refine tl_iload_n (pc := 4) (i := 1) dX3_kindAt_4 rfl rfl ?_
  refine tl_iconst (pc := 5) (v := 3) dX3_kindAt_5 (by decide) ?_
  refine tl_iadd (pc := 6) dX3_kindAt_6 ?_
  refine tl_callVi (pc := 7) k_X2_at gw_355 hb.2.1 ⟨_, _, rfl⟩ (c_X2_at T _ _ _ hb.2) rfl rfl (Nat.le_of_ble_eq_true rfl) (Nat.le_of_ble_eq_true rfl) dX3_kindAt_7 (fun x1 => ?_)
  refine tl_if (fun cs10_0 => ?_) (fun cs10_0 => ?_)
  · refine tl_lookup (pc := 10) (tgt := 68) (off := 58) dX3_kindAt_10 (by decide) (by rw [cs10_0]; decide) rfl ?_
    refine tl_bipush (pc := 68) (v := 6) dX3_kindAt_68 (by decide) ?_
    exact tl_iret (pc := 70) dX3_kindAt_70
  · refine tl_if (fun cs10_1 => ?_) (fun cs10_1 => ?_)
    · refine tl_lookup (pc := 10) (tgt := 66) (off := 56) dX3_kindAt_10 (by decide) (by rw [cs10_1]; decide) rfl ?_
      refine tl_iconst (pc := 66) (v := 5) dX3_kindAt_66 (by decide) ?_
      exact tl_iret (pc := 67) dX3_kindAt_67
    · refine tl_if (fun cs10_2 => ?_) (fun cs10_2 => ?_)
      · refine tl_lookup (pc := 10) (tgt := 60) (off := 50) dX3_kindAt_10 (by decide) (by rw [cs10_2]; decide) rfl ?_
        refine tl_iconst (pc := 60) (v := 1) dX3_kindAt_60 (by decide) ?_
        exact tl_iret (pc := 61) dX3_kindAt_61
      · refine tl_if (fun cs10_3 => ?_) (fun cs10_3 => ?_)
        · refine tl_lookup (pc := 10) (tgt := 64) (off := 54) dX3_kindAt_10 (by decide) (by rw [cs10_3]; decide) rfl ?_
          refine tl_iconst (pc := 64) (v := 4) dX3_kindAt_64 (by decide) ?_
          exact tl_iret (pc := 65) dX3_kindAt_65
        · refine tl_if (fun cs10_4 => ?_) (fun cs10_4 => ?_)
          · refine tl_lookup (pc := 10) (tgt := 62) (off := 52) dX3_kindAt_10 (by decide) (by rw [cs10_4]; decide) rfl ?_
            refine tl_iconst (pc := 62) (v := 2) dX3_kindAt_62 (by decide) ?_
            exact tl_iret (pc := 63) dX3_kindAt_63
          · refine tl_lookup (pc := 10) (tgt := 71) (off := 61) dX3_kindAt_10 (by decide) (by rw [show (Op.lookupswitch.offset _ _ _ = _) from lv_osw cs10_0 (by decide)]; rw [show (Op.lookupswitch.offset _ _ _ = _) from lv_osw cs10_1 (by decide)]; rw [show (Op.lookupswitch.offset _ _ _ = _) from lv_osw cs10_2 (by decide)]; rw [show (Op.lookupswitch.offset _ _ _ = _) from lv_osw cs10_3 (by decide)]; rw [show (Op.lookupswitch.offset _ _ _ = _) from lv_osw cs10_4 (by decide)]; rfl) rfl ?_
            refine tl_iconst (pc := 71) (v := 0) dX3_kindAt_71 (by decide) ?_
            exact tl_iret (pc := 72) dX3_kindAt_72
abbrev TL_X3_numberAt (T : Tb) (pc : Nat) (lo : List (Option Value)) (st : List Value) (X : Dm Int32) : Prop := TL yX3_numberAt cX3_numberAt 5 (some .int) 1 iI T pc lo st X
set_option maxRecDepth 100000 in
theorem lp_X3_numberAt_7 (T : Tb) (p0 : Int32) (p1 : Int32)  (hb : isText T)  (k1 : Int32 → Dm Int32) (hk1 : ∀ (y7_0 : Int32), TL_X3_numberAt T 51 [some (.ref 165), some (.int p0), none, some (.int y7_0), none] [] (k1 y7_0)) : ∀ (n : Nat) (x2 : Int32) (x3 : Int32), TL_X3_numberAt T 7 [some (.ref 165), some (.int p0), some (.int p1), some (.int x2), some (.int x3)] [] (L_X3_numberAt_7 p1 n x2 x3 k1) := by
  intro n
  induction n with
  | zero => intros; exact tl_fail
  | succ n ih =>
    intro x2 x3
    rw [L_X3_numberAt_7]
    refine tl_iload (pc := 7) (i := 4) dX3_numberAt_7 rfl ?_
    refine tl_iload_n (pc := 9) (i := 2) dX3_numberAt_9 rfl rfl ?_
    refine tl_icmp_ge (pc := 10) (tgt := 51) dX3_numberAt_10 rfl ?_ ?_
    · exact tl_sub (hk1 _) (sub_s (sub_s (sub_n (sub_s (sub_n sub_e)))))
    · refine tl_aload_n (pc := 13) (i := 0) dX3_numberAt_13 rfl rfl ?_
      refine tl_getR (pc := 14) (r := 166) fl_X3_14 hb.1 rfl dX3_numberAt_14 ?_
      refine tl_iload (pc := 17) (i := 4) dX3_numberAt_17 rfl ?_
      refine tl_callVi (pc := 19) k_X2_at gw_355 hb.2.1 ⟨_, _, rfl⟩ (c_X2_at T _ _ _ hb.2) rfl rfl (Nat.le_of_ble_eq_true rfl) (Nat.le_of_ble_eq_true rfl) dX3_numberAt_19 (fun x4 => ?_)
      refine tl_bipush (pc := 22) (v := 45) dX3_numberAt_22 (by decide) ?_
      refine tl_j (fun (k : Int32 → Dm Int32) => ∀ (x5 : Int32), TL_X3_numberAt T 45 [some (.ref 165), some (.int p0), some (.int p1), some (.int x5), some (.int x3)] [] (k x5)) (fun x5 => ?_) (fun k2 hk2 => ?_)
      · refine tl_iinc (pc := 45) (i := 4) (v := x3 + (1 : Int32)) (lo' := [some (.ref 165), some (.int p0), some (.int p1), some (.int x5), some (.int (x3 + (1 : Int32)))]) dX3_numberAt_45 rfl rfl (by decide) rfl ?_
        refine tl_goto (pc := 48) (tgt := 7) dX3_numberAt_48 rfl ?_
        exact tl_sub (ih _ _) (sub_s (sub_s (sub_s (sub_s (sub_s sub_e)))))
      · refine tl_icmp_eq (pc := 24) (tgt := 45) dX3_numberAt_24 rfl ?_ ?_
        · exact tl_sub (hk2 _) (sub_s (sub_s (sub_s (sub_s (sub_s sub_e)))))
        · refine tl_iload_n (pc := 27) (i := 3) dX3_numberAt_27 rfl rfl ?_
          refine tl_bipush (pc := 28) (v := 10) dX3_numberAt_28 (by decide) ?_
          refine tl_imul (pc := 30) dX3_numberAt_30 ?_
          refine tl_aload_n (pc := 31) (i := 0) dX3_numberAt_31 rfl rfl ?_
          refine tl_getR (pc := 32) (r := 166) fl_X3_14 hb.1 rfl dX3_numberAt_32 ?_
          refine tl_iload (pc := 35) (i := 4) dX3_numberAt_35 rfl ?_
          refine tl_callVi (pc := 37) k_X2_at gw_355 hb.2.1 ⟨_, _, rfl⟩ (c_X2_at T _ _ _ hb.2) rfl rfl (Nat.le_of_ble_eq_true rfl) (Nat.le_of_ble_eq_true rfl) dX3_numberAt_37 (fun x6 => ?_)
          refine tl_iadd (pc := 40) dX3_numberAt_40 ?_
          refine tl_bipush (pc := 41) (v := 48) dX3_numberAt_41 (by decide) ?_
          refine tl_isub (pc := 43) dX3_numberAt_43 ?_
          refine tl_bI (fun x7 => ?_)
          refine tl_istore_n (pc := 44) (i := 3) (lo' := [some (.ref 165), some (.int p0), some (.int p1), some (.int x7), some (.int x3)]) dX3_numberAt_44 rfl (by decide) rfl ?_
          exact tl_sub (hk2 _) (sub_s (sub_s (sub_s (sub_s (sub_s sub_e)))))
set_option maxRecDepth 100000 in
theorem c_X3_numberAt (T : Tb) (p0 : Int32) (p1 : Int32) (hb : isText T) : CT (.code yX3_numberAt cX3_numberAt 5 (some .int)) yX3_numberAt 1 iI T [.ref 165, .int p0, .int p1] (F_X3_numberAt p0 p1) := by
  refine ct_of (lo := [some (.ref 165), some (.int p0), some (.int p1), none, none]) (j := 2) k_X3_numberAt.1 rfl (fun _ => Nat.le_of_ble_eq_true rfl) ?_
  show TL_X3_numberAt T 0 _ _ _
  rw [F_X3_numberAt]
  refine tl_iconst (pc := 0) (v := 0) dX3_numberAt_0 (by decide) ?_
  refine tl_istore_n (pc := 1) (i := 3) (lo' := [some (.ref 165), some (.int p0), some (.int p1), some (.int (0 : Int32)), none]) dX3_numberAt_1 rfl (by decide) rfl ?_
  refine tl_iload_n (pc := 2) (i := 1) dX3_numberAt_2 rfl rfl ?_
  refine tl_iconst (pc := 3) (v := 4) dX3_numberAt_3 (by decide) ?_
  refine tl_iadd (pc := 4) dX3_numberAt_4 ?_
  refine tl_bI (fun x1 => ?_)
  refine tl_istore (pc := 5) (i := 4) (lo' := [some (.ref 165), some (.int p0), some (.int p1), some (.int (0 : Int32)), some (.int x1)]) dX3_numberAt_5 (by decide) rfl ?_
  refine tl_sub (lp_X3_numberAt_7 T p0 p1 hb  _ (fun x8 => ?_) FU _ _) (sub_s (sub_s (sub_s (sub_s (sub_s sub_e)))))
  refine tl_aload_n (pc := 51) (i := 0) dX3_numberAt_51 rfl rfl ?_
  refine tl_getR (pc := 52) (r := 166) fl_X3_14 hb.1 rfl dX3_numberAt_52 ?_
  refine tl_iload_n (pc := 55) (i := 1) dX3_numberAt_55 rfl rfl ?_
  refine tl_iconst (pc := 56) (v := 4) dX3_numberAt_56 (by decide) ?_
  refine tl_iadd (pc := 57) dX3_numberAt_57 ?_
  refine tl_callVi (pc := 58) k_X2_at gw_355 hb.2.1 ⟨_, _, rfl⟩ (c_X2_at T _ _ _ hb.2) rfl rfl (Nat.le_of_ble_eq_true rfl) (Nat.le_of_ble_eq_true rfl) dX3_numberAt_58 (fun x9 => ?_)
  refine tl_bipush (pc := 61) (v := 45) dX3_numberAt_61 (by decide) ?_
  refine tl_icmp_ne (pc := 63) (tgt := 71) dX3_numberAt_63 rfl ?_ ?_
  · refine tl_iload_n (pc := 66) (i := 3) dX3_numberAt_66 rfl rfl ?_
    refine tl_ineg (pc := 67) dX3_numberAt_67 ?_
    refine tl_goto (pc := 68) (tgt := 72) dX3_numberAt_68 rfl ?_
    exact tl_iret (pc := 72) dX3_numberAt_72
  · refine tl_iload_n (pc := 71) (i := 3) dX3_numberAt_71 rfl rfl ?_
    exact tl_iret (pc := 72) dX3_numberAt_72
abbrev TL_X4_countCells (T : Tb) (pc : Nat) (lo : List (Option Value)) (st : List Value) (X : Dm Int32) : Prop := TL yX4_countCells cX4_countCells 3 (some .int) 2 iI T pc lo st X
set_option maxRecDepth 100000 in
theorem lp_X4_countCells_4 (T : Tb) (b : Nat)  (hb : isSheet T b)    : ∀ (n : Nat) (x1 : Int32) (x2 : Int32), TL_X4_countCells T 4 [some (.ref b), some (.int x1), some (.int x2)] [] (L_X4_countCells_4 b n x1 x2 ) := by
  intro n
  induction n with
  | zero => intros; exact tl_fail
  | succ n ih =>
    intro x1 x2
    rw [L_X4_countCells_4]
    refine tl_iload_n (pc := 4) (i := 2) dX4_countCells_4 rfl rfl ?_
    refine tl_aload_n (pc := 5) (i := 0) dX4_countCells_5 rfl rfl ?_
    refine tl_callVi (pc := 6) k_X4_squaresEnd gw_186 hb.1 ⟨_, _, rfl⟩ (c_X4_squaresEnd T _ hb) rfl rfl (Nat.le_of_ble_eq_true rfl) (Nat.le_of_ble_eq_true rfl) dX4_countCells_6 (fun x3 => ?_)
    refine tl_icmp_ge (pc := 9) (tgt := 34) dX4_countCells_9 rfl ?_ ?_
    · refine tl_iload_n (pc := 34) (i := 1) dX4_countCells_34 rfl rfl ?_
      exact tl_iret (pc := 35) dX4_countCells_35
    · refine tl_iload_n (pc := 12) (i := 1) dX4_countCells_12 rfl rfl ?_
      refine tl_aload_n (pc := 13) (i := 0) dX4_countCells_13 rfl rfl ?_
      refine tl_iload_n (pc := 14) (i := 2) dX4_countCells_14 rfl rfl ?_
      refine tl_callVi (pc := 15) k_X4_isCell gw_374 hb.1 ⟨_, _, rfl⟩ (c_X4_isCell T _ _ hb) rfl rfl (Nat.le_of_ble_eq_true rfl) (Nat.le_of_ble_eq_true rfl) dX4_countCells_15 (fun x4 => ?_)
      refine tl_j (fun (k : Int32 → Dm Int32) => ∀ (x5 : Int32), TL_X4_countCells T 26 [some (.ref b), none, some (.int x2)] [.int x5, .int x1] (k x5)) (fun x5 => ?_) (fun k1 hk1 => ?_)
      · refine tl_iadd (pc := 26) dX4_countCells_26 ?_
        refine tl_bI (fun x6 => ?_)
        refine tl_istore_n (pc := 27) (i := 1) (lo' := [some (.ref b), some (.int x6), some (.int x2)]) dX4_countCells_27 rfl (by decide) rfl ?_
        refine tl_iinc (pc := 28) (i := 2) (v := x2 + (1 : Int32)) (lo' := [some (.ref b), some (.int x6), some (.int (x2 + (1 : Int32)))]) dX4_countCells_28 rfl rfl (by decide) rfl ?_
        refine tl_goto (pc := 31) (tgt := 4) dX4_countCells_31 rfl ?_
        exact tl_sub (ih _ _) (sub_s (sub_s (sub_s sub_e)))
      · refine tl_if_eq (pc := 18) (tgt := 25) dX4_countCells_18 rfl ?_ ?_
        · refine tl_iconst (pc := 25) (v := 0) dX4_countCells_25 (by decide) ?_
          exact tl_sub (hk1 _) (sub_s (sub_n (sub_s sub_e)))
        · refine tl_iconst (pc := 21) (v := 1) dX4_countCells_21 (by decide) ?_
          refine tl_goto (pc := 22) (tgt := 26) dX4_countCells_22 rfl ?_
          exact tl_sub (hk1 _) (sub_s (sub_n (sub_s sub_e)))
set_option maxRecDepth 100000 in
theorem c_X4_countCells (T : Tb) (b : Nat) (hb : isSheet T b) : CT (.code yX4_countCells cX4_countCells 3 (some .int)) yX4_countCells 2 iI T [.ref b] (F_X4_countCells b) := by
  refine ct_of (lo := [some (.ref b), none, none]) (j := 2) k_X4_countCells.1 rfl (fun _ => Nat.le_of_ble_eq_true rfl) ?_
  show TL_X4_countCells T 0 _ _ _
  rw [F_X4_countCells]
  refine tl_iconst (pc := 0) (v := 0) dX4_countCells_0 (by decide) ?_
  refine tl_istore_n (pc := 1) (i := 1) (lo' := [some (.ref b), some (.int (0 : Int32)), none]) dX4_countCells_1 rfl (by decide) rfl ?_
  refine tl_iconst (pc := 2) (v := 0) dX4_countCells_2 (by decide) ?_
  refine tl_istore_n (pc := 3) (i := 2) (lo' := [some (.ref b), some (.int (0 : Int32)), some (.int (0 : Int32))]) dX4_countCells_3 rfl (by decide) rfl ?_
  refine tl_sub (lp_X4_countCells_4 T b hb    FU _ _) (sub_s (sub_s (sub_s sub_e)))
abbrev TL_X4_countSquares (T : Tb) (pc : Nat) (lo : List (Option Value)) (st : List Value) (X : Dm Int32) : Prop := TL yX4_countSquares cX4_countSquares 3 (some .int) 2 iI T pc lo st X
set_option maxRecDepth 100000 in
theorem lp_X4_countSquares_4 (T : Tb) (b : Nat)  (hb : isSheet T b)    : ∀ (n : Nat) (x1 : Int32) (x2 : Int32), TL_X4_countSquares T 4 [some (.ref b), some (.int x1), some (.int x2)] [] (L_X4_countSquares_4 b n x1 x2 ) := by
  intro n
  induction n with
  | zero => intros; exact tl_fail
  | succ n ih =>
    intro x1 x2
    rw [L_X4_countSquares_4]
    refine tl_iload_n (pc := 4) (i := 2) dX4_countSquares_4 rfl rfl ?_
    refine tl_aload_n (pc := 5) (i := 0) dX4_countSquares_5 rfl rfl ?_
    refine tl_getI (pc := 6) fl_X4_42 hb.1 rfl dX4_countSquares_6 (fun x3 => ?_)
    refine tl_icmp_ge (pc := 9) (tgt := 34) dX4_countSquares_9 rfl ?_ ?_
    · refine tl_iload_n (pc := 34) (i := 1) dX4_countSquares_34 rfl rfl ?_
      exact tl_iret (pc := 35) dX4_countSquares_35
    · refine tl_iload_n (pc := 12) (i := 1) dX4_countSquares_12 rfl rfl ?_
      refine tl_aload_n (pc := 13) (i := 0) dX4_countSquares_13 rfl rfl ?_
      refine tl_iload_n (pc := 14) (i := 2) dX4_countSquares_14 rfl rfl ?_
      refine tl_iconst (pc := 15) (v := 1) dX4_countSquares_15 (by decide) ?_
      refine tl_callVi (pc := 16) k_X4_linesOf gw_476 hb.1 ⟨_, _, rfl⟩ (c_X4_linesOf T _ _ _ hb) rfl rfl (Nat.le_of_ble_eq_true rfl) (Nat.le_of_ble_eq_true rfl) dX4_countSquares_16 (fun x4 => ?_)
      refine tl_aload_n (pc := 19) (i := 0) dX4_countSquares_19 rfl rfl ?_
      refine tl_iload_n (pc := 20) (i := 2) dX4_countSquares_20 rfl rfl ?_
      refine tl_iconst (pc := 21) (v := 0) dX4_countSquares_21 (by decide) ?_
      refine tl_callVi (pc := 22) k_X4_linesOf gw_476 hb.1 ⟨_, _, rfl⟩ (c_X4_linesOf T _ _ _ hb) rfl rfl (Nat.le_of_ble_eq_true rfl) (Nat.le_of_ble_eq_true rfl) dX4_countSquares_22 (fun x5 => ?_)
      refine tl_imul (pc := 25) dX4_countSquares_25 ?_
      refine tl_iadd (pc := 26) dX4_countSquares_26 ?_
      refine tl_bI (fun x6 => ?_)
      refine tl_istore_n (pc := 27) (i := 1) (lo' := [some (.ref b), some (.int x6), some (.int x2)]) dX4_countSquares_27 rfl (by decide) rfl ?_
      refine tl_iinc (pc := 28) (i := 2) (v := x2 + (1 : Int32)) (lo' := [some (.ref b), some (.int x6), some (.int (x2 + (1 : Int32)))]) dX4_countSquares_28 rfl rfl (by decide) rfl ?_
      refine tl_goto (pc := 31) (tgt := 4) dX4_countSquares_31 rfl ?_
      exact tl_sub (ih _ _) (sub_s (sub_s (sub_s sub_e)))
set_option maxRecDepth 100000 in
theorem c_X4_countSquares (T : Tb) (b : Nat) (hb : isSheet T b) : CT (.code yX4_countSquares cX4_countSquares 3 (some .int)) yX4_countSquares 2 iI T [.ref b] (F_X4_countSquares b) := by
  refine ct_of (lo := [some (.ref b), none, none]) (j := 2) k_X4_countSquares.1 rfl (fun _ => Nat.le_of_ble_eq_true rfl) ?_
  show TL_X4_countSquares T 0 _ _ _
  rw [F_X4_countSquares]
  refine tl_iconst (pc := 0) (v := 0) dX4_countSquares_0 (by decide) ?_
  refine tl_istore_n (pc := 1) (i := 1) (lo' := [some (.ref b), some (.int (0 : Int32)), none]) dX4_countSquares_1 rfl (by decide) rfl ?_
  refine tl_iconst (pc := 2) (v := 0) dX4_countSquares_2 (by decide) ?_
  refine tl_istore_n (pc := 3) (i := 2) (lo' := [some (.ref b), some (.int (0 : Int32)), some (.int (0 : Int32))]) dX4_countSquares_3 rfl (by decide) rfl ?_
  refine tl_sub (lp_X4_countSquares_4 T b hb    FU _ _) (sub_s (sub_s (sub_s sub_e)))
abbrev TL_X4_countKind (T : Tb) (pc : Nat) (lo : List (Option Value)) (st : List Value) (X : Dm Int32) : Prop := TL yX4_countKind cX4_countKind 4 (some .int) 2 iI T pc lo st X
set_option maxRecDepth 100000 in
theorem lp_X4_countKind_4 (T : Tb) (b : Nat) (p0 : Int32)  (hb : isSheet T b)    : ∀ (n : Nat) (x1 : Int32) (x2 : Int32), TL_X4_countKind T 4 [some (.ref b), some (.int p0), some (.int x1), some (.int x2)] [] (L_X4_countKind_4 b p0 n x1 x2 ) := by
  intro n
  induction n with
  | zero => intros; exact tl_fail
  | succ n ih =>
    intro x1 x2
    rw [L_X4_countKind_4]
    refine tl_iload_n (pc := 4) (i := 3) dX4_countKind_4 rfl rfl ?_
    refine tl_aload_n (pc := 5) (i := 0) dX4_countKind_5 rfl rfl ?_
    refine tl_callVi (pc := 6) k_X4_squaresEnd gw_186 hb.1 ⟨_, _, rfl⟩ (c_X4_squaresEnd T _ hb) rfl rfl (Nat.le_of_ble_eq_true rfl) (Nat.le_of_ble_eq_true rfl) dX4_countKind_6 (fun x3 => ?_)
    refine tl_icmp_ge (pc := 9) (tgt := 46) dX4_countKind_9 rfl ?_ ?_
    · refine tl_iload_n (pc := 46) (i := 2) dX4_countKind_46 rfl rfl ?_
      exact tl_iret (pc := 47) dX4_countKind_47
    · refine tl_iload_n (pc := 12) (i := 2) dX4_countKind_12 rfl rfl ?_
      refine tl_aload_n (pc := 13) (i := 0) dX4_countKind_13 rfl rfl ?_
      refine tl_iload_n (pc := 14) (i := 3) dX4_countKind_14 rfl rfl ?_
      refine tl_callVi (pc := 15) k_X4_isCell gw_374 hb.1 ⟨_, _, rfl⟩ (c_X4_isCell T _ _ hb) rfl rfl (Nat.le_of_ble_eq_true rfl) (Nat.le_of_ble_eq_true rfl) dX4_countKind_15 (fun x4 => ?_)
      refine tl_j (fun (k : Int32 → Dm Int32) => ∀ (x5 : Int32), TL_X4_countKind T 38 [some (.ref b), some (.int p0), none, some (.int x2)] [.int x5, .int x1] (k x5)) (fun x5 => ?_) (fun k1 hk1 => ?_)
      · refine tl_iadd (pc := 38) dX4_countKind_38 ?_
        refine tl_bI (fun x6 => ?_)
        refine tl_istore_n (pc := 39) (i := 2) (lo' := [some (.ref b), some (.int p0), some (.int x6), some (.int x2)]) dX4_countKind_39 rfl (by decide) rfl ?_
        refine tl_iinc (pc := 40) (i := 3) (v := x2 + (1 : Int32)) (lo' := [some (.ref b), some (.int p0), some (.int x6), some (.int (x2 + (1 : Int32)))]) dX4_countKind_40 rfl rfl (by decide) rfl ?_
        refine tl_goto (pc := 43) (tgt := 4) dX4_countKind_43 rfl ?_
        exact tl_sub (ih _ _) (sub_s (sub_s (sub_s (sub_s sub_e))))
      · refine tl_j (fun (k : Unit → Dm Int32) => ∀ (_ : Unit), TL_X4_countKind T 37 [some (.ref b), some (.int p0), none, some (.int x2)] [.int x1] (k ())) (fun _ => ?_) (fun k2 hk2 => ?_)
        · refine tl_iconst (pc := 37) (v := 0) dX4_countKind_37 (by decide) ?_
          exact tl_sub (hk1 _) (sub_s (sub_s (sub_n (sub_s sub_e))))
        · refine tl_if_eq (pc := 18) (tgt := 37) dX4_countKind_18 rfl ?_ ?_
          · exact tl_sub (hk2 ()) (sub_s (sub_s (sub_n (sub_s sub_e))))
          · refine tl_aload_n (pc := 21) (i := 0) dX4_countKind_21 rfl rfl ?_
            refine tl_getR (pc := 22) (r := (b + 7)) fl_X4_30 hb.1 rfl dX4_countKind_22 ?_
            refine tl_iload_n (pc := 25) (i := 3) dX4_countKind_25 rfl rfl ?_
            refine tl_callVi (pc := 26) k_X2_at gw_219 hb.2.2.2.2.1.1 ⟨_, _, rfl⟩ (c_X2_at T _ _ _ hb.2.2.2.2.1) rfl rfl (Nat.le_of_ble_eq_true rfl) (Nat.le_of_ble_eq_true rfl) dX4_countKind_26 (fun x7 => ?_)
            refine tl_iload_n (pc := 29) (i := 1) dX4_countKind_29 rfl rfl ?_
            refine tl_icmp_ne (pc := 30) (tgt := 37) dX4_countKind_30 rfl ?_ ?_
            · refine tl_iconst (pc := 33) (v := 1) dX4_countKind_33 (by decide) ?_
              refine tl_goto (pc := 34) (tgt := 38) dX4_countKind_34 rfl ?_
              exact tl_sub (hk1 _) (sub_s (sub_s (sub_n (sub_s sub_e))))
            · exact tl_sub (hk2 ()) (sub_s (sub_s (sub_n (sub_s sub_e))))
set_option maxRecDepth 100000 in
theorem c_X4_countKind (T : Tb) (b : Nat) (p0 : Int32) (hb : isSheet T b) : CT (.code yX4_countKind cX4_countKind 4 (some .int)) yX4_countKind 2 iI T [.ref b, .int p0] (F_X4_countKind b p0) := by
  refine ct_of (lo := [some (.ref b), some (.int p0), none, none]) (j := 2) k_X4_countKind.1 rfl (fun _ => Nat.le_of_ble_eq_true rfl) ?_
  show TL_X4_countKind T 0 _ _ _
  rw [F_X4_countKind]
  refine tl_iconst (pc := 0) (v := 0) dX4_countKind_0 (by decide) ?_
  refine tl_istore_n (pc := 1) (i := 2) (lo' := [some (.ref b), some (.int p0), some (.int (0 : Int32)), none]) dX4_countKind_1 rfl (by decide) rfl ?_
  refine tl_iconst (pc := 2) (v := 0) dX4_countKind_2 (by decide) ?_
  refine tl_istore_n (pc := 3) (i := 3) (lo' := [some (.ref b), some (.int p0), some (.int (0 : Int32)), some (.int (0 : Int32))]) dX4_countKind_3 rfl (by decide) rfl ?_
  refine tl_sub (lp_X4_countKind_4 T b p0 hb    FU _ _) (sub_s (sub_s (sub_s (sub_s sub_e))))
abbrev TL_Jxe99ae_isNaN_b9ae7 (T : Tb) (pc : Nat) (lo : List (Option Value)) (st : List Value) (X : Dm Int32) : Prop := TL yJxe99ae_isNaN_b9ae7 cJxe99ae_isNaN_b9ae7 2 (some .boolean) 0 iI T pc lo st X
set_option maxRecDepth 100000 in
theorem c_Jxe99ae_isNaN_b9ae7 (T : Tb) (p0 : UInt64)  : CT (.code yJxe99ae_isNaN_b9ae7 cJxe99ae_isNaN_b9ae7 2 (some .boolean)) yJxe99ae_isNaN_b9ae7 0 iI T [.double p0] (F_Jxe99ae_isNaN_b9ae7 p0) := by
  refine ct_of (lo := [some (.double p0), none]) (j := 0) k_Jxe99ae_isNaN_b9ae7.1 rfl (fun _ => Nat.le_of_ble_eq_true rfl) ?_
  show TL_Jxe99ae_isNaN_b9ae7 T 0 _ _ _
  rw [F_Jxe99ae_isNaN_b9ae7]
  refine tl_dload_n (pc := 0) (i := 0) dJxe99ae_isNaN_b9ae7_0 rfl rfl ?_
  refine tl_dload_n (pc := 1) (i := 0) dJxe99ae_isNaN_b9ae7_1 rfl rfl ?_
  refine tl_dcmp (pc := 2) dJxe99ae_isNaN_b9ae7_2 ?_
  refine tl_if_eq (pc := 3) (tgt := 10) dJxe99ae_isNaN_b9ae7_3 rfl ?_ ?_
  · refine tl_iconst (pc := 10) (v := 0) dJxe99ae_isNaN_b9ae7_10 (by decide) ?_
    exact tl_zret (pc := 11) dJxe99ae_isNaN_b9ae7_11
  · refine tl_iconst (pc := 6) (v := 1) dJxe99ae_isNaN_b9ae7_6 (by decide) ?_
    refine tl_goto (pc := 7) (tgt := 11) dJxe99ae_isNaN_b9ae7_7 rfl ?_
    exact tl_zret (pc := 11) dJxe99ae_isNaN_b9ae7_11
abbrev TL_Jxe99ae_doubleToLongBits_ccdee (T : Tb) (pc : Nat) (lo : List (Option Value)) (st : List Value) (X : Dm Int64) : Prop := TL yJxe99ae_doubleToLongBits_ccdee cJxe99ae_doubleToLongBits_ccdee 2 (some .long) 1 lI T pc lo st X
set_option maxRecDepth 100000 in
theorem c_Jxe99ae_doubleToLongBits_ccdee (T : Tb) (p0 : UInt64)  : CT (.code yJxe99ae_doubleToLongBits_ccdee cJxe99ae_doubleToLongBits_ccdee 2 (some .long)) yJxe99ae_doubleToLongBits_ccdee 1 lI T [.double p0] (F_Jxe99ae_doubleToLongBits_ccdee p0) := by
  refine ct_of (lo := [some (.double p0), none]) (j := 0) k_Jxe99ae_doubleToLongBits_ccdee.1 rfl (fun _ => Nat.le_of_ble_eq_true rfl) ?_
  show TL_Jxe99ae_doubleToLongBits_ccdee T 0 _ _ _
  rw [F_Jxe99ae_doubleToLongBits_ccdee]
  refine tl_dload_n (pc := 0) (i := 0) dJxe99ae_doubleToLongBits_ccdee_0 rfl rfl ?_
  refine tl_callSi (pc := 1) k_Jxe99ae_isNaN_b9ae7 gw_1195 (c_Jxe99ae_isNaN_b9ae7 T _) rfl rfl (Nat.le_of_ble_eq_true rfl) (Nat.le_of_ble_eq_true rfl) dJxe99ae_doubleToLongBits_ccdee_1 (fun x1 => ?_)
  refine tl_if_ne (pc := 4) (tgt := 12) dJxe99ae_doubleToLongBits_ccdee_4 rfl ?_ ?_
  · refine tl_dload_n (pc := 7) (i := 0) dJxe99ae_doubleToLongBits_ccdee_7 rfl rfl ?_
    refine tl_d2raw (pc := 8) gw_1198 gw_1200 gw_1199 gw_18 (Nat.le_of_ble_eq_true rfl) (Nat.le_of_ble_eq_true rfl) dJxe99ae_doubleToLongBits_ccdee_8 ?_
    exact tl_lret (pc := 11) dJxe99ae_doubleToLongBits_ccdee_11
  · refine tl_ldc2 (pc := 12) gw_1201 dJxe99ae_doubleToLongBits_ccdee_12 ?_
    exact tl_lret (pc := 15) dJxe99ae_doubleToLongBits_ccdee_15
