abbrev TL_X5_placeOf (T : Tb) (pc : Nat) (lo : List (Option Value)) (st : List Value) (X : Dm Int32) : Prop := TL yX5_placeOf cX5_placeOf 2 (some .int) 0 iI T pc lo st X
set_option maxRecDepth 100000 in
theorem c_X5_placeOf (T : Tb) (p0 : Int32) (p1 : Int32)  : CT (.code yX5_placeOf cX5_placeOf 2 (some .int)) yX5_placeOf 0 iI T [.int p0, .int p1] (F_X5_placeOf p0 p1) := by
  refine ct_of (lo := [some (.int p0), some (.int p1)]) (j := 0) k_X5_placeOf.1 rfl (fun _ => Nat.le_of_ble_eq_true rfl) ?_
  show TL_X5_placeOf T 0 _ _ _
  rw [F_X5_placeOf]
  refine tl_iload_n (pc := 0) (i := 1) dX5_placeOf_0 rfl rfl ?_
  refine tl_iconst (pc := 1) (v := 1) dX5_placeOf_1 (by decide) ?_
  refine tl_icmp_ne (pc := 2) (tgt := 14) dX5_placeOf_2 rfl ?_ ?_
  · refine tl_iload_n (pc := 5) (i := 0) dX5_placeOf_5 rfl rfl ?_
    refine tl_bipush (pc := 6) (v := 25) dX5_placeOf_6 (by decide) ?_
    refine tl_irem (pc := 8) dX5_placeOf_8 (by decide) ?_
    refine tl_iconst (pc := 9) (v := 5) dX5_placeOf_9 (by decide) ?_
    refine tl_idiv (pc := 10) dX5_placeOf_10 (by decide) ?_
    refine tl_goto (pc := 11) (tgt := 17) dX5_placeOf_11 rfl ?_
    exact tl_iret (pc := 17) dX5_placeOf_17
  · refine tl_iload_n (pc := 14) (i := 0) dX5_placeOf_14 rfl rfl ?_
    refine tl_iconst (pc := 15) (v := 5) dX5_placeOf_15 (by decide) ?_
    refine tl_irem (pc := 16) dX5_placeOf_16 (by decide) ?_
    exact tl_iret (pc := 17) dX5_placeOf_17
abbrev TL_X5_isSum (T : Tb) (pc : Nat) (lo : List (Option Value)) (st : List Value) (X : Dm Int32) : Prop := TL yX5_isSum cX5_isSum 1 (some .boolean) 0 iI T pc lo st X
set_option maxRecDepth 100000 in
theorem c_X5_isSum (T : Tb) (p0 : Int32)  : CT (.code yX5_isSum cX5_isSum 1 (some .boolean)) yX5_isSum 0 iI T [.int p0] (F_X5_isSum p0) := by
  refine ct_of (lo := [some (.int p0)]) (j := 0) k_X5_isSum.1 rfl (fun _ => Nat.le_of_ble_eq_true rfl) ?_
  show TL_X5_isSum T 0 _ _ _
  rw [F_X5_isSum]
  refine tl_iload_n (pc := 0) (i := 0) dX5_isSum_0 rfl rfl ?_
  refine tl_iconst (pc := 1) (v := 4) dX5_isSum_1 (by decide) ?_
  refine tl_icmp_eq (pc := 2) (tgt := 16) dX5_isSum_2 rfl ?_ ?_
  · refine tl_iconst (pc := 16) (v := 1) dX5_isSum_16 (by decide) ?_
    refine tl_goto (pc := 17) (tgt := 21) dX5_isSum_17 rfl ?_
    exact tl_zret (pc := 21) dX5_isSum_21
  · refine tl_iload_n (pc := 5) (i := 0) dX5_isSum_5 rfl rfl ?_
    refine tl_iconst (pc := 6) (v := 5) dX5_isSum_6 (by decide) ?_
    refine tl_icmp_eq (pc := 7) (tgt := 16) dX5_isSum_7 rfl ?_ ?_
    · refine tl_iconst (pc := 16) (v := 1) dX5_isSum_16 (by decide) ?_
      refine tl_goto (pc := 17) (tgt := 21) dX5_isSum_17 rfl ?_
      exact tl_zret (pc := 21) dX5_isSum_21
    · refine tl_iload_n (pc := 10) (i := 0) dX5_isSum_10 rfl rfl ?_
      refine tl_bipush (pc := 11) (v := 6) dX5_isSum_11 (by decide) ?_
      refine tl_icmp_ne (pc := 13) (tgt := 20) dX5_isSum_13 rfl ?_ ?_
      · refine tl_iconst (pc := 16) (v := 1) dX5_isSum_16 (by decide) ?_
        refine tl_goto (pc := 17) (tgt := 21) dX5_isSum_17 rfl ?_
        exact tl_zret (pc := 21) dX5_isSum_21
      · refine tl_iconst (pc := 20) (v := 0) dX5_isSum_20 (by decide) ?_
        exact tl_zret (pc := 21) dX5_isSum_21
abbrev TL_X5_tableOf (T : Tb) (pc : Nat) (lo : List (Option Value)) (st : List Value) (X : Dm Int32) : Prop := TL yX5_tableOf cX5_tableOf 1 (some .int) 0 iI T pc lo st X
set_option maxRecDepth 100000 in
theorem c_X5_tableOf (T : Tb) (p0 : Int32)  : CT (.code yX5_tableOf cX5_tableOf 1 (some .int)) yX5_tableOf 0 iI T [.int p0] (F_X5_tableOf p0) := by
  refine ct_of (lo := [some (.int p0)]) (j := 0) k_X5_tableOf.1 rfl (fun _ => Nat.le_of_ble_eq_true rfl) ?_
  show TL_X5_tableOf T 0 _ _ _
  rw [F_X5_tableOf]
  refine tl_iload_n (pc := 0) (i := 0) dX5_tableOf_0 rfl rfl ?_
  refine tl_bipush (pc := 1) (v := 25) dX5_tableOf_1 (by decide) ?_
  refine tl_idiv (pc := 3) dX5_tableOf_3 (by decide) ?_
  exact tl_iret (pc := 4) dX5_tableOf_4
abbrev TL_X5_isBetween (T : Tb) (pc : Nat) (lo : List (Option Value)) (st : List Value) (X : Dm Int32) : Prop := TL yX5_isBetween cX5_isBetween 3 (some .boolean) 0 iI T pc lo st X
set_option maxRecDepth 100000 in
theorem c_X5_isBetween (T : Tb) (p0 : Int32) (p1 : Int32) (p2 : Int32)  : CT (.code yX5_isBetween cX5_isBetween 3 (some .boolean)) yX5_isBetween 0 iI T [.int p0, .int p1, .int p2] (F_X5_isBetween p0 p1 p2) := by
  refine ct_of (lo := [some (.int p0), some (.int p1), some (.int p2)]) (j := 0) k_X5_isBetween.1 rfl (fun _ => Nat.le_of_ble_eq_true rfl) ?_
  show TL_X5_isBetween T 0 _ _ _
  rw [F_X5_isBetween]
  refine tl_iload_n (pc := 0) (i := 0) dX5_isBetween_0 rfl rfl ?_
  refine tl_iload_n (pc := 1) (i := 1) dX5_isBetween_1 rfl rfl ?_
  refine tl_icmp_lt (pc := 2) (tgt := 14) dX5_isBetween_2 rfl ?_ ?_
  · refine tl_iconst (pc := 14) (v := 0) dX5_isBetween_14 (by decide) ?_
    exact tl_zret (pc := 15) dX5_isBetween_15
  · refine tl_iload_n (pc := 5) (i := 0) dX5_isBetween_5 rfl rfl ?_
    refine tl_iload_n (pc := 6) (i := 2) dX5_isBetween_6 rfl rfl ?_
    refine tl_icmp_gt (pc := 7) (tgt := 14) dX5_isBetween_7 rfl ?_ ?_
    · refine tl_iconst (pc := 14) (v := 0) dX5_isBetween_14 (by decide) ?_
      exact tl_zret (pc := 15) dX5_isBetween_15
    · refine tl_iconst (pc := 10) (v := 1) dX5_isBetween_10 (by decide) ?_
      refine tl_goto (pc := 11) (tgt := 15) dX5_isBetween_11 rfl ?_
      exact tl_zret (pc := 15) dX5_isBetween_15
abbrev TL_X5_signsOf (T : Tb) (pc : Nat) (lo : List (Option Value)) (st : List Value) (X : Dm Int32) : Prop := TL yX5_signsOf cX5_signsOf 4 (some .int) 0 iI T pc lo st X
set_option maxRecDepth 100000 in
theorem lp_X5_signsOf_17 (T : Tb) (p0 : Int32)      : ∀ (n : Nat) (x3 : Int32) (x4 : Int32) (x5 : Int32), TL_X5_signsOf T 17 [none, some (.int x3), some (.int x4), some (.int x5)] [] (L_X5_signsOf_17  n x3 x4 x5 ) := by
  intro n
  induction n with
  | zero => intros; exact tl_fail
  | succ n ih =>
    intro x3 x4 x5
    rw [L_X5_signsOf_17]
    refine tl_iload_n (pc := 17) (i := 3) dX5_signsOf_17 rfl rfl ?_
    refine tl_bipush (pc := 18) (v := 10) dX5_signsOf_18 (by decide) ?_
    refine tl_icmp_ge (pc := 20) (tgt := 41) dX5_signsOf_20 rfl ?_ ?_
    · refine tl_iload_n (pc := 41) (i := 1) dX5_signsOf_41 rfl rfl ?_
      exact tl_iret (pc := 42) dX5_signsOf_42
    · refine tl_iload_n (pc := 23) (i := 2) dX5_signsOf_23 rfl rfl ?_
      refine tl_if_eq (pc := 24) (tgt := 41) dX5_signsOf_24 rfl ?_ ?_
      · refine tl_iload_n (pc := 41) (i := 1) dX5_signsOf_41 rfl rfl ?_
        exact tl_iret (pc := 42) dX5_signsOf_42
      · refine tl_iload_n (pc := 27) (i := 2) dX5_signsOf_27 rfl rfl ?_
        refine tl_bipush (pc := 28) (v := 10) dX5_signsOf_28 (by decide) ?_
        refine tl_idiv (pc := 30) dX5_signsOf_30 (by decide) ?_
        refine tl_bI (fun x6 => ?_)
        refine tl_istore_n (pc := 31) (i := 2) (lo' := [none, some (.int x3), some (.int x6), some (.int x5)]) dX5_signsOf_31 rfl (by decide) rfl ?_
        refine tl_iinc (pc := 32) (i := 1) (v := x3 + (1 : Int32)) (lo' := [none, some (.int (x3 + (1 : Int32))), some (.int x6), some (.int x5)]) dX5_signsOf_32 rfl rfl (by decide) rfl ?_
        refine tl_iinc (pc := 35) (i := 3) (v := x5 + (1 : Int32)) (lo' := [none, some (.int (x3 + (1 : Int32))), some (.int x6), some (.int (x5 + (1 : Int32)))]) dX5_signsOf_35 rfl rfl (by decide) rfl ?_
        refine tl_goto (pc := 38) (tgt := 17) dX5_signsOf_38 rfl ?_
        exact tl_sub (ih _ _ _) (sub_n (sub_s (sub_s (sub_s sub_e))))
set_option maxRecDepth 100000 in
theorem c_X5_signsOf (T : Tb) (p0 : Int32)  : CT (.code yX5_signsOf cX5_signsOf 4 (some .int)) yX5_signsOf 0 iI T [.int p0] (F_X5_signsOf p0) := by
  refine ct_of (lo := [some (.int p0), none, none, none]) (j := 3) k_X5_signsOf.1 rfl (fun _ => Nat.le_of_ble_eq_true rfl) ?_
  show TL_X5_signsOf T 0 _ _ _
  rw [F_X5_signsOf]
  refine tl_iload_n (pc := 0) (i := 0) dX5_signsOf_0 rfl rfl ?_
  refine tl_j (fun (k : Int32 → Dm Int32) => ∀ (x1 : Int32), TL_X5_signsOf T 9 [some (.int p0), none, none, none] [.int x1] (k x1)) (fun x1 => ?_) (fun k1 hk1 => ?_)
  · refine tl_istore_n (pc := 9) (i := 1) (lo' := [some (.int p0), some (.int x1), none, none]) dX5_signsOf_9 rfl (by decide) rfl ?_
    refine tl_iload_n (pc := 10) (i := 0) dX5_signsOf_10 rfl rfl ?_
    refine tl_bipush (pc := 11) (v := 10) dX5_signsOf_11 (by decide) ?_
    refine tl_idiv (pc := 13) dX5_signsOf_13 (by decide) ?_
    refine tl_bI (fun x2 => ?_)
    refine tl_istore_n (pc := 14) (i := 2) (lo' := [some (.int p0), some (.int x1), some (.int x2), none]) dX5_signsOf_14 rfl (by decide) rfl ?_
    refine tl_iconst (pc := 15) (v := 0) dX5_signsOf_15 (by decide) ?_
    refine tl_istore_n (pc := 16) (i := 3) (lo' := [some (.int p0), some (.int x1), some (.int x2), some (.int (0 : Int32))]) dX5_signsOf_16 rfl (by decide) rfl ?_
    refine tl_sub (lp_X5_signsOf_17 T p0     FU _ _ _) (sub_n (sub_s (sub_s (sub_s sub_e))))
  · refine tl_if_ge (pc := 1) (tgt := 8) dX5_signsOf_1 rfl ?_ ?_
    · refine tl_iconst (pc := 8) (v := 1) dX5_signsOf_8 (by decide) ?_
      exact tl_sub (hk1 _) (sub_s (sub_n (sub_n (sub_n sub_e))))
    · refine tl_iconst (pc := 4) (v := 2) dX5_signsOf_4 (by decide) ?_
      refine tl_goto (pc := 5) (tgt := 9) dX5_signsOf_5 rfl ?_
      exact tl_sub (hk1 _) (sub_s (sub_n (sub_n (sub_n sub_e))))
abbrev TL_X2_store (T : Tb) (pc : Nat) (lo : List (Option Value)) (st : List Value) (X : Dm Unit) : Prop := TL yX2_store cX2_store 3 none 0 vI T pc lo st X
set_option maxRecDepth 100000 in
theorem c_X2_store (T : Tb) (b nb : Nat) (p0 : Int32) (p1 : Int32) (hb : isNum T b nb) : CT (.code yX2_store cX2_store 3 none) yX2_store 0 vI T [.ref b, .int p0, .int p1] (F_X2_store b nb p0 p1) := by
  refine ct_of (lo := [some (.ref b), some (.int p0), some (.int p1)]) (j := 0) k_X2_store.1 rfl (fun _ => Nat.le_of_ble_eq_true rfl) ?_
  show TL_X2_store T 0 _ _ _
  rw [F_X2_store]
  refine tl_iload_n (pc := 0) (i := 1) dX2_store_0 rfl rfl ?_
  refine tl_if_lt (pc := 1) (tgt := 20) dX2_store_1 rfl ?_ ?_
  · exact tl_vret (pc := 20) dX2_store_20
  · refine tl_iload_n (pc := 4) (i := 1) dX2_store_4 rfl rfl ?_
    refine tl_aload_n (pc := 5) (i := 0) dX2_store_5 rfl rfl ?_
    refine tl_getR (pc := 6) (r := (b + 1)) fl_X2_13 hb.1 rfl dX2_store_6 ?_
    refine tl_alen (pc := 9) hb.2 dX2_store_9 ?_
    refine tl_icmp_ge (pc := 10) (tgt := 20) dX2_store_10 rfl ?_ ?_
    · exact tl_vret (pc := 20) dX2_store_20
    · refine tl_aload_n (pc := 13) (i := 0) dX2_store_13 rfl rfl ?_
      refine tl_getR (pc := 14) (r := (b + 1)) fl_X2_13 hb.1 rfl dX2_store_14 ?_
      refine tl_iload_n (pc := 17) (i := 1) dX2_store_17 rfl rfl ?_
      refine tl_iload_n (pc := 18) (i := 2) dX2_store_18 rfl rfl ?_
      refine tl_iast (pc := 19) hb.2 dX2_store_19 ?_
      exact tl_vret (pc := 20) dX2_store_20
abbrev TL_X4_squaresEnd (T : Tb) (pc : Nat) (lo : List (Option Value)) (st : List Value) (X : Dm Int32) : Prop := TL yX4_squaresEnd cX4_squaresEnd 1 (some .int) 0 iI T pc lo st X
set_option maxRecDepth 100000 in
theorem c_X4_squaresEnd (T : Tb) (b : Nat) (hb : isSheet T b) : CT (.code yX4_squaresEnd cX4_squaresEnd 1 (some .int)) yX4_squaresEnd 0 iI T [.ref b] (F_X4_squaresEnd b) := by
  refine ct_of (lo := [some (.ref b)]) (j := 0) k_X4_squaresEnd.1 rfl (fun _ => Nat.le_of_ble_eq_true rfl) ?_
  show TL_X4_squaresEnd T 0 _ _ _
  rw [F_X4_squaresEnd]
  refine tl_aload_n (pc := 0) (i := 0) dX4_squaresEnd_0 rfl rfl ?_
  refine tl_getI (pc := 1) fl_X4_42 hb.1 rfl dX4_squaresEnd_1 (fun x1 => ?_)
  refine tl_bipush (pc := 4) (v := 25) dX4_squaresEnd_4 (by decide) ?_
  refine tl_imul (pc := 6) dX4_squaresEnd_6 ?_
  exact tl_iret (pc := 7) dX4_squaresEnd_7
abbrev TL_X4_makeEmpty (T : Tb) (pc : Nat) (lo : List (Option Value)) (st : List Value) (X : Dm Unit) : Prop := TL yX4_makeEmpty cX4_makeEmpty 3 none 1 vI T pc lo st X
set_option maxRecDepth 100000 in
theorem lp_X4_makeEmpty_55 (T : Tb) (b : Nat) (p0 : Int32)  (hb : isSheet T b)    : ∀ (n : Nat) (x1 : Int32), TL_X4_makeEmpty T 55 [some (.ref b), some (.int p0), some (.int x1)] [] (L_X4_makeEmpty_55 b p0 n x1 ) := by
  intro n
  induction n with
  | zero => intros; exact tl_fail
  | succ n ih =>
    intro x1
    rw [L_X4_makeEmpty_55]
    refine tl_iload_n (pc := 55) (i := 2) dX4_makeEmpty_55 rfl rfl ?_
    refine tl_iconst (pc := 56) (v := 4) dX4_makeEmpty_56 (by decide) ?_
    refine tl_icmp_ge (pc := 57) (tgt := 79) dX4_makeEmpty_57 rfl ?_ ?_
    · exact tl_vret (pc := 79) dX4_makeEmpty_79
    · refine tl_aload_n (pc := 60) (i := 0) dX4_makeEmpty_60 rfl rfl ?_
      refine tl_getR (pc := 61) (r := (b + 13)) fl_X4_39 hb.1 rfl dX4_makeEmpty_61 ?_
      refine tl_iload_n (pc := 64) (i := 1) dX4_makeEmpty_64 rfl rfl ?_
      refine tl_iconst (pc := 65) (v := 4) dX4_makeEmpty_65 (by decide) ?_
      refine tl_imul (pc := 66) dX4_makeEmpty_66 ?_
      refine tl_iload_n (pc := 67) (i := 2) dX4_makeEmpty_67 rfl rfl ?_
      refine tl_iadd (pc := 68) dX4_makeEmpty_68 ?_
      refine tl_iconst (pc := 69) (v := 0) dX4_makeEmpty_69 (by decide) ?_
      refine tl_callVv (pc := 70) k_X2_store gw_176 hb.2.2.2.2.2.2.2.1 ⟨_, _, rfl⟩ (c_X2_store T _ _ _ _ hb.2.2.2.2.2.2.2) rfl rfl (Nat.le_of_ble_eq_true rfl) (Nat.le_of_ble_eq_true rfl) dX4_makeEmpty_70 (fun _ => ?_)
      refine tl_iinc (pc := 73) (i := 2) (v := x1 + (1 : Int32)) (lo' := [some (.ref b), some (.int p0), some (.int (x1 + (1 : Int32)))]) dX4_makeEmpty_73 rfl rfl (by decide) rfl ?_
      refine tl_goto (pc := 76) (tgt := 55) dX4_makeEmpty_76 rfl ?_
      exact tl_sub (ih _) (sub_s (sub_s (sub_s sub_e)))
set_option maxRecDepth 100000 in
theorem c_X4_makeEmpty (T : Tb) (b : Nat) (p0 : Int32) (hb : isSheet T b) : CT (.code yX4_makeEmpty cX4_makeEmpty 3 none) yX4_makeEmpty 1 vI T [.ref b, .int p0] (F_X4_makeEmpty b p0) := by
  refine ct_of (lo := [some (.ref b), some (.int p0), none]) (j := 1) k_X4_makeEmpty.1 rfl (fun _ => Nat.le_of_ble_eq_true rfl) ?_
  show TL_X4_makeEmpty T 0 _ _ _
  rw [F_X4_makeEmpty]
  refine tl_aload_n (pc := 0) (i := 0) dX4_makeEmpty_0 rfl rfl ?_
  refine tl_getR (pc := 1) (r := (b + 5)) fl_X4_27 hb.1 rfl dX4_makeEmpty_1 ?_
  refine tl_iload_n (pc := 4) (i := 1) dX4_makeEmpty_4 rfl rfl ?_
  refine tl_iload_n (pc := 5) (i := 1) dX4_makeEmpty_5 rfl rfl ?_
  refine tl_callVv (pc := 6) k_X2_store gw_176 hb.2.2.2.1.1 ⟨_, _, rfl⟩ (c_X2_store T _ _ _ _ hb.2.2.2.1) rfl rfl (Nat.le_of_ble_eq_true rfl) (Nat.le_of_ble_eq_true rfl) dX4_makeEmpty_6 (fun _ => ?_)
  refine tl_aload_n (pc := 9) (i := 0) dX4_makeEmpty_9 rfl rfl ?_
  refine tl_getR (pc := 10) (r := (b + 7)) fl_X4_30 hb.1 rfl dX4_makeEmpty_10 ?_
  refine tl_iload_n (pc := 13) (i := 1) dX4_makeEmpty_13 rfl rfl ?_
  refine tl_iconst (pc := 14) (v := 0) dX4_makeEmpty_14 (by decide) ?_
  refine tl_callVv (pc := 15) k_X2_store gw_176 hb.2.2.2.2.1.1 ⟨_, _, rfl⟩ (c_X2_store T _ _ _ _ hb.2.2.2.2.1) rfl rfl (Nat.le_of_ble_eq_true rfl) (Nat.le_of_ble_eq_true rfl) dX4_makeEmpty_15 (fun _ => ?_)
  refine tl_aload_n (pc := 18) (i := 0) dX4_makeEmpty_18 rfl rfl ?_
  refine tl_getR (pc := 19) (r := (b + 9)) fl_X4_33 hb.1 rfl dX4_makeEmpty_19 ?_
  refine tl_iload_n (pc := 22) (i := 1) dX4_makeEmpty_22 rfl rfl ?_
  refine tl_iconst (pc := 23) (v := 0) dX4_makeEmpty_23 (by decide) ?_
  refine tl_callVv (pc := 24) k_X2_store gw_176 hb.2.2.2.2.2.1.1 ⟨_, _, rfl⟩ (c_X2_store T _ _ _ _ hb.2.2.2.2.2.1) rfl rfl (Nat.le_of_ble_eq_true rfl) (Nat.le_of_ble_eq_true rfl) dX4_makeEmpty_24 (fun _ => ?_)
  refine tl_aload_n (pc := 27) (i := 0) dX4_makeEmpty_27 rfl rfl ?_
  refine tl_getR (pc := 28) (r := (b + 11)) fl_X4_36 hb.1 rfl dX4_makeEmpty_28 ?_
  refine tl_iload_n (pc := 31) (i := 1) dX4_makeEmpty_31 rfl rfl ?_
  refine tl_iconst (pc := 32) (v := 2) dX4_makeEmpty_32 (by decide) ?_
  refine tl_imul (pc := 33) dX4_makeEmpty_33 ?_
  refine tl_iconst (pc := 34) (v := 1) dX4_makeEmpty_34 (by decide) ?_
  refine tl_iadd (pc := 35) dX4_makeEmpty_35 ?_
  refine tl_iconst (pc := 36) (v := 1) dX4_makeEmpty_36 (by decide) ?_
  refine tl_callVv (pc := 37) k_X2_store gw_176 hb.2.2.2.2.2.2.1.1 ⟨_, _, rfl⟩ (c_X2_store T _ _ _ _ hb.2.2.2.2.2.2.1) rfl rfl (Nat.le_of_ble_eq_true rfl) (Nat.le_of_ble_eq_true rfl) dX4_makeEmpty_37 (fun _ => ?_)
  refine tl_aload_n (pc := 40) (i := 0) dX4_makeEmpty_40 rfl rfl ?_
  refine tl_getR (pc := 41) (r := (b + 11)) fl_X4_36 hb.1 rfl dX4_makeEmpty_41 ?_
  refine tl_iload_n (pc := 44) (i := 1) dX4_makeEmpty_44 rfl rfl ?_
  refine tl_iconst (pc := 45) (v := 2) dX4_makeEmpty_45 (by decide) ?_
  refine tl_imul (pc := 46) dX4_makeEmpty_46 ?_
  refine tl_iconst (pc := 47) (v := 0) dX4_makeEmpty_47 (by decide) ?_
  refine tl_iadd (pc := 48) dX4_makeEmpty_48 ?_
  refine tl_iconst (pc := 49) (v := 1) dX4_makeEmpty_49 (by decide) ?_
  refine tl_callVv (pc := 50) k_X2_store gw_176 hb.2.2.2.2.2.2.1.1 ⟨_, _, rfl⟩ (c_X2_store T _ _ _ _ hb.2.2.2.2.2.2.1) rfl rfl (Nat.le_of_ble_eq_true rfl) (Nat.le_of_ble_eq_true rfl) dX4_makeEmpty_50 (fun _ => ?_)
  refine tl_iconst (pc := 53) (v := 0) dX4_makeEmpty_53 (by decide) ?_
  refine tl_istore_n (pc := 54) (i := 2) (lo' := [some (.ref b), some (.int p0), some (.int (0 : Int32))]) dX4_makeEmpty_54 rfl (by decide) rfl ?_
  refine tl_sub (lp_X4_makeEmpty_55 T b p0 hb    FU _) (sub_s (sub_s (sub_s sub_e)))
abbrev TL_X4_layOut (T : Tb) (pc : Nat) (lo : List (Option Value)) (st : List Value) (X : Dm Unit) : Prop := TL yX4_layOut cX4_layOut 6 none 2 vI T pc lo st X
set_option maxRecDepth 100000 in
theorem lp_X4_layOut_61 (T : Tb) (b : Nat) (p0 : Int32) (p1 : Int32) (p2 : Int32)  (hb : isSheet T b)    : ∀ (n : Nat) (x4 : Int32), TL_X4_layOut T 61 [some (.ref b), none, some (.int p1), some (.int p2), none, some (.int x4)] [] (L_X4_layOut_61 b p1 p2 n x4 ) := by
  intro n
  induction n with
  | zero => intros; exact tl_fail
  | succ n ih =>
    intro x4
    rw [L_X4_layOut_61]
    refine tl_iload (pc := 61) (i := 5) dX4_layOut_61 rfl ?_
    refine tl_aload_n (pc := 63) (i := 0) dX4_layOut_63 rfl rfl ?_
    refine tl_callVi (pc := 64) k_X4_squaresEnd gw_180 hb.1 ⟨_, _, rfl⟩ (c_X4_squaresEnd T _ hb) rfl rfl (Nat.le_of_ble_eq_true rfl) (Nat.le_of_ble_eq_true rfl) dX4_layOut_64 (fun x5 => ?_)
    refine tl_icmp_ge (pc := 67) (tgt := 112) dX4_layOut_67 rfl ?_ ?_
    · exact tl_vret (pc := 112) dX4_layOut_112
    · refine tl_aload_n (pc := 70) (i := 0) dX4_layOut_70 rfl rfl ?_
      refine tl_iload (pc := 71) (i := 5) dX4_layOut_71 rfl ?_
      refine tl_callVv (pc := 73) k_X4_makeEmpty gw_184 hb.1 ⟨_, _, rfl⟩ (c_X4_makeEmpty T _ _ hb) rfl rfl (Nat.le_of_ble_eq_true rfl) (Nat.le_of_ble_eq_true rfl) dX4_layOut_73 (fun _ => ?_)
      refine tl_iload (pc := 76) (i := 5) dX4_layOut_76 rfl ?_
      refine tl_iconst (pc := 78) (v := 1) dX4_layOut_78 (by decide) ?_
      refine tl_callSNi (pc := 79) k_X5_placeOf nm_X4_64 (c_X5_placeOf T _ _) (nx_X5_placeOf _ _) rfl rfl (Nat.le_of_ble_eq_true rfl) (Nat.le_of_ble_eq_true rfl) dX4_layOut_79 (fun x6 => ?_)
      refine tl_iload_n (pc := 82) (i := 2) dX4_layOut_82 rfl rfl ?_
      refine tl_j (fun (k : Unit → Dm Unit) => ∀ (_ : Unit), TL_X4_layOut T 106 [some (.ref b), none, some (.int p1), some (.int p2), none, some (.int x4)] [] (k ())) (fun _ => ?_) (fun k1 hk1 => ?_)
      · refine tl_iinc (pc := 106) (i := 5) (v := x4 + (1 : Int32)) (lo' := [some (.ref b), none, some (.int p1), some (.int p2), none, some (.int (x4 + (1 : Int32)))]) dX4_layOut_106 rfl rfl (by decide) rfl ?_
        refine tl_goto (pc := 109) (tgt := 61) dX4_layOut_109 rfl ?_
        exact tl_sub (ih _) (sub_s (sub_n (sub_s (sub_s (sub_n (sub_s sub_e))))))
      · refine tl_j (fun (k : Unit → Dm Unit) => ∀ (_ : Unit), TL_X4_layOut T 96 [some (.ref b), none, some (.int p1), some (.int p2), none, some (.int x4)] [] (k ())) (fun _ => ?_) (fun k2 hk2 => ?_)
        · refine tl_aload_n (pc := 96) (i := 0) dX4_layOut_96 rfl rfl ?_
          refine tl_getR (pc := 97) (r := (b + 5)) fl_X4_27 hb.1 rfl dX4_layOut_97 ?_
          refine tl_iload (pc := 100) (i := 5) dX4_layOut_100 rfl ?_
          refine tl_iconst (pc := 102) (v := -1) dX4_layOut_102 (by decide) ?_
          refine tl_callVv (pc := 103) k_X2_store gw_176 hb.2.2.2.1.1 ⟨_, _, rfl⟩ (c_X2_store T _ _ _ _ hb.2.2.2.1) rfl rfl (Nat.le_of_ble_eq_true rfl) (Nat.le_of_ble_eq_true rfl) dX4_layOut_103 (fun _ => ?_)
          exact tl_sub (hk1 ()) (sub_s (sub_n (sub_s (sub_s (sub_n (sub_s sub_e))))))
        · refine tl_icmp_ge (pc := 83) (tgt := 96) dX4_layOut_83 rfl ?_ ?_
          · exact tl_sub (hk2 ()) (sub_s (sub_n (sub_s (sub_s (sub_n (sub_s sub_e))))))
          · refine tl_iload (pc := 86) (i := 5) dX4_layOut_86 rfl ?_
            refine tl_iconst (pc := 88) (v := 0) dX4_layOut_88 (by decide) ?_
            refine tl_callSNi (pc := 89) k_X5_placeOf nm_X4_64 (c_X5_placeOf T _ _) (nx_X5_placeOf _ _) rfl rfl (Nat.le_of_ble_eq_true rfl) (Nat.le_of_ble_eq_true rfl) dX4_layOut_89 (fun x7 => ?_)
            refine tl_iload_n (pc := 92) (i := 3) dX4_layOut_92 rfl rfl ?_
            refine tl_icmp_lt (pc := 93) (tgt := 106) dX4_layOut_93 rfl ?_ ?_
            · exact tl_sub (hk1 ()) (sub_s (sub_n (sub_s (sub_s (sub_n (sub_s sub_e))))))
            · exact tl_sub (hk2 ()) (sub_s (sub_n (sub_s (sub_s (sub_n (sub_s sub_e))))))
set_option maxRecDepth 100000 in
theorem c_X4_layOut (T : Tb) (b : Nat) (p0 : Int32) (p1 : Int32) (p2 : Int32) (hb : isSheet T b) : CT (.code yX4_layOut cX4_layOut 6 none) yX4_layOut 2 vI T [.ref b, .int p0, .int p1, .int p2] (F_X4_layOut b p0 p1 p2) := by
  refine ct_of (lo := [some (.ref b), some (.int p0), some (.int p1), some (.int p2), none, none]) (j := 2) k_X4_layOut.1 rfl (fun _ => Nat.le_of_ble_eq_true rfl) ?_
  show TL_X4_layOut T 0 _ _ _
  rw [F_X4_layOut]
  refine tl_aload_n (pc := 0) (i := 0) dX4_layOut_0 rfl rfl ?_
  refine tl_getI (pc := 1) fl_X4_42 hb.1 rfl dX4_layOut_1 (fun x1 => ?_)
  refine tl_istore (pc := 4) (i := 4) (lo' := [some (.ref b), some (.int p0), some (.int p1), some (.int p2), some (.int x1), none]) dX4_layOut_4 (by decide) rfl ?_
  refine tl_aload_n (pc := 6) (i := 0) dX4_layOut_6 rfl rfl ?_
  refine tl_dup (pc := 7) dX4_layOut_7 rfl ?_
  refine tl_getI (pc := 8) fl_X4_42 hb.1 rfl dX4_layOut_8 (fun x2 => ?_)
  refine tl_iconst (pc := 11) (v := 1) dX4_layOut_11 (by decide) ?_
  refine tl_iadd (pc := 12) dX4_layOut_12 ?_
  refine tl_putI (pc := 13) fw_X4_42 hb.1 rfl dX4_layOut_13 ?_
  refine tl_aload_n (pc := 16) (i := 0) dX4_layOut_16 rfl rfl ?_
  refine tl_getR (pc := 17) (r := (b + 1)) fl_X4_20 hb.1 rfl dX4_layOut_17 ?_
  refine tl_iload (pc := 20) (i := 4) dX4_layOut_20 rfl ?_
  refine tl_iconst (pc := 22) (v := 2) dX4_layOut_22 (by decide) ?_
  refine tl_imul (pc := 23) dX4_layOut_23 ?_
  refine tl_iconst (pc := 24) (v := 1) dX4_layOut_24 (by decide) ?_
  refine tl_iadd (pc := 25) dX4_layOut_25 ?_
  refine tl_iload_n (pc := 26) (i := 2) dX4_layOut_26 rfl rfl ?_
  refine tl_callVv (pc := 27) k_X2_store gw_176 hb.2.1.1 ⟨_, _, rfl⟩ (c_X2_store T _ _ _ _ hb.2.1) rfl rfl (Nat.le_of_ble_eq_true rfl) (Nat.le_of_ble_eq_true rfl) dX4_layOut_27 (fun _ => ?_)
  refine tl_aload_n (pc := 30) (i := 0) dX4_layOut_30 rfl rfl ?_
  refine tl_getR (pc := 31) (r := (b + 1)) fl_X4_20 hb.1 rfl dX4_layOut_31 ?_
  refine tl_iload (pc := 34) (i := 4) dX4_layOut_34 rfl ?_
  refine tl_iconst (pc := 36) (v := 2) dX4_layOut_36 (by decide) ?_
  refine tl_imul (pc := 37) dX4_layOut_37 ?_
  refine tl_iconst (pc := 38) (v := 0) dX4_layOut_38 (by decide) ?_
  refine tl_iadd (pc := 39) dX4_layOut_39 ?_
  refine tl_iload_n (pc := 40) (i := 3) dX4_layOut_40 rfl rfl ?_
  refine tl_callVv (pc := 41) k_X2_store gw_176 hb.2.1.1 ⟨_, _, rfl⟩ (c_X2_store T _ _ _ _ hb.2.1) rfl rfl (Nat.le_of_ble_eq_true rfl) (Nat.le_of_ble_eq_true rfl) dX4_layOut_41 (fun _ => ?_)
  refine tl_aload_n (pc := 44) (i := 0) dX4_layOut_44 rfl rfl ?_
  refine tl_getR (pc := 45) (r := (b + 3)) fl_X4_24 hb.1 rfl dX4_layOut_45 ?_
  refine tl_iload (pc := 48) (i := 4) dX4_layOut_48 rfl ?_
  refine tl_iload_n (pc := 50) (i := 1) dX4_layOut_50 rfl rfl ?_
  refine tl_callVv (pc := 51) k_X2_store gw_176 hb.2.2.1.1 ⟨_, _, rfl⟩ (c_X2_store T _ _ _ _ hb.2.2.1) rfl rfl (Nat.le_of_ble_eq_true rfl) (Nat.le_of_ble_eq_true rfl) dX4_layOut_51 (fun _ => ?_)
  refine tl_iload (pc := 54) (i := 4) dX4_layOut_54 rfl ?_
  refine tl_bipush (pc := 56) (v := 25) dX4_layOut_56 (by decide) ?_
  refine tl_imul (pc := 58) dX4_layOut_58 ?_
  refine tl_bI (fun x3 => ?_)
  refine tl_istore (pc := 59) (i := 5) (lo' := [some (.ref b), some (.int p0), some (.int p1), some (.int p2), some (.int x1), some (.int x3)]) dX4_layOut_59 (by decide) rfl ?_
  refine tl_sub (lp_X4_layOut_61 T b p0 p1 p2 hb    FU _) (sub_s (sub_n (sub_s (sub_s (sub_n (sub_s sub_e))))))
abbrev TL_X4_startAnew (T : Tb) (pc : Nat) (lo : List (Option Value)) (st : List Value) (X : Dm Unit) : Prop := TL yX4_startAnew cX4_startAnew 3 none 3 vI T pc lo st X
set_option maxRecDepth 100000 in
theorem c_X4_startAnew (T : Tb) (b : Nat) (p0 : Int32) (p1 : Int32) (hb : isSheet T b) : CT (.code yX4_startAnew cX4_startAnew 3 none) yX4_startAnew 3 vI T [.ref b, .int p0, .int p1] (F_X4_startAnew b p0 p1) := by
  refine ct_of (lo := [some (.ref b), some (.int p0), some (.int p1)]) (j := 0) k_X4_startAnew.1 rfl (fun _ => Nat.le_of_ble_eq_true rfl) ?_
  show TL_X4_startAnew T 0 _ _ _
  rw [F_X4_startAnew]
  refine tl_aload_n (pc := 0) (i := 0) dX4_startAnew_0 rfl rfl ?_
  refine tl_iconst (pc := 1) (v := 0) dX4_startAnew_1 (by decide) ?_
  refine tl_putI (pc := 2) fw_X4_42 hb.1 rfl dX4_startAnew_2 ?_
  refine tl_aload_n (pc := 5) (i := 0) dX4_startAnew_5 rfl rfl ?_
  refine tl_iconst (pc := 6) (v := -1) dX4_startAnew_6 (by decide) ?_
  refine tl_iload_n (pc := 7) (i := 1) dX4_startAnew_7 rfl rfl ?_
  refine tl_iload_n (pc := 8) (i := 2) dX4_startAnew_8 rfl rfl ?_
  refine tl_callVv (pc := 9) k_X4_layOut gw_172 hb.1 ⟨_, _, rfl⟩ (c_X4_layOut T _ _ _ _ hb) rfl rfl (Nat.le_of_ble_eq_true rfl) (Nat.le_of_ble_eq_true rfl) dX4_startAnew_9 (fun _ => ?_)
  exact tl_vret (pc := 12) dX4_startAnew_12
abbrev TL_J7_fill_53178 (T : Tb) (pc : Nat) (lo : List (Option Value)) (st : List Value) (X : Dm Unit) : Prop := TL yJ7_fill_53178 cJ7_fill_53178 4 none 0 vI T pc lo st X
set_option maxRecDepth 100000 in
theorem lp_J7_fill_53178_5 (T : Tb) (a0 na0 : Nat) (p1 : Int32) (x1 : Int32) (ha0 : T[a0]? = some (0, na0, []))    : ∀ (n : Nat) (x2 : Int32), TL_J7_fill_53178 T 5 [some (.ref a0), some (.int p1), some (.int x2), some (.int x1)] [] (L_J7_fill_53178_5 a0 na0 p1 x1 n x2 ) := by
  intro n
  induction n with
  | zero => intros; exact tl_fail
  | succ n ih =>
    intro x2
    rw [L_J7_fill_53178_5]
    refine tl_iload_n (pc := 5) (i := 2) dJ7_fill_53178_5 rfl rfl ?_
    refine tl_iload_n (pc := 6) (i := 3) dJ7_fill_53178_6 rfl rfl ?_
    refine tl_icmp_ge (pc := 7) (tgt := 20) dJ7_fill_53178_7 rfl ?_ ?_
    · exact tl_vret (pc := 20) dJ7_fill_53178_20
    · refine tl_aload_n (pc := 10) (i := 0) dJ7_fill_53178_10 rfl rfl ?_
      refine tl_iload_n (pc := 11) (i := 2) dJ7_fill_53178_11 rfl rfl ?_
      refine tl_iload_n (pc := 12) (i := 1) dJ7_fill_53178_12 rfl rfl ?_
      refine tl_iast (pc := 13) ha0 dJ7_fill_53178_13 ?_
      refine tl_iinc (pc := 14) (i := 2) (v := x2 + (1 : Int32)) (lo' := [some (.ref a0), some (.int p1), some (.int (x2 + (1 : Int32))), some (.int x1)]) dJ7_fill_53178_14 rfl rfl (by decide) rfl ?_
      refine tl_goto (pc := 17) (tgt := 5) dJ7_fill_53178_17 rfl ?_
      exact tl_sub (ih _) (sub_s (sub_s (sub_s (sub_s sub_e))))
set_option maxRecDepth 100000 in
theorem c_J7_fill_53178 (T : Tb) (a0 na0 : Nat) (p1 : Int32) (ha0 : T[a0]? = some (0, na0, [])) : CT (.code yJ7_fill_53178 cJ7_fill_53178 4 none) yJ7_fill_53178 0 vI T [.ref a0, .int p1] (F_J7_fill_53178 a0 na0 p1) := by
  refine ct_of (lo := [some (.ref a0), some (.int p1), none, none]) (j := 2) k_J7_fill_53178.1 rfl (fun _ => Nat.le_of_ble_eq_true rfl) ?_
  show TL_J7_fill_53178 T 0 _ _ _
  rw [F_J7_fill_53178]
  refine tl_iconst (pc := 0) (v := 0) dJ7_fill_53178_0 (by decide) ?_
  refine tl_istore_n (pc := 1) (i := 2) (lo' := [some (.ref a0), some (.int p1), some (.int (0 : Int32)), none]) dJ7_fill_53178_1 rfl (by decide) rfl ?_
  refine tl_aload_n (pc := 2) (i := 0) dJ7_fill_53178_2 rfl rfl ?_
  refine tl_alen (pc := 3) ha0 dJ7_fill_53178_3 ?_
  refine tl_bI (fun x1 => ?_)
  refine tl_istore_n (pc := 4) (i := 3) (lo' := [some (.ref a0), some (.int p1), some (.int (0 : Int32)), some (.int x1)]) dJ7_fill_53178_4 rfl (by decide) rfl ?_
  refine tl_sub (lp_J7_fill_53178_5 T a0 na0 p1 x1 ha0    FU _) (sub_s (sub_s (sub_s (sub_s sub_e))))
abbrev TL_X2_clear (T : Tb) (pc : Nat) (lo : List (Option Value)) (st : List Value) (X : Dm Unit) : Prop := TL yX2_clear cX2_clear 1 none 1 vI T pc lo st X
set_option maxRecDepth 100000 in
theorem c_X2_clear (T : Tb) (b nb : Nat) (hb : isNum T b nb) : CT (.code yX2_clear cX2_clear 1 none) yX2_clear 1 vI T [.ref b] (F_X2_clear b nb) := by
  refine ct_of (lo := [some (.ref b)]) (j := 0) k_X2_clear.1 rfl (fun _ => Nat.le_of_ble_eq_true rfl) ?_
  show TL_X2_clear T 0 _ _ _
  rw [F_X2_clear]
  refine tl_aload_n (pc := 0) (i := 0) dX2_clear_0 rfl rfl ?_
  refine tl_getR (pc := 1) (r := (b + 1)) fl_X2_13 hb.1 rfl dX2_clear_1 ?_
  refine tl_iconst (pc := 4) (v := 0) dX2_clear_4 (by decide) ?_
  refine tl_callSv (pc := 5) k_J7_fill_53178 gw_199 (c_J7_fill_53178 T _ _ _ hb.2) rfl rfl (Nat.le_of_ble_eq_true rfl) (Nat.le_of_ble_eq_true rfl) dX2_clear_5 (fun _ => ?_)
  exact tl_vret (pc := 8) dX2_clear_8
abbrev TL_X2_at (T : Tb) (pc : Nat) (lo : List (Option Value)) (st : List Value) (X : Dm Int32) : Prop := TL yX2_at cX2_at 2 (some .int) 0 iI T pc lo st X
set_option maxRecDepth 100000 in
theorem c_X2_at (T : Tb) (b nb : Nat) (p0 : Int32) (hb : isNum T b nb) : CT (.code yX2_at cX2_at 2 (some .int)) yX2_at 0 iI T [.ref b, .int p0] (F_X2_at b nb p0) := by
  refine ct_of (lo := [some (.ref b), some (.int p0)]) (j := 0) k_X2_at.1 rfl (fun _ => Nat.le_of_ble_eq_true rfl) ?_
  show TL_X2_at T 0 _ _ _
  rw [F_X2_at]
  refine tl_iload_n (pc := 0) (i := 1) dX2_at_0 rfl rfl ?_
  refine tl_if_lt (pc := 1) (tgt := 22) dX2_at_1 rfl ?_ ?_
  · refine tl_iconst (pc := 22) (v := 0) dX2_at_22 (by decide) ?_
    exact tl_iret (pc := 23) dX2_at_23
  · refine tl_iload_n (pc := 4) (i := 1) dX2_at_4 rfl rfl ?_
    refine tl_aload_n (pc := 5) (i := 0) dX2_at_5 rfl rfl ?_
    refine tl_getR (pc := 6) (r := (b + 1)) fl_X2_13 hb.1 rfl dX2_at_6 ?_
    refine tl_alen (pc := 9) hb.2 dX2_at_9 ?_
    refine tl_icmp_ge (pc := 10) (tgt := 22) dX2_at_10 rfl ?_ ?_
    · refine tl_iconst (pc := 22) (v := 0) dX2_at_22 (by decide) ?_
      exact tl_iret (pc := 23) dX2_at_23
    · refine tl_aload_n (pc := 13) (i := 0) dX2_at_13 rfl rfl ?_
      refine tl_getR (pc := 14) (r := (b + 1)) fl_X2_13 hb.1 rfl dX2_at_14 ?_
      refine tl_iload_n (pc := 17) (i := 1) dX2_at_17 rfl rfl ?_
      refine tl_iald (pc := 18) hb.2 dX2_at_18 (fun x1 => ?_)
      refine tl_goto (pc := 19) (tgt := 23) dX2_at_19 rfl ?_
      exact tl_iret (pc := 23) dX2_at_23
abbrev TL_X4_isCell (T : Tb) (pc : Nat) (lo : List (Option Value)) (st : List Value) (X : Dm Int32) : Prop := TL yX4_isCell cX4_isCell 2 (some .boolean) 1 iI T pc lo st X
set_option maxRecDepth 100000 in
theorem c_X4_isCell (T : Tb) (b : Nat) (p0 : Int32) (hb : isSheet T b) : CT (.code yX4_isCell cX4_isCell 2 (some .boolean)) yX4_isCell 1 iI T [.ref b, .int p0] (F_X4_isCell b p0) := by
  refine ct_of (lo := [some (.ref b), some (.int p0)]) (j := 0) k_X4_isCell.1 rfl (fun _ => Nat.le_of_ble_eq_true rfl) ?_
  show TL_X4_isCell T 0 _ _ _
  rw [F_X4_isCell]
  refine tl_iload_n (pc := 0) (i := 1) dX4_isCell_0 rfl rfl ?_
  refine tl_iconst (pc := 1) (v := -1) dX4_isCell_1 (by decide) ?_
  refine tl_icmp_eq (pc := 2) (tgt := 21) dX4_isCell_2 rfl ?_ ?_
  · refine tl_iconst (pc := 21) (v := 0) dX4_isCell_21 (by decide) ?_
    exact tl_zret (pc := 22) dX4_isCell_22
  · refine tl_aload_n (pc := 5) (i := 0) dX4_isCell_5 rfl rfl ?_
    refine tl_getR (pc := 6) (r := (b + 5)) fl_X4_27 hb.1 rfl dX4_isCell_6 ?_
    refine tl_iload_n (pc := 9) (i := 1) dX4_isCell_9 rfl rfl ?_
    refine tl_callVi (pc := 10) k_X2_at gw_213 hb.2.2.2.1.1 ⟨_, _, rfl⟩ (c_X2_at T _ _ _ hb.2.2.2.1) rfl rfl (Nat.le_of_ble_eq_true rfl) (Nat.le_of_ble_eq_true rfl) dX4_isCell_10 (fun x1 => ?_)
    refine tl_iload_n (pc := 13) (i := 1) dX4_isCell_13 rfl rfl ?_
    refine tl_icmp_ne (pc := 14) (tgt := 21) dX4_isCell_14 rfl ?_ ?_
    · refine tl_iconst (pc := 17) (v := 1) dX4_isCell_17 (by decide) ?_
      refine tl_goto (pc := 18) (tgt := 22) dX4_isCell_18 rfl ?_
      exact tl_zret (pc := 22) dX4_isCell_22
    · refine tl_iconst (pc := 21) (v := 0) dX4_isCell_21 (by decide) ?_
      exact tl_zret (pc := 22) dX4_isCell_22
abbrev TL_X4_tableWithin (T : Tb) (pc : Nat) (lo : List (Option Value)) (st : List Value) (X : Dm Int32) : Prop := TL yX4_tableWithin cX4_tableWithin 2 (some .int) 1 iI T pc lo st X
set_option maxRecDepth 100000 in
theorem c_X4_tableWithin (T : Tb) (b : Nat) (p0 : Int32) (hb : isSheet T b) : CT (.code yX4_tableWithin cX4_tableWithin 2 (some .int)) yX4_tableWithin 1 iI T [.ref b, .int p0] (F_X4_tableWithin b p0) := by
  refine ct_of (lo := [some (.ref b), some (.int p0)]) (j := 0) k_X4_tableWithin.1 rfl (fun _ => Nat.le_of_ble_eq_true rfl) ?_
  show TL_X4_tableWithin T 0 _ _ _
  rw [F_X4_tableWithin]
  refine tl_aload_n (pc := 0) (i := 0) dX4_tableWithin_0 rfl rfl ?_
  refine tl_getR (pc := 1) (r := (b + 7)) fl_X4_30 hb.1 rfl dX4_tableWithin_1 ?_
  refine tl_iload_n (pc := 4) (i := 1) dX4_tableWithin_4 rfl rfl ?_
  refine tl_callVi (pc := 5) k_X2_at gw_213 hb.2.2.2.2.1.1 ⟨_, _, rfl⟩ (c_X2_at T _ _ _ hb.2.2.2.2.1) rfl rfl (Nat.le_of_ble_eq_true rfl) (Nat.le_of_ble_eq_true rfl) dX4_tableWithin_5 (fun x1 => ?_)
  refine tl_iconst (pc := 8) (v := 3) dX4_tableWithin_8 (by decide) ?_
  refine tl_icmp_ne (pc := 9) (tgt := 23) dX4_tableWithin_9 rfl ?_ ?_
  · refine tl_aload_n (pc := 12) (i := 0) dX4_tableWithin_12 rfl rfl ?_
    refine tl_getR (pc := 13) (r := (b + 9)) fl_X4_33 hb.1 rfl dX4_tableWithin_13 ?_
    refine tl_iload_n (pc := 16) (i := 1) dX4_tableWithin_16 rfl rfl ?_
    refine tl_callVi (pc := 17) k_X2_at gw_213 hb.2.2.2.2.2.1.1 ⟨_, _, rfl⟩ (c_X2_at T _ _ _ hb.2.2.2.2.2.1) rfl rfl (Nat.le_of_ble_eq_true rfl) (Nat.le_of_ble_eq_true rfl) dX4_tableWithin_17 (fun x2 => ?_)
    refine tl_goto (pc := 20) (tgt := 24) dX4_tableWithin_20 rfl ?_
    exact tl_iret (pc := 24) dX4_tableWithin_24
  · refine tl_iconst (pc := 23) (v := -1) dX4_tableWithin_23 (by decide) ?_
    exact tl_iret (pc := 24) dX4_tableWithin_24
abbrev TL_X4_linesOf (T : Tb) (pc : Nat) (lo : List (Option Value)) (st : List Value) (X : Dm Int32) : Prop := TL yX4_linesOf cX4_linesOf 3 (some .int) 1 iI T pc lo st X
set_option maxRecDepth 100000 in
theorem c_X4_linesOf (T : Tb) (b : Nat) (p0 : Int32) (p1 : Int32) (hb : isSheet T b) : CT (.code yX4_linesOf cX4_linesOf 3 (some .int)) yX4_linesOf 1 iI T [.ref b, .int p0, .int p1] (F_X4_linesOf b p0 p1) := by
  refine ct_of (lo := [some (.ref b), some (.int p0), some (.int p1)]) (j := 0) k_X4_linesOf.1 rfl (fun _ => Nat.le_of_ble_eq_true rfl) ?_
  show TL_X4_linesOf T 0 _ _ _
  rw [F_X4_linesOf]
  refine tl_aload_n (pc := 0) (i := 0) dX4_linesOf_0 rfl rfl ?_
  refine tl_getR (pc := 1) (r := (b + 1)) fl_X4_20 hb.1 rfl dX4_linesOf_1 ?_
  refine tl_iload_n (pc := 4) (i := 1) dX4_linesOf_4 rfl rfl ?_
  refine tl_iconst (pc := 5) (v := 2) dX4_linesOf_5 (by decide) ?_
  refine tl_imul (pc := 6) dX4_linesOf_6 ?_
  refine tl_iload_n (pc := 7) (i := 2) dX4_linesOf_7 rfl rfl ?_
  refine tl_iadd (pc := 8) dX4_linesOf_8 ?_
  refine tl_callVi (pc := 9) k_X2_at gw_213 hb.2.1.1 ⟨_, _, rfl⟩ (c_X2_at T _ _ _ hb.2.1) rfl rfl (Nat.le_of_ble_eq_true rfl) (Nat.le_of_ble_eq_true rfl) dX4_linesOf_9 (fun x1 => ?_)
  exact tl_iret (pc := 12) dX4_linesOf_12
abbrev TL_X4_ownerBeside (T : Tb) (pc : Nat) (lo : List (Option Value)) (st : List Value) (X : Dm Int32) : Prop := TL yX4_ownerBeside cX4_ownerBeside 7 (some .int) 1 iI T pc lo st X
set_option maxRecDepth 100000 in
theorem c_X4_ownerBeside (T : Tb) (b : Nat) (p0 : Int32) (p1 : Int32) (hb : isSheet T b) : CT (.code yX4_ownerBeside cX4_ownerBeside 7 (some .int)) yX4_ownerBeside 1 iI T [.ref b, .int p0, .int p1] (F_X4_ownerBeside b p0 p1) := by
  refine ct_of (lo := [some (.ref b), some (.int p0), some (.int p1), none, none, none, none]) (j := 4) k_X4_ownerBeside.1 rfl (fun _ => Nat.le_of_ble_eq_true rfl) ?_
  show TL_X4_ownerBeside T 0 _ _ _
  rw [F_X4_ownerBeside]
  refine tl_iload_n (pc := 0) (i := 1) dX4_ownerBeside_0 rfl rfl ?_
  refine tl_iconst (pc := 1) (v := 1) dX4_ownerBeside_1 (by decide) ?_
  refine tl_callSNi (pc := 2) k_X5_placeOf nm_X4_64 (c_X5_placeOf T _ _) (nx_X5_placeOf _ _) rfl rfl (Nat.le_of_ble_eq_true rfl) (Nat.le_of_ble_eq_true rfl) dX4_ownerBeside_2 (fun x1 => ?_)
  refine tl_iload_n (pc := 5) (i := 2) dX4_ownerBeside_5 rfl rfl ?_
  refine tl_iconst (pc := 6) (v := 2) dX4_ownerBeside_6 (by decide) ?_
  refine tl_j (fun (k : Int32 → Dm Int32) => ∀ (x2 : Int32), TL_X4_ownerBeside T 15 [some (.ref b), some (.int p0), some (.int p1), none, none, none, none] [.int x2, .int x1] (k x2)) (fun x2 => ?_) (fun k1 hk1 => ?_)
  · refine tl_iadd (pc := 15) dX4_ownerBeside_15 ?_
    refine tl_iload_n (pc := 16) (i := 2) dX4_ownerBeside_16 rfl rfl ?_
    refine tl_j (fun (k : Int32 → Dm Int32) => ∀ (x3 : Int32), TL_X4_ownerBeside T 25 [some (.ref b), some (.int p0), some (.int p1), none, none, none, none] [.int x3, .int (x1 + x2)] (k x3)) (fun x3 => ?_) (fun k2 hk2 => ?_)
    · refine tl_isub (pc := 25) dX4_ownerBeside_25 ?_
      refine tl_bI (fun x4 => ?_)
      refine tl_istore_n (pc := 26) (i := 3) (lo' := [some (.ref b), some (.int p0), some (.int p1), some (.int x4), none, none, none]) dX4_ownerBeside_26 rfl (by decide) rfl ?_
      refine tl_iload_n (pc := 27) (i := 1) dX4_ownerBeside_27 rfl rfl ?_
      refine tl_iconst (pc := 28) (v := 0) dX4_ownerBeside_28 (by decide) ?_
      refine tl_callSNi (pc := 29) k_X5_placeOf nm_X4_64 (c_X5_placeOf T _ _) (nx_X5_placeOf _ _) rfl rfl (Nat.le_of_ble_eq_true rfl) (Nat.le_of_ble_eq_true rfl) dX4_ownerBeside_29 (fun x5 => ?_)
      refine tl_iload_n (pc := 32) (i := 2) dX4_ownerBeside_32 rfl rfl ?_
      refine tl_iconst (pc := 33) (v := 1) dX4_ownerBeside_33 (by decide) ?_
      refine tl_j (fun (k : Int32 → Dm Int32) => ∀ (x6 : Int32), TL_X4_ownerBeside T 42 [some (.ref b), some (.int p0), some (.int p1), some (.int x4), none, none, none] [.int x6, .int x5] (k x6)) (fun x6 => ?_) (fun k3 hk3 => ?_)
      · refine tl_iadd (pc := 42) dX4_ownerBeside_42 ?_
        refine tl_iload_n (pc := 43) (i := 2) dX4_ownerBeside_43 rfl rfl ?_
        refine tl_iconst (pc := 44) (v := 3) dX4_ownerBeside_44 (by decide) ?_
        refine tl_j (fun (k : Int32 → Dm Int32) => ∀ (x7 : Int32), TL_X4_ownerBeside T 53 [some (.ref b), some (.int p0), none, some (.int x4), none, none, none] [.int x7, .int (x5 + x6)] (k x7)) (fun x7 => ?_) (fun k4 hk4 => ?_)
        · refine tl_isub (pc := 53) dX4_ownerBeside_53 ?_
          refine tl_bI (fun x8 => ?_)
          refine tl_istore (pc := 54) (i := 4) (lo' := [some (.ref b), some (.int p0), none, some (.int x4), some (.int x8), none, none]) dX4_ownerBeside_54 (by decide) rfl ?_
          refine tl_iload_n (pc := 56) (i := 3) dX4_ownerBeside_56 rfl rfl ?_
          refine tl_iconst (pc := 57) (v := 0) dX4_ownerBeside_57 (by decide) ?_
          refine tl_iconst (pc := 58) (v := 4) dX4_ownerBeside_58 (by decide) ?_
          refine tl_callSNi (pc := 59) k_X5_isBetween nm_X4_79 (c_X5_isBetween T _ _ _) (nx_X5_isBetween _ _ _) rfl rfl (Nat.le_of_ble_eq_true rfl) (Nat.le_of_ble_eq_true rfl) dX4_ownerBeside_59 (fun x9 => ?_)
          refine tl_j (fun (k : Int32 → Dm Int32) => ∀ (x10 : Int32), TL_X4_ownerBeside T 80 [some (.ref b), some (.int p0), none, some (.int x4), some (.int x8), none, none] [.int x10] (k x10)) (fun x10 => ?_) (fun k5 hk5 => ?_)
          · refine tl_istore (pc := 80) (i := 5) (lo' := [some (.ref b), some (.int p0), none, some (.int x4), some (.int x8), some (.int x10), none]) dX4_ownerBeside_80 (by decide) rfl ?_
            refine tl_iload_n (pc := 82) (i := 1) dX4_ownerBeside_82 rfl rfl ?_
            refine tl_callSNi (pc := 83) k_X5_tableOf nm_X4_83 (c_X5_tableOf T _) (nx_X5_tableOf _) rfl rfl (Nat.le_of_ble_eq_true rfl) (Nat.le_of_ble_eq_true rfl) dX4_ownerBeside_83 (fun x11 => ?_)
            refine tl_bipush (pc := 86) (v := 25) dX4_ownerBeside_86 (by decide) ?_
            refine tl_imul (pc := 88) dX4_ownerBeside_88 ?_
            refine tl_bI (fun x12 => ?_)
            refine tl_istore (pc := 89) (i := 6) (lo' := [some (.ref b), some (.int p0), none, some (.int x4), some (.int x8), some (.int x10), some (.int x12)]) dX4_ownerBeside_89 (by decide) rfl ?_
            refine tl_iload (pc := 91) (i := 5) dX4_ownerBeside_91 rfl ?_
            refine tl_if_eq (pc := 93) (tgt := 115) dX4_ownerBeside_93 rfl ?_ ?_
            · refine tl_iconst (pc := 115) (v := -1) dX4_ownerBeside_115 (by decide) ?_
              exact tl_iret (pc := 116) dX4_ownerBeside_116
            · refine tl_aload_n (pc := 96) (i := 0) dX4_ownerBeside_96 rfl rfl ?_
              refine tl_getR (pc := 97) (r := (b + 5)) fl_X4_27 hb.1 rfl dX4_ownerBeside_97 ?_
              refine tl_iload (pc := 100) (i := 6) dX4_ownerBeside_100 rfl ?_
              refine tl_iload_n (pc := 102) (i := 3) dX4_ownerBeside_102 rfl rfl ?_
              refine tl_iconst (pc := 103) (v := 5) dX4_ownerBeside_103 (by decide) ?_
              refine tl_imul (pc := 104) dX4_ownerBeside_104 ?_
              refine tl_iadd (pc := 105) dX4_ownerBeside_105 ?_
              refine tl_iload (pc := 106) (i := 4) dX4_ownerBeside_106 rfl ?_
              refine tl_iadd (pc := 108) dX4_ownerBeside_108 ?_
              refine tl_callVi (pc := 109) k_X2_at gw_213 hb.2.2.2.1.1 ⟨_, _, rfl⟩ (c_X2_at T _ _ _ hb.2.2.2.1) rfl rfl (Nat.le_of_ble_eq_true rfl) (Nat.le_of_ble_eq_true rfl) dX4_ownerBeside_109 (fun x13 => ?_)
              refine tl_goto (pc := 112) (tgt := 116) dX4_ownerBeside_112 rfl ?_
              exact tl_iret (pc := 116) dX4_ownerBeside_116
          · refine tl_j (fun (k : Unit → Dm Int32) => ∀ (_ : Unit), TL_X4_ownerBeside T 79 [some (.ref b), some (.int p0), none, some (.int x4), some (.int x8), none, none] [] (k ())) (fun _ => ?_) (fun k6 hk6 => ?_)
            · refine tl_iconst (pc := 79) (v := 0) dX4_ownerBeside_79 (by decide) ?_
              exact tl_sub (hk5 _) (sub_s (sub_s (sub_n (sub_s (sub_s (sub_n (sub_n sub_e)))))))
            · refine tl_if_eq (pc := 62) (tgt := 79) dX4_ownerBeside_62 rfl ?_ ?_
              · exact tl_sub (hk6 ()) (sub_s (sub_s (sub_n (sub_s (sub_s (sub_n (sub_n sub_e)))))))
              · refine tl_iload (pc := 65) (i := 4) dX4_ownerBeside_65 rfl ?_
                refine tl_iconst (pc := 67) (v := 0) dX4_ownerBeside_67 (by decide) ?_
                refine tl_iconst (pc := 68) (v := 4) dX4_ownerBeside_68 (by decide) ?_
                refine tl_callSNi (pc := 69) k_X5_isBetween nm_X4_79 (c_X5_isBetween T _ _ _) (nx_X5_isBetween _ _ _) rfl rfl (Nat.le_of_ble_eq_true rfl) (Nat.le_of_ble_eq_true rfl) dX4_ownerBeside_69 (fun x14 => ?_)
                refine tl_if_eq (pc := 72) (tgt := 79) dX4_ownerBeside_72 rfl ?_ ?_
                · exact tl_sub (hk6 ()) (sub_s (sub_s (sub_n (sub_s (sub_s (sub_n (sub_n sub_e)))))))
                · refine tl_iconst (pc := 75) (v := 1) dX4_ownerBeside_75 (by decide) ?_
                  refine tl_goto (pc := 76) (tgt := 80) dX4_ownerBeside_76 rfl ?_
                  exact tl_sub (hk5 _) (sub_s (sub_s (sub_n (sub_s (sub_s (sub_n (sub_n sub_e)))))))
        · refine tl_icmp_ne (pc := 45) (tgt := 52) dX4_ownerBeside_45 rfl ?_ ?_
          · refine tl_iconst (pc := 48) (v := 1) dX4_ownerBeside_48 (by decide) ?_
            refine tl_goto (pc := 49) (tgt := 53) dX4_ownerBeside_49 rfl ?_
            exact tl_sub (hk4 _) (sub_s (sub_s (sub_n (sub_s (sub_n (sub_n (sub_n sub_e)))))))
          · refine tl_iconst (pc := 52) (v := 0) dX4_ownerBeside_52 (by decide) ?_
            exact tl_sub (hk4 _) (sub_s (sub_s (sub_n (sub_s (sub_n (sub_n (sub_n sub_e)))))))
      · refine tl_icmp_ne (pc := 34) (tgt := 41) dX4_ownerBeside_34 rfl ?_ ?_
        · refine tl_iconst (pc := 37) (v := 1) dX4_ownerBeside_37 (by decide) ?_
          refine tl_goto (pc := 38) (tgt := 42) dX4_ownerBeside_38 rfl ?_
          exact tl_sub (hk3 _) (sub_s (sub_s (sub_s (sub_s (sub_n (sub_n (sub_n sub_e)))))))
        · refine tl_iconst (pc := 41) (v := 0) dX4_ownerBeside_41 (by decide) ?_
          exact tl_sub (hk3 _) (sub_s (sub_s (sub_s (sub_s (sub_n (sub_n (sub_n sub_e)))))))
    · refine tl_if_ne (pc := 17) (tgt := 24) dX4_ownerBeside_17 rfl ?_ ?_
      · refine tl_iconst (pc := 20) (v := 1) dX4_ownerBeside_20 (by decide) ?_
        refine tl_goto (pc := 21) (tgt := 25) dX4_ownerBeside_21 rfl ?_
        exact tl_sub (hk2 _) (sub_s (sub_s (sub_s (sub_n (sub_n (sub_n (sub_n sub_e)))))))
      · refine tl_iconst (pc := 24) (v := 0) dX4_ownerBeside_24 (by decide) ?_
        exact tl_sub (hk2 _) (sub_s (sub_s (sub_s (sub_n (sub_n (sub_n (sub_n sub_e)))))))
  · refine tl_icmp_ne (pc := 7) (tgt := 14) dX4_ownerBeside_7 rfl ?_ ?_
    · refine tl_iconst (pc := 10) (v := 1) dX4_ownerBeside_10 (by decide) ?_
      refine tl_goto (pc := 11) (tgt := 15) dX4_ownerBeside_11 rfl ?_
      exact tl_sub (hk1 _) (sub_s (sub_s (sub_s (sub_n (sub_n (sub_n (sub_n sub_e)))))))
    · refine tl_iconst (pc := 14) (v := 0) dX4_ownerBeside_14 (by decide) ?_
      exact tl_sub (hk1 _) (sub_s (sub_s (sub_s (sub_n (sub_n (sub_n (sub_n sub_e)))))))
abbrev TL_X4_spanOf (T : Tb) (pc : Nat) (lo : List (Option Value)) (st : List Value) (X : Dm Int32) : Prop := TL yX4_spanOf cX4_spanOf 3 (some .int) 1 iI T pc lo st X
set_option maxRecDepth 100000 in
theorem c_X4_spanOf (T : Tb) (b : Nat) (p0 : Int32) (p1 : Int32) (hb : isSheet T b) : CT (.code yX4_spanOf cX4_spanOf 3 (some .int)) yX4_spanOf 1 iI T [.ref b, .int p0, .int p1] (F_X4_spanOf b p0 p1) := by
  refine ct_of (lo := [some (.ref b), some (.int p0), some (.int p1)]) (j := 0) k_X4_spanOf.1 rfl (fun _ => Nat.le_of_ble_eq_true rfl) ?_
  show TL_X4_spanOf T 0 _ _ _
  rw [F_X4_spanOf]
  refine tl_aload_n (pc := 0) (i := 0) dX4_spanOf_0 rfl rfl ?_
  refine tl_getR (pc := 1) (r := (b + 11)) fl_X4_36 hb.1 rfl dX4_spanOf_1 ?_
  refine tl_iload_n (pc := 4) (i := 1) dX4_spanOf_4 rfl rfl ?_
  refine tl_iconst (pc := 5) (v := 2) dX4_spanOf_5 (by decide) ?_
  refine tl_imul (pc := 6) dX4_spanOf_6 ?_
  refine tl_iload_n (pc := 7) (i := 2) dX4_spanOf_7 rfl rfl ?_
  refine tl_iadd (pc := 8) dX4_spanOf_8 ?_
  refine tl_callVi (pc := 9) k_X2_at gw_213 hb.2.2.2.2.2.2.1.1 ⟨_, _, rfl⟩ (c_X2_at T _ _ _ hb.2.2.2.2.2.2.1) rfl rfl (Nat.le_of_ble_eq_true rfl) (Nat.le_of_ble_eq_true rfl) dX4_spanOf_9 (fun x1 => ?_)
  exact tl_iret (pc := 12) dX4_spanOf_12
abbrev TL_X2_copyFrom (T : Tb) (pc : Nat) (lo : List (Option Value)) (st : List Value) (X : Dm Unit) : Prop := TL yX2_copyFrom cX2_copyFrom 2 none 1 vI T pc lo st X
set_option maxRecDepth 100000 in
theorem c_X2_copyFrom (T : Tb) (b nb : Nat) (o0 no0 : Nat) (hb : isNum T b nb) (ho0 : isNum T o0 no0) : CT (.code yX2_copyFrom cX2_copyFrom 2 none) yX2_copyFrom 1 vI T [.ref b, .ref o0] (F_X2_copyFrom b nb o0 no0) := by
  refine ct_of (lo := [some (.ref b), some (.ref o0)]) (j := 0) k_X2_copyFrom.1 rfl (fun _ => Nat.le_of_ble_eq_true rfl) ?_
  show TL_X2_copyFrom T 0 _ _ _
  rw [F_X2_copyFrom]
  refine tl_aload_n (pc := 0) (i := 1) dX2_copyFrom_0 rfl rfl ?_
  refine tl_getR (pc := 1) (r := (o0 + 1)) fl_X2_13 ho0.1 rfl dX2_copyFrom_1 ?_
  refine tl_iconst (pc := 4) (v := 0) dX2_copyFrom_4 (by decide) ?_
  refine tl_aload_n (pc := 5) (i := 0) dX2_copyFrom_5 rfl rfl ?_
  refine tl_getR (pc := 6) (r := (b + 1)) fl_X2_13 hb.1 rfl dX2_copyFrom_6 ?_
  refine tl_iconst (pc := 9) (v := 0) dX2_copyFrom_9 (by decide) ?_
  refine tl_aload_n (pc := 10) (i := 0) dX2_copyFrom_10 rfl rfl ?_
  refine tl_getR (pc := 11) (r := (b + 1)) fl_X2_13 hb.1 rfl dX2_copyFrom_11 ?_
  refine tl_alen (pc := 14) hb.2 dX2_copyFrom_14 ?_
  refine tl_aload_n (pc := 15) (i := 1) dX2_copyFrom_15 rfl rfl ?_
  refine tl_getR (pc := 16) (r := (o0 + 1)) fl_X2_13 ho0.1 rfl dX2_copyFrom_16 ?_
  refine tl_alen (pc := 19) ho0.2 dX2_copyFrom_19 ?_
  refine tl_mmin (pc := 20) gw_427 gw_428 gw_5 gw_429 (Nat.le_of_ble_eq_true rfl) (Nat.le_of_ble_eq_true rfl) dX2_copyFrom_20 ?_
  refine tl_copy (pc := 23) ho0.2 hb.2 gw_430 gw_432 gw_431 gw_15 (Nat.le_of_ble_eq_true rfl) (Nat.le_of_ble_eq_true rfl) dX2_copyFrom_23 ?_
  exact tl_vret (pc := 26) dX2_copyFrom_26
abbrev TL_X4_copyFrom (T : Tb) (pc : Nat) (lo : List (Option Value)) (st : List Value) (X : Dm Unit) : Prop := TL yX4_copyFrom cX4_copyFrom 2 none 2 vI T pc lo st X
set_option maxRecDepth 100000 in
theorem c_X4_copyFrom (T : Tb) (b : Nat) (o0 : Nat) (hb : isSheet T b) (ho0 : isSheet T o0) : CT (.code yX4_copyFrom cX4_copyFrom 2 none) yX4_copyFrom 2 vI T [.ref b, .ref o0] (F_X4_copyFrom b o0) := by
  refine ct_of (lo := [some (.ref b), some (.ref o0)]) (j := 0) k_X4_copyFrom.1 rfl (fun _ => Nat.le_of_ble_eq_true rfl) ?_
  show TL_X4_copyFrom T 0 _ _ _
  rw [F_X4_copyFrom]
  refine tl_aload_n (pc := 0) (i := 0) dX4_copyFrom_0 rfl rfl ?_
  refine tl_aload_n (pc := 1) (i := 1) dX4_copyFrom_1 rfl rfl ?_
  refine tl_getI (pc := 2) fl_X4_9 ho0.1 rfl dX4_copyFrom_2 (fun x1 => ?_)
  refine tl_putI (pc := 5) fw_X4_9 hb.1 rfl dX4_copyFrom_5 ?_
  refine tl_aload_n (pc := 8) (i := 0) dX4_copyFrom_8 rfl rfl ?_
  refine tl_aload_n (pc := 9) (i := 1) dX4_copyFrom_9 rfl rfl ?_
  refine tl_getI (pc := 10) fl_X4_42 ho0.1 rfl dX4_copyFrom_10 (fun x2 => ?_)
  refine tl_putI (pc := 13) fw_X4_42 hb.1 rfl dX4_copyFrom_13 ?_
  refine tl_aload_n (pc := 16) (i := 0) dX4_copyFrom_16 rfl rfl ?_
  refine tl_getR (pc := 17) (r := (b + 1)) fl_X4_20 hb.1 rfl dX4_copyFrom_17 ?_
  refine tl_aload_n (pc := 20) (i := 1) dX4_copyFrom_20 rfl rfl ?_
  refine tl_getR (pc := 21) (r := (o0 + 1)) fl_X4_20 ho0.1 rfl dX4_copyFrom_21 ?_
  refine tl_callVv (pc := 24) k_X2_copyFrom gw_423 hb.2.1.1 ⟨_, _, rfl⟩ (c_X2_copyFrom T _ _ _ _ hb.2.1 ho0.2.1) rfl rfl (Nat.le_of_ble_eq_true rfl) (Nat.le_of_ble_eq_true rfl) dX4_copyFrom_24 (fun _ => ?_)
  refine tl_aload_n (pc := 27) (i := 0) dX4_copyFrom_27 rfl rfl ?_
  refine tl_getR (pc := 28) (r := (b + 3)) fl_X4_24 hb.1 rfl dX4_copyFrom_28 ?_
  refine tl_aload_n (pc := 31) (i := 1) dX4_copyFrom_31 rfl rfl ?_
  refine tl_getR (pc := 32) (r := (o0 + 3)) fl_X4_24 ho0.1 rfl dX4_copyFrom_32 ?_
  refine tl_callVv (pc := 35) k_X2_copyFrom gw_423 hb.2.2.1.1 ⟨_, _, rfl⟩ (c_X2_copyFrom T _ _ _ _ hb.2.2.1 ho0.2.2.1) rfl rfl (Nat.le_of_ble_eq_true rfl) (Nat.le_of_ble_eq_true rfl) dX4_copyFrom_35 (fun _ => ?_)
  refine tl_aload_n (pc := 38) (i := 0) dX4_copyFrom_38 rfl rfl ?_
  refine tl_getR (pc := 39) (r := (b + 5)) fl_X4_27 hb.1 rfl dX4_copyFrom_39 ?_
  refine tl_aload_n (pc := 42) (i := 1) dX4_copyFrom_42 rfl rfl ?_
  refine tl_getR (pc := 43) (r := (o0 + 5)) fl_X4_27 ho0.1 rfl dX4_copyFrom_43 ?_
  refine tl_callVv (pc := 46) k_X2_copyFrom gw_423 hb.2.2.2.1.1 ⟨_, _, rfl⟩ (c_X2_copyFrom T _ _ _ _ hb.2.2.2.1 ho0.2.2.2.1) rfl rfl (Nat.le_of_ble_eq_true rfl) (Nat.le_of_ble_eq_true rfl) dX4_copyFrom_46 (fun _ => ?_)
  refine tl_aload_n (pc := 49) (i := 0) dX4_copyFrom_49 rfl rfl ?_
  refine tl_getR (pc := 50) (r := (b + 7)) fl_X4_30 hb.1 rfl dX4_copyFrom_50 ?_
  refine tl_aload_n (pc := 53) (i := 1) dX4_copyFrom_53 rfl rfl ?_
  refine tl_getR (pc := 54) (r := (o0 + 7)) fl_X4_30 ho0.1 rfl dX4_copyFrom_54 ?_
  refine tl_callVv (pc := 57) k_X2_copyFrom gw_423 hb.2.2.2.2.1.1 ⟨_, _, rfl⟩ (c_X2_copyFrom T _ _ _ _ hb.2.2.2.2.1 ho0.2.2.2.2.1) rfl rfl (Nat.le_of_ble_eq_true rfl) (Nat.le_of_ble_eq_true rfl) dX4_copyFrom_57 (fun _ => ?_)
  refine tl_aload_n (pc := 60) (i := 0) dX4_copyFrom_60 rfl rfl ?_
  refine tl_getR (pc := 61) (r := (b + 9)) fl_X4_33 hb.1 rfl dX4_copyFrom_61 ?_
  refine tl_aload_n (pc := 64) (i := 1) dX4_copyFrom_64 rfl rfl ?_
  refine tl_getR (pc := 65) (r := (o0 + 9)) fl_X4_33 ho0.1 rfl dX4_copyFrom_65 ?_
  refine tl_callVv (pc := 68) k_X2_copyFrom gw_423 hb.2.2.2.2.2.1.1 ⟨_, _, rfl⟩ (c_X2_copyFrom T _ _ _ _ hb.2.2.2.2.2.1 ho0.2.2.2.2.2.1) rfl rfl (Nat.le_of_ble_eq_true rfl) (Nat.le_of_ble_eq_true rfl) dX4_copyFrom_68 (fun _ => ?_)
  refine tl_aload_n (pc := 71) (i := 0) dX4_copyFrom_71 rfl rfl ?_
  refine tl_getR (pc := 72) (r := (b + 11)) fl_X4_36 hb.1 rfl dX4_copyFrom_72 ?_
  refine tl_aload_n (pc := 75) (i := 1) dX4_copyFrom_75 rfl rfl ?_
  refine tl_getR (pc := 76) (r := (o0 + 11)) fl_X4_36 ho0.1 rfl dX4_copyFrom_76 ?_
  refine tl_callVv (pc := 79) k_X2_copyFrom gw_423 hb.2.2.2.2.2.2.1.1 ⟨_, _, rfl⟩ (c_X2_copyFrom T _ _ _ _ hb.2.2.2.2.2.2.1 ho0.2.2.2.2.2.2.1) rfl rfl (Nat.le_of_ble_eq_true rfl) (Nat.le_of_ble_eq_true rfl) dX4_copyFrom_79 (fun _ => ?_)
  refine tl_aload_n (pc := 82) (i := 0) dX4_copyFrom_82 rfl rfl ?_
  refine tl_getR (pc := 83) (r := (b + 13)) fl_X4_39 hb.1 rfl dX4_copyFrom_83 ?_
  refine tl_aload_n (pc := 86) (i := 1) dX4_copyFrom_86 rfl rfl ?_
  refine tl_getR (pc := 87) (r := (o0 + 13)) fl_X4_39 ho0.1 rfl dX4_copyFrom_87 ?_
  refine tl_callVv (pc := 90) k_X2_copyFrom gw_423 hb.2.2.2.2.2.2.2.1 ⟨_, _, rfl⟩ (c_X2_copyFrom T _ _ _ _ hb.2.2.2.2.2.2.2 ho0.2.2.2.2.2.2.2) rfl rfl (Nat.le_of_ble_eq_true rfl) (Nat.le_of_ble_eq_true rfl) dX4_copyFrom_90 (fun _ => ?_)
  exact tl_vret (pc := 93) dX4_copyFrom_93
abbrev TL_X4_hasTable (T : Tb) (pc : Nat) (lo : List (Option Value)) (st : List Value) (X : Dm Int32) : Prop := TL yX4_hasTable cX4_hasTable 2 (some .boolean) 0 iI T pc lo st X
set_option maxRecDepth 100000 in
theorem c_X4_hasTable (T : Tb) (b : Nat) (p0 : Int32) (hb : isSheet T b) : CT (.code yX4_hasTable cX4_hasTable 2 (some .boolean)) yX4_hasTable 0 iI T [.ref b, .int p0] (F_X4_hasTable b p0) := by
  refine ct_of (lo := [some (.ref b), some (.int p0)]) (j := 0) k_X4_hasTable.1 rfl (fun _ => Nat.le_of_ble_eq_true rfl) ?_
  show TL_X4_hasTable T 0 _ _ _
  rw [F_X4_hasTable]
  refine tl_iload_n (pc := 0) (i := 1) dX4_hasTable_0 rfl rfl ?_
  refine tl_if_lt (pc := 1) (tgt := 16) dX4_hasTable_1 rfl ?_ ?_
  · refine tl_iconst (pc := 16) (v := 0) dX4_hasTable_16 (by decide) ?_
    exact tl_zret (pc := 17) dX4_hasTable_17
  · refine tl_iload_n (pc := 4) (i := 1) dX4_hasTable_4 rfl rfl ?_
    refine tl_aload_n (pc := 5) (i := 0) dX4_hasTable_5 rfl rfl ?_
    refine tl_getI (pc := 6) fl_X4_42 hb.1 rfl dX4_hasTable_6 (fun x1 => ?_)
    refine tl_icmp_ge (pc := 9) (tgt := 16) dX4_hasTable_9 rfl ?_ ?_
    · refine tl_iconst (pc := 16) (v := 0) dX4_hasTable_16 (by decide) ?_
      exact tl_zret (pc := 17) dX4_hasTable_17
    · refine tl_iconst (pc := 12) (v := 1) dX4_hasTable_12 (by decide) ?_
      refine tl_goto (pc := 13) (tgt := 17) dX4_hasTable_13 rfl ?_
      exact tl_zret (pc := 17) dX4_hasTable_17
abbrev TL_X4_squareAt (T : Tb) (pc : Nat) (lo : List (Option Value)) (st : List Value) (X : Dm Int32) : Prop := TL yX4_squareAt cX4_squareAt 5 (some .int) 2 iI T pc lo st X
set_option maxRecDepth 100000 in
theorem c_X4_squareAt (T : Tb) (b : Nat) (p0 : Int32) (p1 : Int32) (p2 : Int32) (hb : isSheet T b) : CT (.code yX4_squareAt cX4_squareAt 5 (some .int)) yX4_squareAt 2 iI T [.ref b, .int p0, .int p1, .int p2] (F_X4_squareAt b p0 p1 p2) := by
  refine ct_of (lo := [some (.ref b), some (.int p0), some (.int p1), some (.int p2), none]) (j := 1) k_X4_squareAt.1 rfl (fun _ => Nat.le_of_ble_eq_true rfl) ?_
  show TL_X4_squareAt T 0 _ _ _
  rw [F_X4_squareAt]
  refine tl_aload_n (pc := 0) (i := 0) dX4_squareAt_0 rfl rfl ?_
  refine tl_iload_n (pc := 1) (i := 1) dX4_squareAt_1 rfl rfl ?_
  refine tl_callVi (pc := 2) k_X4_hasTable gw_534 hb.1 ⟨_, _, rfl⟩ (c_X4_hasTable T _ _ hb) rfl rfl (Nat.le_of_ble_eq_true rfl) (Nat.le_of_ble_eq_true rfl) dX4_squareAt_2 (fun x1 => ?_)
  refine tl_j (fun (k : Int32 → Dm Int32) => ∀ (x2 : Int32), TL_X4_squareAt T 41 [none, some (.int p0), some (.int p1), some (.int p2), none] [.int x2] (k x2)) (fun x2 => ?_) (fun k1 hk1 => ?_)
  · refine tl_istore (pc := 41) (i := 4) (lo' := [none, some (.int p0), some (.int p1), some (.int p2), some (.int x2)]) dX4_squareAt_41 (by decide) rfl ?_
    refine tl_iload (pc := 43) (i := 4) dX4_squareAt_43 rfl ?_
    refine tl_if_eq (pc := 45) (tgt := 61) dX4_squareAt_45 rfl ?_ ?_
    · refine tl_iconst (pc := 61) (v := -1) dX4_squareAt_61 (by decide) ?_
      exact tl_iret (pc := 62) dX4_squareAt_62
    · refine tl_iload_n (pc := 48) (i := 1) dX4_squareAt_48 rfl rfl ?_
      refine tl_bipush (pc := 49) (v := 25) dX4_squareAt_49 (by decide) ?_
      refine tl_imul (pc := 51) dX4_squareAt_51 ?_
      refine tl_iload_n (pc := 52) (i := 2) dX4_squareAt_52 rfl rfl ?_
      refine tl_iconst (pc := 53) (v := 5) dX4_squareAt_53 (by decide) ?_
      refine tl_imul (pc := 54) dX4_squareAt_54 ?_
      refine tl_iadd (pc := 55) dX4_squareAt_55 ?_
      refine tl_iload_n (pc := 56) (i := 3) dX4_squareAt_56 rfl rfl ?_
      refine tl_iadd (pc := 57) dX4_squareAt_57 ?_
      refine tl_goto (pc := 58) (tgt := 62) dX4_squareAt_58 rfl ?_
      exact tl_iret (pc := 62) dX4_squareAt_62
  · refine tl_j (fun (k : Unit → Dm Int32) => ∀ (_ : Unit), TL_X4_squareAt T 40 [none, some (.int p0), some (.int p1), some (.int p2), none] [] (k ())) (fun _ => ?_) (fun k2 hk2 => ?_)
    · refine tl_iconst (pc := 40) (v := 0) dX4_squareAt_40 (by decide) ?_
      exact tl_sub (hk1 _) (sub_n (sub_s (sub_s (sub_s (sub_n sub_e)))))
    · refine tl_if_eq (pc := 5) (tgt := 40) dX4_squareAt_5 rfl ?_ ?_
      · exact tl_sub (hk2 ()) (sub_n (sub_s (sub_s (sub_s (sub_n sub_e)))))
      · refine tl_iload_n (pc := 8) (i := 2) dX4_squareAt_8 rfl rfl ?_
        refine tl_if_lt (pc := 9) (tgt := 40) dX4_squareAt_9 rfl ?_ ?_
        · exact tl_sub (hk2 ()) (sub_n (sub_s (sub_s (sub_s (sub_n sub_e)))))
        · refine tl_iload_n (pc := 12) (i := 2) dX4_squareAt_12 rfl rfl ?_
          refine tl_aload_n (pc := 13) (i := 0) dX4_squareAt_13 rfl rfl ?_
          refine tl_iload_n (pc := 14) (i := 1) dX4_squareAt_14 rfl rfl ?_
          refine tl_iconst (pc := 15) (v := 1) dX4_squareAt_15 (by decide) ?_
          refine tl_callVi (pc := 16) k_X4_linesOf gw_501 hb.1 ⟨_, _, rfl⟩ (c_X4_linesOf T _ _ _ hb) rfl rfl (Nat.le_of_ble_eq_true rfl) (Nat.le_of_ble_eq_true rfl) dX4_squareAt_16 (fun x3 => ?_)
          refine tl_icmp_ge (pc := 19) (tgt := 40) dX4_squareAt_19 rfl ?_ ?_
          · exact tl_sub (hk2 ()) (sub_n (sub_s (sub_s (sub_s (sub_n sub_e)))))
          · refine tl_iload_n (pc := 22) (i := 3) dX4_squareAt_22 rfl rfl ?_
            refine tl_if_lt (pc := 23) (tgt := 40) dX4_squareAt_23 rfl ?_ ?_
            · exact tl_sub (hk2 ()) (sub_n (sub_s (sub_s (sub_s (sub_n sub_e)))))
            · refine tl_iload_n (pc := 26) (i := 3) dX4_squareAt_26 rfl rfl ?_
              refine tl_aload_n (pc := 27) (i := 0) dX4_squareAt_27 rfl rfl ?_
              refine tl_iload_n (pc := 28) (i := 1) dX4_squareAt_28 rfl rfl ?_
              refine tl_iconst (pc := 29) (v := 0) dX4_squareAt_29 (by decide) ?_
              refine tl_callVi (pc := 30) k_X4_linesOf gw_501 hb.1 ⟨_, _, rfl⟩ (c_X4_linesOf T _ _ _ hb) rfl rfl (Nat.le_of_ble_eq_true rfl) (Nat.le_of_ble_eq_true rfl) dX4_squareAt_30 (fun x4 => ?_)
              refine tl_icmp_ge (pc := 33) (tgt := 40) dX4_squareAt_33 rfl ?_ ?_
              · exact tl_sub (hk2 ()) (sub_n (sub_s (sub_s (sub_s (sub_n sub_e)))))
              · refine tl_iconst (pc := 36) (v := 1) dX4_squareAt_36 (by decide) ?_
                refine tl_goto (pc := 37) (tgt := 41) dX4_squareAt_37 rfl ?_
                exact tl_sub (hk1 _) (sub_n (sub_s (sub_s (sub_s (sub_n sub_e)))))
abbrev TL_X4_addTable (T : Tb) (pc : Nat) (lo : List (Option Value)) (st : List Value) (X : Dm Int32) : Prop := TL yX4_addTable cX4_addTable 5 (some .int) 3 iI T pc lo st X
set_option maxRecDepth 100000 in
theorem c_X4_addTable (T : Tb) (b : Nat) (p0 : Int32) (p1 : Int32) (p2 : Int32) (hb : isSheet T b) : CT (.code yX4_addTable cX4_addTable 5 (some .int)) yX4_addTable 3 iI T [.ref b, .int p0, .int p1, .int p2] (F_X4_addTable b p0 p1 p2) := by
  refine ct_of (lo := [some (.ref b), some (.int p0), some (.int p1), some (.int p2), none]) (j := 1) k_X4_addTable.1 rfl (fun _ => Nat.le_of_ble_eq_true rfl) ?_
  show TL_X4_addTable T 0 _ _ _
  rw [F_X4_addTable]
  refine tl_aload_n (pc := 0) (i := 0) dX4_addTable_0 rfl rfl ?_
  refine tl_getI (pc := 1) fl_X4_42 hb.1 rfl dX4_addTable_1 (fun x1 => ?_)
  refine tl_istore (pc := 4) (i := 4) (lo' := [some (.ref b), some (.int p0), some (.int p1), some (.int p2), some (.int x1)]) dX4_addTable_4 (by decide) rfl ?_
  refine tl_aload_n (pc := 6) (i := 0) dX4_addTable_6 rfl rfl ?_
  refine tl_getR (pc := 7) (r := (b + 7)) fl_X4_30 hb.1 rfl dX4_addTable_7 ?_
  refine tl_iload_n (pc := 10) (i := 1) dX4_addTable_10 rfl rfl ?_
  refine tl_iconst (pc := 11) (v := 3) dX4_addTable_11 (by decide) ?_
  refine tl_callVv (pc := 12) k_X2_store gw_176 hb.2.2.2.2.1.1 ⟨_, _, rfl⟩ (c_X2_store T _ _ _ _ hb.2.2.2.2.1) rfl rfl (Nat.le_of_ble_eq_true rfl) (Nat.le_of_ble_eq_true rfl) dX4_addTable_12 (fun _ => ?_)
  refine tl_aload_n (pc := 15) (i := 0) dX4_addTable_15 rfl rfl ?_
  refine tl_getR (pc := 16) (r := (b + 9)) fl_X4_33 hb.1 rfl dX4_addTable_16 ?_
  refine tl_iload_n (pc := 19) (i := 1) dX4_addTable_19 rfl rfl ?_
  refine tl_iload (pc := 20) (i := 4) dX4_addTable_20 rfl ?_
  refine tl_callVv (pc := 22) k_X2_store gw_176 hb.2.2.2.2.2.1.1 ⟨_, _, rfl⟩ (c_X2_store T _ _ _ _ hb.2.2.2.2.2.1) rfl rfl (Nat.le_of_ble_eq_true rfl) (Nat.le_of_ble_eq_true rfl) dX4_addTable_22 (fun _ => ?_)
  refine tl_aload_n (pc := 25) (i := 0) dX4_addTable_25 rfl rfl ?_
  refine tl_iload_n (pc := 26) (i := 1) dX4_addTable_26 rfl rfl ?_
  refine tl_iload_n (pc := 27) (i := 2) dX4_addTable_27 rfl rfl ?_
  refine tl_iload_n (pc := 28) (i := 3) dX4_addTable_28 rfl rfl ?_
  refine tl_callVv (pc := 29) k_X4_layOut gw_172 hb.1 ⟨_, _, rfl⟩ (c_X4_layOut T _ _ _ _ hb) rfl rfl (Nat.le_of_ble_eq_true rfl) (Nat.le_of_ble_eq_true rfl) dX4_addTable_29 (fun _ => ?_)
  refine tl_iload (pc := 32) (i := 4) dX4_addTable_32 rfl ?_
  exact tl_iret (pc := 34) dX4_addTable_34
abbrev TL_X4_canFill (T : Tb) (pc : Nat) (lo : List (Option Value)) (st : List Value) (X : Dm Int32) : Prop := TL yX4_canFill cX4_canFill 2 (some .boolean) 2 iI T pc lo st X
set_option maxRecDepth 100000 in
theorem c_X4_canFill (T : Tb) (b : Nat) (p0 : Int32) (hb : isSheet T b) : CT (.code yX4_canFill cX4_canFill 2 (some .boolean)) yX4_canFill 2 iI T [.ref b, .int p0] (F_X4_canFill b p0) := by
  refine ct_of (lo := [some (.ref b), some (.int p0)]) (j := 0) k_X4_canFill.1 rfl (fun _ => Nat.le_of_ble_eq_true rfl) ?_
  show TL_X4_canFill T 0 _ _ _
  rw [F_X4_canFill]
  refine tl_aload_n (pc := 0) (i := 0) dX4_canFill_0 rfl rfl ?_
  refine tl_iload_n (pc := 1) (i := 1) dX4_canFill_1 rfl rfl ?_
  refine tl_callVi (pc := 2) k_X4_isCell gw_479 hb.1 ⟨_, _, rfl⟩ (c_X4_isCell T _ _ hb) rfl rfl (Nat.le_of_ble_eq_true rfl) (Nat.le_of_ble_eq_true rfl) dX4_canFill_2 (fun x1 => ?_)
  refine tl_if_eq (pc := 5) (tgt := 41) dX4_canFill_5 rfl ?_ ?_
  · refine tl_iconst (pc := 41) (v := 0) dX4_canFill_41 (by decide) ?_
    exact tl_zret (pc := 42) dX4_canFill_42
  · refine tl_aload_n (pc := 8) (i := 0) dX4_canFill_8 rfl rfl ?_
    refine tl_getR (pc := 9) (r := (b + 7)) fl_X4_30 hb.1 rfl dX4_canFill_9 ?_
    refine tl_iload_n (pc := 12) (i := 1) dX4_canFill_12 rfl rfl ?_
    refine tl_callVi (pc := 13) k_X2_at gw_213 hb.2.2.2.2.1.1 ⟨_, _, rfl⟩ (c_X2_at T _ _ _ hb.2.2.2.2.1) rfl rfl (Nat.le_of_ble_eq_true rfl) (Nat.le_of_ble_eq_true rfl) dX4_canFill_13 (fun x2 => ?_)
    refine tl_iconst (pc := 16) (v := 3) dX4_canFill_16 (by decide) ?_
    refine tl_icmp_ne (pc := 17) (tgt := 37) dX4_canFill_17 rfl ?_ ?_
    · refine tl_aload_n (pc := 20) (i := 0) dX4_canFill_20 rfl rfl ?_
      refine tl_getR (pc := 21) (r := (b + 9)) fl_X4_33 hb.1 rfl dX4_canFill_21 ?_
      refine tl_iload_n (pc := 24) (i := 1) dX4_canFill_24 rfl rfl ?_
      refine tl_callVi (pc := 25) k_X2_at gw_213 hb.2.2.2.2.2.1.1 ⟨_, _, rfl⟩ (c_X2_at T _ _ _ hb.2.2.2.2.2.1) rfl rfl (Nat.le_of_ble_eq_true rfl) (Nat.le_of_ble_eq_true rfl) dX4_canFill_25 (fun x3 => ?_)
      refine tl_aload_n (pc := 28) (i := 0) dX4_canFill_28 rfl rfl ?_
      refine tl_getI (pc := 29) fl_X4_42 hb.1 rfl dX4_canFill_29 (fun x4 => ?_)
      refine tl_iconst (pc := 32) (v := 1) dX4_canFill_32 (by decide) ?_
      refine tl_isub (pc := 33) dX4_canFill_33 ?_
      refine tl_icmp_ne (pc := 34) (tgt := 41) dX4_canFill_34 rfl ?_ ?_
      · refine tl_iconst (pc := 37) (v := 1) dX4_canFill_37 (by decide) ?_
        refine tl_goto (pc := 38) (tgt := 42) dX4_canFill_38 rfl ?_
        exact tl_zret (pc := 42) dX4_canFill_42
      · refine tl_iconst (pc := 41) (v := 0) dX4_canFill_41 (by decide) ?_
        exact tl_zret (pc := 42) dX4_canFill_42
    · refine tl_iconst (pc := 37) (v := 1) dX4_canFill_37 (by decide) ?_
      refine tl_goto (pc := 38) (tgt := 42) dX4_canFill_38 rfl ?_
      exact tl_zret (pc := 42) dX4_canFill_42
abbrev TL_X4_fill (T : Tb) (pc : Nat) (lo : List (Option Value)) (st : List Value) (X : Dm Int32) : Prop := TL yX4_fill cX4_fill 5 (some .int) 1 iI T pc lo st X
set_option maxRecDepth 100000 in
theorem c_X4_fill (T : Tb) (b : Nat) (p0 : Int32) (p1 : Int32) (p2 : Int32) (hb : isSheet T b) : CT (.code yX4_fill cX4_fill 5 (some .int)) yX4_fill 1 iI T [.ref b, .int p0, .int p1, .int p2] (F_X4_fill b p0 p1 p2) := by
  refine ct_of (lo := [some (.ref b), some (.int p0), some (.int p1), some (.int p2), none]) (j := 1) k_X4_fill.1 rfl (fun _ => Nat.le_of_ble_eq_true rfl) ?_
  show TL_X4_fill T 0 _ _ _
  rw [F_X4_fill]
  refine tl_aload_n (pc := 0) (i := 0) dX4_fill_0 rfl rfl ?_
  refine tl_getR (pc := 1) (r := (b + 7)) fl_X4_30 hb.1 rfl dX4_fill_1 ?_
  refine tl_iload_n (pc := 4) (i := 1) dX4_fill_4 rfl rfl ?_
  refine tl_callVi (pc := 5) k_X2_at gw_213 hb.2.2.2.2.1.1 ⟨_, _, rfl⟩ (c_X2_at T _ _ _ hb.2.2.2.2.1) rfl rfl (Nat.le_of_ble_eq_true rfl) (Nat.le_of_ble_eq_true rfl) dX4_fill_5 (fun x1 => ?_)
  refine tl_istore (pc := 8) (i := 4) (lo' := [some (.ref b), some (.int p0), some (.int p1), some (.int p2), some (.int x1)]) dX4_fill_8 (by decide) rfl ?_
  refine tl_iload (pc := 10) (i := 4) dX4_fill_10 rfl ?_
  refine tl_iconst (pc := 12) (v := 3) dX4_fill_12 (by decide) ?_
  refine tl_j (fun (k : Unit → Dm Int32) => ∀ (_ : Unit), TL_X4_fill T 26 [some (.ref b), some (.int p0), some (.int p1), some (.int p2), some (.int x1)] [] (k ())) (fun _ => ?_) (fun k1 hk1 => ?_)
  · refine tl_aload_n (pc := 26) (i := 0) dX4_fill_26 rfl rfl ?_
    refine tl_getR (pc := 27) (r := (b + 7)) fl_X4_30 hb.1 rfl dX4_fill_27 ?_
    refine tl_iload_n (pc := 30) (i := 1) dX4_fill_30 rfl rfl ?_
    refine tl_iload_n (pc := 31) (i := 2) dX4_fill_31 rfl rfl ?_
    refine tl_callVv (pc := 32) k_X2_store gw_176 hb.2.2.2.2.1.1 ⟨_, _, rfl⟩ (c_X2_store T _ _ _ _ hb.2.2.2.2.1) rfl rfl (Nat.le_of_ble_eq_true rfl) (Nat.le_of_ble_eq_true rfl) dX4_fill_32 (fun _ => ?_)
    refine tl_aload_n (pc := 35) (i := 0) dX4_fill_35 rfl rfl ?_
    refine tl_getR (pc := 36) (r := (b + 9)) fl_X4_33 hb.1 rfl dX4_fill_36 ?_
    refine tl_iload_n (pc := 39) (i := 1) dX4_fill_39 rfl rfl ?_
    refine tl_iload_n (pc := 40) (i := 2) dX4_fill_40 rfl rfl ?_
    refine tl_iconst (pc := 41) (v := 1) dX4_fill_41 (by decide) ?_
    refine tl_icmp_eq (pc := 42) (tgt := 50) dX4_fill_42 rfl ?_ ?_
    · refine tl_iload_n (pc := 50) (i := 3) dX4_fill_50 rfl rfl ?_
      refine tl_goto (pc := 51) (tgt := 55) dX4_fill_51 rfl ?_
      refine tl_callVv (pc := 55) k_X2_store gw_176 hb.2.2.2.2.2.1.1 ⟨_, _, rfl⟩ (c_X2_store T _ _ _ _ hb.2.2.2.2.2.1) rfl rfl (Nat.le_of_ble_eq_true rfl) (Nat.le_of_ble_eq_true rfl) dX4_fill_55 (fun _ => ?_)
      refine tl_iload (pc := 58) (i := 4) dX4_fill_58 rfl ?_
      exact tl_iret (pc := 60) dX4_fill_60
    · refine tl_iload_n (pc := 45) (i := 2) dX4_fill_45 rfl rfl ?_
      refine tl_iconst (pc := 46) (v := 2) dX4_fill_46 (by decide) ?_
      refine tl_icmp_ne (pc := 47) (tgt := 54) dX4_fill_47 rfl ?_ ?_
      · refine tl_iload_n (pc := 50) (i := 3) dX4_fill_50 rfl rfl ?_
        refine tl_goto (pc := 51) (tgt := 55) dX4_fill_51 rfl ?_
        refine tl_callVv (pc := 55) k_X2_store gw_176 hb.2.2.2.2.2.1.1 ⟨_, _, rfl⟩ (c_X2_store T _ _ _ _ hb.2.2.2.2.2.1) rfl rfl (Nat.le_of_ble_eq_true rfl) (Nat.le_of_ble_eq_true rfl) dX4_fill_55 (fun _ => ?_)
        refine tl_iload (pc := 58) (i := 4) dX4_fill_58 rfl ?_
        exact tl_iret (pc := 60) dX4_fill_60
      · refine tl_iconst (pc := 54) (v := 0) dX4_fill_54 (by decide) ?_
        refine tl_callVv (pc := 55) k_X2_store gw_176 hb.2.2.2.2.2.1.1 ⟨_, _, rfl⟩ (c_X2_store T _ _ _ _ hb.2.2.2.2.2.1) rfl rfl (Nat.le_of_ble_eq_true rfl) (Nat.le_of_ble_eq_true rfl) dX4_fill_55 (fun _ => ?_)
        refine tl_iload (pc := 58) (i := 4) dX4_fill_58 rfl ?_
        exact tl_iret (pc := 60) dX4_fill_60
  · refine tl_icmp_ne (pc := 13) (tgt := 26) dX4_fill_13 rfl ?_ ?_
    · refine tl_aload_n (pc := 16) (i := 0) dX4_fill_16 rfl rfl ?_
      refine tl_dup (pc := 17) dX4_fill_17 rfl ?_
      refine tl_getI (pc := 18) fl_X4_42 hb.1 rfl dX4_fill_18 (fun x2 => ?_)
      refine tl_iconst (pc := 21) (v := 1) dX4_fill_21 (by decide) ?_
      refine tl_isub (pc := 22) dX4_fill_22 ?_
      refine tl_putI (pc := 23) fw_X4_42 hb.1 rfl dX4_fill_23 ?_
      exact tl_sub (hk1 ()) (sub_s (sub_s (sub_s (sub_s (sub_s sub_e)))))
    · exact tl_sub (hk1 ()) (sub_s (sub_s (sub_s (sub_s (sub_s sub_e)))))
abbrev TL_X4_isSingleEmpty (T : Tb) (pc : Nat) (lo : List (Option Value)) (st : List Value) (X : Dm Int32) : Prop := TL yX4_isSingleEmpty cX4_isSingleEmpty 2 (some .boolean) 2 iI T pc lo st X
set_option maxRecDepth 100000 in
theorem c_X4_isSingleEmpty (T : Tb) (b : Nat) (p0 : Int32) (hb : isSheet T b) : CT (.code yX4_isSingleEmpty cX4_isSingleEmpty 2 (some .boolean)) yX4_isSingleEmpty 2 iI T [.ref b, .int p0] (F_X4_isSingleEmpty b p0) := by
  refine ct_of (lo := [some (.ref b), some (.int p0)]) (j := 0) k_X4_isSingleEmpty.1 rfl (fun _ => Nat.le_of_ble_eq_true rfl) ?_
  show TL_X4_isSingleEmpty T 0 _ _ _
  rw [F_X4_isSingleEmpty]
  refine tl_aload_n (pc := 0) (i := 0) dX4_isSingleEmpty_0 rfl rfl ?_
  refine tl_getR (pc := 1) (r := (b + 7)) fl_X4_30 hb.1 rfl dX4_isSingleEmpty_1 ?_
  refine tl_iload_n (pc := 4) (i := 1) dX4_isSingleEmpty_4 rfl rfl ?_
  refine tl_callVi (pc := 5) k_X2_at gw_213 hb.2.2.2.2.1.1 ⟨_, _, rfl⟩ (c_X2_at T _ _ _ hb.2.2.2.2.1) rfl rfl (Nat.le_of_ble_eq_true rfl) (Nat.le_of_ble_eq_true rfl) dX4_isSingleEmpty_5 (fun x1 => ?_)
  refine tl_if_ne (pc := 8) (tgt := 35) dX4_isSingleEmpty_8 rfl ?_ ?_
  · refine tl_aload_n (pc := 11) (i := 0) dX4_isSingleEmpty_11 rfl rfl ?_
    refine tl_iload_n (pc := 12) (i := 1) dX4_isSingleEmpty_12 rfl rfl ?_
    refine tl_iconst (pc := 13) (v := 1) dX4_isSingleEmpty_13 (by decide) ?_
    refine tl_callVi (pc := 14) k_X4_spanOf gw_578 hb.1 ⟨_, _, rfl⟩ (c_X4_spanOf T _ _ _ hb) rfl rfl (Nat.le_of_ble_eq_true rfl) (Nat.le_of_ble_eq_true rfl) dX4_isSingleEmpty_14 (fun x2 => ?_)
    refine tl_iconst (pc := 17) (v := 1) dX4_isSingleEmpty_17 (by decide) ?_
    refine tl_icmp_ne (pc := 18) (tgt := 35) dX4_isSingleEmpty_18 rfl ?_ ?_
    · refine tl_aload_n (pc := 21) (i := 0) dX4_isSingleEmpty_21 rfl rfl ?_
      refine tl_iload_n (pc := 22) (i := 1) dX4_isSingleEmpty_22 rfl rfl ?_
      refine tl_iconst (pc := 23) (v := 0) dX4_isSingleEmpty_23 (by decide) ?_
      refine tl_callVi (pc := 24) k_X4_spanOf gw_578 hb.1 ⟨_, _, rfl⟩ (c_X4_spanOf T _ _ _ hb) rfl rfl (Nat.le_of_ble_eq_true rfl) (Nat.le_of_ble_eq_true rfl) dX4_isSingleEmpty_24 (fun x3 => ?_)
      refine tl_iconst (pc := 27) (v := 1) dX4_isSingleEmpty_27 (by decide) ?_
      refine tl_icmp_ne (pc := 28) (tgt := 35) dX4_isSingleEmpty_28 rfl ?_ ?_
      · refine tl_iconst (pc := 31) (v := 1) dX4_isSingleEmpty_31 (by decide) ?_
        refine tl_goto (pc := 32) (tgt := 36) dX4_isSingleEmpty_32 rfl ?_
        exact tl_zret (pc := 36) dX4_isSingleEmpty_36
      · refine tl_iconst (pc := 35) (v := 0) dX4_isSingleEmpty_35 (by decide) ?_
        exact tl_zret (pc := 36) dX4_isSingleEmpty_36
    · refine tl_iconst (pc := 35) (v := 0) dX4_isSingleEmpty_35 (by decide) ?_
      exact tl_zret (pc := 36) dX4_isSingleEmpty_36
  · refine tl_iconst (pc := 35) (v := 0) dX4_isSingleEmpty_35 (by decide) ?_
    exact tl_zret (pc := 36) dX4_isSingleEmpty_36
abbrev TL_X4_canCover (T : Tb) (pc : Nat) (lo : List (Option Value)) (st : List Value) (X : Dm Int32) : Prop := TL yX4_canCover cX4_canCover 7 (some .boolean) 3 iI T pc lo st X
set_option maxRecDepth 100000 in
theorem lp_X4_canCover_12 (T : Tb) (b : Nat) (p0 : Int32) (p1 : Int32) (p2 : Int32) (x1 : Int32) (hb : isSheet T b)  (k1 : Unit → Dm Int32) (hk1 : ∀ (_ : Unit), TL_X4_canCover T 59 [some (.ref b), some (.int p0), some (.int p1), some (.int p2), some (.int x1), none, none] [] (k1 ())) : ∀ (n : Nat) (x2 : Int32), TL_X4_canCover T 12 [some (.ref b), some (.int p0), some (.int p1), some (.int p2), some (.int x1), some (.int x2), none] [] (L_X4_canCover_12 b p0 p2 x1 n x2 k1) := by
  intro n
  induction n with
  | zero => intros; exact tl_fail
  | succ n ih =>
    intro x2
    rw [L_X4_canCover_12]
    refine tl_iload (pc := 12) (i := 5) dX4_canCover_12 rfl ?_
    refine tl_iload_n (pc := 14) (i := 3) dX4_canCover_14 rfl rfl ?_
    refine tl_icmp_ge (pc := 15) (tgt := 59) dX4_canCover_15 rfl ?_ ?_
    · exact tl_sub (hk1 ()) (sub_s (sub_s (sub_s (sub_s (sub_s (sub_n (sub_n sub_e)))))))
    · refine tl_aload_n (pc := 18) (i := 0) dX4_canCover_18 rfl rfl ?_
      refine tl_getR (pc := 19) (r := (b + 5)) fl_X4_27 hb.1 rfl dX4_canCover_19 ?_
      refine tl_iload_n (pc := 22) (i := 1) dX4_canCover_22 rfl rfl ?_
      refine tl_iload (pc := 23) (i := 4) dX4_canCover_23 rfl ?_
      refine tl_iconst (pc := 25) (v := 5) dX4_canCover_25 (by decide) ?_
      refine tl_imul (pc := 26) dX4_canCover_26 ?_
      refine tl_iadd (pc := 27) dX4_canCover_27 ?_
      refine tl_iload (pc := 28) (i := 5) dX4_canCover_28 rfl ?_
      refine tl_iadd (pc := 30) dX4_canCover_30 ?_
      refine tl_callVi (pc := 31) k_X2_at gw_213 hb.2.2.2.1.1 ⟨_, _, rfl⟩ (c_X2_at T _ _ _ hb.2.2.2.1) rfl rfl (Nat.le_of_ble_eq_true rfl) (Nat.le_of_ble_eq_true rfl) dX4_canCover_31 (fun x3 => ?_)
      refine tl_istore (pc := 34) (i := 6) (lo' := [some (.ref b), some (.int p0), some (.int p1), some (.int p2), some (.int x1), some (.int x2), some (.int x3)]) dX4_canCover_34 (by decide) rfl ?_
      refine tl_iload (pc := 36) (i := 6) dX4_canCover_36 rfl ?_
      refine tl_iload_n (pc := 38) (i := 1) dX4_canCover_38 rfl rfl ?_
      refine tl_j (fun (k : Unit → Dm Int32) => ∀ (_ : Unit), TL_X4_canCover T 53 [some (.ref b), some (.int p0), some (.int p1), some (.int p2), some (.int x1), some (.int x2), none] [] (k ())) (fun _ => ?_) (fun k2 hk2 => ?_)
      · refine tl_iinc (pc := 53) (i := 5) (v := x2 + (1 : Int32)) (lo' := [some (.ref b), some (.int p0), some (.int p1), some (.int p2), some (.int x1), some (.int (x2 + (1 : Int32))), none]) dX4_canCover_53 rfl rfl (by decide) rfl ?_
        refine tl_goto (pc := 56) (tgt := 12) dX4_canCover_56 rfl ?_
        exact tl_sub (ih _) (sub_s (sub_s (sub_s (sub_s (sub_s (sub_s (sub_n sub_e)))))))
      · refine tl_icmp_eq (pc := 39) (tgt := 53) dX4_canCover_39 rfl ?_ ?_
        · exact tl_sub (hk2 ()) (sub_s (sub_s (sub_s (sub_s (sub_s (sub_s (sub_n sub_e)))))))
        · refine tl_aload_n (pc := 42) (i := 0) dX4_canCover_42 rfl rfl ?_
          refine tl_iload (pc := 43) (i := 6) dX4_canCover_43 rfl ?_
          refine tl_callVi (pc := 45) k_X4_isSingleEmpty gw_574 hb.1 ⟨_, _, rfl⟩ (c_X4_isSingleEmpty T _ _ hb) rfl rfl (Nat.le_of_ble_eq_true rfl) (Nat.le_of_ble_eq_true rfl) dX4_canCover_45 (fun x4 => ?_)
          refine tl_if_ne (pc := 48) (tgt := 53) dX4_canCover_48 rfl ?_ ?_
          · refine tl_iconst (pc := 51) (v := 0) dX4_canCover_51 (by decide) ?_
            exact tl_zret (pc := 52) dX4_canCover_52
          · exact tl_sub (hk2 ()) (sub_s (sub_s (sub_s (sub_s (sub_s (sub_s (sub_n sub_e)))))))
set_option maxRecDepth 100000 in
theorem lp_X4_canCover_3 (T : Tb) (b : Nat) (p0 : Int32) (p1 : Int32) (p2 : Int32)  (hb : isSheet T b)    : ∀ (n : Nat) (x1 : Int32), TL_X4_canCover T 3 [some (.ref b), some (.int p0), some (.int p1), some (.int p2), some (.int x1), none, none] [] (L_X4_canCover_3 b p0 p1 p2 n x1 ) := by
  intro n
  induction n with
  | zero => intros; exact tl_fail
  | succ n ih =>
    intro x1
    rw [L_X4_canCover_3]
    refine tl_iload (pc := 3) (i := 4) dX4_canCover_3 rfl ?_
    refine tl_iload_n (pc := 5) (i := 2) dX4_canCover_5 rfl rfl ?_
    refine tl_icmp_ge (pc := 6) (tgt := 65) dX4_canCover_6 rfl ?_ ?_
    · refine tl_iconst (pc := 65) (v := 1) dX4_canCover_65 (by decide) ?_
      exact tl_zret (pc := 66) dX4_canCover_66
    · refine tl_iconst (pc := 9) (v := 0) dX4_canCover_9 (by decide) ?_
      refine tl_istore (pc := 10) (i := 5) (lo' := [some (.ref b), some (.int p0), some (.int p1), some (.int p2), some (.int x1), some (.int (0 : Int32)), none]) dX4_canCover_10 (by decide) rfl ?_
      refine tl_sub (lp_X4_canCover_12 T b p0 p1 p2 x1 hb  _ (fun _ => ?_) FU _) (sub_s (sub_s (sub_s (sub_s (sub_s (sub_s (sub_n sub_e)))))))
      refine tl_iinc (pc := 59) (i := 4) (v := x1 + (1 : Int32)) (lo' := [some (.ref b), some (.int p0), some (.int p1), some (.int p2), some (.int (x1 + (1 : Int32))), none, none]) dX4_canCover_59 rfl rfl (by decide) rfl ?_
      refine tl_goto (pc := 62) (tgt := 3) dX4_canCover_62 rfl ?_
      exact tl_sub (ih _) (sub_s (sub_s (sub_s (sub_s (sub_s (sub_n (sub_n sub_e)))))))
set_option maxRecDepth 100000 in
theorem c_X4_canCover (T : Tb) (b : Nat) (p0 : Int32) (p1 : Int32) (p2 : Int32) (hb : isSheet T b) : CT (.code yX4_canCover cX4_canCover 7 (some .boolean)) yX4_canCover 3 iI T [.ref b, .int p0, .int p1, .int p2] (F_X4_canCover b p0 p1 p2) := by
  refine ct_of (lo := [some (.ref b), some (.int p0), some (.int p1), some (.int p2), none, none, none]) (j := 3) k_X4_canCover.1 rfl (fun _ => Nat.le_of_ble_eq_true rfl) ?_
  show TL_X4_canCover T 0 _ _ _
  rw [F_X4_canCover]
  refine tl_iconst (pc := 0) (v := 0) dX4_canCover_0 (by decide) ?_
  refine tl_istore (pc := 1) (i := 4) (lo' := [some (.ref b), some (.int p0), some (.int p1), some (.int p2), some (.int (0 : Int32)), none, none]) dX4_canCover_1 (by decide) rfl ?_
  refine tl_sub (lp_X4_canCover_3 T b p0 p1 p2 hb    FU _) (sub_s (sub_s (sub_s (sub_s (sub_s (sub_n (sub_n sub_e)))))))
abbrev TL_X4_giveSquares (T : Tb) (pc : Nat) (lo : List (Option Value)) (st : List Value) (X : Dm Unit) : Prop := TL yX4_giveSquares cX4_giveSquares 8 none 2 vI T pc lo st X
set_option maxRecDepth 100000 in
theorem lp_X4_giveSquares_12 (T : Tb) (b : Nat) (p0 : Int32) (p1 : Int32) (p2 : Int32) (p3 : Int32) (x1 : Int32) (hb : isSheet T b)  (k1 : Unit → Dm Unit) (hk1 : ∀ (_ : Unit), TL_X4_giveSquares T 67 [some (.ref b), some (.int p0), some (.int p1), some (.int p2), some (.int p3), some (.int x1), none, none] [] (k1 ())) : ∀ (n : Nat) (x2 : Int32), TL_X4_giveSquares T 12 [some (.ref b), some (.int p0), some (.int p1), some (.int p2), some (.int p3), some (.int x1), some (.int x2), none] [] (L_X4_giveSquares_12 b p0 p2 p3 x1 n x2 k1) := by
  intro n
  induction n with
  | zero => intros; exact tl_fail
  | succ n ih =>
    intro x2
    rw [L_X4_giveSquares_12]
    refine tl_iload (pc := 12) (i := 6) dX4_giveSquares_12 rfl ?_
    refine tl_iload_n (pc := 14) (i := 3) dX4_giveSquares_14 rfl rfl ?_
    refine tl_icmp_ge (pc := 15) (tgt := 67) dX4_giveSquares_15 rfl ?_ ?_
    · exact tl_sub (hk1 ()) (sub_s (sub_s (sub_s (sub_s (sub_s (sub_s (sub_n (sub_n sub_e))))))))
    · refine tl_iload_n (pc := 18) (i := 1) dX4_giveSquares_18 rfl rfl ?_
      refine tl_iload (pc := 19) (i := 5) dX4_giveSquares_19 rfl ?_
      refine tl_iconst (pc := 21) (v := 5) dX4_giveSquares_21 (by decide) ?_
      refine tl_imul (pc := 22) dX4_giveSquares_22 ?_
      refine tl_iadd (pc := 23) dX4_giveSquares_23 ?_
      refine tl_iload (pc := 24) (i := 6) dX4_giveSquares_24 rfl ?_
      refine tl_iadd (pc := 26) dX4_giveSquares_26 ?_
      refine tl_bI (fun x3 => ?_)
      refine tl_istore (pc := 27) (i := 7) (lo' := [some (.ref b), some (.int p0), some (.int p1), some (.int p2), some (.int p3), some (.int x1), some (.int x2), some (.int x3)]) dX4_giveSquares_27 (by decide) rfl ?_
      refine tl_iload (pc := 29) (i := 7) dX4_giveSquares_29 rfl ?_
      refine tl_iload_n (pc := 31) (i := 1) dX4_giveSquares_31 rfl rfl ?_
      refine tl_j (fun (k : Unit → Dm Unit) => ∀ (_ : Unit), TL_X4_giveSquares T 61 [some (.ref b), some (.int p0), some (.int p1), some (.int p2), some (.int p3), some (.int x1), some (.int x2), none] [] (k ())) (fun _ => ?_) (fun k2 hk2 => ?_)
      · refine tl_iinc (pc := 61) (i := 6) (v := x2 + (1 : Int32)) (lo' := [some (.ref b), some (.int p0), some (.int p1), some (.int p2), some (.int p3), some (.int x1), some (.int (x2 + (1 : Int32))), none]) dX4_giveSquares_61 rfl rfl (by decide) rfl ?_
        refine tl_goto (pc := 64) (tgt := 12) dX4_giveSquares_64 rfl ?_
        exact tl_sub (ih _) (sub_s (sub_s (sub_s (sub_s (sub_s (sub_s (sub_s (sub_n sub_e))))))))
      · refine tl_icmp_eq (pc := 32) (tgt := 61) dX4_giveSquares_32 rfl ?_ ?_
        · exact tl_sub (hk2 ()) (sub_s (sub_s (sub_s (sub_s (sub_s (sub_s (sub_s (sub_n sub_e))))))))
        · refine tl_aload_n (pc := 35) (i := 0) dX4_giveSquares_35 rfl rfl ?_
          refine tl_iload (pc := 36) (i := 7) dX4_giveSquares_36 rfl ?_
          refine tl_callVv (pc := 38) k_X4_makeEmpty gw_184 hb.1 ⟨_, _, rfl⟩ (c_X4_makeEmpty T _ _ hb) rfl rfl (Nat.le_of_ble_eq_true rfl) (Nat.le_of_ble_eq_true rfl) dX4_giveSquares_38 (fun _ => ?_)
          refine tl_aload_n (pc := 41) (i := 0) dX4_giveSquares_41 rfl rfl ?_
          refine tl_getR (pc := 42) (r := (b + 5)) fl_X4_27 hb.1 rfl dX4_giveSquares_42 ?_
          refine tl_iload (pc := 45) (i := 7) dX4_giveSquares_45 rfl ?_
          refine tl_iload (pc := 47) (i := 4) dX4_giveSquares_47 rfl ?_
          refine tl_j (fun (k : Int32 → Dm Unit) => ∀ (x4 : Int32), TL_X4_giveSquares T 58 [some (.ref b), some (.int p0), some (.int p1), some (.int p2), some (.int p3), some (.int x1), some (.int x2), none] [.int x4, .int x3, .ref (b + 5)] (k x4)) (fun x4 => ?_) (fun k3 hk3 => ?_)
          · refine tl_callVv (pc := 58) k_X2_store gw_176 hb.2.2.2.1.1 ⟨_, _, rfl⟩ (c_X2_store T _ _ _ _ hb.2.2.2.1) rfl rfl (Nat.le_of_ble_eq_true rfl) (Nat.le_of_ble_eq_true rfl) dX4_giveSquares_58 (fun _ => ?_)
            exact tl_sub (hk2 ()) (sub_s (sub_s (sub_s (sub_s (sub_s (sub_s (sub_s (sub_n sub_e))))))))
          · refine tl_if_eq (pc := 49) (tgt := 56) dX4_giveSquares_49 rfl ?_ ?_
            · refine tl_iload (pc := 56) (i := 7) dX4_giveSquares_56 rfl ?_
              exact tl_sub (hk3 _) (sub_s (sub_s (sub_s (sub_s (sub_s (sub_s (sub_s (sub_n sub_e))))))))
            · refine tl_iload_n (pc := 52) (i := 1) dX4_giveSquares_52 rfl rfl ?_
              refine tl_goto (pc := 53) (tgt := 58) dX4_giveSquares_53 rfl ?_
              exact tl_sub (hk3 _) (sub_s (sub_s (sub_s (sub_s (sub_s (sub_s (sub_s (sub_n sub_e))))))))
set_option maxRecDepth 100000 in
theorem lp_X4_giveSquares_3 (T : Tb) (b : Nat) (p0 : Int32) (p1 : Int32) (p2 : Int32) (p3 : Int32)  (hb : isSheet T b)    : ∀ (n : Nat) (x1 : Int32), TL_X4_giveSquares T 3 [some (.ref b), some (.int p0), some (.int p1), some (.int p2), some (.int p3), some (.int x1), none, none] [] (L_X4_giveSquares_3 b p0 p1 p2 p3 n x1 ) := by
  intro n
  induction n with
  | zero => intros; exact tl_fail
  | succ n ih =>
    intro x1
    rw [L_X4_giveSquares_3]
    refine tl_iload (pc := 3) (i := 5) dX4_giveSquares_3 rfl ?_
    refine tl_iload_n (pc := 5) (i := 2) dX4_giveSquares_5 rfl rfl ?_
    refine tl_icmp_ge (pc := 6) (tgt := 73) dX4_giveSquares_6 rfl ?_ ?_
    · exact tl_vret (pc := 73) dX4_giveSquares_73
    · refine tl_iconst (pc := 9) (v := 0) dX4_giveSquares_9 (by decide) ?_
      refine tl_istore (pc := 10) (i := 6) (lo' := [some (.ref b), some (.int p0), some (.int p1), some (.int p2), some (.int p3), some (.int x1), some (.int (0 : Int32)), none]) dX4_giveSquares_10 (by decide) rfl ?_
      refine tl_sub (lp_X4_giveSquares_12 T b p0 p1 p2 p3 x1 hb  _ (fun _ => ?_) FU _) (sub_s (sub_s (sub_s (sub_s (sub_s (sub_s (sub_s (sub_n sub_e))))))))
      refine tl_iinc (pc := 67) (i := 5) (v := x1 + (1 : Int32)) (lo' := [some (.ref b), some (.int p0), some (.int p1), some (.int p2), some (.int p3), some (.int (x1 + (1 : Int32))), none, none]) dX4_giveSquares_67 rfl rfl (by decide) rfl ?_
      refine tl_goto (pc := 70) (tgt := 3) dX4_giveSquares_70 rfl ?_
      exact tl_sub (ih _) (sub_s (sub_s (sub_s (sub_s (sub_s (sub_s (sub_n (sub_n sub_e))))))))
set_option maxRecDepth 100000 in
theorem c_X4_giveSquares (T : Tb) (b : Nat) (p0 : Int32) (p1 : Int32) (p2 : Int32) (p3 : Int32) (hb : isSheet T b) : CT (.code yX4_giveSquares cX4_giveSquares 8 none) yX4_giveSquares 2 vI T [.ref b, .int p0, .int p1, .int p2, .int p3] (F_X4_giveSquares b p0 p1 p2 p3) := by
  refine ct_of (lo := [some (.ref b), some (.int p0), some (.int p1), some (.int p2), some (.int p3), none, none, none]) (j := 3) k_X4_giveSquares.1 rfl (fun _ => Nat.le_of_ble_eq_true rfl) ?_
  show TL_X4_giveSquares T 0 _ _ _
  rw [F_X4_giveSquares]
  refine tl_iconst (pc := 0) (v := 0) dX4_giveSquares_0 (by decide) ?_
  refine tl_istore (pc := 1) (i := 5) (lo' := [some (.ref b), some (.int p0), some (.int p1), some (.int p2), some (.int p3), some (.int (0 : Int32)), none, none]) dX4_giveSquares_1 (by decide) rfl ?_
  refine tl_sub (lp_X4_giveSquares_3 T b p0 p1 p2 p3 hb    FU _) (sub_s (sub_s (sub_s (sub_s (sub_s (sub_s (sub_n (sub_n sub_e))))))))
abbrev TL_X4_cover (T : Tb) (pc : Nat) (lo : List (Option Value)) (st : List Value) (X : Dm Unit) : Prop := TL yX4_cover cX4_cover 4 none 3 vI T pc lo st X
set_option maxRecDepth 100000 in
theorem c_X4_cover (T : Tb) (b : Nat) (p0 : Int32) (p1 : Int32) (p2 : Int32) (hb : isSheet T b) : CT (.code yX4_cover cX4_cover 4 none) yX4_cover 3 vI T [.ref b, .int p0, .int p1, .int p2] (F_X4_cover b p0 p1 p2) := by
  refine ct_of (lo := [some (.ref b), some (.int p0), some (.int p1), some (.int p2)]) (j := 0) k_X4_cover.1 rfl (fun _ => Nat.le_of_ble_eq_true rfl) ?_
  show TL_X4_cover T 0 _ _ _
  rw [F_X4_cover]
  refine tl_aload_n (pc := 0) (i := 0) dX4_cover_0 rfl rfl ?_
  refine tl_iload_n (pc := 1) (i := 1) dX4_cover_1 rfl rfl ?_
  refine tl_aload_n (pc := 2) (i := 0) dX4_cover_2 rfl rfl ?_
  refine tl_iload_n (pc := 3) (i := 1) dX4_cover_3 rfl rfl ?_
  refine tl_iconst (pc := 4) (v := 1) dX4_cover_4 (by decide) ?_
  refine tl_callVi (pc := 5) k_X4_spanOf gw_578 hb.1 ⟨_, _, rfl⟩ (c_X4_spanOf T _ _ _ hb) rfl rfl (Nat.le_of_ble_eq_true rfl) (Nat.le_of_ble_eq_true rfl) dX4_cover_5 (fun x1 => ?_)
  refine tl_aload_n (pc := 8) (i := 0) dX4_cover_8 rfl rfl ?_
  refine tl_iload_n (pc := 9) (i := 1) dX4_cover_9 rfl rfl ?_
  refine tl_iconst (pc := 10) (v := 0) dX4_cover_10 (by decide) ?_
  refine tl_callVi (pc := 11) k_X4_spanOf gw_578 hb.1 ⟨_, _, rfl⟩ (c_X4_spanOf T _ _ _ hb) rfl rfl (Nat.le_of_ble_eq_true rfl) (Nat.le_of_ble_eq_true rfl) dX4_cover_11 (fun x2 => ?_)
  refine tl_iconst (pc := 14) (v := 0) dX4_cover_14 (by decide) ?_
  refine tl_callVv (pc := 15) k_X4_giveSquares gw_583 hb.1 ⟨_, _, rfl⟩ (c_X4_giveSquares T _ _ _ _ _ hb) rfl rfl (Nat.le_of_ble_eq_true rfl) (Nat.le_of_ble_eq_true rfl) dX4_cover_15 (fun _ => ?_)
  refine tl_aload_n (pc := 18) (i := 0) dX4_cover_18 rfl rfl ?_
  refine tl_iload_n (pc := 19) (i := 1) dX4_cover_19 rfl rfl ?_
  refine tl_iload_n (pc := 20) (i := 2) dX4_cover_20 rfl rfl ?_
  refine tl_iload_n (pc := 21) (i := 3) dX4_cover_21 rfl rfl ?_
  refine tl_iconst (pc := 22) (v := 1) dX4_cover_22 (by decide) ?_
  refine tl_callVv (pc := 23) k_X4_giveSquares gw_583 hb.1 ⟨_, _, rfl⟩ (c_X4_giveSquares T _ _ _ _ _ hb) rfl rfl (Nat.le_of_ble_eq_true rfl) (Nat.le_of_ble_eq_true rfl) dX4_cover_23 (fun _ => ?_)
  refine tl_aload_n (pc := 26) (i := 0) dX4_cover_26 rfl rfl ?_
  refine tl_getR (pc := 27) (r := (b + 11)) fl_X4_36 hb.1 rfl dX4_cover_27 ?_
  refine tl_iload_n (pc := 30) (i := 1) dX4_cover_30 rfl rfl ?_
  refine tl_iconst (pc := 31) (v := 2) dX4_cover_31 (by decide) ?_
  refine tl_imul (pc := 32) dX4_cover_32 ?_
  refine tl_iconst (pc := 33) (v := 1) dX4_cover_33 (by decide) ?_
  refine tl_iadd (pc := 34) dX4_cover_34 ?_
  refine tl_iload_n (pc := 35) (i := 2) dX4_cover_35 rfl rfl ?_
  refine tl_callVv (pc := 36) k_X2_store gw_176 hb.2.2.2.2.2.2.1.1 ⟨_, _, rfl⟩ (c_X2_store T _ _ _ _ hb.2.2.2.2.2.2.1) rfl rfl (Nat.le_of_ble_eq_true rfl) (Nat.le_of_ble_eq_true rfl) dX4_cover_36 (fun _ => ?_)
  refine tl_aload_n (pc := 39) (i := 0) dX4_cover_39 rfl rfl ?_
  refine tl_getR (pc := 40) (r := (b + 11)) fl_X4_36 hb.1 rfl dX4_cover_40 ?_
  refine tl_iload_n (pc := 43) (i := 1) dX4_cover_43 rfl rfl ?_
  refine tl_iconst (pc := 44) (v := 2) dX4_cover_44 (by decide) ?_
  refine tl_imul (pc := 45) dX4_cover_45 ?_
  refine tl_iconst (pc := 46) (v := 0) dX4_cover_46 (by decide) ?_
  refine tl_iadd (pc := 47) dX4_cover_47 ?_
  refine tl_iload_n (pc := 48) (i := 3) dX4_cover_48 rfl rfl ?_
  refine tl_callVv (pc := 49) k_X2_store gw_176 hb.2.2.2.2.2.2.1.1 ⟨_, _, rfl⟩ (c_X2_store T _ _ _ _ hb.2.2.2.2.2.2.1) rfl rfl (Nat.le_of_ble_eq_true rfl) (Nat.le_of_ble_eq_true rfl) dX4_cover_49 (fun _ => ?_)
  exact tl_vret (pc := 52) dX4_cover_52
abbrev TL_X4_countCells (T : Tb) (pc : Nat) (lo : List (Option Value)) (st : List Value) (X : Dm Int32) : Prop := TL yX4_countCells cX4_countCells 3 (some .int) 2 iI T pc lo st X
set_option maxRecDepth 100000 in
theorem lp_X4_countCells_4 (T : Tb) (b : Nat)  (hb : isSheet T b)    : ∀ (n : Nat) (x1 : Int32) (x2 : Int32), TL_X4_countCells T 4 [some (.ref b), some (.int x1), some (.int x2)] [] (L_X4_countCells_4 b n x1 x2 ) := by
  intro n
  induction n with
  | zero => intros; exact tl_fail
  | succ n ih =>
    intro x1 x2
    rw [L_X4_countCells_4]
    refine tl_iload_n (pc := 4) (i := 2) dX4_countCells_4 rfl rfl ?_
    refine tl_aload_n (pc := 5) (i := 0) dX4_countCells_5 rfl rfl ?_
    refine tl_callVi (pc := 6) k_X4_squaresEnd gw_180 hb.1 ⟨_, _, rfl⟩ (c_X4_squaresEnd T _ hb) rfl rfl (Nat.le_of_ble_eq_true rfl) (Nat.le_of_ble_eq_true rfl) dX4_countCells_6 (fun x3 => ?_)
    refine tl_icmp_ge (pc := 9) (tgt := 34) dX4_countCells_9 rfl ?_ ?_
    · refine tl_iload_n (pc := 34) (i := 1) dX4_countCells_34 rfl rfl ?_
      exact tl_iret (pc := 35) dX4_countCells_35
    · refine tl_iload_n (pc := 12) (i := 1) dX4_countCells_12 rfl rfl ?_
      refine tl_aload_n (pc := 13) (i := 0) dX4_countCells_13 rfl rfl ?_
      refine tl_iload_n (pc := 14) (i := 2) dX4_countCells_14 rfl rfl ?_
      refine tl_callVi (pc := 15) k_X4_isCell gw_479 hb.1 ⟨_, _, rfl⟩ (c_X4_isCell T _ _ hb) rfl rfl (Nat.le_of_ble_eq_true rfl) (Nat.le_of_ble_eq_true rfl) dX4_countCells_15 (fun x4 => ?_)
      refine tl_j (fun (k : Int32 → Dm Int32) => ∀ (x5 : Int32), TL_X4_countCells T 26 [some (.ref b), none, some (.int x2)] [.int x5, .int x1] (k x5)) (fun x5 => ?_) (fun k1 hk1 => ?_)
      · refine tl_iadd (pc := 26) dX4_countCells_26 ?_
        refine tl_bI (fun x6 => ?_)
        refine tl_istore_n (pc := 27) (i := 1) (lo' := [some (.ref b), some (.int x6), some (.int x2)]) dX4_countCells_27 rfl (by decide) rfl ?_
        refine tl_iinc (pc := 28) (i := 2) (v := x2 + (1 : Int32)) (lo' := [some (.ref b), some (.int x6), some (.int (x2 + (1 : Int32)))]) dX4_countCells_28 rfl rfl (by decide) rfl ?_
        refine tl_goto (pc := 31) (tgt := 4) dX4_countCells_31 rfl ?_
        exact tl_sub (ih _ _) (sub_s (sub_s (sub_s sub_e)))
      · refine tl_if_eq (pc := 18) (tgt := 25) dX4_countCells_18 rfl ?_ ?_
        · refine tl_iconst (pc := 25) (v := 0) dX4_countCells_25 (by decide) ?_
          exact tl_sub (hk1 _) (sub_s (sub_n (sub_s sub_e)))
        · refine tl_iconst (pc := 21) (v := 1) dX4_countCells_21 (by decide) ?_
          refine tl_goto (pc := 22) (tgt := 26) dX4_countCells_22 rfl ?_
          exact tl_sub (hk1 _) (sub_s (sub_n (sub_s sub_e)))
set_option maxRecDepth 100000 in
theorem c_X4_countCells (T : Tb) (b : Nat) (hb : isSheet T b) : CT (.code yX4_countCells cX4_countCells 3 (some .int)) yX4_countCells 2 iI T [.ref b] (F_X4_countCells b) := by
  refine ct_of (lo := [some (.ref b), none, none]) (j := 2) k_X4_countCells.1 rfl (fun _ => Nat.le_of_ble_eq_true rfl) ?_
  show TL_X4_countCells T 0 _ _ _
  rw [F_X4_countCells]
  refine tl_iconst (pc := 0) (v := 0) dX4_countCells_0 (by decide) ?_
  refine tl_istore_n (pc := 1) (i := 1) (lo' := [some (.ref b), some (.int (0 : Int32)), none]) dX4_countCells_1 rfl (by decide) rfl ?_
  refine tl_iconst (pc := 2) (v := 0) dX4_countCells_2 (by decide) ?_
  refine tl_istore_n (pc := 3) (i := 2) (lo' := [some (.ref b), some (.int (0 : Int32)), some (.int (0 : Int32))]) dX4_countCells_3 rfl (by decide) rfl ?_
  refine tl_sub (lp_X4_countCells_4 T b hb    FU _ _) (sub_s (sub_s (sub_s sub_e)))
abbrev TL_X4_countSquares (T : Tb) (pc : Nat) (lo : List (Option Value)) (st : List Value) (X : Dm Int32) : Prop := TL yX4_countSquares cX4_countSquares 3 (some .int) 2 iI T pc lo st X
set_option maxRecDepth 100000 in
theorem lp_X4_countSquares_4 (T : Tb) (b : Nat)  (hb : isSheet T b)    : ∀ (n : Nat) (x1 : Int32) (x2 : Int32), TL_X4_countSquares T 4 [some (.ref b), some (.int x1), some (.int x2)] [] (L_X4_countSquares_4 b n x1 x2 ) := by
  intro n
  induction n with
  | zero => intros; exact tl_fail
  | succ n ih =>
    intro x1 x2
    rw [L_X4_countSquares_4]
    refine tl_iload_n (pc := 4) (i := 2) dX4_countSquares_4 rfl rfl ?_
    refine tl_aload_n (pc := 5) (i := 0) dX4_countSquares_5 rfl rfl ?_
    refine tl_getI (pc := 6) fl_X4_42 hb.1 rfl dX4_countSquares_6 (fun x3 => ?_)
    refine tl_icmp_ge (pc := 9) (tgt := 34) dX4_countSquares_9 rfl ?_ ?_
    · refine tl_iload_n (pc := 34) (i := 1) dX4_countSquares_34 rfl rfl ?_
      exact tl_iret (pc := 35) dX4_countSquares_35
    · refine tl_iload_n (pc := 12) (i := 1) dX4_countSquares_12 rfl rfl ?_
      refine tl_aload_n (pc := 13) (i := 0) dX4_countSquares_13 rfl rfl ?_
      refine tl_iload_n (pc := 14) (i := 2) dX4_countSquares_14 rfl rfl ?_
      refine tl_iconst (pc := 15) (v := 1) dX4_countSquares_15 (by decide) ?_
      refine tl_callVi (pc := 16) k_X4_linesOf gw_501 hb.1 ⟨_, _, rfl⟩ (c_X4_linesOf T _ _ _ hb) rfl rfl (Nat.le_of_ble_eq_true rfl) (Nat.le_of_ble_eq_true rfl) dX4_countSquares_16 (fun x4 => ?_)
      refine tl_aload_n (pc := 19) (i := 0) dX4_countSquares_19 rfl rfl ?_
      refine tl_iload_n (pc := 20) (i := 2) dX4_countSquares_20 rfl rfl ?_
      refine tl_iconst (pc := 21) (v := 0) dX4_countSquares_21 (by decide) ?_
      refine tl_callVi (pc := 22) k_X4_linesOf gw_501 hb.1 ⟨_, _, rfl⟩ (c_X4_linesOf T _ _ _ hb) rfl rfl (Nat.le_of_ble_eq_true rfl) (Nat.le_of_ble_eq_true rfl) dX4_countSquares_22 (fun x5 => ?_)
      refine tl_imul (pc := 25) dX4_countSquares_25 ?_
      refine tl_iadd (pc := 26) dX4_countSquares_26 ?_
      refine tl_bI (fun x6 => ?_)
      refine tl_istore_n (pc := 27) (i := 1) (lo' := [some (.ref b), some (.int x6), some (.int x2)]) dX4_countSquares_27 rfl (by decide) rfl ?_
      refine tl_iinc (pc := 28) (i := 2) (v := x2 + (1 : Int32)) (lo' := [some (.ref b), some (.int x6), some (.int (x2 + (1 : Int32)))]) dX4_countSquares_28 rfl rfl (by decide) rfl ?_
      refine tl_goto (pc := 31) (tgt := 4) dX4_countSquares_31 rfl ?_
      exact tl_sub (ih _ _) (sub_s (sub_s (sub_s sub_e)))
set_option maxRecDepth 100000 in
theorem c_X4_countSquares (T : Tb) (b : Nat) (hb : isSheet T b) : CT (.code yX4_countSquares cX4_countSquares 3 (some .int)) yX4_countSquares 2 iI T [.ref b] (F_X4_countSquares b) := by
  refine ct_of (lo := [some (.ref b), none, none]) (j := 2) k_X4_countSquares.1 rfl (fun _ => Nat.le_of_ble_eq_true rfl) ?_
  show TL_X4_countSquares T 0 _ _ _
  rw [F_X4_countSquares]
  refine tl_iconst (pc := 0) (v := 0) dX4_countSquares_0 (by decide) ?_
  refine tl_istore_n (pc := 1) (i := 1) (lo' := [some (.ref b), some (.int (0 : Int32)), none]) dX4_countSquares_1 rfl (by decide) rfl ?_
  refine tl_iconst (pc := 2) (v := 0) dX4_countSquares_2 (by decide) ?_
  refine tl_istore_n (pc := 3) (i := 2) (lo' := [some (.ref b), some (.int (0 : Int32)), some (.int (0 : Int32))]) dX4_countSquares_3 rfl (by decide) rfl ?_
  refine tl_sub (lp_X4_countSquares_4 T b hb    FU _ _) (sub_s (sub_s (sub_s sub_e)))
abbrev TL_X4_countKind (T : Tb) (pc : Nat) (lo : List (Option Value)) (st : List Value) (X : Dm Int32) : Prop := TL yX4_countKind cX4_countKind 4 (some .int) 2 iI T pc lo st X
set_option maxRecDepth 100000 in
theorem lp_X4_countKind_4 (T : Tb) (b : Nat) (p0 : Int32)  (hb : isSheet T b)    : ∀ (n : Nat) (x1 : Int32) (x2 : Int32), TL_X4_countKind T 4 [some (.ref b), some (.int p0), some (.int x1), some (.int x2)] [] (L_X4_countKind_4 b p0 n x1 x2 ) := by
  intro n
  induction n with
  | zero => intros; exact tl_fail
  | succ n ih =>
    intro x1 x2
    rw [L_X4_countKind_4]
    refine tl_iload_n (pc := 4) (i := 3) dX4_countKind_4 rfl rfl ?_
    refine tl_aload_n (pc := 5) (i := 0) dX4_countKind_5 rfl rfl ?_
    refine tl_callVi (pc := 6) k_X4_squaresEnd gw_180 hb.1 ⟨_, _, rfl⟩ (c_X4_squaresEnd T _ hb) rfl rfl (Nat.le_of_ble_eq_true rfl) (Nat.le_of_ble_eq_true rfl) dX4_countKind_6 (fun x3 => ?_)
    refine tl_icmp_ge (pc := 9) (tgt := 46) dX4_countKind_9 rfl ?_ ?_
    · refine tl_iload_n (pc := 46) (i := 2) dX4_countKind_46 rfl rfl ?_
      exact tl_iret (pc := 47) dX4_countKind_47
    · refine tl_iload_n (pc := 12) (i := 2) dX4_countKind_12 rfl rfl ?_
      refine tl_aload_n (pc := 13) (i := 0) dX4_countKind_13 rfl rfl ?_
      refine tl_iload_n (pc := 14) (i := 3) dX4_countKind_14 rfl rfl ?_
      refine tl_callVi (pc := 15) k_X4_isCell gw_479 hb.1 ⟨_, _, rfl⟩ (c_X4_isCell T _ _ hb) rfl rfl (Nat.le_of_ble_eq_true rfl) (Nat.le_of_ble_eq_true rfl) dX4_countKind_15 (fun x4 => ?_)
      refine tl_j (fun (k : Int32 → Dm Int32) => ∀ (x5 : Int32), TL_X4_countKind T 38 [some (.ref b), some (.int p0), none, some (.int x2)] [.int x5, .int x1] (k x5)) (fun x5 => ?_) (fun k1 hk1 => ?_)
      · refine tl_iadd (pc := 38) dX4_countKind_38 ?_
        refine tl_bI (fun x6 => ?_)
        refine tl_istore_n (pc := 39) (i := 2) (lo' := [some (.ref b), some (.int p0), some (.int x6), some (.int x2)]) dX4_countKind_39 rfl (by decide) rfl ?_
        refine tl_iinc (pc := 40) (i := 3) (v := x2 + (1 : Int32)) (lo' := [some (.ref b), some (.int p0), some (.int x6), some (.int (x2 + (1 : Int32)))]) dX4_countKind_40 rfl rfl (by decide) rfl ?_
        refine tl_goto (pc := 43) (tgt := 4) dX4_countKind_43 rfl ?_
        exact tl_sub (ih _ _) (sub_s (sub_s (sub_s (sub_s sub_e))))
      · refine tl_j (fun (k : Unit → Dm Int32) => ∀ (_ : Unit), TL_X4_countKind T 37 [some (.ref b), some (.int p0), none, some (.int x2)] [.int x1] (k ())) (fun _ => ?_) (fun k2 hk2 => ?_)
        · refine tl_iconst (pc := 37) (v := 0) dX4_countKind_37 (by decide) ?_
          exact tl_sub (hk1 _) (sub_s (sub_s (sub_n (sub_s sub_e))))
        · refine tl_if_eq (pc := 18) (tgt := 37) dX4_countKind_18 rfl ?_ ?_
          · exact tl_sub (hk2 ()) (sub_s (sub_s (sub_n (sub_s sub_e))))
          · refine tl_aload_n (pc := 21) (i := 0) dX4_countKind_21 rfl rfl ?_
            refine tl_getR (pc := 22) (r := (b + 7)) fl_X4_30 hb.1 rfl dX4_countKind_22 ?_
            refine tl_iload_n (pc := 25) (i := 3) dX4_countKind_25 rfl rfl ?_
            refine tl_callVi (pc := 26) k_X2_at gw_213 hb.2.2.2.2.1.1 ⟨_, _, rfl⟩ (c_X2_at T _ _ _ hb.2.2.2.2.1) rfl rfl (Nat.le_of_ble_eq_true rfl) (Nat.le_of_ble_eq_true rfl) dX4_countKind_26 (fun x7 => ?_)
            refine tl_iload_n (pc := 29) (i := 1) dX4_countKind_29 rfl rfl ?_
            refine tl_icmp_ne (pc := 30) (tgt := 37) dX4_countKind_30 rfl ?_ ?_
            · refine tl_iconst (pc := 33) (v := 1) dX4_countKind_33 (by decide) ?_
              refine tl_goto (pc := 34) (tgt := 38) dX4_countKind_34 rfl ?_
              exact tl_sub (hk1 _) (sub_s (sub_s (sub_n (sub_s sub_e))))
            · exact tl_sub (hk2 ()) (sub_s (sub_s (sub_n (sub_s sub_e))))
set_option maxRecDepth 100000 in
theorem c_X4_countKind (T : Tb) (b : Nat) (p0 : Int32) (hb : isSheet T b) : CT (.code yX4_countKind cX4_countKind 4 (some .int)) yX4_countKind 2 iI T [.ref b, .int p0] (F_X4_countKind b p0) := by
  refine ct_of (lo := [some (.ref b), some (.int p0), none, none]) (j := 2) k_X4_countKind.1 rfl (fun _ => Nat.le_of_ble_eq_true rfl) ?_
  show TL_X4_countKind T 0 _ _ _
  rw [F_X4_countKind]
  refine tl_iconst (pc := 0) (v := 0) dX4_countKind_0 (by decide) ?_
  refine tl_istore_n (pc := 1) (i := 2) (lo' := [some (.ref b), some (.int p0), some (.int (0 : Int32)), none]) dX4_countKind_1 rfl (by decide) rfl ?_
  refine tl_iconst (pc := 2) (v := 0) dX4_countKind_2 (by decide) ?_
  refine tl_istore_n (pc := 3) (i := 3) (lo' := [some (.ref b), some (.int p0), some (.int (0 : Int32)), some (.int (0 : Int32))]) dX4_countKind_3 rfl (by decide) rfl ?_
  refine tl_sub (lp_X4_countKind_4 T b p0 hb    FU _ _) (sub_s (sub_s (sub_s (sub_s sub_e))))
