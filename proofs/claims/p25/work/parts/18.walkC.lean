abbrev TL_X5_requireBetween (T : Tb) (pc : Nat) (lo : List (Option Value)) (st : List Value) (X : Dm Unit) : Prop := TL yX5_requireBetween cX5_requireBetween 3 none 6 vI T pc lo st X
set_option maxRecDepth 100000 in
theorem c_X5_requireBetween (T : Tb) (p0 : Int32) (p1 : Int32) (p2 : Int32)  : CT (.code yX5_requireBetween cX5_requireBetween 3 none) yX5_requireBetween 6 vI T [.int p0, .int p1, .int p2] (F_X5_requireBetween p0 p1 p2) := by
  refine ct_of (lo := [some (.int p0), some (.int p1), some (.int p2)]) (j := 0) k_X5_requireBetween.1 rfl (fun _ => Nat.le_of_ble_eq_true rfl) ?_
  show TL_X5_requireBetween T 0 _ _ _
  rw [F_X5_requireBetween]
  refine tl_iload_n (pc := 0) (i := 0) dX5_requireBetween_0 rfl rfl ?_
  refine tl_iload_n (pc := 1) (i := 1) dX5_requireBetween_1 rfl rfl ?_
  refine tl_iload_n (pc := 2) (i := 2) dX5_requireBetween_2 rfl rfl ?_
  refine tl_callSi (pc := 3) k_X5_isBetween gw_347 (c_X5_isBetween T _ _ _) rfl rfl (Nat.le_of_ble_eq_true rfl) (Nat.le_of_ble_eq_true rfl) dX5_requireBetween_3 (fun x1 => ?_)
  refine tl_if_ne (pc := 6) (tgt := 17) dX5_requireBetween_6 rfl ?_ ?_
  · exact tl_throw (pc := 9) (names := ["java/lang/RuntimeException", "java/lang/Exception"]) (by decide +kernel) (by decide +kernel) gw_348 gw_12 at_X5_88 dX5_requireBetween_9 dX5_requireBetween_12 dX5_requireBetween_13 dX5_requireBetween_16 (by decide) (Nat.le_of_ble_eq_true rfl)
  · exact tl_vret (pc := 17) dX5_requireBetween_17
abbrev TL_X5_requireLines (T : Tb) (pc : Nat) (lo : List (Option Value)) (st : List Value) (X : Dm Unit) : Prop := TL yX5_requireLines cX5_requireLines 2 none 7 vI T pc lo st X
set_option maxRecDepth 100000 in
theorem c_X5_requireLines (T : Tb) (p0 : Int32) (p1 : Int32)  : CT (.code yX5_requireLines cX5_requireLines 2 none) yX5_requireLines 7 vI T [.int p0, .int p1] (F_X5_requireLines p0 p1) := by
  refine ct_of (lo := [some (.int p0), some (.int p1)]) (j := 0) k_X5_requireLines.1 rfl (fun _ => Nat.le_of_ble_eq_true rfl) ?_
  show TL_X5_requireLines T 0 _ _ _
  rw [F_X5_requireLines]
  refine tl_iload_n (pc := 0) (i := 0) dX5_requireLines_0 rfl rfl ?_
  refine tl_iconst (pc := 1) (v := 1) dX5_requireLines_1 (by decide) ?_
  refine tl_iconst (pc := 2) (v := 5) dX5_requireLines_2 (by decide) ?_
  refine tl_callSv (pc := 3) k_X5_requireBetween gw_344 (c_X5_requireBetween T _ _ _) rfl rfl (Nat.le_of_ble_eq_true rfl) (Nat.le_of_ble_eq_true rfl) dX5_requireLines_3 (fun _ => ?_)
  refine tl_iload_n (pc := 6) (i := 1) dX5_requireLines_6 rfl rfl ?_
  refine tl_iconst (pc := 7) (v := 1) dX5_requireLines_7 (by decide) ?_
  refine tl_iconst (pc := 8) (v := 5) dX5_requireLines_8 (by decide) ?_
  refine tl_callSv (pc := 9) k_X5_requireBetween gw_344 (c_X5_requireBetween T _ _ _) rfl rfl (Nat.le_of_ble_eq_true rfl) (Nat.le_of_ble_eq_true rfl) dX5_requireLines_9 (fun _ => ?_)
  exact tl_vret (pc := 12) dX5_requireLines_12
abbrev TL_X5_begin (T : Tb) (pc : Nat) (lo : List (Option Value)) (st : List Value) (X : Dm Int32) : Prop := TL yX5_begin cX5_begin 3 (some .int) 8 iI T pc lo st X
set_option maxRecDepth 100000 in
theorem c_X5_begin (T : Tb) (p0 : Int32) (p1 : Int32) (hb : isNS T) : CT (.code yX5_begin cX5_begin 3 (some .int)) yX5_begin 8 iI T [.ref 0, .int p0, .int p1] (F_X5_begin p0 p1) := by
  refine ct_of (lo := [some (.ref 0), some (.int p0), some (.int p1)]) (j := 0) k_X5_begin.1 rfl (fun _ => Nat.le_of_ble_eq_true rfl) ?_
  show TL_X5_begin T 0 _ _ _
  rw [F_X5_begin]
  refine tl_iload_n (pc := 0) (i := 1) dX5_begin_0 rfl rfl ?_
  refine tl_iload_n (pc := 1) (i := 2) dX5_begin_1 rfl rfl ?_
  refine tl_callSv (pc := 2) k_X5_requireLines gw_341 (c_X5_requireLines T _ _) rfl rfl (Nat.le_of_ble_eq_true rfl) (Nat.le_of_ble_eq_true rfl) dX5_begin_2 (fun _ => ?_)
  refine tl_aload_n (pc := 5) (i := 0) dX5_begin_5 rfl rfl ?_
  refine tl_getR (pc := 6) (r := 73) fl_X5_27 hb.1 rfl dX5_begin_6 ?_
  refine tl_aload_n (pc := 9) (i := 0) dX5_begin_9 rfl rfl ?_
  refine tl_getR (pc := 10) (r := 2) fl_X5_20 hb.1 rfl dX5_begin_10 ?_
  refine tl_callVv (pc := 13) k_X0_save gw_411 hb.2.2.2.1.1 ⟨_, _, rfl⟩ (c_X0_save T _ hb.2.2.2.1 hb.2.1.2.1) rfl rfl (Nat.le_of_ble_eq_true rfl) (Nat.le_of_ble_eq_true rfl) dX5_begin_13 (fun _ => ?_)
  refine tl_aload_n (pc := 16) (i := 0) dX5_begin_16 rfl rfl ?_
  refine tl_getR (pc := 17) (r := 2) fl_X5_20 hb.1 rfl dX5_begin_17 ?_
  refine tl_iload_n (pc := 20) (i := 1) dX5_begin_20 rfl rfl ?_
  refine tl_iload_n (pc := 21) (i := 2) dX5_begin_21 rfl rfl ?_
  refine tl_callVv (pc := 22) k_X4_startAnew gw_168 hb.2.1.2.1.1 ⟨_, _, rfl⟩ (c_X4_startAnew T _ _ _ hb.2.1.2.1) rfl rfl (Nat.le_of_ble_eq_true rfl) (Nat.le_of_ble_eq_true rfl) dX5_begin_22 (fun _ => ?_)
  refine tl_aload_n (pc := 25) (i := 0) dX5_begin_25 rfl rfl ?_
  refine tl_getR (pc := 26) (r := 1) fl_X5_12 hb.1 rfl dX5_begin_26 ?_
  refine tl_callVv (pc := 29) k_X1_measure gw_191 hb.2.1.1 ⟨_, _, rfl⟩ (c_X1_measure T _ hb.2.1) rfl rfl (Nat.le_of_ble_eq_true rfl) (Nat.le_of_ble_eq_true rfl) dX5_begin_29 (fun _ => ?_)
  refine tl_iload_n (pc := 32) (i := 1) dX5_begin_32 rfl rfl ?_
  refine tl_iload_n (pc := 33) (i := 2) dX5_begin_33 rfl rfl ?_
  refine tl_imul (pc := 34) dX5_begin_34 ?_
  exact tl_iret (pc := 35) dX5_begin_35
abbrev TL_X5_requireSquare (T : Tb) (pc : Nat) (lo : List (Option Value)) (st : List Value) (X : Dm Int32) : Prop := TL yX5_requireSquare cX5_requireSquare 5 (some .int) 6 iI T pc lo st X
set_option maxRecDepth 100000 in
theorem c_X5_requireSquare (T : Tb) (p0 : Int32) (p1 : Int32) (p2 : Int32) (hb : isNS T) : CT (.code yX5_requireSquare cX5_requireSquare 5 (some .int)) yX5_requireSquare 6 iI T [.ref 0, .int p0, .int p1, .int p2] (F_X5_requireSquare p0 p1 p2) := by
  refine ct_of (lo := [some (.ref 0), some (.int p0), some (.int p1), some (.int p2), none]) (j := 1) k_X5_requireSquare.1 rfl (fun _ => Nat.le_of_ble_eq_true rfl) ?_
  show TL_X5_requireSquare T 0 _ _ _
  rw [F_X5_requireSquare]
  refine tl_aload_n (pc := 0) (i := 0) dX5_requireSquare_0 rfl rfl ?_
  refine tl_getR (pc := 1) (r := 2) fl_X5_20 hb.1 rfl dX5_requireSquare_1 ?_
  refine tl_iload_n (pc := 4) (i := 1) dX5_requireSquare_4 rfl rfl ?_
  refine tl_iload_n (pc := 5) (i := 2) dX5_requireSquare_5 rfl rfl ?_
  refine tl_iload_n (pc := 6) (i := 3) dX5_requireSquare_6 rfl rfl ?_
  refine tl_callVi (pc := 7) k_X4_squareAt gw_530 hb.2.1.2.1.1 ⟨_, _, rfl⟩ (c_X4_squareAt T _ _ _ _ hb.2.1.2.1) rfl rfl (Nat.le_of_ble_eq_true rfl) (Nat.le_of_ble_eq_true rfl) dX5_requireSquare_7 (fun x1 => ?_)
  refine tl_istore (pc := 10) (i := 4) (lo' := [some (.ref 0), some (.int p0), some (.int p1), some (.int p2), some (.int x1)]) dX5_requireSquare_10 (by decide) rfl ?_
  refine tl_iload (pc := 12) (i := 4) dX5_requireSquare_12 rfl ?_
  refine tl_iconst (pc := 14) (v := -1) dX5_requireSquare_14 (by decide) ?_
  refine tl_icmp_ne (pc := 15) (tgt := 26) dX5_requireSquare_15 rfl ?_ ?_
  · exact tl_throw (pc := 18) (names := ["java/lang/RuntimeException", "java/lang/Exception"]) (by decide +kernel) (by decide +kernel) gw_449 gw_13 at_X5_104 dX5_requireSquare_18 dX5_requireSquare_21 dX5_requireSquare_22 dX5_requireSquare_25 (by decide) (Nat.le_of_ble_eq_true rfl)
  · refine tl_iload (pc := 26) (i := 4) dX5_requireSquare_26 rfl ?_
    exact tl_iret (pc := 28) dX5_requireSquare_28
abbrev TL_X5_nest (T : Tb) (pc : Nat) (lo : List (Option Value)) (st : List Value) (X : Dm Int32) : Prop := TL yX5_nest cX5_nest 8 (some .int) 8 iI T pc lo st X
set_option maxRecDepth 100000 in
theorem c_X5_nest (T : Tb) (p0 : Int32) (p1 : Int32) (p2 : Int32) (p3 : Int32) (p4 : Int32) (hb : isNS T) : CT (.code yX5_nest cX5_nest 8 (some .int)) yX5_nest 8 iI T [.ref 0, .int p0, .int p1, .int p2, .int p3, .int p4] (F_X5_nest p0 p1 p2 p3 p4) := by
  refine ct_of (lo := [some (.ref 0), some (.int p0), some (.int p1), some (.int p2), some (.int p3), some (.int p4), none, none]) (j := 2) k_X5_nest.1 rfl (fun _ => Nat.le_of_ble_eq_true rfl) ?_
  show TL_X5_nest T 0 _ _ _
  rw [F_X5_nest]
  refine tl_aload_n (pc := 0) (i := 0) dX5_nest_0 rfl rfl ?_
  refine tl_iload_n (pc := 1) (i := 1) dX5_nest_1 rfl rfl ?_
  refine tl_iload_n (pc := 2) (i := 2) dX5_nest_2 rfl rfl ?_
  refine tl_iload_n (pc := 3) (i := 3) dX5_nest_3 rfl rfl ?_
  refine tl_callVi (pc := 4) k_X5_requireSquare gw_526 hb.1 ⟨_, _, rfl⟩ (c_X5_requireSquare T _ _ _ hb) rfl rfl (Nat.le_of_ble_eq_true rfl) (Nat.le_of_ble_eq_true rfl) dX5_nest_4 (fun x1 => ?_)
  refine tl_istore (pc := 7) (i := 6) (lo' := [some (.ref 0), some (.int p0), some (.int p1), some (.int p2), some (.int p3), some (.int p4), some (.int x1), none]) dX5_nest_7 (by decide) rfl ?_
  refine tl_iload (pc := 9) (i := 4) dX5_nest_9 rfl ?_
  refine tl_iload (pc := 11) (i := 5) dX5_nest_11 rfl ?_
  refine tl_callSv (pc := 13) k_X5_requireLines gw_341 (c_X5_requireLines T _ _) rfl rfl (Nat.le_of_ble_eq_true rfl) (Nat.le_of_ble_eq_true rfl) dX5_nest_13 (fun _ => ?_)
  refine tl_aload_n (pc := 16) (i := 0) dX5_nest_16 rfl rfl ?_
  refine tl_getR (pc := 17) (r := 2) fl_X5_20 hb.1 rfl dX5_nest_17 ?_
  refine tl_iload (pc := 20) (i := 6) dX5_nest_20 rfl ?_
  refine tl_callVi (pc := 22) k_X4_isCell gw_569 hb.2.1.2.1.1 ⟨_, _, rfl⟩ (c_X4_isCell T _ _ hb.2.1.2.1) rfl rfl (Nat.le_of_ble_eq_true rfl) (Nat.le_of_ble_eq_true rfl) dX5_nest_22 (fun x2 => ?_)
  refine tl_if_eq (pc := 25) (tgt := 54) dX5_nest_25 rfl ?_ ?_
  · exact tl_throw (pc := 54) (names := ["java/lang/RuntimeException", "java/lang/Exception"]) (by decide +kernel) (by decide +kernel) gw_543 gw_14 at_X5_78 dX5_nest_54 dX5_nest_57 dX5_nest_58 dX5_nest_61 (by decide) (Nat.le_of_ble_eq_true rfl)
  · refine tl_aload_n (pc := 28) (i := 0) dX5_nest_28 rfl rfl ?_
    refine tl_getR (pc := 29) (r := 2) fl_X5_20 hb.1 rfl dX5_nest_29 ?_
    refine tl_getR (pc := 32) (r := 9) fl_X5_62 hb.2.1.2.1.1 rfl dX5_nest_32 ?_
    refine tl_iload (pc := 35) (i := 6) dX5_nest_35 rfl ?_
    refine tl_callVi (pc := 37) k_X2_at gw_469 hb.2.1.2.1.2.2.2.2.1.1 ⟨_, _, rfl⟩ (c_X2_at T _ _ _ hb.2.1.2.1.2.2.2.2.1) rfl rfl (Nat.le_of_ble_eq_true rfl) (Nat.le_of_ble_eq_true rfl) dX5_nest_37 (fun x3 => ?_)
    refine tl_if_ne (pc := 40) (tgt := 54) dX5_nest_40 rfl ?_ ?_
    · refine tl_aload_n (pc := 43) (i := 0) dX5_nest_43 rfl rfl ?_
      refine tl_getR (pc := 44) (r := 2) fl_X5_20 hb.1 rfl dX5_nest_44 ?_
      refine tl_getI (pc := 47) fl_X5_72 hb.2.1.2.1.1 rfl dX5_nest_47 (fun x4 => ?_)
      refine tl_iconst (pc := 50) (v := 5) dX5_nest_50 (by decide) ?_
      refine tl_icmp_lt (pc := 51) (tgt := 62) dX5_nest_51 rfl ?_ ?_
      · refine tl_aload_n (pc := 62) (i := 0) dX5_nest_62 rfl rfl ?_
        refine tl_getR (pc := 63) (r := 73) fl_X5_27 hb.1 rfl dX5_nest_63 ?_
        refine tl_aload_n (pc := 66) (i := 0) dX5_nest_66 rfl rfl ?_
        refine tl_getR (pc := 67) (r := 2) fl_X5_20 hb.1 rfl dX5_nest_67 ?_
        refine tl_callVv (pc := 70) k_X0_save gw_411 hb.2.2.2.1.1 ⟨_, _, rfl⟩ (c_X0_save T _ hb.2.2.2.1 hb.2.1.2.1) rfl rfl (Nat.le_of_ble_eq_true rfl) (Nat.le_of_ble_eq_true rfl) dX5_nest_70 (fun _ => ?_)
        refine tl_aload_n (pc := 73) (i := 0) dX5_nest_73 rfl rfl ?_
        refine tl_getR (pc := 74) (r := 2) fl_X5_20 hb.1 rfl dX5_nest_74 ?_
        refine tl_iload (pc := 77) (i := 6) dX5_nest_77 rfl ?_
        refine tl_iload (pc := 79) (i := 4) dX5_nest_79 rfl ?_
        refine tl_iload (pc := 81) (i := 5) dX5_nest_81 rfl ?_
        refine tl_callVi (pc := 83) k_X4_addTable gw_594 hb.2.1.2.1.1 ⟨_, _, rfl⟩ (c_X4_addTable T _ _ _ _ hb.2.1.2.1) rfl rfl (Nat.le_of_ble_eq_true rfl) (Nat.le_of_ble_eq_true rfl) dX5_nest_83 (fun x5 => ?_)
        refine tl_istore (pc := 86) (i := 7) (lo' := [some (.ref 0), some (.int p0), some (.int p1), some (.int p2), some (.int p3), some (.int p4), some (.int x1), some (.int x5)]) dX5_nest_86 (by decide) rfl ?_
        refine tl_aload_n (pc := 88) (i := 0) dX5_nest_88 rfl rfl ?_
        refine tl_getR (pc := 89) (r := 1) fl_X5_12 hb.1 rfl dX5_nest_89 ?_
        refine tl_callVv (pc := 92) k_X1_measure gw_191 hb.2.1.1 ⟨_, _, rfl⟩ (c_X1_measure T _ hb.2.1) rfl rfl (Nat.le_of_ble_eq_true rfl) (Nat.le_of_ble_eq_true rfl) dX5_nest_92 (fun _ => ?_)
        refine tl_iload (pc := 95) (i := 7) dX5_nest_95 rfl ?_
        exact tl_iret (pc := 97) dX5_nest_97
      · exact tl_throw (pc := 54) (names := ["java/lang/RuntimeException", "java/lang/Exception"]) (by decide +kernel) (by decide +kernel) gw_543 gw_14 at_X5_78 dX5_nest_54 dX5_nest_57 dX5_nest_58 dX5_nest_61 (by decide) (Nat.le_of_ble_eq_true rfl)
    · exact tl_throw (pc := 54) (names := ["java/lang/RuntimeException", "java/lang/Exception"]) (by decide +kernel) (by decide +kernel) gw_543 gw_14 at_X5_78 dX5_nest_54 dX5_nest_57 dX5_nest_58 dX5_nest_61 (by decide) (Nat.le_of_ble_eq_true rfl)
abbrev TL_X5_isContent (T : Tb) (pc : Nat) (lo : List (Option Value)) (st : List Value) (X : Dm Int32) : Prop := TL yX5_isContent cX5_isContent 2 (some .boolean) 1 iI T pc lo st X
set_option maxRecDepth 100000 in
theorem c_X5_isContent (T : Tb) (p0 : Int32) (p1 : Int32)  : CT (.code yX5_isContent cX5_isContent 2 (some .boolean)) yX5_isContent 1 iI T [.int p0, .int p1] (F_X5_isContent p0 p1) := by
  refine ct_of (lo := [some (.int p0), some (.int p1)]) (j := 0) k_X5_isContent.1 rfl (fun _ => Nat.le_of_ble_eq_true rfl) ?_
  show TL_X5_isContent T 0 _ _ _
  rw [F_X5_isContent]
  refine tl_iload_n (pc := 0) (i := 0) dX5_isContent_0 rfl rfl ?_
  refine tl_if (fun cs1_0 => ?_) (fun cs1_0 => ?_)
  · refine tl_lookup (pc := 1) (tgt := 28) (off := 27) dX5_isContent_1 (by decide) (by rw [cs1_0]; decide) rfl ?_
    refine tl_iload_n (pc := 28) (i := 1) dX5_isContent_28 rfl rfl ?_
    refine tl_sipush (pc := 29) (v := -999) dX5_isContent_29 (by decide) ?_
    refine tl_sipush (pc := 32) (v := 999) dX5_isContent_32 (by decide) ?_
    refine tl_callSi (pc := 35) k_X5_isBetween gw_347 (c_X5_isBetween T _ _ _) rfl rfl (Nat.le_of_ble_eq_true rfl) (Nat.le_of_ble_eq_true rfl) dX5_isContent_35 (fun x1 => ?_)
    exact tl_zret (pc := 38) dX5_isContent_38
  · refine tl_if (fun cs1_1 => ?_) (fun cs1_1 => ?_)
    · refine tl_lookup (pc := 1) (tgt := 39) (off := 38) dX5_isContent_1 (by decide) (by rw [cs1_1]; decide) rfl ?_
      refine tl_iload_n (pc := 39) (i := 1) dX5_isContent_39 rfl rfl ?_
      refine tl_iconst (pc := 40) (v := 1) dX5_isContent_40 (by decide) ?_
      refine tl_bipush (pc := 41) (v := 12) dX5_isContent_41 (by decide) ?_
      refine tl_callSi (pc := 43) k_X5_isBetween gw_347 (c_X5_isBetween T _ _ _) rfl rfl (Nat.le_of_ble_eq_true rfl) (Nat.le_of_ble_eq_true rfl) dX5_isContent_43 (fun x2 => ?_)
      exact tl_zret (pc := 46) dX5_isContent_46
    · refine tl_lookup (pc := 1) (tgt := 47) (off := 46) dX5_isContent_1 (by decide) (by rw [show (Op.lookupswitch.offset _ _ _ = _) from lv_osw cs1_0 (by decide)]; rw [show (Op.lookupswitch.offset _ _ _ = _) from lv_osw cs1_1 (by decide)]; rfl) rfl ?_
      refine tl_iload_n (pc := 47) (i := 0) dX5_isContent_47 rfl rfl ?_
      refine tl_if_eq (pc := 48) (tgt := 58) dX5_isContent_48 rfl ?_ ?_
      · refine tl_iconst (pc := 58) (v := 1) dX5_isContent_58 (by decide) ?_
        refine tl_goto (pc := 59) (tgt := 63) dX5_isContent_59 rfl ?_
        exact tl_zret (pc := 63) dX5_isContent_63
      · refine tl_iload_n (pc := 51) (i := 0) dX5_isContent_51 rfl rfl ?_
        refine tl_callSi (pc := 52) k_X5_isSum gw_538 (c_X5_isSum T _) rfl rfl (Nat.le_of_ble_eq_true rfl) (Nat.le_of_ble_eq_true rfl) dX5_isContent_52 (fun x3 => ?_)
        refine tl_if_eq (pc := 55) (tgt := 62) dX5_isContent_55 rfl ?_ ?_
        · refine tl_iconst (pc := 62) (v := 0) dX5_isContent_62 (by decide) ?_
          exact tl_zret (pc := 63) dX5_isContent_63
        · refine tl_iconst (pc := 58) (v := 1) dX5_isContent_58 (by decide) ?_
          refine tl_goto (pc := 59) (tgt := 63) dX5_isContent_59 rfl ?_
          exact tl_zret (pc := 63) dX5_isContent_63
abbrev TL_X5_put (T : Tb) (pc : Nat) (lo : List (Option Value)) (st : List Value) (X : Dm Int32) : Prop := TL yX5_put cX5_put 8 (some .int) 7 iI T pc lo st X
set_option maxRecDepth 100000 in
theorem c_X5_put (T : Tb) (p0 : Int32) (p1 : Int32) (p2 : Int32) (p3 : Int32) (p4 : Int32) (hb : isNS T) : CT (.code yX5_put cX5_put 8 (some .int)) yX5_put 7 iI T [.ref 0, .int p0, .int p1, .int p2, .int p3, .int p4] (F_X5_put p0 p1 p2 p3 p4) := by
  refine ct_of (lo := [some (.ref 0), some (.int p0), some (.int p1), some (.int p2), some (.int p3), some (.int p4), none, none]) (j := 2) k_X5_put.1 rfl (fun _ => Nat.le_of_ble_eq_true rfl) ?_
  show TL_X5_put T 0 _ _ _
  rw [F_X5_put]
  refine tl_aload_n (pc := 0) (i := 0) dX5_put_0 rfl rfl ?_
  refine tl_iload_n (pc := 1) (i := 1) dX5_put_1 rfl rfl ?_
  refine tl_iload_n (pc := 2) (i := 2) dX5_put_2 rfl rfl ?_
  refine tl_iload_n (pc := 3) (i := 3) dX5_put_3 rfl rfl ?_
  refine tl_callVi (pc := 4) k_X5_requireSquare gw_526 hb.1 ⟨_, _, rfl⟩ (c_X5_requireSquare T _ _ _ hb) rfl rfl (Nat.le_of_ble_eq_true rfl) (Nat.le_of_ble_eq_true rfl) dX5_put_4 (fun x1 => ?_)
  refine tl_istore (pc := 7) (i := 6) (lo' := [some (.ref 0), some (.int p0), some (.int p1), some (.int p2), some (.int p3), some (.int p4), some (.int x1), none]) dX5_put_7 (by decide) rfl ?_
  refine tl_iload (pc := 9) (i := 4) dX5_put_9 rfl ?_
  refine tl_iload (pc := 11) (i := 5) dX5_put_11 rfl ?_
  refine tl_callSi (pc := 13) k_X5_isContent gw_535 (c_X5_isContent T _ _) rfl rfl (Nat.le_of_ble_eq_true rfl) (Nat.le_of_ble_eq_true rfl) dX5_put_13 (fun x2 => ?_)
  refine tl_if_ne (pc := 16) (tgt := 27) dX5_put_16 rfl ?_ ?_
  · exact tl_throw (pc := 19) (names := ["java/lang/RuntimeException", "java/lang/Exception"]) (by decide +kernel) (by decide +kernel) gw_348 gw_12 at_X5_88 dX5_put_19 dX5_put_22 dX5_put_23 dX5_put_26 (by decide) (Nat.le_of_ble_eq_true rfl)
  · refine tl_aload_n (pc := 27) (i := 0) dX5_put_27 rfl rfl ?_
    refine tl_getR (pc := 28) (r := 2) fl_X5_20 hb.1 rfl dX5_put_28 ?_
    refine tl_iload (pc := 31) (i := 6) dX5_put_31 rfl ?_
    refine tl_callVi (pc := 33) k_X4_canFill gw_539 hb.2.1.2.1.1 ⟨_, _, rfl⟩ (c_X4_canFill T _ _ hb.2.1.2.1) rfl rfl (Nat.le_of_ble_eq_true rfl) (Nat.le_of_ble_eq_true rfl) dX5_put_33 (fun x3 => ?_)
    refine tl_if_ne (pc := 36) (tgt := 47) dX5_put_36 rfl ?_ ?_
    · exact tl_throw (pc := 39) (names := ["java/lang/RuntimeException", "java/lang/Exception"]) (by decide +kernel) (by decide +kernel) gw_543 gw_14 at_X5_78 dX5_put_39 dX5_put_42 dX5_put_43 dX5_put_46 (by decide) (Nat.le_of_ble_eq_true rfl)
    · refine tl_aload_n (pc := 47) (i := 0) dX5_put_47 rfl rfl ?_
      refine tl_getR (pc := 48) (r := 73) fl_X5_27 hb.1 rfl dX5_put_48 ?_
      refine tl_aload_n (pc := 51) (i := 0) dX5_put_51 rfl rfl ?_
      refine tl_getR (pc := 52) (r := 2) fl_X5_20 hb.1 rfl dX5_put_52 ?_
      refine tl_callVv (pc := 55) k_X0_save gw_411 hb.2.2.2.1.1 ⟨_, _, rfl⟩ (c_X0_save T _ hb.2.2.2.1 hb.2.1.2.1) rfl rfl (Nat.le_of_ble_eq_true rfl) (Nat.le_of_ble_eq_true rfl) dX5_put_55 (fun _ => ?_)
      refine tl_aload_n (pc := 58) (i := 0) dX5_put_58 rfl rfl ?_
      refine tl_getR (pc := 59) (r := 2) fl_X5_20 hb.1 rfl dX5_put_59 ?_
      refine tl_iload (pc := 62) (i := 6) dX5_put_62 rfl ?_
      refine tl_iload (pc := 64) (i := 4) dX5_put_64 rfl ?_
      refine tl_iload (pc := 66) (i := 5) dX5_put_66 rfl ?_
      refine tl_callVi (pc := 68) k_X4_fill gw_558 hb.2.1.2.1.1 ⟨_, _, rfl⟩ (c_X4_fill T _ _ _ _ hb.2.1.2.1) rfl rfl (Nat.le_of_ble_eq_true rfl) (Nat.le_of_ble_eq_true rfl) dX5_put_68 (fun x4 => ?_)
      refine tl_istore (pc := 71) (i := 7) (lo' := [some (.ref 0), some (.int p0), some (.int p1), some (.int p2), some (.int p3), some (.int p4), some (.int x1), some (.int x4)]) dX5_put_71 (by decide) rfl ?_
      refine tl_aload_n (pc := 73) (i := 0) dX5_put_73 rfl rfl ?_
      refine tl_getR (pc := 74) (r := 1) fl_X5_12 hb.1 rfl dX5_put_74 ?_
      refine tl_callVv (pc := 77) k_X1_measure gw_191 hb.2.1.1 ⟨_, _, rfl⟩ (c_X1_measure T _ hb.2.1) rfl rfl (Nat.le_of_ble_eq_true rfl) (Nat.le_of_ble_eq_true rfl) dX5_put_77 (fun _ => ?_)
      refine tl_iload (pc := 80) (i := 7) dX5_put_80 rfl ?_
      exact tl_iret (pc := 82) dX5_put_82
abbrev TL_X5_span (T : Tb) (pc : Nat) (lo : List (Option Value)) (st : List Value) (X : Dm Int32) : Prop := TL yX5_span cX5_span 8 (some .int) 8 iI T pc lo st X
set_option maxRecDepth 100000 in
theorem c_X5_span (T : Tb) (p0 : Int32) (p1 : Int32) (p2 : Int32) (p3 : Int32) (p4 : Int32) (hb : isNS T) : CT (.code yX5_span cX5_span 8 (some .int)) yX5_span 8 iI T [.ref 0, .int p0, .int p1, .int p2, .int p3, .int p4] (F_X5_span p0 p1 p2 p3 p4) := by
  refine ct_of (lo := [some (.ref 0), some (.int p0), some (.int p1), some (.int p2), some (.int p3), some (.int p4), none, none]) (j := 2) k_X5_span.1 rfl (fun _ => Nat.le_of_ble_eq_true rfl) ?_
  show TL_X5_span T 0 _ _ _
  rw [F_X5_span]
  refine tl_aload_n (pc := 0) (i := 0) dX5_span_0 rfl rfl ?_
  refine tl_iload_n (pc := 1) (i := 1) dX5_span_1 rfl rfl ?_
  refine tl_iload_n (pc := 2) (i := 2) dX5_span_2 rfl rfl ?_
  refine tl_iload_n (pc := 3) (i := 3) dX5_span_3 rfl rfl ?_
  refine tl_callVi (pc := 4) k_X5_requireSquare gw_526 hb.1 ⟨_, _, rfl⟩ (c_X5_requireSquare T _ _ _ hb) rfl rfl (Nat.le_of_ble_eq_true rfl) (Nat.le_of_ble_eq_true rfl) dX5_span_4 (fun x1 => ?_)
  refine tl_istore (pc := 7) (i := 6) (lo' := [some (.ref 0), some (.int p0), some (.int p1), some (.int p2), some (.int p3), some (.int p4), some (.int x1), none]) dX5_span_7 (by decide) rfl ?_
  refine tl_iload (pc := 9) (i := 4) dX5_span_9 rfl ?_
  refine tl_iconst (pc := 11) (v := 1) dX5_span_11 (by decide) ?_
  refine tl_iconst (pc := 12) (v := 5) dX5_span_12 (by decide) ?_
  refine tl_callSi (pc := 13) k_X5_isBetween gw_347 (c_X5_isBetween T _ _ _) rfl rfl (Nat.le_of_ble_eq_true rfl) (Nat.le_of_ble_eq_true rfl) dX5_span_13 (fun x2 => ?_)
  refine tl_j (fun (k : Int32 → Dm Int32) => ∀ (x3 : Int32), TL_X5_span T 34 [some (.ref 0), some (.int p0), some (.int p1), some (.int p2), some (.int p3), some (.int p4), some (.int x1), none] [.int x3] (k x3)) (fun x3 => ?_) (fun k1 hk1 => ?_)
  · refine tl_istore (pc := 34) (i := 7) (lo' := [some (.ref 0), some (.int p0), some (.int p1), some (.int p2), some (.int p3), some (.int p4), some (.int x1), some (.int x3)]) dX5_span_34 (by decide) rfl ?_
    refine tl_iload (pc := 36) (i := 7) dX5_span_36 rfl ?_
    refine tl_j (fun (k : Unit → Dm Int32) => ∀ (_ : Unit), TL_X5_span T 73 [some (.ref 0), none, none, none, some (.int p3), some (.int p4), some (.int x1), none] [] (k ())) (fun _ => ?_) (fun k2 hk2 => ?_)
    · refine tl_iload (pc := 73) (i := 4) dX5_span_73 rfl ?_
      refine tl_iload (pc := 75) (i := 5) dX5_span_75 rfl ?_
      refine tl_callSv (pc := 77) k_X5_requireLines gw_341 (c_X5_requireLines T _ _) rfl rfl (Nat.le_of_ble_eq_true rfl) (Nat.le_of_ble_eq_true rfl) dX5_span_77 (fun _ => ?_)
      refine tl_aload_n (pc := 80) (i := 0) dX5_span_80 rfl rfl ?_
      refine tl_getR (pc := 81) (r := 2) fl_X5_20 hb.1 rfl dX5_span_81 ?_
      refine tl_iload (pc := 84) (i := 6) dX5_span_84 rfl ?_
      refine tl_callVi (pc := 86) k_X4_isCell gw_569 hb.2.1.2.1.1 ⟨_, _, rfl⟩ (c_X4_isCell T _ _ hb.2.1.2.1) rfl rfl (Nat.le_of_ble_eq_true rfl) (Nat.le_of_ble_eq_true rfl) dX5_span_86 (fun x4 => ?_)
      refine tl_if_eq (pc := 89) (tgt := 108) dX5_span_89 rfl ?_ ?_
      · exact tl_throw (pc := 108) (names := ["java/lang/RuntimeException", "java/lang/Exception"]) (by decide +kernel) (by decide +kernel) gw_543 gw_14 at_X5_78 dX5_span_108 dX5_span_111 dX5_span_112 dX5_span_115 (by decide) (Nat.le_of_ble_eq_true rfl)
      · refine tl_aload_n (pc := 92) (i := 0) dX5_span_92 rfl rfl ?_
        refine tl_getR (pc := 93) (r := 2) fl_X5_20 hb.1 rfl dX5_span_93 ?_
        refine tl_iload (pc := 96) (i := 6) dX5_span_96 rfl ?_
        refine tl_iload (pc := 98) (i := 4) dX5_span_98 rfl ?_
        refine tl_iload (pc := 100) (i := 5) dX5_span_100 rfl ?_
        refine tl_callVi (pc := 102) k_X4_canCover gw_570 hb.2.1.2.1.1 ⟨_, _, rfl⟩ (c_X4_canCover T _ _ _ _ hb.2.1.2.1) rfl rfl (Nat.le_of_ble_eq_true rfl) (Nat.le_of_ble_eq_true rfl) dX5_span_102 (fun x5 => ?_)
        refine tl_if_ne (pc := 105) (tgt := 116) dX5_span_105 rfl ?_ ?_
        · exact tl_throw (pc := 108) (names := ["java/lang/RuntimeException", "java/lang/Exception"]) (by decide +kernel) (by decide +kernel) gw_543 gw_14 at_X5_78 dX5_span_108 dX5_span_111 dX5_span_112 dX5_span_115 (by decide) (Nat.le_of_ble_eq_true rfl)
        · refine tl_aload_n (pc := 116) (i := 0) dX5_span_116 rfl rfl ?_
          refine tl_getR (pc := 117) (r := 73) fl_X5_27 hb.1 rfl dX5_span_117 ?_
          refine tl_aload_n (pc := 120) (i := 0) dX5_span_120 rfl rfl ?_
          refine tl_getR (pc := 121) (r := 2) fl_X5_20 hb.1 rfl dX5_span_121 ?_
          refine tl_callVv (pc := 124) k_X0_save gw_411 hb.2.2.2.1.1 ⟨_, _, rfl⟩ (c_X0_save T _ hb.2.2.2.1 hb.2.1.2.1) rfl rfl (Nat.le_of_ble_eq_true rfl) (Nat.le_of_ble_eq_true rfl) dX5_span_124 (fun _ => ?_)
          refine tl_aload_n (pc := 127) (i := 0) dX5_span_127 rfl rfl ?_
          refine tl_getR (pc := 128) (r := 2) fl_X5_20 hb.1 rfl dX5_span_128 ?_
          refine tl_iload (pc := 131) (i := 6) dX5_span_131 rfl ?_
          refine tl_iload (pc := 133) (i := 4) dX5_span_133 rfl ?_
          refine tl_iload (pc := 135) (i := 5) dX5_span_135 rfl ?_
          refine tl_callVv (pc := 137) k_X4_cover gw_579 hb.2.1.2.1.1 ⟨_, _, rfl⟩ (c_X4_cover T _ _ _ _ hb.2.1.2.1) rfl rfl (Nat.le_of_ble_eq_true rfl) (Nat.le_of_ble_eq_true rfl) dX5_span_137 (fun _ => ?_)
          refine tl_aload_n (pc := 140) (i := 0) dX5_span_140 rfl rfl ?_
          refine tl_getR (pc := 141) (r := 1) fl_X5_12 hb.1 rfl dX5_span_141 ?_
          refine tl_callVv (pc := 144) k_X1_measure gw_191 hb.2.1.1 ⟨_, _, rfl⟩ (c_X1_measure T _ hb.2.1) rfl rfl (Nat.le_of_ble_eq_true rfl) (Nat.le_of_ble_eq_true rfl) dX5_span_144 (fun _ => ?_)
          refine tl_iload (pc := 147) (i := 4) dX5_span_147 rfl ?_
          refine tl_iload (pc := 149) (i := 5) dX5_span_149 rfl ?_
          refine tl_imul (pc := 151) dX5_span_151 ?_
          exact tl_iret (pc := 152) dX5_span_152
    · refine tl_if_eq (pc := 38) (tgt := 73) dX5_span_38 rfl ?_ ?_
      · exact tl_sub (hk2 ()) (sub_s (sub_n (sub_n (sub_n (sub_s (sub_s (sub_s (sub_n sub_e))))))))
      · refine tl_aload_n (pc := 41) (i := 0) dX5_span_41 rfl rfl ?_
        refine tl_getR (pc := 42) (r := 2) fl_X5_20 hb.1 rfl dX5_span_42 ?_
        refine tl_iload_n (pc := 45) (i := 1) dX5_span_45 rfl rfl ?_
        refine tl_iload_n (pc := 46) (i := 2) dX5_span_46 rfl rfl ?_
        refine tl_iload (pc := 47) (i := 4) dX5_span_47 rfl ?_
        refine tl_iadd (pc := 49) dX5_span_49 ?_
        refine tl_iconst (pc := 50) (v := 1) dX5_span_50 (by decide) ?_
        refine tl_isub (pc := 51) dX5_span_51 ?_
        refine tl_iload_n (pc := 52) (i := 3) dX5_span_52 rfl rfl ?_
        refine tl_iload (pc := 53) (i := 5) dX5_span_53 rfl ?_
        refine tl_iadd (pc := 55) dX5_span_55 ?_
        refine tl_iconst (pc := 56) (v := 1) dX5_span_56 (by decide) ?_
        refine tl_isub (pc := 57) dX5_span_57 ?_
        refine tl_callVi (pc := 58) k_X4_squareAt gw_530 hb.2.1.2.1.1 ⟨_, _, rfl⟩ (c_X4_squareAt T _ _ _ _ hb.2.1.2.1) rfl rfl (Nat.le_of_ble_eq_true rfl) (Nat.le_of_ble_eq_true rfl) dX5_span_58 (fun x6 => ?_)
        refine tl_iconst (pc := 61) (v := -1) dX5_span_61 (by decide) ?_
        refine tl_icmp_ne (pc := 62) (tgt := 73) dX5_span_62 rfl ?_ ?_
        · exact tl_throw (pc := 65) (names := ["java/lang/RuntimeException", "java/lang/Exception"]) (by decide +kernel) (by decide +kernel) gw_449 gw_13 at_X5_104 dX5_span_65 dX5_span_68 dX5_span_69 dX5_span_72 (by decide) (Nat.le_of_ble_eq_true rfl)
        · exact tl_sub (hk2 ()) (sub_s (sub_n (sub_n (sub_n (sub_s (sub_s (sub_s (sub_n sub_e))))))))
  · refine tl_j (fun (k : Unit → Dm Int32) => ∀ (_ : Unit), TL_X5_span T 33 [some (.ref 0), some (.int p0), some (.int p1), some (.int p2), some (.int p3), some (.int p4), some (.int x1), none] [] (k ())) (fun _ => ?_) (fun k3 hk3 => ?_)
    · refine tl_iconst (pc := 33) (v := 0) dX5_span_33 (by decide) ?_
      exact tl_sub (hk1 _) (sub_s (sub_s (sub_s (sub_s (sub_s (sub_s (sub_s (sub_n sub_e))))))))
    · refine tl_if_eq (pc := 16) (tgt := 33) dX5_span_16 rfl ?_ ?_
      · exact tl_sub (hk3 ()) (sub_s (sub_s (sub_s (sub_s (sub_s (sub_s (sub_s (sub_n sub_e))))))))
      · refine tl_iload (pc := 19) (i := 5) dX5_span_19 rfl ?_
        refine tl_iconst (pc := 21) (v := 1) dX5_span_21 (by decide) ?_
        refine tl_iconst (pc := 22) (v := 5) dX5_span_22 (by decide) ?_
        refine tl_callSi (pc := 23) k_X5_isBetween gw_347 (c_X5_isBetween T _ _ _) rfl rfl (Nat.le_of_ble_eq_true rfl) (Nat.le_of_ble_eq_true rfl) dX5_span_23 (fun x7 => ?_)
        refine tl_if_eq (pc := 26) (tgt := 33) dX5_span_26 rfl ?_ ?_
        · exact tl_sub (hk3 ()) (sub_s (sub_s (sub_s (sub_s (sub_s (sub_s (sub_s (sub_n sub_e))))))))
        · refine tl_iconst (pc := 29) (v := 1) dX5_span_29 (by decide) ?_
          refine tl_goto (pc := 30) (tgt := 34) dX5_span_30 rfl ?_
          exact tl_sub (hk1 _) (sub_s (sub_s (sub_s (sub_s (sub_s (sub_s (sub_s (sub_n sub_e))))))))
abbrev TL_X5_rule (T : Tb) (pc : Nat) (lo : List (Option Value)) (st : List Value) (X : Dm Int32) : Prop := TL yX5_rule cX5_rule 9 (some .int) 7 iI T pc lo st X
set_option maxRecDepth 100000 in
theorem c_X5_rule (T : Tb) (p0 : Int32) (p1 : Int32) (p2 : Int32) (p3 : Int32) (p4 : Int32) (hb : isNS T) : CT (.code yX5_rule cX5_rule 9 (some .int)) yX5_rule 7 iI T [.ref 0, .int p0, .int p1, .int p2, .int p3, .int p4] (F_X5_rule p0 p1 p2 p3 p4) := by
  refine ct_of (lo := [some (.ref 0), some (.int p0), some (.int p1), some (.int p2), some (.int p3), some (.int p4), none, none, none]) (j := 3) k_X5_rule.1 rfl (fun _ => Nat.le_of_ble_eq_true rfl) ?_
  show TL_X5_rule T 0 _ _ _
  rw [F_X5_rule]
  refine tl_aload_n (pc := 0) (i := 0) dX5_rule_0 rfl rfl ?_
  refine tl_iload_n (pc := 1) (i := 1) dX5_rule_1 rfl rfl ?_
  refine tl_iload_n (pc := 2) (i := 2) dX5_rule_2 rfl rfl ?_
  refine tl_iload_n (pc := 3) (i := 3) dX5_rule_3 rfl rfl ?_
  refine tl_callVi (pc := 4) k_X5_requireSquare gw_526 hb.1 ⟨_, _, rfl⟩ (c_X5_requireSquare T _ _ _ hb) rfl rfl (Nat.le_of_ble_eq_true rfl) (Nat.le_of_ble_eq_true rfl) dX5_rule_4 (fun x1 => ?_)
  refine tl_istore (pc := 7) (i := 6) (lo' := [some (.ref 0), some (.int p0), some (.int p1), some (.int p2), some (.int p3), some (.int p4), some (.int x1), none, none]) dX5_rule_7 (by decide) rfl ?_
  refine tl_iload (pc := 9) (i := 4) dX5_rule_9 rfl ?_
  refine tl_iconst (pc := 11) (v := 0) dX5_rule_11 (by decide) ?_
  refine tl_iconst (pc := 12) (v := 3) dX5_rule_12 (by decide) ?_
  refine tl_callSv (pc := 13) k_X5_requireBetween gw_344 (c_X5_requireBetween T _ _ _) rfl rfl (Nat.le_of_ble_eq_true rfl) (Nat.le_of_ble_eq_true rfl) dX5_rule_13 (fun _ => ?_)
  refine tl_iload (pc := 16) (i := 5) dX5_rule_16 rfl ?_
  refine tl_iconst (pc := 18) (v := 0) dX5_rule_18 (by decide) ?_
  refine tl_iconst (pc := 19) (v := 3) dX5_rule_19 (by decide) ?_
  refine tl_callSv (pc := 20) k_X5_requireBetween gw_344 (c_X5_requireBetween T _ _ _) rfl rfl (Nat.le_of_ble_eq_true rfl) (Nat.le_of_ble_eq_true rfl) dX5_rule_20 (fun _ => ?_)
  refine tl_aload_n (pc := 23) (i := 0) dX5_rule_23 rfl rfl ?_
  refine tl_getR (pc := 24) (r := 2) fl_X5_20 hb.1 rfl dX5_rule_24 ?_
  refine tl_iload (pc := 27) (i := 6) dX5_rule_27 rfl ?_
  refine tl_callVi (pc := 29) k_X4_isCell gw_569 hb.2.1.2.1.1 ⟨_, _, rfl⟩ (c_X4_isCell T _ _ hb.2.1.2.1) rfl rfl (Nat.le_of_ble_eq_true rfl) (Nat.le_of_ble_eq_true rfl) dX5_rule_29 (fun x2 => ?_)
  refine tl_if_ne (pc := 32) (tgt := 43) dX5_rule_32 rfl ?_ ?_
  · exact tl_throw (pc := 35) (names := ["java/lang/RuntimeException", "java/lang/Exception"]) (by decide +kernel) (by decide +kernel) gw_543 gw_14 at_X5_78 dX5_rule_35 dX5_rule_38 dX5_rule_39 dX5_rule_42 (by decide) (Nat.le_of_ble_eq_true rfl)
  · refine tl_aload_n (pc := 43) (i := 0) dX5_rule_43 rfl rfl ?_
    refine tl_getR (pc := 44) (r := 73) fl_X5_27 hb.1 rfl dX5_rule_44 ?_
    refine tl_aload_n (pc := 47) (i := 0) dX5_rule_47 rfl rfl ?_
    refine tl_getR (pc := 48) (r := 2) fl_X5_20 hb.1 rfl dX5_rule_48 ?_
    refine tl_callVv (pc := 51) k_X0_save gw_411 hb.2.2.2.1.1 ⟨_, _, rfl⟩ (c_X0_save T _ hb.2.2.2.1 hb.2.1.2.1) rfl rfl (Nat.le_of_ble_eq_true rfl) (Nat.le_of_ble_eq_true rfl) dX5_rule_51 (fun _ => ?_)
    refine tl_iload (pc := 54) (i := 6) dX5_rule_54 rfl ?_
    refine tl_iconst (pc := 56) (v := 4) dX5_rule_56 (by decide) ?_
    refine tl_imul (pc := 57) dX5_rule_57 ?_
    refine tl_iload (pc := 58) (i := 4) dX5_rule_58 rfl ?_
    refine tl_iadd (pc := 60) dX5_rule_60 ?_
    refine tl_bI (fun x3 => ?_)
    refine tl_istore (pc := 61) (i := 7) (lo' := [some (.ref 0), some (.int p0), some (.int p1), some (.int p2), some (.int p3), some (.int p4), some (.int x1), some (.int x3), none]) dX5_rule_61 (by decide) rfl ?_
    refine tl_aload_n (pc := 63) (i := 0) dX5_rule_63 rfl rfl ?_
    refine tl_getR (pc := 64) (r := 2) fl_X5_20 hb.1 rfl dX5_rule_64 ?_
    refine tl_getR (pc := 67) (r := 15) fl_X5_115 hb.2.1.2.1.1 rfl dX5_rule_67 ?_
    refine tl_iload (pc := 70) (i := 7) dX5_rule_70 rfl ?_
    refine tl_callVi (pc := 72) k_X2_at gw_469 hb.2.1.2.1.2.2.2.2.2.2.2.1 ⟨_, _, rfl⟩ (c_X2_at T _ _ _ hb.2.1.2.1.2.2.2.2.2.2.2) rfl rfl (Nat.le_of_ble_eq_true rfl) (Nat.le_of_ble_eq_true rfl) dX5_rule_72 (fun x4 => ?_)
    refine tl_istore (pc := 75) (i := 8) (lo' := [some (.ref 0), some (.int p0), some (.int p1), some (.int p2), some (.int p3), some (.int p4), some (.int x1), some (.int x3), some (.int x4)]) dX5_rule_75 (by decide) rfl ?_
    refine tl_aload_n (pc := 77) (i := 0) dX5_rule_77 rfl rfl ?_
    refine tl_getR (pc := 78) (r := 2) fl_X5_20 hb.1 rfl dX5_rule_78 ?_
    refine tl_getR (pc := 81) (r := 15) fl_X5_115 hb.2.1.2.1.1 rfl dX5_rule_81 ?_
    refine tl_iload (pc := 84) (i := 7) dX5_rule_84 rfl ?_
    refine tl_iload (pc := 86) (i := 5) dX5_rule_86 rfl ?_
    refine tl_callVv (pc := 88) k_X2_store gw_605 hb.2.1.2.1.2.2.2.2.2.2.2.1 ⟨_, _, rfl⟩ (c_X2_store T _ _ _ _ hb.2.1.2.1.2.2.2.2.2.2.2) rfl rfl (Nat.le_of_ble_eq_true rfl) (Nat.le_of_ble_eq_true rfl) dX5_rule_88 (fun _ => ?_)
    refine tl_aload_n (pc := 91) (i := 0) dX5_rule_91 rfl rfl ?_
    refine tl_getR (pc := 92) (r := 1) fl_X5_12 hb.1 rfl dX5_rule_92 ?_
    refine tl_callVv (pc := 95) k_X1_measure gw_191 hb.2.1.1 ⟨_, _, rfl⟩ (c_X1_measure T _ hb.2.1) rfl rfl (Nat.le_of_ble_eq_true rfl) (Nat.le_of_ble_eq_true rfl) dX5_rule_95 (fun _ => ?_)
    refine tl_iload (pc := 98) (i := 8) dX5_rule_98 rfl ?_
    exact tl_iret (pc := 100) dX5_rule_100
abbrev TL_X5_set (T : Tb) (pc : Nat) (lo : List (Option Value)) (st : List Value) (X : Dm Int32) : Prop := TL yX5_set cX5_set 3 (some .int) 7 iI T pc lo st X
set_option maxRecDepth 100000 in
theorem c_X5_set (T : Tb) (p0 : Int32) (hb : isNS T) : CT (.code yX5_set cX5_set 3 (some .int)) yX5_set 7 iI T [.ref 0, .int p0] (F_X5_set p0) := by
  refine ct_of (lo := [some (.ref 0), some (.int p0), none]) (j := 1) k_X5_set.1 rfl (fun _ => Nat.le_of_ble_eq_true rfl) ?_
  show TL_X5_set T 0 _ _ _
  rw [F_X5_set]
  refine tl_iload_n (pc := 0) (i := 1) dX5_set_0 rfl rfl ?_
  refine tl_iconst (pc := 1) (v := 1) dX5_set_1 (by decide) ?_
  refine tl_bipush (pc := 2) (v := 60) dX5_set_2 (by decide) ?_
  refine tl_callSv (pc := 4) k_X5_requireBetween gw_344 (c_X5_requireBetween T _ _ _) rfl rfl (Nat.le_of_ble_eq_true rfl) (Nat.le_of_ble_eq_true rfl) dX5_set_4 (fun _ => ?_)
  refine tl_aload_n (pc := 7) (i := 0) dX5_set_7 rfl rfl ?_
  refine tl_getR (pc := 8) (r := 73) fl_X5_27 hb.1 rfl dX5_set_8 ?_
  refine tl_aload_n (pc := 11) (i := 0) dX5_set_11 rfl rfl ?_
  refine tl_getR (pc := 12) (r := 2) fl_X5_20 hb.1 rfl dX5_set_12 ?_
  refine tl_callVv (pc := 15) k_X0_save gw_411 hb.2.2.2.1.1 ⟨_, _, rfl⟩ (c_X0_save T _ hb.2.2.2.1 hb.2.1.2.1) rfl rfl (Nat.le_of_ble_eq_true rfl) (Nat.le_of_ble_eq_true rfl) dX5_set_15 (fun _ => ?_)
  refine tl_aload_n (pc := 18) (i := 0) dX5_set_18 rfl rfl ?_
  refine tl_getR (pc := 19) (r := 2) fl_X5_20 hb.1 rfl dX5_set_19 ?_
  refine tl_getI (pc := 22) fl_X5_121 hb.2.1.2.1.1 rfl dX5_set_22 (fun x1 => ?_)
  refine tl_istore_n (pc := 25) (i := 2) (lo' := [some (.ref 0), some (.int p0), some (.int x1)]) dX5_set_25 rfl (by decide) rfl ?_
  refine tl_aload_n (pc := 26) (i := 0) dX5_set_26 rfl rfl ?_
  refine tl_getR (pc := 27) (r := 2) fl_X5_20 hb.1 rfl dX5_set_27 ?_
  refine tl_iload_n (pc := 30) (i := 1) dX5_set_30 rfl rfl ?_
  refine tl_putI (pc := 31) fw_X5_121 hb.2.1.2.1.1 rfl dX5_set_31 ?_
  refine tl_iload_n (pc := 34) (i := 2) dX5_set_34 rfl rfl ?_
  exact tl_iret (pc := 35) dX5_set_35
abbrev TL_X5_undo (T : Tb) (pc : Nat) (lo : List (Option Value)) (st : List Value) (X : Dm Int32) : Prop := TL yX5_undo cX5_undo 1 (some .int) 6 iI T pc lo st X
set_option maxRecDepth 100000 in
theorem c_X5_undo (T : Tb)  (hb : isNS T) : CT (.code yX5_undo cX5_undo 1 (some .int)) yX5_undo 6 iI T [.ref 0] (F_X5_undo) := by
  refine ct_of (lo := [some (.ref 0)]) (j := 0) k_X5_undo.1 rfl (fun _ => Nat.le_of_ble_eq_true rfl) ?_
  show TL_X5_undo T 0 _ _ _
  rw [F_X5_undo]
  refine tl_aload_n (pc := 0) (i := 0) dX5_undo_0 rfl rfl ?_
  refine tl_getR (pc := 1) (r := 73) fl_X5_27 hb.1 rfl dX5_undo_1 ?_
  refine tl_getI (pc := 4) fl_X5_145 hb.2.2.2.1.1 rfl dX5_undo_4 (fun x1 => ?_)
  refine tl_if_gt (pc := 7) (tgt := 18) dX5_undo_7 rfl ?_ ?_
  · refine tl_aload_n (pc := 18) (i := 0) dX5_undo_18 rfl rfl ?_
    refine tl_getR (pc := 19) (r := 73) fl_X5_27 hb.1 rfl dX5_undo_19 ?_
    refine tl_aload_n (pc := 22) (i := 0) dX5_undo_22 rfl rfl ?_
    refine tl_getR (pc := 23) (r := 2) fl_X5_20 hb.1 rfl dX5_undo_23 ?_
    refine tl_callVv (pc := 26) k_X0_takeBack gw_613 hb.2.2.2.1.1 ⟨_, _, rfl⟩ (c_X0_takeBack T _ hb.2.2.2.1 hb.2.1.2.1) rfl rfl (Nat.le_of_ble_eq_true rfl) (Nat.le_of_ble_eq_true rfl) dX5_undo_26 (fun _ => ?_)
    refine tl_aload_n (pc := 29) (i := 0) dX5_undo_29 rfl rfl ?_
    refine tl_getR (pc := 30) (r := 1) fl_X5_12 hb.1 rfl dX5_undo_30 ?_
    refine tl_callVv (pc := 33) k_X1_measure gw_191 hb.2.1.1 ⟨_, _, rfl⟩ (c_X1_measure T _ hb.2.1) rfl rfl (Nat.le_of_ble_eq_true rfl) (Nat.le_of_ble_eq_true rfl) dX5_undo_33 (fun _ => ?_)
    refine tl_aload_n (pc := 36) (i := 0) dX5_undo_36 rfl rfl ?_
    refine tl_getR (pc := 37) (r := 73) fl_X5_27 hb.1 rfl dX5_undo_37 ?_
    refine tl_getI (pc := 40) fl_X5_145 hb.2.2.2.1.1 rfl dX5_undo_40 (fun x2 => ?_)
    exact tl_iret (pc := 43) dX5_undo_43
  · exact tl_throw (pc := 10) (names := ["java/lang/RuntimeException", "java/lang/Exception"]) (by decide +kernel) (by decide +kernel) gw_543 gw_14 at_X5_78 dX5_undo_10 dX5_undo_13 dX5_undo_14 dX5_undo_17 (by decide) (Nat.le_of_ble_eq_true rfl)
abbrev TL_X5_cellProperty (T : Tb) (pc : Nat) (lo : List (Option Value)) (st : List Value) (X : Dm Int32) : Prop := TL yX5_cellProperty cX5_cellProperty 3 (some .int) 2 iI T pc lo st X
set_option maxRecDepth 100000 in
theorem c_X5_cellProperty (T : Tb) (p0 : Int32) (p1 : Int32) (hb : isNS T) : CT (.code yX5_cellProperty cX5_cellProperty 3 (some .int)) yX5_cellProperty 2 iI T [.ref 0, .int p0, .int p1] (F_X5_cellProperty p0 p1) := by
  refine ct_of (lo := [some (.ref 0), some (.int p0), some (.int p1)]) (j := 0) k_X5_cellProperty.1 rfl (fun _ => Nat.le_of_ble_eq_true rfl) ?_
  show TL_X5_cellProperty T 0 _ _ _
  rw [F_X5_cellProperty]
  refine tl_aload_n (pc := 0) (i := 0) dX5_cellProperty_0 rfl rfl ?_
  refine tl_getR (pc := 1) (r := 2) fl_X5_20 hb.1 rfl dX5_cellProperty_1 ?_
  refine tl_iload_n (pc := 4) (i := 1) dX5_cellProperty_4 rfl rfl ?_
  refine tl_callVi (pc := 5) k_X4_isCell gw_569 hb.2.1.2.1.1 ⟨_, _, rfl⟩ (c_X4_isCell T _ _ hb.2.1.2.1) rfl rfl (Nat.le_of_ble_eq_true rfl) (Nat.le_of_ble_eq_true rfl) dX5_cellProperty_5 (fun x1 => ?_)
  refine tl_if_ne (pc := 8) (tgt := 13) dX5_cellProperty_8 rfl ?_ ?_
  · refine tl_iconst (pc := 11) (v := -1) dX5_cellProperty_11 (by decide) ?_
    exact tl_iret (pc := 12) dX5_cellProperty_12
  · refine tl_iload_n (pc := 13) (i := 2) dX5_cellProperty_13 rfl rfl ?_
    refine tl_if (fun cs14_0 => ?_) (fun cs14_0 => ?_)
    · refine tl_tableIn (pc := 14) (tgt := 60) (off := 46) (0 : Int32) cs14_0 dX5_cellProperty_14 (by decide) (by decide) (by decide) rfl ?_
      refine tl_aload_n (pc := 60) (i := 0) dX5_cellProperty_60 rfl rfl ?_
      refine tl_getR (pc := 61) (r := 2) fl_X5_20 hb.1 rfl dX5_cellProperty_61 ?_
      refine tl_getR (pc := 64) (r := 9) fl_X5_62 hb.2.1.2.1.1 rfl dX5_cellProperty_64 ?_
      refine tl_iload_n (pc := 67) (i := 1) dX5_cellProperty_67 rfl rfl ?_
      refine tl_callVi (pc := 68) k_X2_at gw_469 hb.2.1.2.1.2.2.2.2.1.1 ⟨_, _, rfl⟩ (c_X2_at T _ _ _ hb.2.1.2.1.2.2.2.2.1) rfl rfl (Nat.le_of_ble_eq_true rfl) (Nat.le_of_ble_eq_true rfl) dX5_cellProperty_68 (fun x2 => ?_)
      exact tl_iret (pc := 71) dX5_cellProperty_71
    · refine tl_if (fun cs14_1 => ?_) (fun cs14_1 => ?_)
      · refine tl_tableIn (pc := 14) (tgt := 72) (off := 58) (1 : Int32) cs14_1 dX5_cellProperty_14 (by decide) (by decide) (by decide) rfl ?_
        refine tl_aload_n (pc := 72) (i := 0) dX5_cellProperty_72 rfl rfl ?_
        refine tl_getR (pc := 73) (r := 1) fl_X5_12 hb.1 rfl dX5_cellProperty_73 ?_
        refine tl_getR (pc := 76) (r := 17) fl_X5_250 hb.2.1.1 rfl dX5_cellProperty_76 ?_
        refine tl_iload_n (pc := 79) (i := 1) dX5_cellProperty_79 rfl rfl ?_
        refine tl_callVi (pc := 80) k_X2_at gw_469 hb.2.1.2.2.1.1 ⟨_, _, rfl⟩ (c_X2_at T _ _ _ hb.2.1.2.2.1) rfl rfl (Nat.le_of_ble_eq_true rfl) (Nat.le_of_ble_eq_true rfl) dX5_cellProperty_80 (fun x3 => ?_)
        exact tl_iret (pc := 83) dX5_cellProperty_83
      · refine tl_if (fun cs14_2 => ?_) (fun cs14_2 => ?_)
        · refine tl_tableIn (pc := 14) (tgt := 84) (off := 70) (2 : Int32) cs14_2 dX5_cellProperty_14 (by decide) (by decide) (by decide) rfl ?_
          refine tl_aload_n (pc := 84) (i := 0) dX5_cellProperty_84 rfl rfl ?_
          refine tl_getR (pc := 85) (r := 1) fl_X5_12 hb.1 rfl dX5_cellProperty_85 ?_
          refine tl_getR (pc := 88) (r := 19) fl_X5_253 hb.2.1.1 rfl dX5_cellProperty_88 ?_
          refine tl_iload_n (pc := 91) (i := 1) dX5_cellProperty_91 rfl rfl ?_
          refine tl_callVi (pc := 92) k_X2_at gw_469 hb.2.1.2.2.2.1.1 ⟨_, _, rfl⟩ (c_X2_at T _ _ _ hb.2.1.2.2.2.1) rfl rfl (Nat.le_of_ble_eq_true rfl) (Nat.le_of_ble_eq_true rfl) dX5_cellProperty_92 (fun x4 => ?_)
          exact tl_iret (pc := 95) dX5_cellProperty_95
        · refine tl_if (fun cs14_3 => ?_) (fun cs14_3 => ?_)
          · refine tl_tableIn (pc := 14) (tgt := 96) (off := 82) (3 : Int32) cs14_3 dX5_cellProperty_14 (by decide) (by decide) (by decide) rfl ?_
            refine tl_aload_n (pc := 96) (i := 0) dX5_cellProperty_96 rfl rfl ?_
            refine tl_getR (pc := 97) (r := 2) fl_X5_20 hb.1 rfl dX5_cellProperty_97 ?_
            refine tl_iload_n (pc := 100) (i := 1) dX5_cellProperty_100 rfl rfl ?_
            refine tl_iconst (pc := 101) (v := 1) dX5_cellProperty_101 (by decide) ?_
            refine tl_callVi (pc := 102) k_X4_spanOf gw_628 hb.2.1.2.1.1 ⟨_, _, rfl⟩ (c_X4_spanOf T _ _ _ hb.2.1.2.1) rfl rfl (Nat.le_of_ble_eq_true rfl) (Nat.le_of_ble_eq_true rfl) dX5_cellProperty_102 (fun x5 => ?_)
            exact tl_iret (pc := 105) dX5_cellProperty_105
          · refine tl_if (fun cs14_4 => ?_) (fun cs14_4 => ?_)
            · refine tl_tableIn (pc := 14) (tgt := 106) (off := 92) (4 : Int32) cs14_4 dX5_cellProperty_14 (by decide) (by decide) (by decide) rfl ?_
              refine tl_aload_n (pc := 106) (i := 0) dX5_cellProperty_106 rfl rfl ?_
              refine tl_getR (pc := 107) (r := 2) fl_X5_20 hb.1 rfl dX5_cellProperty_107 ?_
              refine tl_iload_n (pc := 110) (i := 1) dX5_cellProperty_110 rfl rfl ?_
              refine tl_iconst (pc := 111) (v := 0) dX5_cellProperty_111 (by decide) ?_
              refine tl_callVi (pc := 112) k_X4_spanOf gw_628 hb.2.1.2.1.1 ⟨_, _, rfl⟩ (c_X4_spanOf T _ _ _ hb.2.1.2.1) rfl rfl (Nat.le_of_ble_eq_true rfl) (Nat.le_of_ble_eq_true rfl) dX5_cellProperty_112 (fun x6 => ?_)
              exact tl_iret (pc := 115) dX5_cellProperty_115
            · refine tl_if (fun cs14_5 => ?_) (fun cs14_5 => ?_)
              · refine tl_tableIn (pc := 14) (tgt := 116) (off := 102) (5 : Int32) cs14_5 dX5_cellProperty_14 (by decide) (by decide) (by decide) rfl ?_
                refine tl_aload_n (pc := 116) (i := 0) dX5_cellProperty_116 rfl rfl ?_
                refine tl_getR (pc := 117) (r := 1) fl_X5_12 hb.1 rfl dX5_cellProperty_117 ?_
                refine tl_getR (pc := 120) (r := 23) fl_X5_259 hb.2.1.1 rfl dX5_cellProperty_120 ?_
                refine tl_iload_n (pc := 123) (i := 1) dX5_cellProperty_123 rfl rfl ?_
                refine tl_iconst (pc := 124) (v := 2) dX5_cellProperty_124 (by decide) ?_
                refine tl_imul (pc := 125) dX5_cellProperty_125 ?_
                refine tl_iconst (pc := 126) (v := 0) dX5_cellProperty_126 (by decide) ?_
                refine tl_iadd (pc := 127) dX5_cellProperty_127 ?_
                refine tl_callVi (pc := 128) k_X2_at gw_469 hb.2.1.2.2.2.2.2.1.1 ⟨_, _, rfl⟩ (c_X2_at T _ _ _ hb.2.1.2.2.2.2.2.1) rfl rfl (Nat.le_of_ble_eq_true rfl) (Nat.le_of_ble_eq_true rfl) dX5_cellProperty_128 (fun x7 => ?_)
                exact tl_iret (pc := 131) dX5_cellProperty_131
              · refine tl_if (fun cs14_6 => ?_) (fun cs14_6 => ?_)
                · refine tl_tableIn (pc := 14) (tgt := 132) (off := 118) (6 : Int32) cs14_6 dX5_cellProperty_14 (by decide) (by decide) (by decide) rfl ?_
                  refine tl_aload_n (pc := 132) (i := 0) dX5_cellProperty_132 rfl rfl ?_
                  refine tl_getR (pc := 133) (r := 1) fl_X5_12 hb.1 rfl dX5_cellProperty_133 ?_
                  refine tl_getR (pc := 136) (r := 23) fl_X5_259 hb.2.1.1 rfl dX5_cellProperty_136 ?_
                  refine tl_iload_n (pc := 139) (i := 1) dX5_cellProperty_139 rfl rfl ?_
                  refine tl_iconst (pc := 140) (v := 2) dX5_cellProperty_140 (by decide) ?_
                  refine tl_imul (pc := 141) dX5_cellProperty_141 ?_
                  refine tl_iconst (pc := 142) (v := 1) dX5_cellProperty_142 (by decide) ?_
                  refine tl_iadd (pc := 143) dX5_cellProperty_143 ?_
                  refine tl_callVi (pc := 144) k_X2_at gw_469 hb.2.1.2.2.2.2.2.1.1 ⟨_, _, rfl⟩ (c_X2_at T _ _ _ hb.2.1.2.2.2.2.2.1) rfl rfl (Nat.le_of_ble_eq_true rfl) (Nat.le_of_ble_eq_true rfl) dX5_cellProperty_144 (fun x8 => ?_)
                  exact tl_iret (pc := 147) dX5_cellProperty_147
                · refine tl_if (fun cs14_7 => ?_) (fun cs14_7 => ?_)
                  · refine tl_tableIn (pc := 14) (tgt := 148) (off := 134) (7 : Int32) cs14_7 dX5_cellProperty_14 (by decide) (by decide) (by decide) rfl ?_
                    refine tl_aload_n (pc := 148) (i := 0) dX5_cellProperty_148 rfl rfl ?_
                    refine tl_getR (pc := 149) (r := 2) fl_X5_20 hb.1 rfl dX5_cellProperty_149 ?_
                    refine tl_iload_n (pc := 152) (i := 1) dX5_cellProperty_152 rfl rfl ?_
                    refine tl_callVi (pc := 153) k_X4_tableWithin gw_629 hb.2.1.2.1.1 ⟨_, _, rfl⟩ (c_X4_tableWithin T _ _ hb.2.1.2.1) rfl rfl (Nat.le_of_ble_eq_true rfl) (Nat.le_of_ble_eq_true rfl) dX5_cellProperty_153 (fun x9 => ?_)
                    exact tl_iret (pc := 156) dX5_cellProperty_156
                  · refine tl_tableOut (pc := 14) (tgt := 157) dX5_cellProperty_14 (by have n0 := lv_neT cs14_0 (a := 0) (by decide); have n1 := lv_neT cs14_1 (a := 1) (by decide); have n2 := lv_neT cs14_2 (a := 2) (by decide); have n3 := lv_neT cs14_3 (a := 3) (by decide); have n4 := lv_neT cs14_4 (a := 4) (by decide); have n5 := lv_neT cs14_5 (a := 5) (by decide); have n6 := lv_neT cs14_6 (a := 6) (by decide); have n7 := lv_neT cs14_7 (a := 7) (by decide); omega) rfl ?_
                    refine tl_aload_n (pc := 157) (i := 0) dX5_cellProperty_157 rfl rfl ?_
                    refine tl_getR (pc := 158) (r := 1) fl_X5_12 hb.1 rfl dX5_cellProperty_158 ?_
                    refine tl_getR (pc := 161) (r := 25) fl_X5_265 hb.2.1.1 rfl dX5_cellProperty_161 ?_
                    refine tl_iload_n (pc := 164) (i := 1) dX5_cellProperty_164 rfl rfl ?_
                    refine tl_iconst (pc := 165) (v := 4) dX5_cellProperty_165 (by decide) ?_
                    refine tl_imul (pc := 166) dX5_cellProperty_166 ?_
                    refine tl_iload_n (pc := 167) (i := 2) dX5_cellProperty_167 rfl rfl ?_
                    refine tl_iadd (pc := 168) dX5_cellProperty_168 ?_
                    refine tl_bipush (pc := 169) (v := 8) dX5_cellProperty_169 (by decide) ?_
                    refine tl_isub (pc := 171) dX5_cellProperty_171 ?_
                    refine tl_callVi (pc := 172) k_X2_at gw_469 hb.2.1.2.2.2.2.2.2.1.1 ⟨_, _, rfl⟩ (c_X2_at T _ _ _ hb.2.1.2.2.2.2.2.2.1) rfl rfl (Nat.le_of_ble_eq_true rfl) (Nat.le_of_ble_eq_true rfl) dX5_cellProperty_172 (fun x10 => ?_)
                    exact tl_iret (pc := 175) dX5_cellProperty_175
abbrev TL_X5_cell (T : Tb) (pc : Nat) (lo : List (Option Value)) (st : List Value) (X : Dm Int32) : Prop := TL yX5_cell cX5_cell 6 (some .int) 7 iI T pc lo st X
set_option maxRecDepth 100000 in
theorem c_X5_cell (T : Tb) (p0 : Int32) (p1 : Int32) (p2 : Int32) (p3 : Int32) (hb : isNS T) : CT (.code yX5_cell cX5_cell 6 (some .int)) yX5_cell 7 iI T [.ref 0, .int p0, .int p1, .int p2, .int p3] (F_X5_cell p0 p1 p2 p3) := by
  refine ct_of (lo := [some (.ref 0), some (.int p0), some (.int p1), some (.int p2), some (.int p3), none]) (j := 1) k_X5_cell.1 rfl (fun _ => Nat.le_of_ble_eq_true rfl) ?_
  show TL_X5_cell T 0 _ _ _
  rw [F_X5_cell]
  refine tl_aload_n (pc := 0) (i := 0) dX5_cell_0 rfl rfl ?_
  refine tl_iload_n (pc := 1) (i := 1) dX5_cell_1 rfl rfl ?_
  refine tl_iload_n (pc := 2) (i := 2) dX5_cell_2 rfl rfl ?_
  refine tl_iload_n (pc := 3) (i := 3) dX5_cell_3 rfl rfl ?_
  refine tl_callVi (pc := 4) k_X5_requireSquare gw_526 hb.1 ⟨_, _, rfl⟩ (c_X5_requireSquare T _ _ _ hb) rfl rfl (Nat.le_of_ble_eq_true rfl) (Nat.le_of_ble_eq_true rfl) dX5_cell_4 (fun x1 => ?_)
  refine tl_istore (pc := 7) (i := 5) (lo' := [some (.ref 0), some (.int p0), some (.int p1), some (.int p2), some (.int p3), some (.int x1)]) dX5_cell_7 (by decide) rfl ?_
  refine tl_iload (pc := 9) (i := 4) dX5_cell_9 rfl ?_
  refine tl_iconst (pc := 11) (v := 0) dX5_cell_11 (by decide) ?_
  refine tl_bipush (pc := 12) (v := 11) dX5_cell_12 (by decide) ?_
  refine tl_callSv (pc := 14) k_X5_requireBetween gw_344 (c_X5_requireBetween T _ _ _) rfl rfl (Nat.le_of_ble_eq_true rfl) (Nat.le_of_ble_eq_true rfl) dX5_cell_14 (fun _ => ?_)
  refine tl_aload_n (pc := 17) (i := 0) dX5_cell_17 rfl rfl ?_
  refine tl_iload (pc := 18) (i := 5) dX5_cell_18 rfl ?_
  refine tl_iload (pc := 20) (i := 4) dX5_cell_20 rfl ?_
  refine tl_callVi (pc := 22) k_X5_cellProperty gw_624 hb.1 ⟨_, _, rfl⟩ (c_X5_cellProperty T _ _ hb) rfl rfl (Nat.le_of_ble_eq_true rfl) (Nat.le_of_ble_eq_true rfl) dX5_cell_22 (fun x2 => ?_)
  exact tl_iret (pc := 25) dX5_cell_25
abbrev TL_X5_edge (T : Tb) (pc : Nat) (lo : List (Option Value)) (st : List Value) (X : Dm Int32) : Prop := TL yX5_edge cX5_edge 6 (some .int) 7 iI T pc lo st X
set_option maxRecDepth 100000 in
theorem c_X5_edge (T : Tb) (p0 : Int32) (p1 : Int32) (p2 : Int32) (p3 : Int32) (hb : isNS T) : CT (.code yX5_edge cX5_edge 6 (some .int)) yX5_edge 7 iI T [.ref 0, .int p0, .int p1, .int p2, .int p3] (F_X5_edge p0 p1 p2 p3) := by
  refine ct_of (lo := [some (.ref 0), some (.int p0), some (.int p1), some (.int p2), some (.int p3), none]) (j := 1) k_X5_edge.1 rfl (fun _ => Nat.le_of_ble_eq_true rfl) ?_
  show TL_X5_edge T 0 _ _ _
  rw [F_X5_edge]
  refine tl_aload_n (pc := 0) (i := 0) dX5_edge_0 rfl rfl ?_
  refine tl_iload_n (pc := 1) (i := 1) dX5_edge_1 rfl rfl ?_
  refine tl_iload_n (pc := 2) (i := 2) dX5_edge_2 rfl rfl ?_
  refine tl_iload_n (pc := 3) (i := 3) dX5_edge_3 rfl rfl ?_
  refine tl_callVi (pc := 4) k_X5_requireSquare gw_526 hb.1 ⟨_, _, rfl⟩ (c_X5_requireSquare T _ _ _ hb) rfl rfl (Nat.le_of_ble_eq_true rfl) (Nat.le_of_ble_eq_true rfl) dX5_edge_4 (fun x1 => ?_)
  refine tl_istore (pc := 7) (i := 5) (lo' := [some (.ref 0), some (.int p0), some (.int p1), some (.int p2), some (.int p3), some (.int x1)]) dX5_edge_7 (by decide) rfl ?_
  refine tl_iload (pc := 9) (i := 4) dX5_edge_9 rfl ?_
  refine tl_iconst (pc := 11) (v := 0) dX5_edge_11 (by decide) ?_
  refine tl_iconst (pc := 12) (v := 3) dX5_edge_12 (by decide) ?_
  refine tl_callSv (pc := 13) k_X5_requireBetween gw_344 (c_X5_requireBetween T _ _ _) rfl rfl (Nat.le_of_ble_eq_true rfl) (Nat.le_of_ble_eq_true rfl) dX5_edge_13 (fun _ => ?_)
  refine tl_aload_n (pc := 16) (i := 0) dX5_edge_16 rfl rfl ?_
  refine tl_getR (pc := 17) (r := 1) fl_X5_12 hb.1 rfl dX5_edge_17 ?_
  refine tl_getR (pc := 20) (r := 27) fl_X5_155 hb.2.1.1 rfl dX5_edge_20 ?_
  refine tl_iload (pc := 23) (i := 5) dX5_edge_23 rfl ?_
  refine tl_iconst (pc := 25) (v := 4) dX5_edge_25 (by decide) ?_
  refine tl_imul (pc := 26) dX5_edge_26 ?_
  refine tl_iload (pc := 27) (i := 4) dX5_edge_27 rfl ?_
  refine tl_iadd (pc := 29) dX5_edge_29 ?_
  refine tl_callVi (pc := 30) k_X2_at gw_469 hb.2.1.2.2.2.2.2.2.2.1.1 ⟨_, _, rfl⟩ (c_X2_at T _ _ _ hb.2.1.2.2.2.2.2.2.2.1) rfl rfl (Nat.le_of_ble_eq_true rfl) (Nat.le_of_ble_eq_true rfl) dX5_edge_30 (fun x2 => ?_)
  exact tl_iret (pc := 33) dX5_edge_33
abbrev TL_X5_requireTable (T : Tb) (pc : Nat) (lo : List (Option Value)) (st : List Value) (X : Dm Unit) : Prop := TL yX5_requireTable cX5_requireTable 2 none 6 vI T pc lo st X
set_option maxRecDepth 100000 in
theorem c_X5_requireTable (T : Tb) (p0 : Int32) (hb : isNS T) : CT (.code yX5_requireTable cX5_requireTable 2 none) yX5_requireTable 6 vI T [.ref 0, .int p0] (F_X5_requireTable p0) := by
  refine ct_of (lo := [some (.ref 0), some (.int p0)]) (j := 0) k_X5_requireTable.1 rfl (fun _ => Nat.le_of_ble_eq_true rfl) ?_
  show TL_X5_requireTable T 0 _ _ _
  rw [F_X5_requireTable]
  refine tl_aload_n (pc := 0) (i := 0) dX5_requireTable_0 rfl rfl ?_
  refine tl_getR (pc := 1) (r := 2) fl_X5_20 hb.1 rfl dX5_requireTable_1 ?_
  refine tl_iload_n (pc := 4) (i := 1) dX5_requireTable_4 rfl rfl ?_
  refine tl_callVi (pc := 5) k_X4_hasTable gw_445 hb.2.1.2.1.1 ⟨_, _, rfl⟩ (c_X4_hasTable T _ _ hb.2.1.2.1) rfl rfl (Nat.le_of_ble_eq_true rfl) (Nat.le_of_ble_eq_true rfl) dX5_requireTable_5 (fun x1 => ?_)
  refine tl_if_ne (pc := 8) (tgt := 19) dX5_requireTable_8 rfl ?_ ?_
  · exact tl_throw (pc := 11) (names := ["java/lang/RuntimeException", "java/lang/Exception"]) (by decide +kernel) (by decide +kernel) gw_449 gw_13 at_X5_104 dX5_requireTable_11 dX5_requireTable_14 dX5_requireTable_15 dX5_requireTable_18 (by decide) (Nat.le_of_ble_eq_true rfl)
  · exact tl_vret (pc := 19) dX5_requireTable_19
abbrev TL_X5_tableProperty (T : Tb) (pc : Nat) (lo : List (Option Value)) (st : List Value) (X : Dm Int32) : Prop := TL yX5_tableProperty cX5_tableProperty 3 (some .int) 2 iI T pc lo st X
set_option maxRecDepth 100000 in
theorem c_X5_tableProperty (T : Tb) (p0 : Int32) (p1 : Int32) (hb : isNS T) : CT (.code yX5_tableProperty cX5_tableProperty 3 (some .int)) yX5_tableProperty 2 iI T [.ref 0, .int p0, .int p1] (F_X5_tableProperty p0 p1) := by
  refine ct_of (lo := [some (.ref 0), some (.int p0), some (.int p1)]) (j := 0) k_X5_tableProperty.1 rfl (fun _ => Nat.le_of_ble_eq_true rfl) ?_
  show TL_X5_tableProperty T 0 _ _ _
  rw [F_X5_tableProperty]
  refine tl_iload_n (pc := 0) (i := 2) dX5_tableProperty_0 rfl rfl ?_
  refine tl_if (fun cs1_0 => ?_) (fun cs1_0 => ?_)
  · refine tl_tableIn (pc := 1) (tgt := 44) (off := 43) (0 : Int32) cs1_0 dX5_tableProperty_1 (by decide) (by decide) (by decide) rfl ?_
    refine tl_aload_n (pc := 44) (i := 0) dX5_tableProperty_44 rfl rfl ?_
    refine tl_getR (pc := 45) (r := 2) fl_X5_20 hb.1 rfl dX5_tableProperty_45 ?_
    refine tl_iload_n (pc := 48) (i := 1) dX5_tableProperty_48 rfl rfl ?_
    refine tl_iconst (pc := 49) (v := 1) dX5_tableProperty_49 (by decide) ?_
    refine tl_callVi (pc := 50) k_X4_linesOf gw_468 hb.2.1.2.1.1 ⟨_, _, rfl⟩ (c_X4_linesOf T _ _ _ hb.2.1.2.1) rfl rfl (Nat.le_of_ble_eq_true rfl) (Nat.le_of_ble_eq_true rfl) dX5_tableProperty_50 (fun x1 => ?_)
    exact tl_iret (pc := 53) dX5_tableProperty_53
  · refine tl_if (fun cs1_1 => ?_) (fun cs1_1 => ?_)
    · refine tl_tableIn (pc := 1) (tgt := 54) (off := 53) (1 : Int32) cs1_1 dX5_tableProperty_1 (by decide) (by decide) (by decide) rfl ?_
      refine tl_aload_n (pc := 54) (i := 0) dX5_tableProperty_54 rfl rfl ?_
      refine tl_getR (pc := 55) (r := 2) fl_X5_20 hb.1 rfl dX5_tableProperty_55 ?_
      refine tl_iload_n (pc := 58) (i := 1) dX5_tableProperty_58 rfl rfl ?_
      refine tl_iconst (pc := 59) (v := 0) dX5_tableProperty_59 (by decide) ?_
      refine tl_callVi (pc := 60) k_X4_linesOf gw_468 hb.2.1.2.1.1 ⟨_, _, rfl⟩ (c_X4_linesOf T _ _ _ hb.2.1.2.1) rfl rfl (Nat.le_of_ble_eq_true rfl) (Nat.le_of_ble_eq_true rfl) dX5_tableProperty_60 (fun x2 => ?_)
      exact tl_iret (pc := 63) dX5_tableProperty_63
    · refine tl_if (fun cs1_2 => ?_) (fun cs1_2 => ?_)
      · refine tl_tableIn (pc := 1) (tgt := 64) (off := 63) (2 : Int32) cs1_2 dX5_tableProperty_1 (by decide) (by decide) (by decide) rfl ?_
        refine tl_aload_n (pc := 64) (i := 0) dX5_tableProperty_64 rfl rfl ?_
        refine tl_getR (pc := 65) (r := 1) fl_X5_12 hb.1 rfl dX5_tableProperty_65 ?_
        refine tl_getR (pc := 68) (r := 35) fl_X5_266 hb.2.1.1 rfl dX5_tableProperty_68 ?_
        refine tl_iload_n (pc := 71) (i := 1) dX5_tableProperty_71 rfl rfl ?_
        refine tl_callVi (pc := 72) k_X2_at gw_469 hb.2.1.2.2.2.2.2.2.2.2.2.2.2.1 ⟨_, _, rfl⟩ (c_X2_at T _ _ _ hb.2.1.2.2.2.2.2.2.2.2.2.2.2) rfl rfl (Nat.le_of_ble_eq_true rfl) (Nat.le_of_ble_eq_true rfl) dX5_tableProperty_72 (fun x3 => ?_)
        exact tl_iret (pc := 75) dX5_tableProperty_75
      · refine tl_if (fun cs1_3 => ?_) (fun cs1_3 => ?_)
        · refine tl_tableIn (pc := 1) (tgt := 76) (off := 75) (3 : Int32) cs1_3 dX5_tableProperty_1 (by decide) (by decide) (by decide) rfl ?_
          refine tl_aload_n (pc := 76) (i := 0) dX5_tableProperty_76 rfl rfl ?_
          refine tl_getR (pc := 77) (r := 1) fl_X5_12 hb.1 rfl dX5_tableProperty_77 ?_
          refine tl_getR (pc := 80) (r := 33) fl_X5_269 hb.2.1.1 rfl dX5_tableProperty_80 ?_
          refine tl_iload_n (pc := 83) (i := 1) dX5_tableProperty_83 rfl rfl ?_
          refine tl_iconst (pc := 84) (v := 2) dX5_tableProperty_84 (by decide) ?_
          refine tl_imul (pc := 85) dX5_tableProperty_85 ?_
          refine tl_iconst (pc := 86) (v := 0) dX5_tableProperty_86 (by decide) ?_
          refine tl_iadd (pc := 87) dX5_tableProperty_87 ?_
          refine tl_callVi (pc := 88) k_X2_at gw_469 hb.2.1.2.2.2.2.2.2.2.2.2.2.1.1 ⟨_, _, rfl⟩ (c_X2_at T _ _ _ hb.2.1.2.2.2.2.2.2.2.2.2.2.1) rfl rfl (Nat.le_of_ble_eq_true rfl) (Nat.le_of_ble_eq_true rfl) dX5_tableProperty_88 (fun x4 => ?_)
          exact tl_iret (pc := 91) dX5_tableProperty_91
        · refine tl_if (fun cs1_4 => ?_) (fun cs1_4 => ?_)
          · refine tl_tableIn (pc := 1) (tgt := 92) (off := 91) (4 : Int32) cs1_4 dX5_tableProperty_1 (by decide) (by decide) (by decide) rfl ?_
            refine tl_aload_n (pc := 92) (i := 0) dX5_tableProperty_92 rfl rfl ?_
            refine tl_getR (pc := 93) (r := 1) fl_X5_12 hb.1 rfl dX5_tableProperty_93 ?_
            refine tl_getR (pc := 96) (r := 33) fl_X5_269 hb.2.1.1 rfl dX5_tableProperty_96 ?_
            refine tl_iload_n (pc := 99) (i := 1) dX5_tableProperty_99 rfl rfl ?_
            refine tl_iconst (pc := 100) (v := 2) dX5_tableProperty_100 (by decide) ?_
            refine tl_imul (pc := 101) dX5_tableProperty_101 ?_
            refine tl_iconst (pc := 102) (v := 1) dX5_tableProperty_102 (by decide) ?_
            refine tl_iadd (pc := 103) dX5_tableProperty_103 ?_
            refine tl_callVi (pc := 104) k_X2_at gw_469 hb.2.1.2.2.2.2.2.2.2.2.2.2.1.1 ⟨_, _, rfl⟩ (c_X2_at T _ _ _ hb.2.1.2.2.2.2.2.2.2.2.2.2.1) rfl rfl (Nat.le_of_ble_eq_true rfl) (Nat.le_of_ble_eq_true rfl) dX5_tableProperty_104 (fun x5 => ?_)
            exact tl_iret (pc := 107) dX5_tableProperty_107
          · refine tl_if (fun cs1_5 => ?_) (fun cs1_5 => ?_)
            · refine tl_tableIn (pc := 1) (tgt := 108) (off := 107) (5 : Int32) cs1_5 dX5_tableProperty_1 (by decide) (by decide) (by decide) rfl ?_
              refine tl_aload_n (pc := 108) (i := 0) dX5_tableProperty_108 rfl rfl ?_
              refine tl_getR (pc := 109) (r := 1) fl_X5_12 hb.1 rfl dX5_tableProperty_109 ?_
              refine tl_getR (pc := 112) (r := 31) fl_X5_272 hb.2.1.1 rfl dX5_tableProperty_112 ?_
              refine tl_iload_n (pc := 115) (i := 1) dX5_tableProperty_115 rfl rfl ?_
              refine tl_iconst (pc := 116) (v := 2) dX5_tableProperty_116 (by decide) ?_
              refine tl_imul (pc := 117) dX5_tableProperty_117 ?_
              refine tl_iconst (pc := 118) (v := 0) dX5_tableProperty_118 (by decide) ?_
              refine tl_iadd (pc := 119) dX5_tableProperty_119 ?_
              refine tl_callVi (pc := 120) k_X2_at gw_469 hb.2.1.2.2.2.2.2.2.2.2.2.1.1 ⟨_, _, rfl⟩ (c_X2_at T _ _ _ hb.2.1.2.2.2.2.2.2.2.2.2.1) rfl rfl (Nat.le_of_ble_eq_true rfl) (Nat.le_of_ble_eq_true rfl) dX5_tableProperty_120 (fun x6 => ?_)
              exact tl_iret (pc := 123) dX5_tableProperty_123
            · refine tl_if (fun cs1_6 => ?_) (fun cs1_6 => ?_)
              · refine tl_tableIn (pc := 1) (tgt := 124) (off := 123) (6 : Int32) cs1_6 dX5_tableProperty_1 (by decide) (by decide) (by decide) rfl ?_
                refine tl_aload_n (pc := 124) (i := 0) dX5_tableProperty_124 rfl rfl ?_
                refine tl_getR (pc := 125) (r := 1) fl_X5_12 hb.1 rfl dX5_tableProperty_125 ?_
                refine tl_getR (pc := 128) (r := 31) fl_X5_272 hb.2.1.1 rfl dX5_tableProperty_128 ?_
                refine tl_iload_n (pc := 131) (i := 1) dX5_tableProperty_131 rfl rfl ?_
                refine tl_iconst (pc := 132) (v := 2) dX5_tableProperty_132 (by decide) ?_
                refine tl_imul (pc := 133) dX5_tableProperty_133 ?_
                refine tl_iconst (pc := 134) (v := 1) dX5_tableProperty_134 (by decide) ?_
                refine tl_iadd (pc := 135) dX5_tableProperty_135 ?_
                refine tl_callVi (pc := 136) k_X2_at gw_469 hb.2.1.2.2.2.2.2.2.2.2.2.1.1 ⟨_, _, rfl⟩ (c_X2_at T _ _ _ hb.2.1.2.2.2.2.2.2.2.2.2.1) rfl rfl (Nat.le_of_ble_eq_true rfl) (Nat.le_of_ble_eq_true rfl) dX5_tableProperty_136 (fun x7 => ?_)
                exact tl_iret (pc := 139) dX5_tableProperty_139
              · refine tl_tableOut (pc := 1) (tgt := 140) dX5_tableProperty_1 (by have n0 := lv_neT cs1_0 (a := 0) (by decide); have n1 := lv_neT cs1_1 (a := 1) (by decide); have n2 := lv_neT cs1_2 (a := 2) (by decide); have n3 := lv_neT cs1_3 (a := 3) (by decide); have n4 := lv_neT cs1_4 (a := 4) (by decide); have n5 := lv_neT cs1_5 (a := 5) (by decide); have n6 := lv_neT cs1_6 (a := 6) (by decide); omega) rfl ?_
                refine tl_iload_n (pc := 140) (i := 1) dX5_tableProperty_140 rfl rfl ?_
                refine tl_if_ne (pc := 141) (tgt := 148) dX5_tableProperty_141 rfl ?_ ?_
                · refine tl_iconst (pc := 144) (v := -1) dX5_tableProperty_144 (by decide) ?_
                  refine tl_goto (pc := 145) (tgt := 162) dX5_tableProperty_145 rfl ?_
                  exact tl_iret (pc := 162) dX5_tableProperty_162
                · refine tl_aload_n (pc := 148) (i := 0) dX5_tableProperty_148 rfl rfl ?_
                  refine tl_getR (pc := 149) (r := 2) fl_X5_20 hb.1 rfl dX5_tableProperty_149 ?_
                  refine tl_getR (pc := 152) (r := 5) fl_X5_275 hb.2.1.2.1.1 rfl dX5_tableProperty_152 ?_
                  refine tl_iload_n (pc := 155) (i := 1) dX5_tableProperty_155 rfl rfl ?_
                  refine tl_callVi (pc := 156) k_X2_at gw_469 hb.2.1.2.1.2.2.1.1 ⟨_, _, rfl⟩ (c_X2_at T _ _ _ hb.2.1.2.1.2.2.1) rfl rfl (Nat.le_of_ble_eq_true rfl) (Nat.le_of_ble_eq_true rfl) dX5_tableProperty_156 (fun x8 => ?_)
                  refine tl_callSi (pc := 159) k_X5_tableOf gw_470 (c_X5_tableOf T _) rfl rfl (Nat.le_of_ble_eq_true rfl) (Nat.le_of_ble_eq_true rfl) dX5_tableProperty_159 (fun x9 => ?_)
                  exact tl_iret (pc := 162) dX5_tableProperty_162
abbrev TL_X5_table (T : Tb) (pc : Nat) (lo : List (Option Value)) (st : List Value) (X : Dm Int32) : Prop := TL yX5_table cX5_table 3 (some .int) 7 iI T pc lo st X
set_option maxRecDepth 100000 in
theorem c_X5_table (T : Tb) (p0 : Int32) (p1 : Int32) (hb : isNS T) : CT (.code yX5_table cX5_table 3 (some .int)) yX5_table 7 iI T [.ref 0, .int p0, .int p1] (F_X5_table p0 p1) := by
  refine ct_of (lo := [some (.ref 0), some (.int p0), some (.int p1)]) (j := 0) k_X5_table.1 rfl (fun _ => Nat.le_of_ble_eq_true rfl) ?_
  show TL_X5_table T 0 _ _ _
  rw [F_X5_table]
  refine tl_aload_n (pc := 0) (i := 0) dX5_table_0 rfl rfl ?_
  refine tl_iload_n (pc := 1) (i := 1) dX5_table_1 rfl rfl ?_
  refine tl_callVv (pc := 2) k_X5_requireTable gw_441 hb.1 ⟨_, _, rfl⟩ (c_X5_requireTable T _ hb) rfl rfl (Nat.le_of_ble_eq_true rfl) (Nat.le_of_ble_eq_true rfl) dX5_table_2 (fun _ => ?_)
  refine tl_iload_n (pc := 5) (i := 2) dX5_table_5 rfl rfl ?_
  refine tl_iconst (pc := 6) (v := 0) dX5_table_6 (by decide) ?_
  refine tl_bipush (pc := 7) (v := 7) dX5_table_7 (by decide) ?_
  refine tl_callSv (pc := 9) k_X5_requireBetween gw_344 (c_X5_requireBetween T _ _ _) rfl rfl (Nat.le_of_ble_eq_true rfl) (Nat.le_of_ble_eq_true rfl) dX5_table_9 (fun _ => ?_)
  refine tl_aload_n (pc := 12) (i := 0) dX5_table_12 rfl rfl ?_
  refine tl_iload_n (pc := 13) (i := 1) dX5_table_13 rfl rfl ?_
  refine tl_iload_n (pc := 14) (i := 2) dX5_table_14 rfl rfl ?_
  refine tl_callVi (pc := 15) k_X5_tableProperty gw_464 hb.1 ⟨_, _, rfl⟩ (c_X5_tableProperty T _ _ hb) rfl rfl (Nat.le_of_ble_eq_true rfl) (Nat.le_of_ble_eq_true rfl) dX5_table_15 (fun x1 => ?_)
  exact tl_iret (pc := 18) dX5_table_18
abbrev TL_X5_size (T : Tb) (pc : Nat) (lo : List (Option Value)) (st : List Value) (X : Dm Int32) : Prop := TL yX5_size cX5_size 5 (some .int) 7 iI T pc lo st X
set_option maxRecDepth 100000 in
theorem c_X5_size (T : Tb) (p0 : Int32) (p1 : Int32) (p2 : Int32) (hb : isNS T) : CT (.code yX5_size cX5_size 5 (some .int)) yX5_size 7 iI T [.ref 0, .int p0, .int p1, .int p2] (F_X5_size p0 p1 p2) := by
  refine ct_of (lo := [some (.ref 0), some (.int p0), some (.int p1), some (.int p2), none]) (j := 1) k_X5_size.1 rfl (fun _ => Nat.le_of_ble_eq_true rfl) ?_
  show TL_X5_size T 0 _ _ _
  rw [F_X5_size]
  refine tl_aload_n (pc := 0) (i := 0) dX5_size_0 rfl rfl ?_
  refine tl_iload_n (pc := 1) (i := 1) dX5_size_1 rfl rfl ?_
  refine tl_callVv (pc := 2) k_X5_requireTable gw_441 hb.1 ⟨_, _, rfl⟩ (c_X5_requireTable T _ hb) rfl rfl (Nat.le_of_ble_eq_true rfl) (Nat.le_of_ble_eq_true rfl) dX5_size_2 (fun _ => ?_)
  refine tl_iload_n (pc := 5) (i := 2) dX5_size_5 rfl rfl ?_
  refine tl_j (fun (k : Int32 → Dm Int32) => ∀ (x1 : Int32), TL_X5_size T 14 [some (.ref 0), some (.int p0), none, some (.int p2), none] [.int x1] (k x1)) (fun x1 => ?_) (fun k1 hk1 => ?_)
  · refine tl_istore (pc := 14) (i := 4) (lo' := [some (.ref 0), some (.int p0), none, some (.int p2), some (.int x1)]) dX5_size_14 (by decide) rfl ?_
    refine tl_iload_n (pc := 16) (i := 3) dX5_size_16 rfl rfl ?_
    refine tl_if_lt (pc := 17) (tgt := 34) dX5_size_17 rfl ?_ ?_
    · exact tl_throw (pc := 34) (names := ["java/lang/RuntimeException", "java/lang/Exception"]) (by decide +kernel) (by decide +kernel) gw_449 gw_13 at_X5_104 dX5_size_34 dX5_size_37 dX5_size_38 dX5_size_41 (by decide) (Nat.le_of_ble_eq_true rfl)
    · refine tl_iload_n (pc := 20) (i := 3) dX5_size_20 rfl rfl ?_
      refine tl_aload_n (pc := 21) (i := 0) dX5_size_21 rfl rfl ?_
      refine tl_getR (pc := 22) (r := 2) fl_X5_20 hb.1 rfl dX5_size_22 ?_
      refine tl_iload_n (pc := 25) (i := 1) dX5_size_25 rfl rfl ?_
      refine tl_iload (pc := 26) (i := 4) dX5_size_26 rfl ?_
      refine tl_callVi (pc := 28) k_X4_linesOf gw_468 hb.2.1.2.1.1 ⟨_, _, rfl⟩ (c_X4_linesOf T _ _ _ hb.2.1.2.1) rfl rfl (Nat.le_of_ble_eq_true rfl) (Nat.le_of_ble_eq_true rfl) dX5_size_28 (fun x2 => ?_)
      refine tl_icmp_lt (pc := 31) (tgt := 42) dX5_size_31 rfl ?_ ?_
      · refine tl_aload_n (pc := 42) (i := 0) dX5_size_42 rfl rfl ?_
        refine tl_getR (pc := 43) (r := 1) fl_X5_12 hb.1 rfl dX5_size_43 ?_
        refine tl_iload_n (pc := 46) (i := 1) dX5_size_46 rfl rfl ?_
        refine tl_iload (pc := 47) (i := 4) dX5_size_47 rfl ?_
        refine tl_iload_n (pc := 49) (i := 3) dX5_size_49 rfl rfl ?_
        refine tl_callVi (pc := 50) k_X1_sizeOf gw_649 hb.2.1.1 ⟨_, _, rfl⟩ (c_X1_sizeOf T _ _ _ _ hb.2.1) rfl rfl (Nat.le_of_ble_eq_true rfl) (Nat.le_of_ble_eq_true rfl) dX5_size_50 (fun x3 => ?_)
        exact tl_iret (pc := 53) dX5_size_53
      · exact tl_throw (pc := 34) (names := ["java/lang/RuntimeException", "java/lang/Exception"]) (by decide +kernel) (by decide +kernel) gw_449 gw_13 at_X5_104 dX5_size_34 dX5_size_37 dX5_size_38 dX5_size_41 (by decide) (Nat.le_of_ble_eq_true rfl)
  · refine tl_if_eq (pc := 6) (tgt := 13) dX5_size_6 rfl ?_ ?_
    · refine tl_iconst (pc := 13) (v := 0) dX5_size_13 (by decide) ?_
      exact tl_sub (hk1 _) (sub_s (sub_s (sub_n (sub_s (sub_n sub_e)))))
    · refine tl_iconst (pc := 9) (v := 1) dX5_size_9 (by decide) ?_
      refine tl_goto (pc := 10) (tgt := 14) dX5_size_10 rfl ?_
      exact tl_sub (hk1 _) (sub_s (sub_s (sub_n (sub_s (sub_n sub_e)))))
abbrev TL_X5_page (T : Tb) (pc : Nat) (lo : List (Option Value)) (st : List Value) (X : Dm Int32) : Prop := TL yX5_page cX5_page 2 (some .int) 6 iI T pc lo st X
set_option maxRecDepth 100000 in
theorem c_X5_page (T : Tb) (p0 : Int32) (hb : isNS T) : CT (.code yX5_page cX5_page 2 (some .int)) yX5_page 6 iI T [.ref 0, .int p0] (F_X5_page p0) := by
  refine ct_of (lo := [some (.ref 0), some (.int p0)]) (j := 0) k_X5_page.1 rfl (fun _ => Nat.le_of_ble_eq_true rfl) ?_
  show TL_X5_page T 0 _ _ _
  rw [F_X5_page]
  refine tl_iload_n (pc := 0) (i := 1) dX5_page_0 rfl rfl ?_
  refine tl_if_lt (pc := 1) (tgt := 17) dX5_page_1 rfl ?_ ?_
  · exact tl_throw (pc := 17) (names := ["java/lang/RuntimeException", "java/lang/Exception"]) (by decide +kernel) (by decide +kernel) gw_449 gw_13 at_X5_104 dX5_page_17 dX5_page_20 dX5_page_21 dX5_page_24 (by decide) (Nat.le_of_ble_eq_true rfl)
  · refine tl_iload_n (pc := 4) (i := 1) dX5_page_4 rfl rfl ?_
    refine tl_aload_n (pc := 5) (i := 0) dX5_page_5 rfl rfl ?_
    refine tl_getR (pc := 6) (r := 2) fl_X5_20 hb.1 rfl dX5_page_6 ?_
    refine tl_iconst (pc := 9) (v := 0) dX5_page_9 (by decide) ?_
    refine tl_iconst (pc := 10) (v := 1) dX5_page_10 (by decide) ?_
    refine tl_callVi (pc := 11) k_X4_linesOf gw_468 hb.2.1.2.1.1 ⟨_, _, rfl⟩ (c_X4_linesOf T _ _ _ hb.2.1.2.1) rfl rfl (Nat.le_of_ble_eq_true rfl) (Nat.le_of_ble_eq_true rfl) dX5_page_11 (fun x1 => ?_)
    refine tl_icmp_lt (pc := 14) (tgt := 25) dX5_page_14 rfl ?_ ?_
    · refine tl_aload_n (pc := 25) (i := 0) dX5_page_25 rfl rfl ?_
      refine tl_getR (pc := 26) (r := 1) fl_X5_12 hb.1 rfl dX5_page_26 ?_
      refine tl_iload_n (pc := 29) (i := 1) dX5_page_29 rfl rfl ?_
      refine tl_aload_n (pc := 30) (i := 0) dX5_page_30 rfl rfl ?_
      refine tl_getR (pc := 31) (r := 2) fl_X5_20 hb.1 rfl dX5_page_31 ?_
      refine tl_getI (pc := 34) fl_X5_121 hb.2.1.2.1.1 rfl dX5_page_34 (fun x2 => ?_)
      refine tl_callVi (pc := 37) k_X1_pageOf gw_665 hb.2.1.1 ⟨_, _, rfl⟩ (c_X1_pageOf T _ _ _ hb.2.1) rfl rfl (Nat.le_of_ble_eq_true rfl) (Nat.le_of_ble_eq_true rfl) dX5_page_37 (fun x3 => ?_)
      exact tl_iret (pc := 40) dX5_page_40
    · exact tl_throw (pc := 17) (names := ["java/lang/RuntimeException", "java/lang/Exception"]) (by decide +kernel) (by decide +kernel) gw_449 gw_13 at_X5_104 dX5_page_17 dX5_page_20 dX5_page_21 dX5_page_24 (by decide) (Nat.le_of_ble_eq_true rfl)
abbrev TL_X5_count (T : Tb) (pc : Nat) (lo : List (Option Value)) (st : List Value) (X : Dm Int32) : Prop := TL yX5_count cX5_count 2 (some .int) 7 iI T pc lo st X
set_option maxRecDepth 100000 in
theorem c_X5_count (T : Tb) (p0 : Int32) (hb : isNS T) : CT (.code yX5_count cX5_count 2 (some .int)) yX5_count 7 iI T [.ref 0, .int p0] (F_X5_count p0) := by
  refine ct_of (lo := [some (.ref 0), some (.int p0)]) (j := 0) k_X5_count.1 rfl (fun _ => Nat.le_of_ble_eq_true rfl) ?_
  show TL_X5_count T 0 _ _ _
  rw [F_X5_count]
  refine tl_iload_n (pc := 0) (i := 1) dX5_count_0 rfl rfl ?_
  refine tl_iconst (pc := 1) (v := 0) dX5_count_1 (by decide) ?_
  refine tl_bipush (pc := 2) (v := 12) dX5_count_2 (by decide) ?_
  refine tl_callSv (pc := 4) k_X5_requireBetween gw_344 (c_X5_requireBetween T _ _ _) rfl rfl (Nat.le_of_ble_eq_true rfl) (Nat.le_of_ble_eq_true rfl) dX5_count_4 (fun _ => ?_)
  refine tl_iload_n (pc := 7) (i := 1) dX5_count_7 rfl rfl ?_
  refine tl_if (fun cs8_0 => ?_) (fun cs8_0 => ?_)
  · refine tl_tableIn (pc := 8) (tgt := 76) (off := 68) (0 : Int32) cs8_0 dX5_count_8 (by decide) (by decide) (by decide) rfl ?_
    refine tl_aload_n (pc := 76) (i := 0) dX5_count_76 rfl rfl ?_
    refine tl_getR (pc := 77) (r := 2) fl_X5_20 hb.1 rfl dX5_count_77 ?_
    refine tl_getI (pc := 80) fl_X5_72 hb.2.1.2.1.1 rfl dX5_count_80 (fun x1 => ?_)
    exact tl_iret (pc := 83) dX5_count_83
  · refine tl_if (fun cs8_1 => ?_) (fun cs8_1 => ?_)
    · refine tl_tableIn (pc := 8) (tgt := 84) (off := 76) (1 : Int32) cs8_1 dX5_count_8 (by decide) (by decide) (by decide) rfl ?_
      refine tl_aload_n (pc := 84) (i := 0) dX5_count_84 rfl rfl ?_
      refine tl_getR (pc := 85) (r := 2) fl_X5_20 hb.1 rfl dX5_count_85 ?_
      refine tl_callVi (pc := 88) k_X4_countCells gw_475 hb.2.1.2.1.1 ⟨_, _, rfl⟩ (c_X4_countCells T _ hb.2.1.2.1) rfl rfl (Nat.le_of_ble_eq_true rfl) (Nat.le_of_ble_eq_true rfl) dX5_count_88 (fun x2 => ?_)
      exact tl_iret (pc := 91) dX5_count_91
    · refine tl_if (fun cs8_2 => ?_) (fun cs8_2 => ?_)
      · refine tl_tableIn (pc := 8) (tgt := 139) (off := 131) (2 : Int32) cs8_2 dX5_count_8 (by decide) (by decide) (by decide) rfl ?_
        refine tl_aload_n (pc := 139) (i := 0) dX5_count_139 rfl rfl ?_
        refine tl_getR (pc := 140) (r := 2) fl_X5_20 hb.1 rfl dX5_count_140 ?_
        refine tl_iload_n (pc := 143) (i := 1) dX5_count_143 rfl rfl ?_
        refine tl_iconst (pc := 144) (v := 2) dX5_count_144 (by decide) ?_
        refine tl_isub (pc := 145) dX5_count_145 ?_
        refine tl_callVi (pc := 146) k_X4_countKind gw_502 hb.2.1.2.1.1 ⟨_, _, rfl⟩ (c_X4_countKind T _ _ hb.2.1.2.1) rfl rfl (Nat.le_of_ble_eq_true rfl) (Nat.le_of_ble_eq_true rfl) dX5_count_146 (fun x3 => ?_)
        exact tl_iret (pc := 149) dX5_count_149
      · refine tl_if (fun cs8_3 => ?_) (fun cs8_3 => ?_)
        · refine tl_tableIn (pc := 8) (tgt := 139) (off := 131) (3 : Int32) cs8_3 dX5_count_8 (by decide) (by decide) (by decide) rfl ?_
          refine tl_aload_n (pc := 139) (i := 0) dX5_count_139 rfl rfl ?_
          refine tl_getR (pc := 140) (r := 2) fl_X5_20 hb.1 rfl dX5_count_140 ?_
          refine tl_iload_n (pc := 143) (i := 1) dX5_count_143 rfl rfl ?_
          refine tl_iconst (pc := 144) (v := 2) dX5_count_144 (by decide) ?_
          refine tl_isub (pc := 145) dX5_count_145 ?_
          refine tl_callVi (pc := 146) k_X4_countKind gw_502 hb.2.1.2.1.1 ⟨_, _, rfl⟩ (c_X4_countKind T _ _ hb.2.1.2.1) rfl rfl (Nat.le_of_ble_eq_true rfl) (Nat.le_of_ble_eq_true rfl) dX5_count_146 (fun x4 => ?_)
          exact tl_iret (pc := 149) dX5_count_149
        · refine tl_if (fun cs8_4 => ?_) (fun cs8_4 => ?_)
          · refine tl_tableIn (pc := 8) (tgt := 139) (off := 131) (4 : Int32) cs8_4 dX5_count_8 (by decide) (by decide) (by decide) rfl ?_
            refine tl_aload_n (pc := 139) (i := 0) dX5_count_139 rfl rfl ?_
            refine tl_getR (pc := 140) (r := 2) fl_X5_20 hb.1 rfl dX5_count_140 ?_
            refine tl_iload_n (pc := 143) (i := 1) dX5_count_143 rfl rfl ?_
            refine tl_iconst (pc := 144) (v := 2) dX5_count_144 (by decide) ?_
            refine tl_isub (pc := 145) dX5_count_145 ?_
            refine tl_callVi (pc := 146) k_X4_countKind gw_502 hb.2.1.2.1.1 ⟨_, _, rfl⟩ (c_X4_countKind T _ _ hb.2.1.2.1) rfl rfl (Nat.le_of_ble_eq_true rfl) (Nat.le_of_ble_eq_true rfl) dX5_count_146 (fun x5 => ?_)
            exact tl_iret (pc := 149) dX5_count_149
          · refine tl_if (fun cs8_5 => ?_) (fun cs8_5 => ?_)
            · refine tl_tableIn (pc := 8) (tgt := 139) (off := 131) (5 : Int32) cs8_5 dX5_count_8 (by decide) (by decide) (by decide) rfl ?_
              refine tl_aload_n (pc := 139) (i := 0) dX5_count_139 rfl rfl ?_
              refine tl_getR (pc := 140) (r := 2) fl_X5_20 hb.1 rfl dX5_count_140 ?_
              refine tl_iload_n (pc := 143) (i := 1) dX5_count_143 rfl rfl ?_
              refine tl_iconst (pc := 144) (v := 2) dX5_count_144 (by decide) ?_
              refine tl_isub (pc := 145) dX5_count_145 ?_
              refine tl_callVi (pc := 146) k_X4_countKind gw_502 hb.2.1.2.1.1 ⟨_, _, rfl⟩ (c_X4_countKind T _ _ hb.2.1.2.1) rfl rfl (Nat.le_of_ble_eq_true rfl) (Nat.le_of_ble_eq_true rfl) dX5_count_146 (fun x6 => ?_)
              exact tl_iret (pc := 149) dX5_count_149
            · refine tl_if (fun cs8_6 => ?_) (fun cs8_6 => ?_)
              · refine tl_tableIn (pc := 8) (tgt := 139) (off := 131) (6 : Int32) cs8_6 dX5_count_8 (by decide) (by decide) (by decide) rfl ?_
                refine tl_aload_n (pc := 139) (i := 0) dX5_count_139 rfl rfl ?_
                refine tl_getR (pc := 140) (r := 2) fl_X5_20 hb.1 rfl dX5_count_140 ?_
                refine tl_iload_n (pc := 143) (i := 1) dX5_count_143 rfl rfl ?_
                refine tl_iconst (pc := 144) (v := 2) dX5_count_144 (by decide) ?_
                refine tl_isub (pc := 145) dX5_count_145 ?_
                refine tl_callVi (pc := 146) k_X4_countKind gw_502 hb.2.1.2.1.1 ⟨_, _, rfl⟩ (c_X4_countKind T _ _ hb.2.1.2.1) rfl rfl (Nat.le_of_ble_eq_true rfl) (Nat.le_of_ble_eq_true rfl) dX5_count_146 (fun x7 => ?_)
                exact tl_iret (pc := 149) dX5_count_149
              · refine tl_if (fun cs8_7 => ?_) (fun cs8_7 => ?_)
                · refine tl_tableIn (pc := 8) (tgt := 139) (off := 131) (7 : Int32) cs8_7 dX5_count_8 (by decide) (by decide) (by decide) rfl ?_
                  refine tl_aload_n (pc := 139) (i := 0) dX5_count_139 rfl rfl ?_
                  refine tl_getR (pc := 140) (r := 2) fl_X5_20 hb.1 rfl dX5_count_140 ?_
                  refine tl_iload_n (pc := 143) (i := 1) dX5_count_143 rfl rfl ?_
                  refine tl_iconst (pc := 144) (v := 2) dX5_count_144 (by decide) ?_
                  refine tl_isub (pc := 145) dX5_count_145 ?_
                  refine tl_callVi (pc := 146) k_X4_countKind gw_502 hb.2.1.2.1.1 ⟨_, _, rfl⟩ (c_X4_countKind T _ _ hb.2.1.2.1) rfl rfl (Nat.le_of_ble_eq_true rfl) (Nat.le_of_ble_eq_true rfl) dX5_count_146 (fun x8 => ?_)
                  exact tl_iret (pc := 149) dX5_count_149
                · refine tl_if (fun cs8_8 => ?_) (fun cs8_8 => ?_)
                  · refine tl_tableIn (pc := 8) (tgt := 139) (off := 131) (8 : Int32) cs8_8 dX5_count_8 (by decide) (by decide) (by decide) rfl ?_
                    refine tl_aload_n (pc := 139) (i := 0) dX5_count_139 rfl rfl ?_
                    refine tl_getR (pc := 140) (r := 2) fl_X5_20 hb.1 rfl dX5_count_140 ?_
                    refine tl_iload_n (pc := 143) (i := 1) dX5_count_143 rfl rfl ?_
                    refine tl_iconst (pc := 144) (v := 2) dX5_count_144 (by decide) ?_
                    refine tl_isub (pc := 145) dX5_count_145 ?_
                    refine tl_callVi (pc := 146) k_X4_countKind gw_502 hb.2.1.2.1.1 ⟨_, _, rfl⟩ (c_X4_countKind T _ _ hb.2.1.2.1) rfl rfl (Nat.le_of_ble_eq_true rfl) (Nat.le_of_ble_eq_true rfl) dX5_count_146 (fun x9 => ?_)
                    exact tl_iret (pc := 149) dX5_count_149
                  · refine tl_if (fun cs8_9 => ?_) (fun cs8_9 => ?_)
                    · refine tl_tableIn (pc := 8) (tgt := 92) (off := 84) (9 : Int32) cs8_9 dX5_count_8 (by decide) (by decide) (by decide) rfl ?_
                      refine tl_aload_n (pc := 92) (i := 0) dX5_count_92 rfl rfl ?_
                      refine tl_getR (pc := 93) (r := 1) fl_X5_12 hb.1 rfl dX5_count_93 ?_
                      refine tl_aload_n (pc := 96) (i := 0) dX5_count_96 rfl rfl ?_
                      refine tl_getR (pc := 97) (r := 2) fl_X5_20 hb.1 rfl dX5_count_97 ?_
                      refine tl_getI (pc := 100) fl_X5_121 hb.2.1.2.1.1 rfl dX5_count_100 (fun x10 => ?_)
                      refine tl_callVi (pc := 103) k_X1_countPages gw_480 hb.2.1.1 ⟨_, _, rfl⟩ (c_X1_countPages T _ _ hb.2.1) rfl rfl (Nat.le_of_ble_eq_true rfl) (Nat.le_of_ble_eq_true rfl) dX5_count_103 (fun x11 => ?_)
                      exact tl_iret (pc := 106) dX5_count_106
                    · refine tl_if (fun cs8_10 => ?_) (fun cs8_10 => ?_)
                      · refine tl_tableIn (pc := 8) (tgt := 107) (off := 99) (10 : Int32) cs8_10 dX5_count_8 (by decide) (by decide) (by decide) rfl ?_
                        refine tl_aload_n (pc := 107) (i := 0) dX5_count_107 rfl rfl ?_
                        refine tl_getR (pc := 108) (r := 1) fl_X5_12 hb.1 rfl dX5_count_108 ?_
                        refine tl_callVi (pc := 111) k_X1_countEdges gw_492 hb.2.1.1 ⟨_, _, rfl⟩ (c_X1_countEdges T _ hb.2.1) rfl rfl (Nat.le_of_ble_eq_true rfl) (Nat.le_of_ble_eq_true rfl) dX5_count_111 (fun x12 => ?_)
                        exact tl_iret (pc := 114) dX5_count_114
                      · refine tl_if (fun cs8_11 => ?_) (fun cs8_11 => ?_)
                        · refine tl_tableIn (pc := 8) (tgt := 115) (off := 107) (11 : Int32) cs8_11 dX5_count_8 (by decide) (by decide) (by decide) rfl ?_
                          refine tl_aload_n (pc := 115) (i := 0) dX5_count_115 rfl rfl ?_
                          refine tl_getR (pc := 116) (r := 2) fl_X5_20 hb.1 rfl dX5_count_116 ?_
                          refine tl_callVi (pc := 119) k_X4_countSquares gw_497 hb.2.1.2.1.1 ⟨_, _, rfl⟩ (c_X4_countSquares T _ hb.2.1.2.1) rfl rfl (Nat.le_of_ble_eq_true rfl) (Nat.le_of_ble_eq_true rfl) dX5_count_119 (fun x13 => ?_)
                          refine tl_aload_n (pc := 122) (i := 0) dX5_count_122 rfl rfl ?_
                          refine tl_getR (pc := 123) (r := 2) fl_X5_20 hb.1 rfl dX5_count_123 ?_
                          refine tl_callVi (pc := 126) k_X4_countCells gw_475 hb.2.1.2.1.1 ⟨_, _, rfl⟩ (c_X4_countCells T _ hb.2.1.2.1) rfl rfl (Nat.le_of_ble_eq_true rfl) (Nat.le_of_ble_eq_true rfl) dX5_count_126 (fun x14 => ?_)
                          refine tl_isub (pc := 129) dX5_count_129 ?_
                          exact tl_iret (pc := 130) dX5_count_130
                        · refine tl_if (fun cs8_12 => ?_) (fun cs8_12 => ?_)
                          · refine tl_tableIn (pc := 8) (tgt := 131) (off := 123) (12 : Int32) cs8_12 dX5_count_8 (by decide) (by decide) (by decide) rfl ?_
                            refine tl_aload_n (pc := 131) (i := 0) dX5_count_131 rfl rfl ?_
                            refine tl_getR (pc := 132) (r := 73) fl_X5_27 hb.1 rfl dX5_count_132 ?_
                            refine tl_getI (pc := 135) fl_X5_145 hb.2.2.2.1.1 rfl dX5_count_135 (fun x15 => ?_)
                            exact tl_iret (pc := 138) dX5_count_138
                          · refine tl_tableOut (pc := 8) (tgt := 139) dX5_count_8 (by have n0 := lv_neT cs8_0 (a := 0) (by decide); have n1 := lv_neT cs8_1 (a := 1) (by decide); have n2 := lv_neT cs8_2 (a := 2) (by decide); have n3 := lv_neT cs8_3 (a := 3) (by decide); have n4 := lv_neT cs8_4 (a := 4) (by decide); have n5 := lv_neT cs8_5 (a := 5) (by decide); have n6 := lv_neT cs8_6 (a := 6) (by decide); have n7 := lv_neT cs8_7 (a := 7) (by decide); have n8 := lv_neT cs8_8 (a := 8) (by decide); have n9 := lv_neT cs8_9 (a := 9) (by decide); have n10 := lv_neT cs8_10 (a := 10) (by decide); have n11 := lv_neT cs8_11 (a := 11) (by decide); have n12 := lv_neT cs8_12 (a := 12) (by decide); omega) rfl ?_
                            refine tl_aload_n (pc := 139) (i := 0) dX5_count_139 rfl rfl ?_
                            refine tl_getR (pc := 140) (r := 2) fl_X5_20 hb.1 rfl dX5_count_140 ?_
                            refine tl_iload_n (pc := 143) (i := 1) dX5_count_143 rfl rfl ?_
                            refine tl_iconst (pc := 144) (v := 2) dX5_count_144 (by decide) ?_
                            refine tl_isub (pc := 145) dX5_count_145 ?_
                            refine tl_callVi (pc := 146) k_X4_countKind gw_502 hb.2.1.2.1.1 ⟨_, _, rfl⟩ (c_X4_countKind T _ _ hb.2.1.2.1) rfl rfl (Nat.le_of_ble_eq_true rfl) (Nat.le_of_ble_eq_true rfl) dX5_count_146 (fun x16 => ?_)
                            exact tl_iret (pc := 149) dX5_count_149
abbrev TL_X5_countingSums (T : Tb) (pc : Nat) (lo : List (Option Value)) (st : List Value) (X : Dm Int32) : Prop := TL yX5_countingSums cX5_countingSums 5 (some .int) 3 iI T pc lo st X
set_option maxRecDepth 100000 in
theorem lp_X5_countingSums_39 (T : Tb) (p0 : Int32)  (hb : isNS T)    : ∀ (n : Nat) (x4 : Int32) (x5 : Int32) (x6 : Int32), TL_X5_countingSums T 39 [some (.ref 0), none, some (.int x4), some (.int x5), some (.int x6)] [] (L_X5_countingSums_39  n x4 x5 x6 ) := by
  intro n
  induction n with
  | zero => intros; exact tl_fail
  | succ n ih =>
    intro x4 x5 x6
    rw [L_X5_countingSums_39]
    refine tl_iload (pc := 39) (i := 4) dX5_countingSums_39 rfl ?_
    refine tl_iconst (pc := 41) (v := 5) dX5_countingSums_41 (by decide) ?_
    refine tl_icmp_ge (pc := 42) (tgt := 82) dX5_countingSums_42 rfl ?_ ?_
    · refine tl_iload_n (pc := 82) (i := 2) dX5_countingSums_82 rfl rfl ?_
      exact tl_iret (pc := 83) dX5_countingSums_83
    · refine tl_iload_n (pc := 45) (i := 3) dX5_countingSums_45 rfl rfl ?_
      refine tl_iconst (pc := 46) (v := -1) dX5_countingSums_46 (by decide) ?_
      refine tl_icmp_eq (pc := 47) (tgt := 82) dX5_countingSums_47 rfl ?_ ?_
      · refine tl_iload_n (pc := 82) (i := 2) dX5_countingSums_82 rfl rfl ?_
        exact tl_iret (pc := 83) dX5_countingSums_83
      · refine tl_iload_n (pc := 50) (i := 2) dX5_countingSums_50 rfl rfl ?_
        refine tl_aload_n (pc := 51) (i := 0) dX5_countingSums_51 rfl rfl ?_
        refine tl_getR (pc := 52) (r := 1) fl_X5_12 hb.1 rfl dX5_countingSums_52 ?_
        refine tl_iload_n (pc := 55) (i := 3) dX5_countingSums_55 rfl rfl ?_
        refine tl_callVi (pc := 56) k_X1_countSumsOf gw_638 hb.2.1.1 ⟨_, _, rfl⟩ (c_X1_countSumsOf T _ _ hb.2.1) rfl rfl (Nat.le_of_ble_eq_true rfl) (Nat.le_of_ble_eq_true rfl) dX5_countingSums_56 (fun x7 => ?_)
        refine tl_iadd (pc := 59) dX5_countingSums_59 ?_
        refine tl_bI (fun x8 => ?_)
        refine tl_istore_n (pc := 60) (i := 2) (lo' := [some (.ref 0), none, some (.int x8), some (.int x5), some (.int x6)]) dX5_countingSums_60 rfl (by decide) rfl ?_
        refine tl_aload_n (pc := 61) (i := 0) dX5_countingSums_61 rfl rfl ?_
        refine tl_getR (pc := 62) (r := 2) fl_X5_20 hb.1 rfl dX5_countingSums_62 ?_
        refine tl_getR (pc := 65) (r := 5) fl_X5_275 hb.2.1.2.1.1 rfl dX5_countingSums_65 ?_
        refine tl_iload_n (pc := 68) (i := 3) dX5_countingSums_68 rfl rfl ?_
        refine tl_callSi (pc := 69) k_X5_tableOf gw_470 (c_X5_tableOf T _) rfl rfl (Nat.le_of_ble_eq_true rfl) (Nat.le_of_ble_eq_true rfl) dX5_countingSums_69 (fun x9 => ?_)
        refine tl_callVi (pc := 72) k_X2_at gw_469 hb.2.1.2.1.2.2.1.1 ⟨_, _, rfl⟩ (c_X2_at T _ _ _ hb.2.1.2.1.2.2.1) rfl rfl (Nat.le_of_ble_eq_true rfl) (Nat.le_of_ble_eq_true rfl) dX5_countingSums_72 (fun x10 => ?_)
        refine tl_istore_n (pc := 75) (i := 3) (lo' := [some (.ref 0), none, some (.int x8), some (.int x10), some (.int x6)]) dX5_countingSums_75 rfl (by decide) rfl ?_
        refine tl_iinc (pc := 76) (i := 4) (v := x6 + (1 : Int32)) (lo' := [some (.ref 0), none, some (.int x8), some (.int x10), some (.int (x6 + (1 : Int32)))]) dX5_countingSums_76 rfl rfl (by decide) rfl ?_
        refine tl_goto (pc := 79) (tgt := 39) dX5_countingSums_79 rfl ?_
        exact tl_sub (ih _ _ _) (sub_s (sub_n (sub_s (sub_s (sub_s sub_e)))))
set_option maxRecDepth 100000 in
theorem c_X5_countingSums (T : Tb) (p0 : Int32) (hb : isNS T) : CT (.code yX5_countingSums cX5_countingSums 5 (some .int)) yX5_countingSums 3 iI T [.ref 0, .int p0] (F_X5_countingSums p0) := by
  refine ct_of (lo := [some (.ref 0), some (.int p0), none, none, none]) (j := 3) k_X5_countingSums.1 rfl (fun _ => Nat.le_of_ble_eq_true rfl) ?_
  show TL_X5_countingSums T 0 _ _ _
  rw [F_X5_countingSums]
  refine tl_aload_n (pc := 0) (i := 0) dX5_countingSums_0 rfl rfl ?_
  refine tl_getR (pc := 1) (r := 2) fl_X5_20 hb.1 rfl dX5_countingSums_1 ?_
  refine tl_iload_n (pc := 4) (i := 1) dX5_countingSums_4 rfl rfl ?_
  refine tl_callVi (pc := 5) k_X4_isCell gw_569 hb.2.1.2.1.1 ⟨_, _, rfl⟩ (c_X4_isCell T _ _ hb.2.1.2.1) rfl rfl (Nat.le_of_ble_eq_true rfl) (Nat.le_of_ble_eq_true rfl) dX5_countingSums_5 (fun x1 => ?_)
  refine tl_if_ne (pc := 8) (tgt := 13) dX5_countingSums_8 rfl ?_ ?_
  · refine tl_iconst (pc := 11) (v := -1) dX5_countingSums_11 (by decide) ?_
    exact tl_iret (pc := 12) dX5_countingSums_12
  · refine tl_aload_n (pc := 13) (i := 0) dX5_countingSums_13 rfl rfl ?_
    refine tl_getR (pc := 14) (r := 2) fl_X5_20 hb.1 rfl dX5_countingSums_14 ?_
    refine tl_getR (pc := 17) (r := 9) fl_X5_62 hb.2.1.2.1.1 rfl dX5_countingSums_17 ?_
    refine tl_iload_n (pc := 20) (i := 1) dX5_countingSums_20 rfl rfl ?_
    refine tl_callVi (pc := 21) k_X2_at gw_469 hb.2.1.2.1.2.2.2.2.1.1 ⟨_, _, rfl⟩ (c_X2_at T _ _ _ hb.2.1.2.1.2.2.2.2.1) rfl rfl (Nat.le_of_ble_eq_true rfl) (Nat.le_of_ble_eq_true rfl) dX5_countingSums_21 (fun x2 => ?_)
    refine tl_callSi (pc := 24) k_X5_isSum gw_538 (c_X5_isSum T _) rfl rfl (Nat.le_of_ble_eq_true rfl) (Nat.le_of_ble_eq_true rfl) dX5_countingSums_24 (fun x3 => ?_)
    refine tl_if_eq (pc := 27) (tgt := 32) dX5_countingSums_27 rfl ?_ ?_
    · refine tl_iconst (pc := 32) (v := 0) dX5_countingSums_32 (by decide) ?_
      refine tl_istore_n (pc := 33) (i := 2) (lo' := [some (.ref 0), some (.int p0), some (.int (0 : Int32)), none, none]) dX5_countingSums_33 rfl (by decide) rfl ?_
      refine tl_iload_n (pc := 34) (i := 1) dX5_countingSums_34 rfl rfl ?_
      refine tl_istore_n (pc := 35) (i := 3) (lo' := [some (.ref 0), some (.int p0), some (.int (0 : Int32)), some (.int p0), none]) dX5_countingSums_35 rfl (by decide) rfl ?_
      refine tl_iconst (pc := 36) (v := 0) dX5_countingSums_36 (by decide) ?_
      refine tl_istore (pc := 37) (i := 4) (lo' := [some (.ref 0), some (.int p0), some (.int (0 : Int32)), some (.int p0), some (.int (0 : Int32))]) dX5_countingSums_37 (by decide) rfl ?_
      refine tl_sub (lp_X5_countingSums_39 T p0 hb    FU _ _ _) (sub_s (sub_n (sub_s (sub_s (sub_s sub_e)))))
    · refine tl_iconst (pc := 30) (v := 0) dX5_countingSums_30 (by decide) ?_
      exact tl_iret (pc := 31) dX5_countingSums_31
abbrev TL_X5_countedBy (T : Tb) (pc : Nat) (lo : List (Option Value)) (st : List Value) (X : Dm Int32) : Prop := TL yX5_countedBy cX5_countedBy 5 (some .int) 7 iI T pc lo st X
set_option maxRecDepth 100000 in
theorem c_X5_countedBy (T : Tb) (p0 : Int32) (p1 : Int32) (p2 : Int32) (hb : isNS T) : CT (.code yX5_countedBy cX5_countedBy 5 (some .int)) yX5_countedBy 7 iI T [.ref 0, .int p0, .int p1, .int p2] (F_X5_countedBy p0 p1 p2) := by
  refine ct_of (lo := [some (.ref 0), some (.int p0), some (.int p1), some (.int p2), none]) (j := 1) k_X5_countedBy.1 rfl (fun _ => Nat.le_of_ble_eq_true rfl) ?_
  show TL_X5_countedBy T 0 _ _ _
  rw [F_X5_countedBy]
  refine tl_aload_n (pc := 0) (i := 0) dX5_countedBy_0 rfl rfl ?_
  refine tl_iload_n (pc := 1) (i := 1) dX5_countedBy_1 rfl rfl ?_
  refine tl_iload_n (pc := 2) (i := 2) dX5_countedBy_2 rfl rfl ?_
  refine tl_iload_n (pc := 3) (i := 3) dX5_countedBy_3 rfl rfl ?_
  refine tl_callVi (pc := 4) k_X5_requireSquare gw_526 hb.1 ⟨_, _, rfl⟩ (c_X5_requireSquare T _ _ _ hb) rfl rfl (Nat.le_of_ble_eq_true rfl) (Nat.le_of_ble_eq_true rfl) dX5_countedBy_4 (fun x1 => ?_)
  refine tl_istore (pc := 7) (i := 4) (lo' := [some (.ref 0), some (.int p0), some (.int p1), some (.int p2), some (.int x1)]) dX5_countedBy_7 (by decide) rfl ?_
  refine tl_aload_n (pc := 9) (i := 0) dX5_countedBy_9 rfl rfl ?_
  refine tl_iload (pc := 10) (i := 4) dX5_countedBy_10 rfl ?_
  refine tl_callVi (pc := 12) k_X5_countingSums gw_634 hb.1 ⟨_, _, rfl⟩ (c_X5_countingSums T _ hb) rfl rfl (Nat.le_of_ble_eq_true rfl) (Nat.le_of_ble_eq_true rfl) dX5_countedBy_12 (fun x2 => ?_)
  exact tl_iret (pc := 15) dX5_countedBy_15
abbrev TL_X5_heightFor (T : Tb) (pc : Nat) (lo : List (Option Value)) (st : List Value) (X : Dm Int32) : Prop := TL yX5_heightFor cX5_heightFor 3 (some .int) 7 iI T pc lo st X
set_option maxRecDepth 100000 in
theorem lp_X5_heightFor_8 (T : Tb) (p0 : Int32)  (hb : isNS T)    : ∀ (n : Nat) (x1 : Int32), TL_X5_heightFor T 8 [some (.ref 0), some (.int p0), some (.int x1)] [] (L_X5_heightFor_8 p0 n x1 ) := by
  intro n
  induction n with
  | zero => intros; exact tl_fail
  | succ n ih =>
    intro x1
    rw [L_X5_heightFor_8]
    refine tl_iload_n (pc := 8) (i := 2) dX5_heightFor_8 rfl rfl ?_
    refine tl_bipush (pc := 9) (v := 60) dX5_heightFor_9 (by decide) ?_
    refine tl_icmp_gt (pc := 11) (tgt := 34) dX5_heightFor_11 rfl ?_ ?_
    · refine tl_iconst (pc := 34) (v := -1) dX5_heightFor_34 (by decide) ?_
      exact tl_iret (pc := 35) dX5_heightFor_35
    · refine tl_aload_n (pc := 14) (i := 0) dX5_heightFor_14 rfl rfl ?_
      refine tl_getR (pc := 15) (r := 1) fl_X5_12 hb.1 rfl dX5_heightFor_15 ?_
      refine tl_iload_n (pc := 18) (i := 2) dX5_heightFor_18 rfl rfl ?_
      refine tl_callVi (pc := 19) k_X1_countPages gw_480 hb.2.1.1 ⟨_, _, rfl⟩ (c_X1_countPages T _ _ hb.2.1) rfl rfl (Nat.le_of_ble_eq_true rfl) (Nat.le_of_ble_eq_true rfl) dX5_heightFor_19 (fun x2 => ?_)
      refine tl_iload_n (pc := 22) (i := 1) dX5_heightFor_22 rfl rfl ?_
      refine tl_icmp_gt (pc := 23) (tgt := 28) dX5_heightFor_23 rfl ?_ ?_
      · refine tl_iinc (pc := 28) (i := 2) (v := x1 + (1 : Int32)) (lo' := [some (.ref 0), some (.int p0), some (.int (x1 + (1 : Int32)))]) dX5_heightFor_28 rfl rfl (by decide) rfl ?_
        refine tl_goto (pc := 31) (tgt := 8) dX5_heightFor_31 rfl ?_
        exact tl_sub (ih _) (sub_s (sub_s (sub_s sub_e)))
      · refine tl_iload_n (pc := 26) (i := 2) dX5_heightFor_26 rfl rfl ?_
        exact tl_iret (pc := 27) dX5_heightFor_27
set_option maxRecDepth 100000 in
theorem c_X5_heightFor (T : Tb) (p0 : Int32) (hb : isNS T) : CT (.code yX5_heightFor cX5_heightFor 3 (some .int)) yX5_heightFor 7 iI T [.ref 0, .int p0] (F_X5_heightFor p0) := by
  refine ct_of (lo := [some (.ref 0), some (.int p0), none]) (j := 1) k_X5_heightFor.1 rfl (fun _ => Nat.le_of_ble_eq_true rfl) ?_
  show TL_X5_heightFor T 0 _ _ _
  rw [F_X5_heightFor]
  refine tl_iload_n (pc := 0) (i := 1) dX5_heightFor_0 rfl rfl ?_
  refine tl_iconst (pc := 1) (v := 1) dX5_heightFor_1 (by decide) ?_
  refine tl_iconst (pc := 2) (v := 5) dX5_heightFor_2 (by decide) ?_
  refine tl_callSv (pc := 3) k_X5_requireBetween gw_344 (c_X5_requireBetween T _ _ _) rfl rfl (Nat.le_of_ble_eq_true rfl) (Nat.le_of_ble_eq_true rfl) dX5_heightFor_3 (fun _ => ?_)
  refine tl_iconst (pc := 6) (v := 1) dX5_heightFor_6 (by decide) ?_
  refine tl_istore_n (pc := 7) (i := 2) (lo' := [some (.ref 0), some (.int p0), some (.int (1 : Int32))]) dX5_heightFor_7 rfl (by decide) rfl ?_
  refine tl_sub (lp_X5_heightFor_8 T p0 hb    FU _) (sub_s (sub_s (sub_s sub_e)))
abbrev TL_X5_filledShare (T : Tb) (pc : Nat) (lo : List (Option Value)) (st : List Value) (X : Dm UInt64) : Prop := TL yX5_filledShare cX5_filledShare 3 (some .double) 3 dI9 T pc lo st X
set_option maxRecDepth 100000 in
theorem c_X5_filledShare (T : Tb)  (hb : isNS T) : CT (.code yX5_filledShare cX5_filledShare 3 (some .double)) yX5_filledShare 3 dI9 T [.ref 0] (F_X5_filledShare) := by
  refine ct_of (lo := [some (.ref 0), none, none]) (j := 2) k_X5_filledShare.1 rfl (fun _ => Nat.le_of_ble_eq_true rfl) ?_
  show TL_X5_filledShare T 0 _ _ _
  rw [F_X5_filledShare]
  refine tl_aload_n (pc := 0) (i := 0) dX5_filledShare_0 rfl rfl ?_
  refine tl_getR (pc := 1) (r := 2) fl_X5_20 hb.1 rfl dX5_filledShare_1 ?_
  refine tl_callVi (pc := 4) k_X4_countCells gw_475 hb.2.1.2.1.1 ⟨_, _, rfl⟩ (c_X4_countCells T _ hb.2.1.2.1) rfl rfl (Nat.le_of_ble_eq_true rfl) (Nat.le_of_ble_eq_true rfl) dX5_filledShare_4 (fun x1 => ?_)
  refine tl_istore_n (pc := 7) (i := 1) (lo' := [some (.ref 0), some (.int x1), none]) dX5_filledShare_7 rfl (by decide) rfl ?_
  refine tl_iload_n (pc := 8) (i := 1) dX5_filledShare_8 rfl rfl ?_
  refine tl_aload_n (pc := 9) (i := 0) dX5_filledShare_9 rfl rfl ?_
  refine tl_getR (pc := 10) (r := 2) fl_X5_20 hb.1 rfl dX5_filledShare_10 ?_
  refine tl_iconst (pc := 13) (v := 0) dX5_filledShare_13 (by decide) ?_
  refine tl_callVi (pc := 14) k_X4_countKind gw_502 hb.2.1.2.1.1 ⟨_, _, rfl⟩ (c_X4_countKind T _ _ hb.2.1.2.1) rfl rfl (Nat.le_of_ble_eq_true rfl) (Nat.le_of_ble_eq_true rfl) dX5_filledShare_14 (fun x2 => ?_)
  refine tl_isub (pc := 17) dX5_filledShare_17 ?_
  refine tl_bI (fun x3 => ?_)
  refine tl_istore_n (pc := 18) (i := 2) (lo' := [some (.ref 0), some (.int x1), some (.int x3)]) dX5_filledShare_18 rfl (by decide) rfl ?_
  refine tl_iload_n (pc := 19) (i := 1) dX5_filledShare_19 rfl rfl ?_
  refine tl_if_le (pc := 20) (tgt := 31) dX5_filledShare_20 rfl ?_ ?_
  · refine tl_dconst0 (pc := 31) dX5_filledShare_31 ?_
    exact tl_dret (pc := 32) dX5_filledShare_32
  · refine tl_iload_n (pc := 23) (i := 2) dX5_filledShare_23 rfl rfl ?_
    refine tl_i2d (pc := 24) dX5_filledShare_24 ?_
    refine tl_iload_n (pc := 25) (i := 1) dX5_filledShare_25 rfl rfl ?_
    refine tl_i2d (pc := 26) dX5_filledShare_26 ?_
    refine tl_ddiv (pc := 27) dX5_filledShare_27 ?_
    refine tl_goto (pc := 28) (tgt := 32) dX5_filledShare_28 rfl ?_
    exact tl_dret (pc := 32) dX5_filledShare_32
