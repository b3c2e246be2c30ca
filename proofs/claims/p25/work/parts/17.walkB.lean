abbrev TL_X1_squaresEndOf (T : Tb) (pc : Nat) (lo : List (Option Value)) (st : List Value) (X : Dm Int32) : Prop := TL yX1_squaresEndOf cX1_squaresEndOf 1 (some .int) 0 iI T pc lo st X
set_option maxRecDepth 100000 in
theorem c_X1_squaresEndOf (T : Tb) (p0 : Int32)  : CT (.code yX1_squaresEndOf cX1_squaresEndOf 1 (some .int)) yX1_squaresEndOf 0 iI T [.int p0] (F_X1_squaresEndOf p0) := by
  refine ct_of (lo := [some (.int p0)]) (j := 0) k_X1_squaresEndOf.1 rfl (fun _ => Nat.le_of_ble_eq_true rfl) ?_
  show TL_X1_squaresEndOf T 0 _ _ _
  rw [F_X1_squaresEndOf]
  refine tl_iload_n (pc := 0) (i := 0) dX1_squaresEndOf_0 rfl rfl ?_
  refine tl_iconst (pc := 1) (v := 1) dX1_squaresEndOf_1 (by decide) ?_
  refine tl_iadd (pc := 2) dX1_squaresEndOf_2 ?_
  refine tl_bipush (pc := 3) (v := 25) dX1_squaresEndOf_3 (by decide) ?_
  refine tl_imul (pc := 5) dX1_squaresEndOf_5 ?_
  exact tl_iret (pc := 6) dX1_squaresEndOf_6
abbrev TL_X1_valueOf (T : Tb) (pc : Nat) (lo : List (Option Value)) (st : List Value) (X : Dm Int32) : Prop := TL yX1_valueOf cX1_valueOf 2 (some .int) 1 iI T pc lo st X
set_option maxRecDepth 100000 in
theorem c_X1_valueOf (T : Tb) (b : Nat) (p0 : Int32) (hb : isLay T b) : CT (.code yX1_valueOf cX1_valueOf 2 (some .int)) yX1_valueOf 1 iI T [.ref b, .int p0] (F_X1_valueOf b p0) := by
  refine ct_of (lo := [some (.ref b), some (.int p0)]) (j := 0) k_X1_valueOf.1 rfl (fun _ => Nat.le_of_ble_eq_true rfl) ?_
  show TL_X1_valueOf T 0 _ _ _
  rw [F_X1_valueOf]
  refine tl_aload_n (pc := 0) (i := 0) dX1_valueOf_0 rfl rfl ?_
  refine tl_getR (pc := 1) (r := (b + 1)) fl_X1_12 hb.1 rfl dX1_valueOf_1 ?_
  refine tl_getR (pc := 4) (r := ((b + 1) + 7)) fl_X1_107 hb.2.1.1 rfl dX1_valueOf_4 ?_
  refine tl_iload_n (pc := 7) (i := 1) dX1_valueOf_7 rfl rfl ?_
  refine tl_callVi (pc := 8) k_X2_at gw_221 hb.2.1.2.2.2.2.1.1 ⟨_, _, rfl⟩ (c_X2_at T _ _ _ hb.2.1.2.2.2.2.1) rfl rfl (Nat.le_of_ble_eq_true rfl) (Nat.le_of_ble_eq_true rfl) dX1_valueOf_8 (fun x1 => ?_)
  refine tl_if (fun cs11_0 => ?_) (fun cs11_0 => ?_)
  · refine tl_lookup (pc := 11) (tgt := 36) (off := 25) dX1_valueOf_11 (by decide) (by rw [cs11_0]; decide) rfl ?_
    refine tl_aload_n (pc := 36) (i := 0) dX1_valueOf_36 rfl rfl ?_
    refine tl_getR (pc := 37) (r := (b + 1)) fl_X1_12 hb.1 rfl dX1_valueOf_37 ?_
    refine tl_getR (pc := 40) (r := ((b + 1) + 9)) fl_X1_110 hb.2.1.1 rfl dX1_valueOf_40 ?_
    refine tl_iload_n (pc := 43) (i := 1) dX1_valueOf_43 rfl rfl ?_
    refine tl_callVi (pc := 44) k_X2_at gw_221 hb.2.1.2.2.2.2.2.1.1 ⟨_, _, rfl⟩ (c_X2_at T _ _ _ hb.2.1.2.2.2.2.2.1) rfl rfl (Nat.le_of_ble_eq_true rfl) (Nat.le_of_ble_eq_true rfl) dX1_valueOf_44 (fun x2 => ?_)
    exact tl_iret (pc := 47) dX1_valueOf_47
  · refine tl_if (fun cs11_1 => ?_) (fun cs11_1 => ?_)
    · refine tl_lookup (pc := 11) (tgt := 48) (off := 37) dX1_valueOf_11 (by decide) (by rw [cs11_1]; decide) rfl ?_
      refine tl_aload_n (pc := 48) (i := 0) dX1_valueOf_48 rfl rfl ?_
      refine tl_getR (pc := 49) (r := (b + 34)) fl_X1_51 hb.1 rfl dX1_valueOf_49 ?_
      refine tl_aload_n (pc := 52) (i := 0) dX1_valueOf_52 rfl rfl ?_
      refine tl_getR (pc := 53) (r := (b + 1)) fl_X1_12 hb.1 rfl dX1_valueOf_53 ?_
      refine tl_getR (pc := 56) (r := ((b + 1) + 9)) fl_X1_110 hb.2.1.1 rfl dX1_valueOf_56 ?_
      refine tl_iload_n (pc := 59) (i := 1) dX1_valueOf_59 rfl rfl ?_
      refine tl_callVi (pc := 60) k_X2_at gw_221 hb.2.1.2.2.2.2.2.1.1 ⟨_, _, rfl⟩ (c_X2_at T _ _ _ hb.2.1.2.2.2.2.2.1) rfl rfl (Nat.le_of_ble_eq_true rfl) (Nat.le_of_ble_eq_true rfl) dX1_valueOf_60 (fun x3 => ?_)
      refine tl_callVi (pc := 63) k_X2_at gw_221 hb.2.2.2.2.2.2.2.2.2.2.2.1 ⟨_, _, rfl⟩ (c_X2_at T _ _ _ hb.2.2.2.2.2.2.2.2.2.2.2) rfl rfl (Nat.le_of_ble_eq_true rfl) (Nat.le_of_ble_eq_true rfl) dX1_valueOf_63 (fun x4 => ?_)
      exact tl_iret (pc := 66) dX1_valueOf_66
    · refine tl_lookup (pc := 11) (tgt := 67) (off := 56) dX1_valueOf_11 (by decide) (by rw [show (Op.lookupswitch.offset _ _ _ = _) from lv_osw cs11_0 (by decide)]; rw [show (Op.lookupswitch.offset _ _ _ = _) from lv_osw cs11_1 (by decide)]; rfl) rfl ?_
      refine tl_iconst (pc := 67) (v := 0) dX1_valueOf_67 (by decide) ?_
      exact tl_iret (pc := 68) dX1_valueOf_68
abbrev TL_X1_valueCells (T : Tb) (pc : Nat) (lo : List (Option Value)) (st : List Value) (X : Dm Unit) : Prop := TL yX1_valueCells cX1_valueCells 5 none 2 vI T pc lo st X
set_option maxRecDepth 100000 in
theorem lp_X1_valueCells_7 (T : Tb) (b : Nat) (p0 : Int32)  (hb : isLay T b)    : ∀ (n : Nat) (x2 : Int32) (x3 : Int32), TL_X1_valueCells T 7 [some (.ref b), some (.int p0), some (.int x2), some (.int x3), none] [] (L_X1_valueCells_7 b p0 n x2 x3 ) := by
  intro n
  induction n with
  | zero => intros; exact tl_fail
  | succ n ih =>
    intro x2 x3
    rw [L_X1_valueCells_7]
    refine tl_iload_n (pc := 7) (i := 3) dX1_valueCells_7 rfl rfl ?_
    refine tl_iload_n (pc := 8) (i := 1) dX1_valueCells_8 rfl rfl ?_
    refine tl_callSi (pc := 9) k_X1_squaresEndOf gw_206 (c_X1_squaresEndOf T _) rfl rfl (Nat.le_of_ble_eq_true rfl) (Nat.le_of_ble_eq_true rfl) dX1_valueCells_9 (fun x4 => ?_)
    refine tl_icmp_ge (pc := 12) (tgt := 58) dX1_valueCells_12 rfl ?_ ?_
    · refine tl_aload_n (pc := 58) (i := 0) dX1_valueCells_58 rfl rfl ?_
      refine tl_getR (pc := 59) (r := (b + 34)) fl_X1_51 hb.1 rfl dX1_valueCells_59 ?_
      refine tl_iload_n (pc := 62) (i := 1) dX1_valueCells_62 rfl rfl ?_
      refine tl_iload_n (pc := 63) (i := 2) dX1_valueCells_63 rfl rfl ?_
      refine tl_callVv (pc := 64) k_X2_store gw_222 hb.2.2.2.2.2.2.2.2.2.2.2.1 ⟨_, _, rfl⟩ (c_X2_store T _ _ _ _ hb.2.2.2.2.2.2.2.2.2.2.2) rfl rfl (Nat.le_of_ble_eq_true rfl) (Nat.le_of_ble_eq_true rfl) dX1_valueCells_64 (fun _ => ?_)
      exact tl_vret (pc := 67) dX1_valueCells_67
    · refine tl_aload_n (pc := 15) (i := 0) dX1_valueCells_15 rfl rfl ?_
      refine tl_getR (pc := 16) (r := (b + 1)) fl_X1_12 hb.1 rfl dX1_valueCells_16 ?_
      refine tl_iload_n (pc := 19) (i := 3) dX1_valueCells_19 rfl rfl ?_
      refine tl_callVi (pc := 20) k_X4_isCell gw_209 hb.2.1.1 ⟨_, _, rfl⟩ (c_X4_isCell T _ _ hb.2.1) rfl rfl (Nat.le_of_ble_eq_true rfl) (Nat.le_of_ble_eq_true rfl) dX1_valueCells_20 (fun x5 => ?_)
      refine tl_j (fun (k : Int32 → Dm Unit) => ∀ (x6 : Int32), TL_X1_valueCells T 35 [some (.ref b), some (.int p0), some (.int x2), some (.int x3), none] [.int x6] (k x6)) (fun x6 => ?_) (fun k1 hk1 => ?_)
      · refine tl_istore (pc := 35) (i := 4) (lo' := [some (.ref b), some (.int p0), some (.int x2), some (.int x3), some (.int x6)]) dX1_valueCells_35 (by decide) rfl ?_
        refine tl_aload_n (pc := 37) (i := 0) dX1_valueCells_37 rfl rfl ?_
        refine tl_getR (pc := 38) (r := (b + 16)) fl_X1_23 hb.1 rfl dX1_valueCells_38 ?_
        refine tl_iload_n (pc := 41) (i := 3) dX1_valueCells_41 rfl rfl ?_
        refine tl_iload (pc := 42) (i := 4) dX1_valueCells_42 rfl ?_
        refine tl_callVv (pc := 44) k_X2_store gw_222 hb.2.2.1.1 ⟨_, _, rfl⟩ (c_X2_store T _ _ _ _ hb.2.2.1) rfl rfl (Nat.le_of_ble_eq_true rfl) (Nat.le_of_ble_eq_true rfl) dX1_valueCells_44 (fun _ => ?_)
        refine tl_iload_n (pc := 47) (i := 2) dX1_valueCells_47 rfl rfl ?_
        refine tl_iload (pc := 48) (i := 4) dX1_valueCells_48 rfl ?_
        refine tl_iadd (pc := 50) dX1_valueCells_50 ?_
        refine tl_bI (fun x7 => ?_)
        refine tl_istore_n (pc := 51) (i := 2) (lo' := [some (.ref b), some (.int p0), some (.int x7), some (.int x3), some (.int x6)]) dX1_valueCells_51 rfl (by decide) rfl ?_
        refine tl_iinc (pc := 52) (i := 3) (v := x3 + (1 : Int32)) (lo' := [some (.ref b), some (.int p0), some (.int x7), some (.int (x3 + (1 : Int32))), some (.int x6)]) dX1_valueCells_52 rfl rfl (by decide) rfl ?_
        refine tl_goto (pc := 55) (tgt := 7) dX1_valueCells_55 rfl ?_
        exact tl_sub (ih _ _) (sub_s (sub_s (sub_s (sub_s (sub_n sub_e)))))
      · refine tl_if_eq (pc := 23) (tgt := 34) dX1_valueCells_23 rfl ?_ ?_
        · refine tl_iconst (pc := 34) (v := 0) dX1_valueCells_34 (by decide) ?_
          exact tl_sub (hk1 _) (sub_s (sub_s (sub_s (sub_s (sub_n sub_e)))))
        · refine tl_aload_n (pc := 26) (i := 0) dX1_valueCells_26 rfl rfl ?_
          refine tl_iload_n (pc := 27) (i := 3) dX1_valueCells_27 rfl rfl ?_
          refine tl_callVi (pc := 28) k_X1_valueOf gw_217 hb.1 ⟨_, _, rfl⟩ (c_X1_valueOf T _ _ hb) rfl rfl (Nat.le_of_ble_eq_true rfl) (Nat.le_of_ble_eq_true rfl) dX1_valueCells_28 (fun x8 => ?_)
          refine tl_goto (pc := 31) (tgt := 35) dX1_valueCells_31 rfl ?_
          exact tl_sub (hk1 _) (sub_s (sub_s (sub_s (sub_s (sub_n sub_e)))))
set_option maxRecDepth 100000 in
theorem c_X1_valueCells (T : Tb) (b : Nat) (p0 : Int32) (hb : isLay T b) : CT (.code yX1_valueCells cX1_valueCells 5 none) yX1_valueCells 2 vI T [.ref b, .int p0] (F_X1_valueCells b p0) := by
  refine ct_of (lo := [some (.ref b), some (.int p0), none, none, none]) (j := 3) k_X1_valueCells.1 rfl (fun _ => Nat.le_of_ble_eq_true rfl) ?_
  show TL_X1_valueCells T 0 _ _ _
  rw [F_X1_valueCells]
  refine tl_iconst (pc := 0) (v := 0) dX1_valueCells_0 (by decide) ?_
  refine tl_istore_n (pc := 1) (i := 2) (lo' := [some (.ref b), some (.int p0), some (.int (0 : Int32)), none, none]) dX1_valueCells_1 rfl (by decide) rfl ?_
  refine tl_iload_n (pc := 2) (i := 1) dX1_valueCells_2 rfl rfl ?_
  refine tl_bipush (pc := 3) (v := 25) dX1_valueCells_3 (by decide) ?_
  refine tl_imul (pc := 5) dX1_valueCells_5 ?_
  refine tl_bI (fun x1 => ?_)
  refine tl_istore_n (pc := 6) (i := 3) (lo' := [some (.ref b), some (.int p0), some (.int (0 : Int32)), some (.int x1), none]) dX1_valueCells_6 rfl (by decide) rfl ?_
  refine tl_sub (lp_X1_valueCells_7 T b p0 hb    FU _ _) (sub_s (sub_s (sub_s (sub_s (sub_n sub_e)))))
abbrev TL_X1_isCounted (T : Tb) (pc : Nat) (lo : List (Option Value)) (st : List Value) (X : Dm Int32) : Prop := TL yX1_isCounted cX1_isCounted 9 (some .boolean) 1 iI T pc lo st X
set_option maxRecDepth 100000 in
theorem c_X1_isCounted (T : Tb) (b : Nat) (p0 : Int32) (p1 : Int32) (hb : isLay T b) : CT (.code yX1_isCounted cX1_isCounted 9 (some .boolean)) yX1_isCounted 1 iI T [.ref b, .int p0, .int p1] (F_X1_isCounted b p0 p1) := by
  refine ct_of (lo := [some (.ref b), some (.int p0), some (.int p1), none, none, none, none, none, none]) (j := 6) k_X1_isCounted.1 rfl (fun _ => Nat.le_of_ble_eq_true rfl) ?_
  show TL_X1_isCounted T 0 _ _ _
  rw [F_X1_isCounted]
  refine tl_aload_n (pc := 0) (i := 0) dX1_isCounted_0 rfl rfl ?_
  refine tl_getR (pc := 1) (r := (b + 1)) fl_X1_12 hb.1 rfl dX1_isCounted_1 ?_
  refine tl_getR (pc := 4) (r := ((b + 1) + 7)) fl_X1_107 hb.2.1.1 rfl dX1_isCounted_4 ?_
  refine tl_iload_n (pc := 7) (i := 1) dX1_isCounted_7 rfl rfl ?_
  refine tl_callVi (pc := 8) k_X2_at gw_221 hb.2.1.2.2.2.2.1.1 ⟨_, _, rfl⟩ (c_X2_at T _ _ _ hb.2.1.2.2.2.2.1) rfl rfl (Nat.le_of_ble_eq_true rfl) (Nat.le_of_ble_eq_true rfl) dX1_isCounted_8 (fun x1 => ?_)
  refine tl_istore_n (pc := 11) (i := 3) (lo' := [some (.ref b), some (.int p0), some (.int p1), some (.int x1), none, none, none, none, none]) dX1_isCounted_11 rfl (by decide) rfl ?_
  refine tl_iload_n (pc := 12) (i := 3) dX1_isCounted_12 rfl rfl ?_
  refine tl_bipush (pc := 13) (v := 6) dX1_isCounted_13 (by decide) ?_
  refine tl_icmp_ne (pc := 15) (tgt := 20) dX1_isCounted_15 rfl ?_ ?_
  · refine tl_iconst (pc := 18) (v := 1) dX1_isCounted_18 (by decide) ?_
    exact tl_zret (pc := 19) dX1_isCounted_19
  · refine tl_iload_n (pc := 20) (i := 3) dX1_isCounted_20 rfl rfl ?_
    refine tl_iconst (pc := 21) (v := 4) dX1_isCounted_21 (by decide) ?_
    refine tl_j (fun (k : Int32 → Dm Int32) => ∀ (x2 : Int32), TL_X1_isCounted T 30 [some (.ref b), some (.int p0), some (.int p1), some (.int x1), none, none, none, none, none] [.int x2] (k x2)) (fun x2 => ?_) (fun k1 hk1 => ?_)
    · refine tl_istore (pc := 30) (i := 4) (lo' := [some (.ref b), some (.int p0), some (.int p1), some (.int x1), some (.int x2), none, none, none, none]) dX1_isCounted_30 (by decide) rfl ?_
      refine tl_iload_n (pc := 32) (i := 3) dX1_isCounted_32 rfl rfl ?_
      refine tl_iconst (pc := 33) (v := 4) dX1_isCounted_33 (by decide) ?_
      refine tl_j (fun (k : Int32 → Dm Int32) => ∀ (x3 : Int32), TL_X1_isCounted T 42 [some (.ref b), some (.int p0), some (.int p1), none, some (.int x2), none, none, none, none] [.int x3] (k x3)) (fun x3 => ?_) (fun k2 hk2 => ?_)
      · refine tl_istore (pc := 42) (i := 5) (lo' := [some (.ref b), some (.int p0), some (.int p1), none, some (.int x2), some (.int x3), none, none, none]) dX1_isCounted_42 (by decide) rfl ?_
        refine tl_iload_n (pc := 44) (i := 2) dX1_isCounted_44 rfl rfl ?_
        refine tl_iload (pc := 45) (i := 4) dX1_isCounted_45 rfl ?_
        refine tl_callSNi (pc := 47) k_X5_placeOf nm_X1_129 (c_X5_placeOf T _ _) (nx_X5_placeOf _ _) rfl rfl (Nat.le_of_ble_eq_true rfl) (Nat.le_of_ble_eq_true rfl) dX1_isCounted_47 (fun x4 => ?_)
        refine tl_istore (pc := 50) (i := 6) (lo' := [some (.ref b), some (.int p0), some (.int p1), none, some (.int x2), some (.int x3), some (.int x4), none, none]) dX1_isCounted_50 (by decide) rfl ?_
        refine tl_iload_n (pc := 52) (i := 1) dX1_isCounted_52 rfl rfl ?_
        refine tl_iload (pc := 53) (i := 5) dX1_isCounted_53 rfl ?_
        refine tl_callSNi (pc := 55) k_X5_placeOf nm_X1_129 (c_X5_placeOf T _ _) (nx_X5_placeOf _ _) rfl rfl (Nat.le_of_ble_eq_true rfl) (Nat.le_of_ble_eq_true rfl) dX1_isCounted_55 (fun x5 => ?_)
        refine tl_istore (pc := 58) (i := 7) (lo' := [some (.ref b), some (.int p0), some (.int p1), none, some (.int x2), some (.int x3), some (.int x4), some (.int x5), none]) dX1_isCounted_58 (by decide) rfl ?_
        refine tl_iload_n (pc := 60) (i := 2) dX1_isCounted_60 rfl rfl ?_
        refine tl_iload (pc := 61) (i := 5) dX1_isCounted_61 rfl ?_
        refine tl_callSNi (pc := 63) k_X5_placeOf nm_X1_129 (c_X5_placeOf T _ _) (nx_X5_placeOf _ _) rfl rfl (Nat.le_of_ble_eq_true rfl) (Nat.le_of_ble_eq_true rfl) dX1_isCounted_63 (fun x6 => ?_)
        refine tl_istore (pc := 66) (i := 8) (lo' := [some (.ref b), some (.int p0), some (.int p1), none, some (.int x2), some (.int x3), some (.int x4), some (.int x5), some (.int x6)]) dX1_isCounted_66 (by decide) rfl ?_
        refine tl_iload (pc := 68) (i := 6) dX1_isCounted_68 rfl ?_
        refine tl_aload_n (pc := 70) (i := 0) dX1_isCounted_70 rfl rfl ?_
        refine tl_getR (pc := 71) (r := (b + 20)) fl_X1_30 hb.1 rfl dX1_isCounted_71 ?_
        refine tl_iload_n (pc := 74) (i := 1) dX1_isCounted_74 rfl rfl ?_
        refine tl_callVi (pc := 75) k_X2_at gw_221 hb.2.2.2.2.1.1 ⟨_, _, rfl⟩ (c_X2_at T _ _ _ hb.2.2.2.2.1) rfl rfl (Nat.le_of_ble_eq_true rfl) (Nat.le_of_ble_eq_true rfl) dX1_isCounted_75 (fun x7 => ?_)
        refine tl_icmp_lt (pc := 78) (tgt := 144) dX1_isCounted_78 rfl ?_ ?_
        · refine tl_iconst (pc := 144) (v := 0) dX1_isCounted_144 (by decide) ?_
          exact tl_zret (pc := 145) dX1_isCounted_145
        · refine tl_iload (pc := 81) (i := 6) dX1_isCounted_81 rfl ?_
          refine tl_iload_n (pc := 83) (i := 1) dX1_isCounted_83 rfl rfl ?_
          refine tl_iload (pc := 84) (i := 4) dX1_isCounted_84 rfl ?_
          refine tl_callSNi (pc := 86) k_X5_placeOf nm_X1_129 (c_X5_placeOf T _ _) (nx_X5_placeOf _ _) rfl rfl (Nat.le_of_ble_eq_true rfl) (Nat.le_of_ble_eq_true rfl) dX1_isCounted_86 (fun x8 => ?_)
          refine tl_icmp_ge (pc := 89) (tgt := 144) dX1_isCounted_89 rfl ?_ ?_
          · refine tl_iconst (pc := 144) (v := 0) dX1_isCounted_144 (by decide) ?_
            exact tl_zret (pc := 145) dX1_isCounted_145
          · refine tl_iload (pc := 92) (i := 8) dX1_isCounted_92 rfl ?_
            refine tl_iload (pc := 94) (i := 7) dX1_isCounted_94 rfl ?_
            refine tl_aload_n (pc := 96) (i := 0) dX1_isCounted_96 rfl rfl ?_
            refine tl_getR (pc := 97) (r := (b + 1)) fl_X1_12 hb.1 rfl dX1_isCounted_97 ?_
            refine tl_getR (pc := 100) (r := ((b + 1) + 11)) fl_X1_138 hb.2.1.1 rfl dX1_isCounted_100 ?_
            refine tl_iload_n (pc := 103) (i := 1) dX1_isCounted_103 rfl rfl ?_
            refine tl_iconst (pc := 104) (v := 2) dX1_isCounted_104 (by decide) ?_
            refine tl_imul (pc := 105) dX1_isCounted_105 ?_
            refine tl_iload (pc := 106) (i := 5) dX1_isCounted_106 rfl ?_
            refine tl_iadd (pc := 108) dX1_isCounted_108 ?_
            refine tl_callVi (pc := 109) k_X2_at gw_221 hb.2.1.2.2.2.2.2.2.1.1 ⟨_, _, rfl⟩ (c_X2_at T _ _ _ hb.2.1.2.2.2.2.2.2.1) rfl rfl (Nat.le_of_ble_eq_true rfl) (Nat.le_of_ble_eq_true rfl) dX1_isCounted_109 (fun x9 => ?_)
            refine tl_iadd (pc := 112) dX1_isCounted_112 ?_
            refine tl_icmp_ge (pc := 113) (tgt := 144) dX1_isCounted_113 rfl ?_ ?_
            · refine tl_iconst (pc := 144) (v := 0) dX1_isCounted_144 (by decide) ?_
              exact tl_zret (pc := 145) dX1_isCounted_145
            · refine tl_iload (pc := 116) (i := 7) dX1_isCounted_116 rfl ?_
              refine tl_iload (pc := 118) (i := 8) dX1_isCounted_118 rfl ?_
              refine tl_aload_n (pc := 120) (i := 0) dX1_isCounted_120 rfl rfl ?_
              refine tl_getR (pc := 121) (r := (b + 1)) fl_X1_12 hb.1 rfl dX1_isCounted_121 ?_
              refine tl_getR (pc := 124) (r := ((b + 1) + 11)) fl_X1_138 hb.2.1.1 rfl dX1_isCounted_124 ?_
              refine tl_iload_n (pc := 127) (i := 2) dX1_isCounted_127 rfl rfl ?_
              refine tl_iconst (pc := 128) (v := 2) dX1_isCounted_128 (by decide) ?_
              refine tl_imul (pc := 129) dX1_isCounted_129 ?_
              refine tl_iload (pc := 130) (i := 5) dX1_isCounted_130 rfl ?_
              refine tl_iadd (pc := 132) dX1_isCounted_132 ?_
              refine tl_callVi (pc := 133) k_X2_at gw_221 hb.2.1.2.2.2.2.2.2.1.1 ⟨_, _, rfl⟩ (c_X2_at T _ _ _ hb.2.1.2.2.2.2.2.2.1) rfl rfl (Nat.le_of_ble_eq_true rfl) (Nat.le_of_ble_eq_true rfl) dX1_isCounted_133 (fun x10 => ?_)
              refine tl_iadd (pc := 136) dX1_isCounted_136 ?_
              refine tl_icmp_ge (pc := 137) (tgt := 144) dX1_isCounted_137 rfl ?_ ?_
              · refine tl_iconst (pc := 144) (v := 0) dX1_isCounted_144 (by decide) ?_
                exact tl_zret (pc := 145) dX1_isCounted_145
              · refine tl_iconst (pc := 140) (v := 1) dX1_isCounted_140 (by decide) ?_
                refine tl_goto (pc := 141) (tgt := 145) dX1_isCounted_141 rfl ?_
                exact tl_zret (pc := 145) dX1_isCounted_145
      · refine tl_icmp_ne (pc := 34) (tgt := 41) dX1_isCounted_34 rfl ?_ ?_
        · refine tl_iconst (pc := 37) (v := 0) dX1_isCounted_37 (by decide) ?_
          refine tl_goto (pc := 38) (tgt := 42) dX1_isCounted_38 rfl ?_
          exact tl_sub (hk2 _) (sub_s (sub_s (sub_s (sub_n (sub_s (sub_n (sub_n (sub_n (sub_n sub_e)))))))))
        · refine tl_iconst (pc := 41) (v := 1) dX1_isCounted_41 (by decide) ?_
          exact tl_sub (hk2 _) (sub_s (sub_s (sub_s (sub_n (sub_s (sub_n (sub_n (sub_n (sub_n sub_e)))))))))
    · refine tl_icmp_ne (pc := 22) (tgt := 29) dX1_isCounted_22 rfl ?_ ?_
      · refine tl_iconst (pc := 25) (v := 1) dX1_isCounted_25 (by decide) ?_
        refine tl_goto (pc := 26) (tgt := 30) dX1_isCounted_26 rfl ?_
        exact tl_sub (hk1 _) (sub_s (sub_s (sub_s (sub_s (sub_n (sub_n (sub_n (sub_n (sub_n sub_e)))))))))
      · refine tl_iconst (pc := 29) (v := 0) dX1_isCounted_29 (by decide) ?_
        exact tl_sub (hk1 _) (sub_s (sub_s (sub_s (sub_s (sub_n (sub_n (sub_n (sub_n (sub_n sub_e)))))))))
abbrev TL_X1_startSum (T : Tb) (pc : Nat) (lo : List (Option Value)) (st : List Value) (X : Dm Unit) : Prop := TL yX1_startSum cX1_startSum 6 none 2 vI T pc lo st X
set_option maxRecDepth 100000 in
theorem lp_X1_startSum_36 (T : Tb) (b : Nat) (p0 : Int32) (x1 : Int32) (x2 : Int32) (hb : isLay T b)    : ∀ (n : Nat) (x4 : Int32) (x5 : Int32), TL_X1_startSum T 36 [some (.ref b), some (.int p0), some (.int x1), some (.int x4), some (.int x2), some (.int x5)] [] (L_X1_startSum_36 b p0 x1 x2 n x4 x5 ) := by
  intro n
  induction n with
  | zero => intros; exact tl_fail
  | succ n ih =>
    intro x4 x5
    rw [L_X1_startSum_36]
    refine tl_iload (pc := 36) (i := 5) dX1_startSum_36 rfl ?_
    refine tl_iload (pc := 38) (i := 4) dX1_startSum_38 rfl ?_
    refine tl_callSi (pc := 40) k_X1_squaresEndOf gw_206 (c_X1_squaresEndOf T _) rfl rfl (Nat.le_of_ble_eq_true rfl) (Nat.le_of_ble_eq_true rfl) dX1_startSum_40 (fun x6 => ?_)
    refine tl_icmp_ge (pc := 43) (tgt := 110) dX1_startSum_43 rfl ?_ ?_
    · refine tl_aload_n (pc := 110) (i := 0) dX1_startSum_110 rfl rfl ?_
      refine tl_getR (pc := 111) (r := (b + 20)) fl_X1_30 hb.1 rfl dX1_startSum_111 ?_
      refine tl_iload_n (pc := 114) (i := 1) dX1_startSum_114 rfl rfl ?_
      refine tl_iload_n (pc := 115) (i := 3) dX1_startSum_115 rfl rfl ?_
      refine tl_callVv (pc := 116) k_X2_store gw_222 hb.2.2.2.2.1.1 ⟨_, _, rfl⟩ (c_X2_store T _ _ _ _ hb.2.2.2.2.1) rfl rfl (Nat.le_of_ble_eq_true rfl) (Nat.le_of_ble_eq_true rfl) dX1_startSum_116 (fun _ => ?_)
      exact tl_vret (pc := 119) dX1_startSum_119
    · refine tl_aload_n (pc := 46) (i := 0) dX1_startSum_46 rfl rfl ?_
      refine tl_getR (pc := 47) (r := (b + 1)) fl_X1_12 hb.1 rfl dX1_startSum_47 ?_
      refine tl_iload (pc := 50) (i := 5) dX1_startSum_50 rfl ?_
      refine tl_callVi (pc := 52) k_X4_isCell gw_209 hb.2.1.1 ⟨_, _, rfl⟩ (c_X4_isCell T _ _ hb.2.1) rfl rfl (Nat.le_of_ble_eq_true rfl) (Nat.le_of_ble_eq_true rfl) dX1_startSum_52 (fun x7 => ?_)
      refine tl_j (fun (k : Int32 → Dm Unit) => ∀ (x8 : Int32), TL_X1_startSum T 104 [some (.ref b), some (.int p0), some (.int x1), some (.int x8), some (.int x2), some (.int x5)] [] (k x8)) (fun x8 => ?_) (fun k1 hk1 => ?_)
      · refine tl_iinc (pc := 104) (i := 5) (v := x5 + (1 : Int32)) (lo' := [some (.ref b), some (.int p0), some (.int x1), some (.int x8), some (.int x2), some (.int (x5 + (1 : Int32)))]) dX1_startSum_104 rfl rfl (by decide) rfl ?_
        refine tl_goto (pc := 107) (tgt := 36) dX1_startSum_107 rfl ?_
        exact tl_sub (ih _ _) (sub_s (sub_s (sub_s (sub_s (sub_s (sub_s sub_e))))))
      · refine tl_if_eq (pc := 55) (tgt := 104) dX1_startSum_55 rfl ?_ ?_
        · exact tl_sub (hk1 _) (sub_s (sub_s (sub_s (sub_s (sub_s (sub_s sub_e))))))
        · refine tl_aload_n (pc := 58) (i := 0) dX1_startSum_58 rfl rfl ?_
          refine tl_getR (pc := 59) (r := (b + 1)) fl_X1_12 hb.1 rfl dX1_startSum_59 ?_
          refine tl_getR (pc := 62) (r := ((b + 1) + 7)) fl_X1_107 hb.2.1.1 rfl dX1_startSum_62 ?_
          refine tl_iload (pc := 65) (i := 5) dX1_startSum_65 rfl ?_
          refine tl_callVi (pc := 67) k_X2_at gw_221 hb.2.1.2.2.2.2.1.1 ⟨_, _, rfl⟩ (c_X2_at T _ _ _ hb.2.1.2.2.2.2.1) rfl rfl (Nat.le_of_ble_eq_true rfl) (Nat.le_of_ble_eq_true rfl) dX1_startSum_67 (fun x9 => ?_)
          refine tl_iload_n (pc := 70) (i := 2) dX1_startSum_70 rfl rfl ?_
          refine tl_icmp_ne (pc := 71) (tgt := 104) dX1_startSum_71 rfl ?_ ?_
          · refine tl_aload_n (pc := 74) (i := 0) dX1_startSum_74 rfl rfl ?_
            refine tl_iload_n (pc := 75) (i := 1) dX1_startSum_75 rfl rfl ?_
            refine tl_iload (pc := 76) (i := 5) dX1_startSum_76 rfl ?_
            refine tl_callVi (pc := 78) k_X1_isCounted gw_237 hb.1 ⟨_, _, rfl⟩ (c_X1_isCounted T _ _ _ hb) rfl rfl (Nat.le_of_ble_eq_true rfl) (Nat.le_of_ble_eq_true rfl) dX1_startSum_78 (fun x10 => ?_)
            refine tl_if_eq (pc := 81) (tgt := 104) dX1_startSum_81 rfl ?_ ?_
            · exact tl_sub (hk1 _) (sub_s (sub_s (sub_s (sub_s (sub_s (sub_s sub_e))))))
            · refine tl_iload_n (pc := 84) (i := 3) dX1_startSum_84 rfl rfl ?_
              refine tl_iload (pc := 85) (i := 5) dX1_startSum_85 rfl ?_
              refine tl_iload_n (pc := 87) (i := 2) dX1_startSum_87 rfl rfl ?_
              refine tl_iconst (pc := 88) (v := 4) dX1_startSum_88 (by decide) ?_
              refine tl_j (fun (k : Int32 → Dm Unit) => ∀ (x11 : Int32), TL_X1_startSum T 97 [some (.ref b), some (.int p0), some (.int x1), none, some (.int x2), some (.int x5)] [.int x11, .int x5, .int x4] (k x11)) (fun x11 => ?_) (fun k2 hk2 => ?_)
              · refine tl_callSNi (pc := 97) k_X5_placeOf nm_X1_129 (c_X5_placeOf T _ _) (nx_X5_placeOf _ _) rfl rfl (Nat.le_of_ble_eq_true rfl) (Nat.le_of_ble_eq_true rfl) dX1_startSum_97 (fun x12 => ?_)
                refine tl_mmax (pc := 100) gw_242 gw_43 gw_5 gw_44 (Nat.le_of_ble_eq_true rfl) (Nat.le_of_ble_eq_true rfl) dX1_startSum_100 ?_
                refine tl_bI (fun x13 => ?_)
                refine tl_istore_n (pc := 103) (i := 3) (lo' := [some (.ref b), some (.int p0), some (.int x1), some (.int x13), some (.int x2), some (.int x5)]) dX1_startSum_103 rfl (by decide) rfl ?_
                exact tl_sub (hk1 _) (sub_s (sub_s (sub_s (sub_s (sub_s (sub_s sub_e))))))
              · refine tl_icmp_ne (pc := 89) (tgt := 96) dX1_startSum_89 rfl ?_ ?_
                · refine tl_iconst (pc := 92) (v := 1) dX1_startSum_92 (by decide) ?_
                  refine tl_goto (pc := 93) (tgt := 97) dX1_startSum_93 rfl ?_
                  exact tl_sub (hk2 _) (sub_s (sub_s (sub_s (sub_n (sub_s (sub_s sub_e))))))
                · refine tl_iconst (pc := 96) (v := 0) dX1_startSum_96 (by decide) ?_
                  exact tl_sub (hk2 _) (sub_s (sub_s (sub_s (sub_n (sub_s (sub_s sub_e))))))
          · exact tl_sub (hk1 _) (sub_s (sub_s (sub_s (sub_s (sub_s (sub_s sub_e))))))
set_option maxRecDepth 100000 in
theorem c_X1_startSum (T : Tb) (b : Nat) (p0 : Int32) (hb : isLay T b) : CT (.code yX1_startSum cX1_startSum 6 none) yX1_startSum 2 vI T [.ref b, .int p0] (F_X1_startSum b p0) := by
  refine ct_of (lo := [some (.ref b), some (.int p0), none, none, none, none]) (j := 4) k_X1_startSum.1 rfl (fun _ => Nat.le_of_ble_eq_true rfl) ?_
  show TL_X1_startSum T 0 _ _ _
  rw [F_X1_startSum]
  refine tl_aload_n (pc := 0) (i := 0) dX1_startSum_0 rfl rfl ?_
  refine tl_getR (pc := 1) (r := (b + 20)) fl_X1_30 hb.1 rfl dX1_startSum_1 ?_
  refine tl_iload_n (pc := 4) (i := 1) dX1_startSum_4 rfl rfl ?_
  refine tl_iconst (pc := 5) (v := 0) dX1_startSum_5 (by decide) ?_
  refine tl_callVv (pc := 6) k_X2_store gw_222 hb.2.2.2.2.1.1 ⟨_, _, rfl⟩ (c_X2_store T _ _ _ _ hb.2.2.2.2.1) rfl rfl (Nat.le_of_ble_eq_true rfl) (Nat.le_of_ble_eq_true rfl) dX1_startSum_6 (fun _ => ?_)
  refine tl_aload_n (pc := 9) (i := 0) dX1_startSum_9 rfl rfl ?_
  refine tl_getR (pc := 10) (r := (b + 1)) fl_X1_12 hb.1 rfl dX1_startSum_10 ?_
  refine tl_getR (pc := 13) (r := ((b + 1) + 7)) fl_X1_107 hb.2.1.1 rfl dX1_startSum_13 ?_
  refine tl_iload_n (pc := 16) (i := 1) dX1_startSum_16 rfl rfl ?_
  refine tl_callVi (pc := 17) k_X2_at gw_221 hb.2.1.2.2.2.2.1.1 ⟨_, _, rfl⟩ (c_X2_at T _ _ _ hb.2.1.2.2.2.2.1) rfl rfl (Nat.le_of_ble_eq_true rfl) (Nat.le_of_ble_eq_true rfl) dX1_startSum_17 (fun x1 => ?_)
  refine tl_istore_n (pc := 20) (i := 2) (lo' := [some (.ref b), some (.int p0), some (.int x1), none, none, none]) dX1_startSum_20 rfl (by decide) rfl ?_
  refine tl_iconst (pc := 21) (v := 0) dX1_startSum_21 (by decide) ?_
  refine tl_istore_n (pc := 22) (i := 3) (lo' := [some (.ref b), some (.int p0), some (.int x1), some (.int (0 : Int32)), none, none]) dX1_startSum_22 rfl (by decide) rfl ?_
  refine tl_iload_n (pc := 23) (i := 1) dX1_startSum_23 rfl rfl ?_
  refine tl_callSNi (pc := 24) k_X5_tableOf nm_X1_122 (c_X5_tableOf T _) (nx_X5_tableOf _) rfl rfl (Nat.le_of_ble_eq_true rfl) (Nat.le_of_ble_eq_true rfl) dX1_startSum_24 (fun x2 => ?_)
  refine tl_istore (pc := 27) (i := 4) (lo' := [some (.ref b), some (.int p0), some (.int x1), some (.int (0 : Int32)), some (.int x2), none]) dX1_startSum_27 (by decide) rfl ?_
  refine tl_iload (pc := 29) (i := 4) dX1_startSum_29 rfl ?_
  refine tl_bipush (pc := 31) (v := 25) dX1_startSum_31 (by decide) ?_
  refine tl_imul (pc := 33) dX1_startSum_33 ?_
  refine tl_bI (fun x3 => ?_)
  refine tl_istore (pc := 34) (i := 5) (lo' := [some (.ref b), some (.int p0), some (.int x1), some (.int (0 : Int32)), some (.int x2), some (.int x3)]) dX1_startSum_34 (by decide) rfl ?_
  refine tl_sub (lp_X1_startSum_36 T b p0 x1 x2 hb    FU _ _) (sub_s (sub_s (sub_s (sub_s (sub_s (sub_s sub_e))))))
abbrev TL_X1_sumOf (T : Tb) (pc : Nat) (lo : List (Option Value)) (st : List Value) (X : Dm Int32) : Prop := TL yX1_sumOf cX1_sumOf 5 (some .int) 2 iI T pc lo st X
set_option maxRecDepth 100000 in
theorem lp_X1_sumOf_13 (T : Tb) (b : Nat) (p0 : Int32) (x1 : Int32) (hb : isLay T b)    : ∀ (n : Nat) (x3 : Int32) (x4 : Int32), TL_X1_sumOf T 13 [some (.ref b), some (.int p0), some (.int x3), some (.int x1), some (.int x4)] [] (L_X1_sumOf_13 b p0 x1 n x3 x4 ) := by
  intro n
  induction n with
  | zero => intros; exact tl_fail
  | succ n ih =>
    intro x3 x4
    rw [L_X1_sumOf_13]
    refine tl_iload (pc := 13) (i := 4) dX1_sumOf_13 rfl ?_
    refine tl_iload_n (pc := 15) (i := 3) dX1_sumOf_15 rfl rfl ?_
    refine tl_callSi (pc := 16) k_X1_squaresEndOf gw_206 (c_X1_squaresEndOf T _) rfl rfl (Nat.le_of_ble_eq_true rfl) (Nat.le_of_ble_eq_true rfl) dX1_sumOf_16 (fun x5 => ?_)
    refine tl_icmp_ge (pc := 19) (tgt := 62) dX1_sumOf_19 rfl ?_ ?_
    · refine tl_iload_n (pc := 62) (i := 2) dX1_sumOf_62 rfl rfl ?_
      exact tl_iret (pc := 63) dX1_sumOf_63
    · refine tl_aload_n (pc := 22) (i := 0) dX1_sumOf_22 rfl rfl ?_
      refine tl_getR (pc := 23) (r := (b + 16)) fl_X1_23 hb.1 rfl dX1_sumOf_23 ?_
      refine tl_iload (pc := 26) (i := 4) dX1_sumOf_26 rfl ?_
      refine tl_callVi (pc := 28) k_X2_at gw_221 hb.2.2.1.1 ⟨_, _, rfl⟩ (c_X2_at T _ _ _ hb.2.2.1) rfl rfl (Nat.le_of_ble_eq_true rfl) (Nat.le_of_ble_eq_true rfl) dX1_sumOf_28 (fun x6 => ?_)
      refine tl_j (fun (k : Int32 → Dm Int32) => ∀ (x7 : Int32), TL_X1_sumOf T 56 [some (.ref b), some (.int p0), some (.int x7), some (.int x1), some (.int x4)] [] (k x7)) (fun x7 => ?_) (fun k1 hk1 => ?_)
      · refine tl_iinc (pc := 56) (i := 4) (v := x4 + (1 : Int32)) (lo' := [some (.ref b), some (.int p0), some (.int x7), some (.int x1), some (.int (x4 + (1 : Int32)))]) dX1_sumOf_56 rfl rfl (by decide) rfl ?_
        refine tl_goto (pc := 59) (tgt := 13) dX1_sumOf_59 rfl ?_
        exact tl_sub (ih _ _) (sub_s (sub_s (sub_s (sub_s (sub_s sub_e)))))
      · refine tl_if_eq (pc := 31) (tgt := 56) dX1_sumOf_31 rfl ?_ ?_
        · exact tl_sub (hk1 _) (sub_s (sub_s (sub_s (sub_s (sub_s sub_e)))))
        · refine tl_aload_n (pc := 34) (i := 0) dX1_sumOf_34 rfl rfl ?_
          refine tl_iload_n (pc := 35) (i := 1) dX1_sumOf_35 rfl rfl ?_
          refine tl_iload (pc := 36) (i := 4) dX1_sumOf_36 rfl ?_
          refine tl_callVi (pc := 38) k_X1_isCounted gw_237 hb.1 ⟨_, _, rfl⟩ (c_X1_isCounted T _ _ _ hb) rfl rfl (Nat.le_of_ble_eq_true rfl) (Nat.le_of_ble_eq_true rfl) dX1_sumOf_38 (fun x8 => ?_)
          refine tl_if_eq (pc := 41) (tgt := 56) dX1_sumOf_41 rfl ?_ ?_
          · exact tl_sub (hk1 _) (sub_s (sub_s (sub_s (sub_s (sub_s sub_e)))))
          · refine tl_iload_n (pc := 44) (i := 2) dX1_sumOf_44 rfl rfl ?_
            refine tl_aload_n (pc := 45) (i := 0) dX1_sumOf_45 rfl rfl ?_
            refine tl_getR (pc := 46) (r := (b + 16)) fl_X1_23 hb.1 rfl dX1_sumOf_46 ?_
            refine tl_iload (pc := 49) (i := 4) dX1_sumOf_49 rfl ?_
            refine tl_callVi (pc := 51) k_X2_at gw_221 hb.2.2.1.1 ⟨_, _, rfl⟩ (c_X2_at T _ _ _ hb.2.2.1) rfl rfl (Nat.le_of_ble_eq_true rfl) (Nat.le_of_ble_eq_true rfl) dX1_sumOf_51 (fun x9 => ?_)
            refine tl_iadd (pc := 54) dX1_sumOf_54 ?_
            refine tl_bI (fun x10 => ?_)
            refine tl_istore_n (pc := 55) (i := 2) (lo' := [some (.ref b), some (.int p0), some (.int x10), some (.int x1), some (.int x4)]) dX1_sumOf_55 rfl (by decide) rfl ?_
            exact tl_sub (hk1 _) (sub_s (sub_s (sub_s (sub_s (sub_s sub_e)))))
set_option maxRecDepth 100000 in
theorem c_X1_sumOf (T : Tb) (b : Nat) (p0 : Int32) (hb : isLay T b) : CT (.code yX1_sumOf cX1_sumOf 5 (some .int)) yX1_sumOf 2 iI T [.ref b, .int p0] (F_X1_sumOf b p0) := by
  refine ct_of (lo := [some (.ref b), some (.int p0), none, none, none]) (j := 3) k_X1_sumOf.1 rfl (fun _ => Nat.le_of_ble_eq_true rfl) ?_
  show TL_X1_sumOf T 0 _ _ _
  rw [F_X1_sumOf]
  refine tl_iconst (pc := 0) (v := 0) dX1_sumOf_0 (by decide) ?_
  refine tl_istore_n (pc := 1) (i := 2) (lo' := [some (.ref b), some (.int p0), some (.int (0 : Int32)), none, none]) dX1_sumOf_1 rfl (by decide) rfl ?_
  refine tl_iload_n (pc := 2) (i := 1) dX1_sumOf_2 rfl rfl ?_
  refine tl_callSNi (pc := 3) k_X5_tableOf nm_X1_122 (c_X5_tableOf T _) (nx_X5_tableOf _) rfl rfl (Nat.le_of_ble_eq_true rfl) (Nat.le_of_ble_eq_true rfl) dX1_sumOf_3 (fun x1 => ?_)
  refine tl_istore_n (pc := 6) (i := 3) (lo' := [some (.ref b), some (.int p0), some (.int (0 : Int32)), some (.int x1), none]) dX1_sumOf_6 rfl (by decide) rfl ?_
  refine tl_iload_n (pc := 7) (i := 3) dX1_sumOf_7 rfl rfl ?_
  refine tl_bipush (pc := 8) (v := 25) dX1_sumOf_8 (by decide) ?_
  refine tl_imul (pc := 10) dX1_sumOf_10 ?_
  refine tl_bI (fun x2 => ?_)
  refine tl_istore (pc := 11) (i := 4) (lo' := [some (.ref b), some (.int p0), some (.int (0 : Int32)), some (.int x1), some (.int x2)]) dX1_sumOf_11 (by decide) rfl ?_
  refine tl_sub (lp_X1_sumOf_13 T b p0 x1 hb    FU _ _) (sub_s (sub_s (sub_s (sub_s (sub_s sub_e)))))
abbrev TL_X1_showNumbers (T : Tb) (pc : Nat) (lo : List (Option Value)) (st : List Value) (X : Dm Unit) : Prop := TL yX1_showNumbers cX1_showNumbers 4 none 3 vI T pc lo st X
set_option maxRecDepth 100000 in
theorem lp_X1_showNumbers_5 (T : Tb) (b : Nat) (p0 : Int32)  (hb : isLay T b)    : ∀ (n : Nat) (x2 : Int32), TL_X1_showNumbers T 5 [some (.ref b), some (.int p0), some (.int x2), none] [] (L_X1_showNumbers_5 b p0 n x2 ) := by
  intro n
  induction n with
  | zero => intros; exact tl_fail
  | succ n ih =>
    intro x2
    rw [L_X1_showNumbers_5]
    refine tl_iload_n (pc := 5) (i := 2) dX1_showNumbers_5 rfl rfl ?_
    refine tl_iload_n (pc := 6) (i := 1) dX1_showNumbers_6 rfl rfl ?_
    refine tl_callSi (pc := 7) k_X1_squaresEndOf gw_206 (c_X1_squaresEndOf T _) rfl rfl (Nat.le_of_ble_eq_true rfl) (Nat.le_of_ble_eq_true rfl) dX1_showNumbers_7 (fun x3 => ?_)
    refine tl_icmp_ge (pc := 10) (tgt := 76) dX1_showNumbers_10 rfl ?_ ?_
    · exact tl_vret (pc := 76) dX1_showNumbers_76
    · refine tl_aload_n (pc := 13) (i := 0) dX1_showNumbers_13 rfl rfl ?_
      refine tl_getR (pc := 14) (r := (b + 16)) fl_X1_23 hb.1 rfl dX1_showNumbers_14 ?_
      refine tl_iload_n (pc := 17) (i := 2) dX1_showNumbers_17 rfl rfl ?_
      refine tl_callVi (pc := 18) k_X2_at gw_221 hb.2.2.1.1 ⟨_, _, rfl⟩ (c_X2_at T _ _ _ hb.2.2.1) rfl rfl (Nat.le_of_ble_eq_true rfl) (Nat.le_of_ble_eq_true rfl) dX1_showNumbers_18 (fun x4 => ?_)
      refine tl_istore_n (pc := 21) (i := 3) (lo' := [some (.ref b), some (.int p0), some (.int x2), some (.int x4)]) dX1_showNumbers_21 rfl (by decide) rfl ?_
      refine tl_aload_n (pc := 22) (i := 0) dX1_showNumbers_22 rfl rfl ?_
      refine tl_getR (pc := 23) (r := (b + 1)) fl_X1_12 hb.1 rfl dX1_showNumbers_23 ?_
      refine tl_iload_n (pc := 26) (i := 2) dX1_showNumbers_26 rfl rfl ?_
      refine tl_callVi (pc := 27) k_X4_isCell gw_209 hb.2.1.1 ⟨_, _, rfl⟩ (c_X4_isCell T _ _ hb.2.1) rfl rfl (Nat.le_of_ble_eq_true rfl) (Nat.le_of_ble_eq_true rfl) dX1_showNumbers_27 (fun x5 => ?_)
      refine tl_j (fun (k : Int32 → Dm Unit) => ∀ (x6 : Int32), TL_X1_showNumbers T 61 [some (.ref b), some (.int p0), some (.int x2), some (.int x6)] [] (k x6)) (fun x6 => ?_) (fun k1 hk1 => ?_)
      · refine tl_aload_n (pc := 61) (i := 0) dX1_showNumbers_61 rfl rfl ?_
        refine tl_getR (pc := 62) (r := (b + 18)) fl_X1_27 hb.1 rfl dX1_showNumbers_62 ?_
        refine tl_iload_n (pc := 65) (i := 2) dX1_showNumbers_65 rfl rfl ?_
        refine tl_iload_n (pc := 66) (i := 3) dX1_showNumbers_66 rfl rfl ?_
        refine tl_callVv (pc := 67) k_X2_store gw_222 hb.2.2.2.1.1 ⟨_, _, rfl⟩ (c_X2_store T _ _ _ _ hb.2.2.2.1) rfl rfl (Nat.le_of_ble_eq_true rfl) (Nat.le_of_ble_eq_true rfl) dX1_showNumbers_67 (fun _ => ?_)
        refine tl_iinc (pc := 70) (i := 2) (v := x2 + (1 : Int32)) (lo' := [some (.ref b), some (.int p0), some (.int (x2 + (1 : Int32))), some (.int x6)]) dX1_showNumbers_70 rfl rfl (by decide) rfl ?_
        refine tl_goto (pc := 73) (tgt := 5) dX1_showNumbers_73 rfl ?_
        exact tl_sub (ih _) (sub_s (sub_s (sub_s (sub_n sub_e))))
      · refine tl_if_eq (pc := 30) (tgt := 61) dX1_showNumbers_30 rfl ?_ ?_
        · exact tl_sub (hk1 _) (sub_s (sub_s (sub_s (sub_s sub_e))))
        · refine tl_aload_n (pc := 33) (i := 0) dX1_showNumbers_33 rfl rfl ?_
          refine tl_getR (pc := 34) (r := (b + 1)) fl_X1_12 hb.1 rfl dX1_showNumbers_34 ?_
          refine tl_getR (pc := 37) (r := ((b + 1) + 7)) fl_X1_107 hb.2.1.1 rfl dX1_showNumbers_37 ?_
          refine tl_iload_n (pc := 40) (i := 2) dX1_showNumbers_40 rfl rfl ?_
          refine tl_callVi (pc := 41) k_X2_at gw_221 hb.2.1.2.2.2.2.1.1 ⟨_, _, rfl⟩ (c_X2_at T _ _ _ hb.2.1.2.2.2.2.1) rfl rfl (Nat.le_of_ble_eq_true rfl) (Nat.le_of_ble_eq_true rfl) dX1_showNumbers_41 (fun x7 => ?_)
          refine tl_callSNi (pc := 44) k_X5_isSum nm_X1_113 (c_X5_isSum T _) (nx_X5_isSum _) rfl rfl (Nat.le_of_ble_eq_true rfl) (Nat.le_of_ble_eq_true rfl) dX1_showNumbers_44 (fun x8 => ?_)
          refine tl_if_eq (pc := 47) (tgt := 61) dX1_showNumbers_47 rfl ?_ ?_
          · exact tl_sub (hk1 _) (sub_s (sub_s (sub_s (sub_s sub_e))))
          · refine tl_aload_n (pc := 50) (i := 0) dX1_showNumbers_50 rfl rfl ?_
            refine tl_iload_n (pc := 51) (i := 2) dX1_showNumbers_51 rfl rfl ?_
            refine tl_callVv (pc := 52) k_X1_startSum gw_230 hb.1 ⟨_, _, rfl⟩ (c_X1_startSum T _ _ hb) rfl rfl (Nat.le_of_ble_eq_true rfl) (Nat.le_of_ble_eq_true rfl) dX1_showNumbers_52 (fun _ => ?_)
            refine tl_aload_n (pc := 55) (i := 0) dX1_showNumbers_55 rfl rfl ?_
            refine tl_iload_n (pc := 56) (i := 2) dX1_showNumbers_56 rfl rfl ?_
            refine tl_callVi (pc := 57) k_X1_sumOf gw_243 hb.1 ⟨_, _, rfl⟩ (c_X1_sumOf T _ _ hb) rfl rfl (Nat.le_of_ble_eq_true rfl) (Nat.le_of_ble_eq_true rfl) dX1_showNumbers_57 (fun x9 => ?_)
            refine tl_istore_n (pc := 60) (i := 3) (lo' := [some (.ref b), some (.int p0), some (.int x2), some (.int x9)]) dX1_showNumbers_60 rfl (by decide) rfl ?_
            exact tl_sub (hk1 _) (sub_s (sub_s (sub_s (sub_s sub_e))))
set_option maxRecDepth 100000 in
theorem c_X1_showNumbers (T : Tb) (b : Nat) (p0 : Int32) (hb : isLay T b) : CT (.code yX1_showNumbers cX1_showNumbers 4 none) yX1_showNumbers 3 vI T [.ref b, .int p0] (F_X1_showNumbers b p0) := by
  refine ct_of (lo := [some (.ref b), some (.int p0), none, none]) (j := 2) k_X1_showNumbers.1 rfl (fun _ => Nat.le_of_ble_eq_true rfl) ?_
  show TL_X1_showNumbers T 0 _ _ _
  rw [F_X1_showNumbers]
  refine tl_iload_n (pc := 0) (i := 1) dX1_showNumbers_0 rfl rfl ?_
  refine tl_bipush (pc := 1) (v := 25) dX1_showNumbers_1 (by decide) ?_
  refine tl_imul (pc := 3) dX1_showNumbers_3 ?_
  refine tl_bI (fun x1 => ?_)
  refine tl_istore_n (pc := 4) (i := 2) (lo' := [some (.ref b), some (.int p0), some (.int x1), none]) dX1_showNumbers_4 rfl (by decide) rfl ?_
  refine tl_sub (lp_X1_showNumbers_5 T b p0 hb    FU _) (sub_s (sub_s (sub_s (sub_n sub_e))))
abbrev TL_X1_greatestRule (T : Tb) (pc : Nat) (lo : List (Option Value)) (st : List Value) (X : Dm Int32) : Prop := TL yX1_greatestRule cX1_greatestRule 7 (some .int) 1 iI T pc lo st X
set_option maxRecDepth 100000 in
theorem lp_X1_greatestRule_9 (T : Tb) (b : Nat) (p0 : Int32) (p1 : Int32) (p2 : Int32) (p3 : Int32)  (hb : isLay T b)    : ∀ (n : Nat) (x2 : Int32) (x3 : Int32), TL_X1_greatestRule T 9 [some (.ref b), some (.int p0), some (.int p1), some (.int p2), some (.int p3), some (.int x2), some (.int x3)] [] (L_X1_greatestRule_9 b p0 p1 p2 p3 n x2 x3 ) := by
  intro n
  induction n with
  | zero => intros; exact tl_fail
  | succ n ih =>
    intro x2 x3
    rw [L_X1_greatestRule_9]
    refine tl_iload (pc := 9) (i := 6) dX1_greatestRule_9 rfl ?_
    refine tl_iload_n (pc := 11) (i := 1) dX1_greatestRule_11 rfl rfl ?_
    refine tl_callSi (pc := 12) k_X1_squaresEndOf gw_206 (c_X1_squaresEndOf T _) rfl rfl (Nat.le_of_ble_eq_true rfl) (Nat.le_of_ble_eq_true rfl) dX1_greatestRule_12 (fun x4 => ?_)
    refine tl_icmp_ge (pc := 15) (tgt := 55) dX1_greatestRule_15 rfl ?_ ?_
    · refine tl_iload (pc := 55) (i := 5) dX1_greatestRule_55 rfl ?_
      exact tl_iret (pc := 57) dX1_greatestRule_57
    · refine tl_iload (pc := 18) (i := 6) dX1_greatestRule_18 rfl ?_
      refine tl_iload_n (pc := 20) (i := 2) dX1_greatestRule_20 rfl rfl ?_
      refine tl_callSNi (pc := 21) k_X5_placeOf nm_X1_129 (c_X5_placeOf T _ _) (nx_X5_placeOf _ _) rfl rfl (Nat.le_of_ble_eq_true rfl) (Nat.le_of_ble_eq_true rfl) dX1_greatestRule_21 (fun x5 => ?_)
      refine tl_iload_n (pc := 24) (i := 3) dX1_greatestRule_24 rfl rfl ?_
      refine tl_j (fun (k : Int32 → Dm Int32) => ∀ (x6 : Int32), TL_X1_greatestRule T 49 [some (.ref b), some (.int p0), some (.int p1), some (.int p2), some (.int p3), some (.int x6), some (.int x3)] [] (k x6)) (fun x6 => ?_) (fun k1 hk1 => ?_)
      · refine tl_iinc (pc := 49) (i := 6) (v := x3 + (1 : Int32)) (lo' := [some (.ref b), some (.int p0), some (.int p1), some (.int p2), some (.int p3), some (.int x6), some (.int (x3 + (1 : Int32)))]) dX1_greatestRule_49 rfl rfl (by decide) rfl ?_
        refine tl_goto (pc := 52) (tgt := 9) dX1_greatestRule_52 rfl ?_
        exact tl_sub (ih _ _) (sub_s (sub_s (sub_s (sub_s (sub_s (sub_s (sub_s sub_e)))))))
      · refine tl_icmp_ne (pc := 25) (tgt := 49) dX1_greatestRule_25 rfl ?_ ?_
        · refine tl_iload (pc := 28) (i := 5) dX1_greatestRule_28 rfl ?_
          refine tl_aload_n (pc := 30) (i := 0) dX1_greatestRule_30 rfl rfl ?_
          refine tl_getR (pc := 31) (r := (b + 26)) fl_X1_39 hb.1 rfl dX1_greatestRule_31 ?_
          refine tl_iload (pc := 34) (i := 6) dX1_greatestRule_34 rfl ?_
          refine tl_iconst (pc := 36) (v := 4) dX1_greatestRule_36 (by decide) ?_
          refine tl_imul (pc := 37) dX1_greatestRule_37 ?_
          refine tl_iload (pc := 38) (i := 4) dX1_greatestRule_38 rfl ?_
          refine tl_iadd (pc := 40) dX1_greatestRule_40 ?_
          refine tl_callVi (pc := 41) k_X2_at gw_221 hb.2.2.2.2.2.2.2.1.1 ⟨_, _, rfl⟩ (c_X2_at T _ _ _ hb.2.2.2.2.2.2.2.1) rfl rfl (Nat.le_of_ble_eq_true rfl) (Nat.le_of_ble_eq_true rfl) dX1_greatestRule_41 (fun x7 => ?_)
          refine tl_mmax (pc := 44) gw_242 gw_43 gw_5 gw_44 (Nat.le_of_ble_eq_true rfl) (Nat.le_of_ble_eq_true rfl) dX1_greatestRule_44 ?_
          refine tl_bI (fun x8 => ?_)
          refine tl_istore (pc := 47) (i := 5) (lo' := [some (.ref b), some (.int p0), some (.int p1), some (.int p2), some (.int p3), some (.int x8), some (.int x3)]) dX1_greatestRule_47 (by decide) rfl ?_
          exact tl_sub (hk1 _) (sub_s (sub_s (sub_s (sub_s (sub_s (sub_s (sub_s sub_e)))))))
        · exact tl_sub (hk1 _) (sub_s (sub_s (sub_s (sub_s (sub_s (sub_s (sub_s sub_e)))))))
set_option maxRecDepth 100000 in
theorem c_X1_greatestRule (T : Tb) (b : Nat) (p0 : Int32) (p1 : Int32) (p2 : Int32) (p3 : Int32) (hb : isLay T b) : CT (.code yX1_greatestRule cX1_greatestRule 7 (some .int)) yX1_greatestRule 1 iI T [.ref b, .int p0, .int p1, .int p2, .int p3] (F_X1_greatestRule b p0 p1 p2 p3) := by
  refine ct_of (lo := [some (.ref b), some (.int p0), some (.int p1), some (.int p2), some (.int p3), none, none]) (j := 2) k_X1_greatestRule.1 rfl (fun _ => Nat.le_of_ble_eq_true rfl) ?_
  show TL_X1_greatestRule T 0 _ _ _
  rw [F_X1_greatestRule]
  refine tl_iconst (pc := 0) (v := 0) dX1_greatestRule_0 (by decide) ?_
  refine tl_istore (pc := 1) (i := 5) (lo' := [some (.ref b), some (.int p0), some (.int p1), some (.int p2), some (.int p3), some (.int (0 : Int32)), none]) dX1_greatestRule_1 (by decide) rfl ?_
  refine tl_iload_n (pc := 3) (i := 1) dX1_greatestRule_3 rfl rfl ?_
  refine tl_bipush (pc := 4) (v := 25) dX1_greatestRule_4 (by decide) ?_
  refine tl_imul (pc := 6) dX1_greatestRule_6 ?_
  refine tl_bI (fun x1 => ?_)
  refine tl_istore (pc := 7) (i := 6) (lo' := [some (.ref b), some (.int p0), some (.int p1), some (.int p2), some (.int p3), some (.int (0 : Int32)), some (.int x1)]) dX1_greatestRule_7 (by decide) rfl ?_
  refine tl_sub (lp_X1_greatestRule_9 T b p0 p1 p2 p3 hb    FU _ _) (sub_s (sub_s (sub_s (sub_s (sub_s (sub_s (sub_s sub_e)))))))
abbrev TL_X1_borderRule (T : Tb) (pc : Nat) (lo : List (Option Value)) (st : List Value) (X : Dm Int32) : Prop := TL yX1_borderRule cX1_borderRule 5 (some .int) 2 iI T pc lo st X
set_option maxRecDepth 100000 in
theorem c_X1_borderRule (T : Tb) (b : Nat) (p0 : Int32) (p1 : Int32) (hb : isLay T b) : CT (.code yX1_borderRule cX1_borderRule 5 (some .int)) yX1_borderRule 2 iI T [.ref b, .int p0, .int p1] (F_X1_borderRule b p0 p1) := by
  refine ct_of (lo := [some (.ref b), some (.int p0), some (.int p1), none, none]) (j := 2) k_X1_borderRule.1 rfl (fun _ => Nat.le_of_ble_eq_true rfl) ?_
  show TL_X1_borderRule T 0 _ _ _
  rw [F_X1_borderRule]
  refine tl_iload_n (pc := 0) (i := 2) dX1_borderRule_0 rfl rfl ?_
  refine tl_j (fun (k : Int32 → Dm Int32) => ∀ (x1 : Int32), TL_X1_borderRule T 14 [some (.ref b), some (.int p0), some (.int p1), none, none] [.int x1] (k x1)) (fun x1 => ?_) (fun k1 hk1 => ?_)
  · refine tl_istore_n (pc := 14) (i := 3) (lo' := [some (.ref b), some (.int p0), some (.int p1), some (.int x1), none]) dX1_borderRule_14 rfl (by decide) rfl ?_
    refine tl_iload_n (pc := 15) (i := 2) dX1_borderRule_15 rfl rfl ?_
    refine tl_j (fun (k : Int32 → Dm Int32) => ∀ (x2 : Int32), TL_X1_borderRule T 39 [some (.ref b), some (.int p0), some (.int p1), some (.int x1), none] [.int x2] (k x2)) (fun x2 => ?_) (fun k2 hk2 => ?_)
    · refine tl_istore (pc := 39) (i := 4) (lo' := [some (.ref b), some (.int p0), some (.int p1), some (.int x1), some (.int x2)]) dX1_borderRule_39 (by decide) rfl ?_
      refine tl_aload_n (pc := 41) (i := 0) dX1_borderRule_41 rfl rfl ?_
      refine tl_iload_n (pc := 42) (i := 1) dX1_borderRule_42 rfl rfl ?_
      refine tl_iload_n (pc := 43) (i := 3) dX1_borderRule_43 rfl rfl ?_
      refine tl_iload (pc := 44) (i := 4) dX1_borderRule_44 rfl ?_
      refine tl_iload_n (pc := 46) (i := 2) dX1_borderRule_46 rfl rfl ?_
      refine tl_callVi (pc := 47) k_X1_greatestRule gw_263 hb.1 ⟨_, _, rfl⟩ (c_X1_greatestRule T _ _ _ _ _ hb) rfl rfl (Nat.le_of_ble_eq_true rfl) (Nat.le_of_ble_eq_true rfl) dX1_borderRule_47 (fun x3 => ?_)
      exact tl_iret (pc := 50) dX1_borderRule_50
    · refine tl_j (fun (k : Unit → Dm Int32) => ∀ (_ : Unit), TL_X1_borderRule T 24 [some (.ref b), some (.int p0), some (.int p1), some (.int x1), none] [] (k ())) (fun _ => ?_) (fun k3 hk3 => ?_)
      · refine tl_iconst (pc := 24) (v := 0) dX1_borderRule_24 (by decide) ?_
        refine tl_goto (pc := 25) (tgt := 39) dX1_borderRule_25 rfl ?_
        exact tl_sub (hk2 _) (sub_s (sub_s (sub_s (sub_s (sub_n sub_e)))))
      · refine tl_if_eq (pc := 16) (tgt := 24) dX1_borderRule_16 rfl ?_ ?_
        · exact tl_sub (hk3 ()) (sub_s (sub_s (sub_s (sub_s (sub_n sub_e)))))
        · refine tl_iload_n (pc := 19) (i := 2) dX1_borderRule_19 rfl rfl ?_
          refine tl_iconst (pc := 20) (v := 3) dX1_borderRule_20 (by decide) ?_
          refine tl_icmp_ne (pc := 21) (tgt := 28) dX1_borderRule_21 rfl ?_ ?_
          · exact tl_sub (hk3 ()) (sub_s (sub_s (sub_s (sub_s (sub_n sub_e)))))
          · refine tl_aload_n (pc := 28) (i := 0) dX1_borderRule_28 rfl rfl ?_
            refine tl_getR (pc := 29) (r := (b + 1)) fl_X1_12 hb.1 rfl dX1_borderRule_29 ?_
            refine tl_iload_n (pc := 32) (i := 1) dX1_borderRule_32 rfl rfl ?_
            refine tl_iload_n (pc := 33) (i := 3) dX1_borderRule_33 rfl rfl ?_
            refine tl_callVi (pc := 34) k_X4_linesOf gw_259 hb.2.1.1 ⟨_, _, rfl⟩ (c_X4_linesOf T _ _ _ hb.2.1) rfl rfl (Nat.le_of_ble_eq_true rfl) (Nat.le_of_ble_eq_true rfl) dX1_borderRule_34 (fun x4 => ?_)
            refine tl_iconst (pc := 37) (v := 1) dX1_borderRule_37 (by decide) ?_
            refine tl_isub (pc := 38) dX1_borderRule_38 ?_
            exact tl_sub (hk2 _) (sub_s (sub_s (sub_s (sub_s (sub_n sub_e)))))
  · refine tl_j (fun (k : Unit → Dm Int32) => ∀ (_ : Unit), TL_X1_borderRule T 9 [some (.ref b), some (.int p0), some (.int p1), none, none] [] (k ())) (fun _ => ?_) (fun k4 hk4 => ?_)
    · refine tl_iconst (pc := 9) (v := 1) dX1_borderRule_9 (by decide) ?_
      refine tl_goto (pc := 10) (tgt := 14) dX1_borderRule_10 rfl ?_
      exact tl_sub (hk1 _) (sub_s (sub_s (sub_s (sub_n (sub_n sub_e)))))
    · refine tl_if_eq (pc := 1) (tgt := 9) dX1_borderRule_1 rfl ?_ ?_
      · exact tl_sub (hk4 ()) (sub_s (sub_s (sub_s (sub_n (sub_n sub_e)))))
      · refine tl_iload_n (pc := 4) (i := 2) dX1_borderRule_4 rfl rfl ?_
        refine tl_iconst (pc := 5) (v := 2) dX1_borderRule_5 (by decide) ?_
        refine tl_icmp_ne (pc := 6) (tgt := 13) dX1_borderRule_6 rfl ?_ ?_
        · exact tl_sub (hk4 ()) (sub_s (sub_s (sub_s (sub_n (sub_n sub_e)))))
        · refine tl_iconst (pc := 13) (v := 0) dX1_borderRule_13 (by decide) ?_
          exact tl_sub (hk1 _) (sub_s (sub_s (sub_s (sub_n (sub_n sub_e)))))
abbrev TL_X1_ruleCells (T : Tb) (pc : Nat) (lo : List (Option Value)) (st : List Value) (X : Dm Unit) : Prop := TL yX1_ruleCells cX1_ruleCells 7 none 3 vI T pc lo st X
set_option maxRecDepth 100000 in
theorem lp_X1_ruleCells_40 (T : Tb) (b : Nat) (p0 : Int32) (x2 : Int32) (x5 : Int32) (hb : isLay T b)  (k2 : Unit → Dm Unit) (hk2 : ∀ (_ : Unit), TL_X1_ruleCells T 104 [some (.ref b), some (.int p0), some (.int x2), none, none, none, none] [] (k2 ())) : ∀ (n : Nat) (x6 : Int32), TL_X1_ruleCells T 40 [some (.ref b), some (.int p0), some (.int x2), some (.int x5), some (.int x6), none, none] [] (L_X1_ruleCells_40 b x2 x5 n x6 k2) := by
  intro n
  induction n with
  | zero => intros; exact tl_fail
  | succ n ih =>
    intro x6
    rw [L_X1_ruleCells_40]
    refine tl_iload (pc := 40) (i := 4) dX1_ruleCells_40 rfl ?_
    refine tl_iconst (pc := 42) (v := 4) dX1_ruleCells_42 (by decide) ?_
    refine tl_icmp_ge (pc := 43) (tgt := 104) dX1_ruleCells_43 rfl ?_ ?_
    · exact tl_sub (hk2 ()) (sub_s (sub_s (sub_s (sub_n (sub_n (sub_n (sub_n sub_e)))))))
    · refine tl_iload_n (pc := 46) (i := 2) dX1_ruleCells_46 rfl rfl ?_
      refine tl_iconst (pc := 47) (v := 4) dX1_ruleCells_47 (by decide) ?_
      refine tl_imul (pc := 48) dX1_ruleCells_48 ?_
      refine tl_iload (pc := 49) (i := 4) dX1_ruleCells_49 rfl ?_
      refine tl_iadd (pc := 51) dX1_ruleCells_51 ?_
      refine tl_bI (fun x7 => ?_)
      refine tl_istore (pc := 52) (i := 5) (lo' := [some (.ref b), some (.int p0), some (.int x2), some (.int x5), some (.int x6), some (.int x7), none]) dX1_ruleCells_52 (by decide) rfl ?_
      refine tl_iload_n (pc := 54) (i := 3) dX1_ruleCells_54 rfl rfl ?_
      refine tl_iconst (pc := 55) (v := -1) dX1_ruleCells_55 (by decide) ?_
      refine tl_j (fun (k : Int32 → Dm Unit) => ∀ (x8 : Int32), TL_X1_ruleCells T 70 [some (.ref b), some (.int p0), some (.int x2), some (.int x5), some (.int x6), some (.int x7), none] [.int x8] (k x8)) (fun x8 => ?_) (fun k3 hk3 => ?_)
      · refine tl_istore (pc := 70) (i := 6) (lo' := [some (.ref b), some (.int p0), some (.int x2), some (.int x5), some (.int x6), some (.int x7), some (.int x8)]) dX1_ruleCells_70 (by decide) rfl ?_
        refine tl_aload_n (pc := 72) (i := 0) dX1_ruleCells_72 rfl rfl ?_
        refine tl_getR (pc := 73) (r := (b + 24)) fl_X1_36 hb.1 rfl dX1_ruleCells_73 ?_
        refine tl_iload (pc := 76) (i := 5) dX1_ruleCells_76 rfl ?_
        refine tl_aload_n (pc := 78) (i := 0) dX1_ruleCells_78 rfl rfl ?_
        refine tl_getR (pc := 79) (r := (b + 1)) fl_X1_12 hb.1 rfl dX1_ruleCells_79 ?_
        refine tl_getR (pc := 82) (r := ((b + 1) + 13)) fl_X1_147 hb.2.1.1 rfl dX1_ruleCells_82 ?_
        refine tl_iload (pc := 85) (i := 5) dX1_ruleCells_85 rfl ?_
        refine tl_callVi (pc := 87) k_X2_at gw_221 hb.2.1.2.2.2.2.2.2.2.1 ⟨_, _, rfl⟩ (c_X2_at T _ _ _ hb.2.1.2.2.2.2.2.2.2) rfl rfl (Nat.le_of_ble_eq_true rfl) (Nat.le_of_ble_eq_true rfl) dX1_ruleCells_87 (fun x9 => ?_)
        refine tl_iload (pc := 90) (i := 6) dX1_ruleCells_90 rfl ?_
        refine tl_mmax (pc := 92) gw_242 gw_43 gw_5 gw_44 (Nat.le_of_ble_eq_true rfl) (Nat.le_of_ble_eq_true rfl) dX1_ruleCells_92 ?_
        refine tl_callVv (pc := 95) k_X2_store gw_222 hb.2.2.2.2.2.2.1.1 ⟨_, _, rfl⟩ (c_X2_store T _ _ _ _ hb.2.2.2.2.2.2.1) rfl rfl (Nat.le_of_ble_eq_true rfl) (Nat.le_of_ble_eq_true rfl) dX1_ruleCells_95 (fun _ => ?_)
        refine tl_iinc (pc := 98) (i := 4) (v := x6 + (1 : Int32)) (lo' := [some (.ref b), some (.int p0), some (.int x2), some (.int x5), some (.int (x6 + (1 : Int32))), some (.int x7), some (.int x8)]) dX1_ruleCells_98 rfl rfl (by decide) rfl ?_
        refine tl_goto (pc := 101) (tgt := 40) dX1_ruleCells_101 rfl ?_
        exact tl_sub (ih _) (sub_s (sub_s (sub_s (sub_s (sub_s (sub_n (sub_n sub_e)))))))
      · refine tl_icmp_ne (pc := 56) (tgt := 63) dX1_ruleCells_56 rfl ?_ ?_
        · refine tl_iconst (pc := 59) (v := 0) dX1_ruleCells_59 (by decide) ?_
          refine tl_goto (pc := 60) (tgt := 70) dX1_ruleCells_60 rfl ?_
          exact tl_sub (hk3 _) (sub_s (sub_s (sub_s (sub_s (sub_s (sub_s (sub_n sub_e)))))))
        · refine tl_aload_n (pc := 63) (i := 0) dX1_ruleCells_63 rfl rfl ?_
          refine tl_iload_n (pc := 64) (i := 3) dX1_ruleCells_64 rfl rfl ?_
          refine tl_iload (pc := 65) (i := 4) dX1_ruleCells_65 rfl ?_
          refine tl_callVi (pc := 67) k_X1_borderRule gw_255 hb.1 ⟨_, _, rfl⟩ (c_X1_borderRule T _ _ _ hb) rfl rfl (Nat.le_of_ble_eq_true rfl) (Nat.le_of_ble_eq_true rfl) dX1_ruleCells_67 (fun x10 => ?_)
          exact tl_sub (hk3 _) (sub_s (sub_s (sub_s (sub_s (sub_s (sub_s (sub_n sub_e)))))))
set_option maxRecDepth 100000 in
theorem lp_X1_ruleCells_5 (T : Tb) (b : Nat) (p0 : Int32)  (hb : isLay T b)    : ∀ (n : Nat) (x2 : Int32), TL_X1_ruleCells T 5 [some (.ref b), some (.int p0), some (.int x2), none, none, none, none] [] (L_X1_ruleCells_5 b p0 n x2 ) := by
  intro n
  induction n with
  | zero => intros; exact tl_fail
  | succ n ih =>
    intro x2
    rw [L_X1_ruleCells_5]
    refine tl_iload_n (pc := 5) (i := 2) dX1_ruleCells_5 rfl rfl ?_
    refine tl_iload_n (pc := 6) (i := 1) dX1_ruleCells_6 rfl rfl ?_
    refine tl_callSi (pc := 7) k_X1_squaresEndOf gw_206 (c_X1_squaresEndOf T _) rfl rfl (Nat.le_of_ble_eq_true rfl) (Nat.le_of_ble_eq_true rfl) dX1_ruleCells_7 (fun x3 => ?_)
    refine tl_icmp_ge (pc := 10) (tgt := 110) dX1_ruleCells_10 rfl ?_ ?_
    · exact tl_vret (pc := 110) dX1_ruleCells_110
    · refine tl_aload_n (pc := 13) (i := 0) dX1_ruleCells_13 rfl rfl ?_
      refine tl_getR (pc := 14) (r := (b + 1)) fl_X1_12 hb.1 rfl dX1_ruleCells_14 ?_
      refine tl_iload_n (pc := 17) (i := 2) dX1_ruleCells_17 rfl rfl ?_
      refine tl_callVi (pc := 18) k_X4_isCell gw_209 hb.2.1.1 ⟨_, _, rfl⟩ (c_X4_isCell T _ _ hb.2.1) rfl rfl (Nat.le_of_ble_eq_true rfl) (Nat.le_of_ble_eq_true rfl) dX1_ruleCells_18 (fun x4 => ?_)
      refine tl_j (fun (k : Int32 → Dm Unit) => ∀ (x5 : Int32), TL_X1_ruleCells T 36 [some (.ref b), some (.int p0), some (.int x2), none, none, none, none] [.int x5] (k x5)) (fun x5 => ?_) (fun k1 hk1 => ?_)
      · refine tl_istore_n (pc := 36) (i := 3) (lo' := [some (.ref b), some (.int p0), some (.int x2), some (.int x5), none, none, none]) dX1_ruleCells_36 rfl (by decide) rfl ?_
        refine tl_iconst (pc := 37) (v := 0) dX1_ruleCells_37 (by decide) ?_
        refine tl_istore (pc := 38) (i := 4) (lo' := [some (.ref b), some (.int p0), some (.int x2), some (.int x5), some (.int (0 : Int32)), none, none]) dX1_ruleCells_38 (by decide) rfl ?_
        refine tl_sub (lp_X1_ruleCells_40 T b p0 x2 x5 hb  _ (fun _ => ?_) FU _) (sub_s (sub_s (sub_s (sub_s (sub_s (sub_n (sub_n sub_e)))))))
        refine tl_iinc (pc := 104) (i := 2) (v := x2 + (1 : Int32)) (lo' := [some (.ref b), some (.int p0), some (.int (x2 + (1 : Int32))), none, none, none, none]) dX1_ruleCells_104 rfl rfl (by decide) rfl ?_
        refine tl_goto (pc := 107) (tgt := 5) dX1_ruleCells_107 rfl ?_
        exact tl_sub (ih _) (sub_s (sub_s (sub_s (sub_n (sub_n (sub_n (sub_n sub_e)))))))
      · refine tl_if_eq (pc := 21) (tgt := 35) dX1_ruleCells_21 rfl ?_ ?_
        · refine tl_iconst (pc := 35) (v := -1) dX1_ruleCells_35 (by decide) ?_
          exact tl_sub (hk1 _) (sub_s (sub_s (sub_s (sub_n (sub_n (sub_n (sub_n sub_e)))))))
        · refine tl_aload_n (pc := 24) (i := 0) dX1_ruleCells_24 rfl rfl ?_
          refine tl_getR (pc := 25) (r := (b + 1)) fl_X1_12 hb.1 rfl dX1_ruleCells_25 ?_
          refine tl_iload_n (pc := 28) (i := 2) dX1_ruleCells_28 rfl rfl ?_
          refine tl_callVi (pc := 29) k_X4_tableWithin gw_251 hb.2.1.1 ⟨_, _, rfl⟩ (c_X4_tableWithin T _ _ hb.2.1) rfl rfl (Nat.le_of_ble_eq_true rfl) (Nat.le_of_ble_eq_true rfl) dX1_ruleCells_29 (fun x11 => ?_)
          refine tl_goto (pc := 32) (tgt := 36) dX1_ruleCells_32 rfl ?_
          exact tl_sub (hk1 _) (sub_s (sub_s (sub_s (sub_n (sub_n (sub_n (sub_n sub_e)))))))
set_option maxRecDepth 100000 in
theorem c_X1_ruleCells (T : Tb) (b : Nat) (p0 : Int32) (hb : isLay T b) : CT (.code yX1_ruleCells cX1_ruleCells 7 none) yX1_ruleCells 3 vI T [.ref b, .int p0] (F_X1_ruleCells b p0) := by
  refine ct_of (lo := [some (.ref b), some (.int p0), none, none, none, none, none]) (j := 5) k_X1_ruleCells.1 rfl (fun _ => Nat.le_of_ble_eq_true rfl) ?_
  show TL_X1_ruleCells T 0 _ _ _
  rw [F_X1_ruleCells]
  refine tl_iload_n (pc := 0) (i := 1) dX1_ruleCells_0 rfl rfl ?_
  refine tl_bipush (pc := 1) (v := 25) dX1_ruleCells_1 (by decide) ?_
  refine tl_imul (pc := 3) dX1_ruleCells_3 ?_
  refine tl_bI (fun x1 => ?_)
  refine tl_istore_n (pc := 4) (i := 2) (lo' := [some (.ref b), some (.int p0), some (.int x1), none, none, none, none]) dX1_ruleCells_4 rfl (by decide) rfl ?_
  refine tl_sub (lp_X1_ruleCells_5 T b p0 hb    FU _) (sub_s (sub_s (sub_s (sub_n (sub_n (sub_n (sub_n sub_e)))))))
abbrev TL_X1_edgeRule (T : Tb) (pc : Nat) (lo : List (Option Value)) (st : List Value) (X : Dm Int32) : Prop := TL yX1_edgeRule cX1_edgeRule 7 (some .int) 2 iI T pc lo st X
set_option maxRecDepth 100000 in
theorem c_X1_edgeRule (T : Tb) (b : Nat) (p0 : Int32) (p1 : Int32) (hb : isLay T b) : CT (.code yX1_edgeRule cX1_edgeRule 7 (some .int)) yX1_edgeRule 2 iI T [.ref b, .int p0, .int p1] (F_X1_edgeRule b p0 p1) := by
  refine ct_of (lo := [some (.ref b), some (.int p0), some (.int p1), none, none, none, none]) (j := 4) k_X1_edgeRule.1 rfl (fun _ => Nat.le_of_ble_eq_true rfl) ?_
  show TL_X1_edgeRule T 0 _ _ _
  rw [F_X1_edgeRule]
  refine tl_aload_n (pc := 0) (i := 0) dX1_edgeRule_0 rfl rfl ?_
  refine tl_getR (pc := 1) (r := (b + 1)) fl_X1_12 hb.1 rfl dX1_edgeRule_1 ?_
  refine tl_getR (pc := 4) (r := ((b + 1) + 5)) fl_X1_158 hb.2.1.1 rfl dX1_edgeRule_4 ?_
  refine tl_iload_n (pc := 7) (i := 1) dX1_edgeRule_7 rfl rfl ?_
  refine tl_callVi (pc := 8) k_X2_at gw_221 hb.2.1.2.2.2.1.1 ⟨_, _, rfl⟩ (c_X2_at T _ _ _ hb.2.1.2.2.2.1) rfl rfl (Nat.le_of_ble_eq_true rfl) (Nat.le_of_ble_eq_true rfl) dX1_edgeRule_8 (fun x1 => ?_)
  refine tl_istore_n (pc := 11) (i := 3) (lo' := [some (.ref b), some (.int p0), some (.int p1), some (.int x1), none, none, none]) dX1_edgeRule_11 rfl (by decide) rfl ?_
  refine tl_iload_n (pc := 12) (i := 3) dX1_edgeRule_12 rfl rfl ?_
  refine tl_iconst (pc := 13) (v := -1) dX1_edgeRule_13 (by decide) ?_
  refine tl_icmp_ne (pc := 14) (tgt := 19) dX1_edgeRule_14 rfl ?_ ?_
  · refine tl_iconst (pc := 17) (v := 0) dX1_edgeRule_17 (by decide) ?_
    exact tl_iret (pc := 18) dX1_edgeRule_18
  · refine tl_aload_n (pc := 19) (i := 0) dX1_edgeRule_19 rfl rfl ?_
    refine tl_getR (pc := 20) (r := (b + 24)) fl_X1_36 hb.1 rfl dX1_edgeRule_20 ?_
    refine tl_iload_n (pc := 23) (i := 3) dX1_edgeRule_23 rfl rfl ?_
    refine tl_iconst (pc := 24) (v := 4) dX1_edgeRule_24 (by decide) ?_
    refine tl_imul (pc := 25) dX1_edgeRule_25 ?_
    refine tl_iload_n (pc := 26) (i := 2) dX1_edgeRule_26 rfl rfl ?_
    refine tl_iadd (pc := 27) dX1_edgeRule_27 ?_
    refine tl_callVi (pc := 28) k_X2_at gw_221 hb.2.2.2.2.2.2.1.1 ⟨_, _, rfl⟩ (c_X2_at T _ _ _ hb.2.2.2.2.2.2.1) rfl rfl (Nat.le_of_ble_eq_true rfl) (Nat.le_of_ble_eq_true rfl) dX1_edgeRule_28 (fun x2 => ?_)
    refine tl_istore (pc := 31) (i := 4) (lo' := [some (.ref b), some (.int p0), some (.int p1), some (.int x1), some (.int x2), none, none]) dX1_edgeRule_31 (by decide) rfl ?_
    refine tl_aload_n (pc := 33) (i := 0) dX1_edgeRule_33 rfl rfl ?_
    refine tl_getR (pc := 34) (r := (b + 1)) fl_X1_12 hb.1 rfl dX1_edgeRule_34 ?_
    refine tl_iload_n (pc := 37) (i := 1) dX1_edgeRule_37 rfl rfl ?_
    refine tl_iload_n (pc := 38) (i := 2) dX1_edgeRule_38 rfl rfl ?_
    refine tl_callVi (pc := 39) k_X4_ownerBeside gw_275 hb.2.1.1 ⟨_, _, rfl⟩ (c_X4_ownerBeside T _ _ _ hb.2.1) rfl rfl (Nat.le_of_ble_eq_true rfl) (Nat.le_of_ble_eq_true rfl) dX1_edgeRule_39 (fun x3 => ?_)
    refine tl_istore (pc := 42) (i := 5) (lo' := [some (.ref b), some (.int p0), some (.int p1), some (.int x1), some (.int x2), some (.int x3), none]) dX1_edgeRule_42 (by decide) rfl ?_
    refine tl_iload (pc := 44) (i := 5) dX1_edgeRule_44 rfl ?_
    refine tl_iconst (pc := 46) (v := -1) dX1_edgeRule_46 (by decide) ?_
    refine tl_icmp_ne (pc := 47) (tgt := 53) dX1_edgeRule_47 rfl ?_ ?_
    · refine tl_iload (pc := 50) (i := 4) dX1_edgeRule_50 rfl ?_
      exact tl_iret (pc := 52) dX1_edgeRule_52
    · refine tl_iload_n (pc := 53) (i := 2) dX1_edgeRule_53 rfl rfl ?_
      refine tl_iconst (pc := 54) (v := 2) dX1_edgeRule_54 (by decide) ?_
      refine tl_iadd (pc := 55) dX1_edgeRule_55 ?_
      refine tl_iconst (pc := 56) (v := 4) dX1_edgeRule_56 (by decide) ?_
      refine tl_irem (pc := 57) dX1_edgeRule_57 (by decide) ?_
      refine tl_bI (fun x4 => ?_)
      refine tl_istore (pc := 58) (i := 6) (lo' := [some (.ref b), some (.int p0), some (.int p1), some (.int x1), some (.int x2), some (.int x3), some (.int x4)]) dX1_edgeRule_58 (by decide) rfl ?_
      refine tl_iload (pc := 60) (i := 5) dX1_edgeRule_60 rfl ?_
      refine tl_iload_n (pc := 62) (i := 3) dX1_edgeRule_62 rfl rfl ?_
      refine tl_icmp_ne (pc := 63) (tgt := 70) dX1_edgeRule_63 rfl ?_ ?_
      · refine tl_iconst (pc := 66) (v := 0) dX1_edgeRule_66 (by decide) ?_
        refine tl_goto (pc := 67) (tgt := 89) dX1_edgeRule_67 rfl ?_
        exact tl_iret (pc := 89) dX1_edgeRule_89
      · refine tl_iload (pc := 70) (i := 4) dX1_edgeRule_70 rfl ?_
        refine tl_aload_n (pc := 72) (i := 0) dX1_edgeRule_72 rfl rfl ?_
        refine tl_getR (pc := 73) (r := (b + 24)) fl_X1_36 hb.1 rfl dX1_edgeRule_73 ?_
        refine tl_iload (pc := 76) (i := 5) dX1_edgeRule_76 rfl ?_
        refine tl_iconst (pc := 78) (v := 4) dX1_edgeRule_78 (by decide) ?_
        refine tl_imul (pc := 79) dX1_edgeRule_79 ?_
        refine tl_iload (pc := 80) (i := 6) dX1_edgeRule_80 rfl ?_
        refine tl_iadd (pc := 82) dX1_edgeRule_82 ?_
        refine tl_callVi (pc := 83) k_X2_at gw_221 hb.2.2.2.2.2.2.1.1 ⟨_, _, rfl⟩ (c_X2_at T _ _ _ hb.2.2.2.2.2.2.1) rfl rfl (Nat.le_of_ble_eq_true rfl) (Nat.le_of_ble_eq_true rfl) dX1_edgeRule_83 (fun x5 => ?_)
        refine tl_mmax (pc := 86) gw_242 gw_43 gw_5 gw_44 (Nat.le_of_ble_eq_true rfl) (Nat.le_of_ble_eq_true rfl) dX1_edgeRule_86 ?_
        exact tl_iret (pc := 89) dX1_edgeRule_89
abbrev TL_X1_ruleEdges (T : Tb) (pc : Nat) (lo : List (Option Value)) (st : List Value) (X : Dm Unit) : Prop := TL yX1_ruleEdges cX1_ruleEdges 4 none 3 vI T pc lo st X
set_option maxRecDepth 100000 in
theorem lp_X1_ruleEdges_15 (T : Tb) (b : Nat) (p0 : Int32) (x2 : Int32) (hb : isLay T b)  (k1 : Unit → Dm Unit) (hk1 : ∀ (_ : Unit), TL_X1_ruleEdges T 44 [some (.ref b), some (.int p0), some (.int x2), none] [] (k1 ())) : ∀ (n : Nat) (x4 : Int32), TL_X1_ruleEdges T 15 [some (.ref b), some (.int p0), some (.int x2), some (.int x4)] [] (L_X1_ruleEdges_15 b x2 n x4 k1) := by
  intro n
  induction n with
  | zero => intros; exact tl_fail
  | succ n ih =>
    intro x4
    rw [L_X1_ruleEdges_15]
    refine tl_iload_n (pc := 15) (i := 3) dX1_ruleEdges_15 rfl rfl ?_
    refine tl_iconst (pc := 16) (v := 4) dX1_ruleEdges_16 (by decide) ?_
    refine tl_icmp_ge (pc := 17) (tgt := 44) dX1_ruleEdges_17 rfl ?_ ?_
    · exact tl_sub (hk1 ()) (sub_s (sub_s (sub_s (sub_n sub_e))))
    · refine tl_aload_n (pc := 20) (i := 0) dX1_ruleEdges_20 rfl rfl ?_
      refine tl_getR (pc := 21) (r := (b + 26)) fl_X1_39 hb.1 rfl dX1_ruleEdges_21 ?_
      refine tl_iload_n (pc := 24) (i := 2) dX1_ruleEdges_24 rfl rfl ?_
      refine tl_iconst (pc := 25) (v := 4) dX1_ruleEdges_25 (by decide) ?_
      refine tl_imul (pc := 26) dX1_ruleEdges_26 ?_
      refine tl_iload_n (pc := 27) (i := 3) dX1_ruleEdges_27 rfl rfl ?_
      refine tl_iadd (pc := 28) dX1_ruleEdges_28 ?_
      refine tl_aload_n (pc := 29) (i := 0) dX1_ruleEdges_29 rfl rfl ?_
      refine tl_iload_n (pc := 30) (i := 2) dX1_ruleEdges_30 rfl rfl ?_
      refine tl_iload_n (pc := 31) (i := 3) dX1_ruleEdges_31 rfl rfl ?_
      refine tl_callVi (pc := 32) k_X1_edgeRule gw_271 hb.1 ⟨_, _, rfl⟩ (c_X1_edgeRule T _ _ _ hb) rfl rfl (Nat.le_of_ble_eq_true rfl) (Nat.le_of_ble_eq_true rfl) dX1_ruleEdges_32 (fun x5 => ?_)
      refine tl_callVv (pc := 35) k_X2_store gw_222 hb.2.2.2.2.2.2.2.1.1 ⟨_, _, rfl⟩ (c_X2_store T _ _ _ _ hb.2.2.2.2.2.2.2.1) rfl rfl (Nat.le_of_ble_eq_true rfl) (Nat.le_of_ble_eq_true rfl) dX1_ruleEdges_35 (fun _ => ?_)
      refine tl_iinc (pc := 38) (i := 3) (v := x4 + (1 : Int32)) (lo' := [some (.ref b), some (.int p0), some (.int x2), some (.int (x4 + (1 : Int32)))]) dX1_ruleEdges_38 rfl rfl (by decide) rfl ?_
      refine tl_goto (pc := 41) (tgt := 15) dX1_ruleEdges_41 rfl ?_
      exact tl_sub (ih _) (sub_s (sub_s (sub_s (sub_s sub_e))))
set_option maxRecDepth 100000 in
theorem lp_X1_ruleEdges_5 (T : Tb) (b : Nat) (p0 : Int32)  (hb : isLay T b)    : ∀ (n : Nat) (x2 : Int32), TL_X1_ruleEdges T 5 [some (.ref b), some (.int p0), some (.int x2), none] [] (L_X1_ruleEdges_5 b p0 n x2 ) := by
  intro n
  induction n with
  | zero => intros; exact tl_fail
  | succ n ih =>
    intro x2
    rw [L_X1_ruleEdges_5]
    refine tl_iload_n (pc := 5) (i := 2) dX1_ruleEdges_5 rfl rfl ?_
    refine tl_iload_n (pc := 6) (i := 1) dX1_ruleEdges_6 rfl rfl ?_
    refine tl_callSi (pc := 7) k_X1_squaresEndOf gw_206 (c_X1_squaresEndOf T _) rfl rfl (Nat.le_of_ble_eq_true rfl) (Nat.le_of_ble_eq_true rfl) dX1_ruleEdges_7 (fun x3 => ?_)
    refine tl_icmp_ge (pc := 10) (tgt := 50) dX1_ruleEdges_10 rfl ?_ ?_
    · exact tl_vret (pc := 50) dX1_ruleEdges_50
    · refine tl_iconst (pc := 13) (v := 0) dX1_ruleEdges_13 (by decide) ?_
      refine tl_istore_n (pc := 14) (i := 3) (lo' := [some (.ref b), some (.int p0), some (.int x2), some (.int (0 : Int32))]) dX1_ruleEdges_14 rfl (by decide) rfl ?_
      refine tl_sub (lp_X1_ruleEdges_15 T b p0 x2 hb  _ (fun _ => ?_) FU _) (sub_s (sub_s (sub_s (sub_s sub_e))))
      refine tl_iinc (pc := 44) (i := 2) (v := x2 + (1 : Int32)) (lo' := [some (.ref b), some (.int p0), some (.int (x2 + (1 : Int32))), none]) dX1_ruleEdges_44 rfl rfl (by decide) rfl ?_
      refine tl_goto (pc := 47) (tgt := 5) dX1_ruleEdges_47 rfl ?_
      exact tl_sub (ih _) (sub_s (sub_s (sub_s (sub_n sub_e))))
set_option maxRecDepth 100000 in
theorem c_X1_ruleEdges (T : Tb) (b : Nat) (p0 : Int32) (hb : isLay T b) : CT (.code yX1_ruleEdges cX1_ruleEdges 4 none) yX1_ruleEdges 3 vI T [.ref b, .int p0] (F_X1_ruleEdges b p0) := by
  refine ct_of (lo := [some (.ref b), some (.int p0), none, none]) (j := 2) k_X1_ruleEdges.1 rfl (fun _ => Nat.le_of_ble_eq_true rfl) ?_
  show TL_X1_ruleEdges T 0 _ _ _
  rw [F_X1_ruleEdges]
  refine tl_iload_n (pc := 0) (i := 1) dX1_ruleEdges_0 rfl rfl ?_
  refine tl_bipush (pc := 1) (v := 25) dX1_ruleEdges_1 (by decide) ?_
  refine tl_imul (pc := 3) dX1_ruleEdges_3 ?_
  refine tl_bI (fun x1 => ?_)
  refine tl_istore_n (pc := 4) (i := 2) (lo' := [some (.ref b), some (.int p0), some (.int x1), none]) dX1_ruleEdges_4 rfl (by decide) rfl ?_
  refine tl_sub (lp_X1_ruleEdges_5 T b p0 hb    FU _) (sub_s (sub_s (sub_s (sub_n sub_e))))
abbrev TL_X1_wantOf (T : Tb) (pc : Nat) (lo : List (Option Value)) (st : List Value) (X : Dm Int32) : Prop := TL yX1_wantOf cX1_wantOf 4 (some .int) 1 iI T pc lo st X
set_option maxRecDepth 100000 in
theorem c_X1_wantOf (T : Tb) (b : Nat) (p0 : Int32) (p1 : Int32) (hb : isLay T b) : CT (.code yX1_wantOf cX1_wantOf 4 (some .int)) yX1_wantOf 1 iI T [.ref b, .int p0, .int p1] (F_X1_wantOf b p0 p1) := by
  refine ct_of (lo := [some (.ref b), some (.int p0), some (.int p1), none]) (j := 1) k_X1_wantOf.1 rfl (fun _ => Nat.le_of_ble_eq_true rfl) ?_
  show TL_X1_wantOf T 0 _ _ _
  rw [F_X1_wantOf]
  refine tl_aload_n (pc := 0) (i := 0) dX1_wantOf_0 rfl rfl ?_
  refine tl_getR (pc := 1) (r := (b + 1)) fl_X1_12 hb.1 rfl dX1_wantOf_1 ?_
  refine tl_getR (pc := 4) (r := ((b + 1) + 9)) fl_X1_110 hb.2.1.1 rfl dX1_wantOf_4 ?_
  refine tl_iload_n (pc := 7) (i := 1) dX1_wantOf_7 rfl rfl ?_
  refine tl_callVi (pc := 8) k_X2_at gw_221 hb.2.1.2.2.2.2.2.1.1 ⟨_, _, rfl⟩ (c_X2_at T _ _ _ hb.2.1.2.2.2.2.2.1) rfl rfl (Nat.le_of_ble_eq_true rfl) (Nat.le_of_ble_eq_true rfl) dX1_wantOf_8 (fun x1 => ?_)
  refine tl_istore_n (pc := 11) (i := 3) (lo' := [some (.ref b), some (.int p0), some (.int p1), some (.int x1)]) dX1_wantOf_11 rfl (by decide) rfl ?_
  refine tl_aload_n (pc := 12) (i := 0) dX1_wantOf_12 rfl rfl ?_
  refine tl_getR (pc := 13) (r := (b + 1)) fl_X1_12 hb.1 rfl dX1_wantOf_13 ?_
  refine tl_getR (pc := 16) (r := ((b + 1) + 7)) fl_X1_107 hb.2.1.1 rfl dX1_wantOf_16 ?_
  refine tl_iload_n (pc := 19) (i := 1) dX1_wantOf_19 rfl rfl ?_
  refine tl_callVi (pc := 20) k_X2_at gw_221 hb.2.1.2.2.2.2.1.1 ⟨_, _, rfl⟩ (c_X2_at T _ _ _ hb.2.1.2.2.2.2.1) rfl rfl (Nat.le_of_ble_eq_true rfl) (Nat.le_of_ble_eq_true rfl) dX1_wantOf_20 (fun x2 => ?_)
  refine tl_if (fun cs23_0 => ?_) (fun cs23_0 => ?_)
  · refine tl_tableIn (pc := 23) (tgt := 52) (off := 29) (0 : Int32) cs23_0 dX1_wantOf_23 (by decide) (by decide) (by decide) rfl ?_
    refine tl_iconst (pc := 52) (v := 0) dX1_wantOf_52 (by decide) ?_
    exact tl_iret (pc := 53) dX1_wantOf_53
  · refine tl_if (fun cs23_1 => ?_) (fun cs23_1 => ?_)
    · refine tl_tableIn (pc := 23) (tgt := 78) (off := 55) (1 : Int32) cs23_1 dX1_wantOf_23 (by decide) (by decide) (by decide) rfl ?_
      refine tl_iload_n (pc := 78) (i := 2) dX1_wantOf_78 rfl rfl ?_
      refine tl_iconst (pc := 79) (v := 1) dX1_wantOf_79 (by decide) ?_
      refine tl_icmp_ne (pc := 80) (tgt := 87) dX1_wantOf_80 rfl ?_ ?_
      · refine tl_iconst (pc := 83) (v := 1) dX1_wantOf_83 (by decide) ?_
        refine tl_goto (pc := 84) (tgt := 98) dX1_wantOf_84 rfl ?_
        exact tl_iret (pc := 98) dX1_wantOf_98
      · refine tl_aload_n (pc := 87) (i := 0) dX1_wantOf_87 rfl rfl ?_
        refine tl_getR (pc := 88) (r := (b + 18)) fl_X1_27 hb.1 rfl dX1_wantOf_88 ?_
        refine tl_iload_n (pc := 91) (i := 1) dX1_wantOf_91 rfl rfl ?_
        refine tl_callVi (pc := 92) k_X2_at gw_221 hb.2.2.2.1.1 ⟨_, _, rfl⟩ (c_X2_at T _ _ _ hb.2.2.2.1) rfl rfl (Nat.le_of_ble_eq_true rfl) (Nat.le_of_ble_eq_true rfl) dX1_wantOf_92 (fun x3 => ?_)
        refine tl_callSNi (pc := 95) k_X5_signsOf nm_X1_167 (c_X5_signsOf T _) (nx_X5_signsOf _) rfl rfl (Nat.le_of_ble_eq_true rfl) (Nat.le_of_ble_eq_true rfl) dX1_wantOf_95 (fun x4 => ?_)
        exact tl_iret (pc := 98) dX1_wantOf_98
    · refine tl_if (fun cs23_2 => ?_) (fun cs23_2 => ?_)
      · refine tl_tableIn (pc := 23) (tgt := 67) (off := 44) (2 : Int32) cs23_2 dX1_wantOf_23 (by decide) (by decide) (by decide) rfl ?_
        refine tl_iload_n (pc := 67) (i := 2) dX1_wantOf_67 rfl rfl ?_
        refine tl_iconst (pc := 68) (v := 1) dX1_wantOf_68 (by decide) ?_
        refine tl_icmp_ne (pc := 69) (tgt := 76) dX1_wantOf_69 rfl ?_ ?_
        · refine tl_iconst (pc := 72) (v := 1) dX1_wantOf_72 (by decide) ?_
          refine tl_goto (pc := 73) (tgt := 77) dX1_wantOf_73 rfl ?_
          exact tl_iret (pc := 77) dX1_wantOf_77
        · refine tl_iload_n (pc := 76) (i := 3) dX1_wantOf_76 rfl rfl ?_
          exact tl_iret (pc := 77) dX1_wantOf_77
      · refine tl_if (fun cs23_3 => ?_) (fun cs23_3 => ?_)
        · refine tl_tableIn (pc := 23) (tgt := 54) (off := 31) (3 : Int32) cs23_3 dX1_wantOf_23 (by decide) (by decide) (by decide) rfl ?_
          refine tl_aload_n (pc := 54) (i := 0) dX1_wantOf_54 rfl rfl ?_
          refine tl_getR (pc := 55) (r := (b + 32)) fl_X1_48 hb.1 rfl dX1_wantOf_55 ?_
          refine tl_iload_n (pc := 58) (i := 3) dX1_wantOf_58 rfl rfl ?_
          refine tl_iconst (pc := 59) (v := 2) dX1_wantOf_59 (by decide) ?_
          refine tl_imul (pc := 60) dX1_wantOf_60 ?_
          refine tl_iload_n (pc := 61) (i := 2) dX1_wantOf_61 rfl rfl ?_
          refine tl_iadd (pc := 62) dX1_wantOf_62 ?_
          refine tl_callVi (pc := 63) k_X2_at gw_221 hb.2.2.2.2.2.2.2.2.2.2.1.1 ⟨_, _, rfl⟩ (c_X2_at T _ _ _ hb.2.2.2.2.2.2.2.2.2.2.1) rfl rfl (Nat.le_of_ble_eq_true rfl) (Nat.le_of_ble_eq_true rfl) dX1_wantOf_63 (fun x5 => ?_)
          exact tl_iret (pc := 66) dX1_wantOf_66
        · refine tl_tableOut (pc := 23) (tgt := 78) dX1_wantOf_23 (by have n0 := lv_neT cs23_0 (a := 0) (by decide); have n1 := lv_neT cs23_1 (a := 1) (by decide); have n2 := lv_neT cs23_2 (a := 2) (by decide); have n3 := lv_neT cs23_3 (a := 3) (by decide); omega) rfl ?_
          refine tl_iload_n (pc := 78) (i := 2) dX1_wantOf_78 rfl rfl ?_
          refine tl_iconst (pc := 79) (v := 1) dX1_wantOf_79 (by decide) ?_
          refine tl_icmp_ne (pc := 80) (tgt := 87) dX1_wantOf_80 rfl ?_ ?_
          · refine tl_iconst (pc := 83) (v := 1) dX1_wantOf_83 (by decide) ?_
            refine tl_goto (pc := 84) (tgt := 98) dX1_wantOf_84 rfl ?_
            exact tl_iret (pc := 98) dX1_wantOf_98
          · refine tl_aload_n (pc := 87) (i := 0) dX1_wantOf_87 rfl rfl ?_
            refine tl_getR (pc := 88) (r := (b + 18)) fl_X1_27 hb.1 rfl dX1_wantOf_88 ?_
            refine tl_iload_n (pc := 91) (i := 1) dX1_wantOf_91 rfl rfl ?_
            refine tl_callVi (pc := 92) k_X2_at gw_221 hb.2.2.2.1.1 ⟨_, _, rfl⟩ (c_X2_at T _ _ _ hb.2.2.2.1) rfl rfl (Nat.le_of_ble_eq_true rfl) (Nat.le_of_ble_eq_true rfl) dX1_wantOf_92 (fun x6 => ?_)
            refine tl_callSNi (pc := 95) k_X5_signsOf nm_X1_167 (c_X5_signsOf T _) (nx_X5_signsOf _) rfl rfl (Nat.le_of_ble_eq_true rfl) (Nat.le_of_ble_eq_true rfl) dX1_wantOf_95 (fun x7 => ?_)
            exact tl_iret (pc := 98) dX1_wantOf_98
abbrev TL_X1_wantSizes (T : Tb) (pc : Nat) (lo : List (Option Value)) (st : List Value) (X : Dm Unit) : Prop := TL yX1_wantSizes cX1_wantSizes 4 none 2 vI T pc lo st X
set_option maxRecDepth 100000 in
theorem lp_X1_wantSizes_5 (T : Tb) (b : Nat) (p0 : Int32) (p1 : Int32)  (hb : isLay T b)    : ∀ (n : Nat) (x2 : Int32), TL_X1_wantSizes T 5 [some (.ref b), some (.int p0), some (.int p1), some (.int x2)] [] (L_X1_wantSizes_5 b p0 p1 n x2 ) := by
  intro n
  induction n with
  | zero => intros; exact tl_fail
  | succ n ih =>
    intro x2
    rw [L_X1_wantSizes_5]
    refine tl_iload_n (pc := 5) (i := 3) dX1_wantSizes_5 rfl rfl ?_
    refine tl_iload_n (pc := 6) (i := 1) dX1_wantSizes_6 rfl rfl ?_
    refine tl_callSi (pc := 7) k_X1_squaresEndOf gw_206 (c_X1_squaresEndOf T _) rfl rfl (Nat.le_of_ble_eq_true rfl) (Nat.le_of_ble_eq_true rfl) dX1_wantSizes_7 (fun x3 => ?_)
    refine tl_icmp_ge (pc := 10) (tgt := 52) dX1_wantSizes_10 rfl ?_ ?_
    · exact tl_vret (pc := 52) dX1_wantSizes_52
    · refine tl_aload_n (pc := 13) (i := 0) dX1_wantSizes_13 rfl rfl ?_
      refine tl_getR (pc := 14) (r := (b + 22)) fl_X1_33 hb.1 rfl dX1_wantSizes_14 ?_
      refine tl_iload_n (pc := 17) (i := 3) dX1_wantSizes_17 rfl rfl ?_
      refine tl_iconst (pc := 18) (v := 2) dX1_wantSizes_18 (by decide) ?_
      refine tl_imul (pc := 19) dX1_wantSizes_19 ?_
      refine tl_iload_n (pc := 20) (i := 2) dX1_wantSizes_20 rfl rfl ?_
      refine tl_iadd (pc := 21) dX1_wantSizes_21 ?_
      refine tl_aload_n (pc := 22) (i := 0) dX1_wantSizes_22 rfl rfl ?_
      refine tl_getR (pc := 23) (r := (b + 1)) fl_X1_12 hb.1 rfl dX1_wantSizes_23 ?_
      refine tl_iload_n (pc := 26) (i := 3) dX1_wantSizes_26 rfl rfl ?_
      refine tl_callVi (pc := 27) k_X4_isCell gw_209 hb.2.1.1 ⟨_, _, rfl⟩ (c_X4_isCell T _ _ hb.2.1) rfl rfl (Nat.le_of_ble_eq_true rfl) (Nat.le_of_ble_eq_true rfl) dX1_wantSizes_27 (fun x4 => ?_)
      refine tl_j (fun (k : Int32 → Dm Unit) => ∀ (x5 : Int32), TL_X1_wantSizes T 43 [some (.ref b), some (.int p0), some (.int p1), some (.int x2)] [.int x5, .int ((x2 * (2 : Int32)) + p1), .ref (b + 22)] (k x5)) (fun x5 => ?_) (fun k1 hk1 => ?_)
      · refine tl_callVv (pc := 43) k_X2_store gw_222 hb.2.2.2.2.2.1.1 ⟨_, _, rfl⟩ (c_X2_store T _ _ _ _ hb.2.2.2.2.2.1) rfl rfl (Nat.le_of_ble_eq_true rfl) (Nat.le_of_ble_eq_true rfl) dX1_wantSizes_43 (fun _ => ?_)
        refine tl_iinc (pc := 46) (i := 3) (v := x2 + (1 : Int32)) (lo' := [some (.ref b), some (.int p0), some (.int p1), some (.int (x2 + (1 : Int32)))]) dX1_wantSizes_46 rfl rfl (by decide) rfl ?_
        refine tl_goto (pc := 49) (tgt := 5) dX1_wantSizes_49 rfl ?_
        exact tl_sub (ih _) (sub_s (sub_s (sub_s (sub_s sub_e))))
      · refine tl_if_eq (pc := 30) (tgt := 42) dX1_wantSizes_30 rfl ?_ ?_
        · refine tl_iconst (pc := 42) (v := 0) dX1_wantSizes_42 (by decide) ?_
          exact tl_sub (hk1 _) (sub_s (sub_s (sub_s (sub_s sub_e))))
        · refine tl_aload_n (pc := 33) (i := 0) dX1_wantSizes_33 rfl rfl ?_
          refine tl_iload_n (pc := 34) (i := 3) dX1_wantSizes_34 rfl rfl ?_
          refine tl_iload_n (pc := 35) (i := 2) dX1_wantSizes_35 rfl rfl ?_
          refine tl_callVi (pc := 36) k_X1_wantOf gw_287 hb.1 ⟨_, _, rfl⟩ (c_X1_wantOf T _ _ _ hb) rfl rfl (Nat.le_of_ble_eq_true rfl) (Nat.le_of_ble_eq_true rfl) dX1_wantSizes_36 (fun x6 => ?_)
          refine tl_goto (pc := 39) (tgt := 43) dX1_wantSizes_39 rfl ?_
          exact tl_sub (hk1 _) (sub_s (sub_s (sub_s (sub_s sub_e))))
set_option maxRecDepth 100000 in
theorem c_X1_wantSizes (T : Tb) (b : Nat) (p0 : Int32) (p1 : Int32) (hb : isLay T b) : CT (.code yX1_wantSizes cX1_wantSizes 4 none) yX1_wantSizes 2 vI T [.ref b, .int p0, .int p1] (F_X1_wantSizes b p0 p1) := by
  refine ct_of (lo := [some (.ref b), some (.int p0), some (.int p1), none]) (j := 1) k_X1_wantSizes.1 rfl (fun _ => Nat.le_of_ble_eq_true rfl) ?_
  show TL_X1_wantSizes T 0 _ _ _
  rw [F_X1_wantSizes]
  refine tl_iload_n (pc := 0) (i := 1) dX1_wantSizes_0 rfl rfl ?_
  refine tl_bipush (pc := 1) (v := 25) dX1_wantSizes_1 (by decide) ?_
  refine tl_imul (pc := 3) dX1_wantSizes_3 ?_
  refine tl_bI (fun x1 => ?_)
  refine tl_istore_n (pc := 4) (i := 3) (lo' := [some (.ref b), some (.int p0), some (.int p1), some (.int x1)]) dX1_wantSizes_4 rfl (by decide) rfl ?_
  refine tl_sub (lp_X1_wantSizes_5 T b p0 p1 hb    FU _) (sub_s (sub_s (sub_s (sub_s sub_e))))
abbrev TL_X1_sizePlace (T : Tb) (pc : Nat) (lo : List (Option Value)) (st : List Value) (X : Dm Int32) : Prop := TL yX1_sizePlace cX1_sizePlace 3 (some .int) 0 iI T pc lo st X
set_option maxRecDepth 100000 in
theorem c_X1_sizePlace (T : Tb) (p0 : Int32) (p1 : Int32) (p2 : Int32)  : CT (.code yX1_sizePlace cX1_sizePlace 3 (some .int)) yX1_sizePlace 0 iI T [.int p0, .int p1, .int p2] (F_X1_sizePlace p0 p1 p2) := by
  refine ct_of (lo := [some (.int p0), some (.int p1), some (.int p2)]) (j := 0) k_X1_sizePlace.1 rfl (fun _ => Nat.le_of_ble_eq_true rfl) ?_
  show TL_X1_sizePlace T 0 _ _ _
  rw [F_X1_sizePlace]
  refine tl_iload_n (pc := 0) (i := 0) dX1_sizePlace_0 rfl rfl ?_
  refine tl_iconst (pc := 1) (v := 2) dX1_sizePlace_1 (by decide) ?_
  refine tl_imul (pc := 2) dX1_sizePlace_2 ?_
  refine tl_iload_n (pc := 3) (i := 1) dX1_sizePlace_3 rfl rfl ?_
  refine tl_iadd (pc := 4) dX1_sizePlace_4 ?_
  refine tl_iconst (pc := 5) (v := 5) dX1_sizePlace_5 (by decide) ?_
  refine tl_imul (pc := 6) dX1_sizePlace_6 ?_
  refine tl_iload_n (pc := 7) (i := 2) dX1_sizePlace_7 rfl rfl ?_
  refine tl_iadd (pc := 8) dX1_sizePlace_8 ?_
  exact tl_iret (pc := 9) dX1_sizePlace_9
abbrev TL_X1_sizeSingles (T : Tb) (pc : Nat) (lo : List (Option Value)) (st : List Value) (X : Dm Unit) : Prop := TL yX1_sizeSingles cX1_sizeSingles 5 none 2 vI T pc lo st X
set_option maxRecDepth 100000 in
theorem lp_X1_sizeSingles_5 (T : Tb) (b : Nat) (p0 : Int32) (p1 : Int32)  (hb : isLay T b)    : ∀ (n : Nat) (x2 : Int32), TL_X1_sizeSingles T 5 [some (.ref b), some (.int p0), some (.int p1), some (.int x2), none] [] (L_X1_sizeSingles_5 b p0 p1 n x2 ) := by
  intro n
  induction n with
  | zero => intros; exact tl_fail
  | succ n ih =>
    intro x2
    rw [L_X1_sizeSingles_5]
    refine tl_iload_n (pc := 5) (i := 3) dX1_sizeSingles_5 rfl rfl ?_
    refine tl_iload_n (pc := 6) (i := 1) dX1_sizeSingles_6 rfl rfl ?_
    refine tl_callSi (pc := 7) k_X1_squaresEndOf gw_206 (c_X1_squaresEndOf T _) rfl rfl (Nat.le_of_ble_eq_true rfl) (Nat.le_of_ble_eq_true rfl) dX1_sizeSingles_7 (fun x3 => ?_)
    refine tl_icmp_ge (pc := 10) (tgt := 88) dX1_sizeSingles_10 rfl ?_ ?_
    · exact tl_vret (pc := 88) dX1_sizeSingles_88
    · refine tl_aload_n (pc := 13) (i := 0) dX1_sizeSingles_13 rfl rfl ?_
      refine tl_getR (pc := 14) (r := (b + 1)) fl_X1_12 hb.1 rfl dX1_sizeSingles_14 ?_
      refine tl_iload_n (pc := 17) (i := 3) dX1_sizeSingles_17 rfl rfl ?_
      refine tl_callVi (pc := 18) k_X4_isCell gw_209 hb.2.1.1 ⟨_, _, rfl⟩ (c_X4_isCell T _ _ hb.2.1) rfl rfl (Nat.le_of_ble_eq_true rfl) (Nat.le_of_ble_eq_true rfl) dX1_sizeSingles_18 (fun x4 => ?_)
      refine tl_j (fun (k : Unit → Dm Unit) => ∀ (_ : Unit), TL_X1_sizeSingles T 82 [some (.ref b), some (.int p0), some (.int p1), some (.int x2), none] [] (k ())) (fun _ => ?_) (fun k1 hk1 => ?_)
      · refine tl_iinc (pc := 82) (i := 3) (v := x2 + (1 : Int32)) (lo' := [some (.ref b), some (.int p0), some (.int p1), some (.int (x2 + (1 : Int32))), none]) dX1_sizeSingles_82 rfl rfl (by decide) rfl ?_
        refine tl_goto (pc := 85) (tgt := 5) dX1_sizeSingles_85 rfl ?_
        exact tl_sub (ih _) (sub_s (sub_s (sub_s (sub_s (sub_n sub_e)))))
      · refine tl_if_eq (pc := 21) (tgt := 82) dX1_sizeSingles_21 rfl ?_ ?_
        · exact tl_sub (hk1 ()) (sub_s (sub_s (sub_s (sub_s (sub_n sub_e)))))
        · refine tl_aload_n (pc := 24) (i := 0) dX1_sizeSingles_24 rfl rfl ?_
          refine tl_getR (pc := 25) (r := (b + 1)) fl_X1_12 hb.1 rfl dX1_sizeSingles_25 ?_
          refine tl_iload_n (pc := 28) (i := 3) dX1_sizeSingles_28 rfl rfl ?_
          refine tl_iload_n (pc := 29) (i := 2) dX1_sizeSingles_29 rfl rfl ?_
          refine tl_callVi (pc := 30) k_X4_spanOf gw_298 hb.2.1.1 ⟨_, _, rfl⟩ (c_X4_spanOf T _ _ _ hb.2.1) rfl rfl (Nat.le_of_ble_eq_true rfl) (Nat.le_of_ble_eq_true rfl) dX1_sizeSingles_30 (fun x5 => ?_)
          refine tl_iconst (pc := 33) (v := 1) dX1_sizeSingles_33 (by decide) ?_
          refine tl_icmp_ne (pc := 34) (tgt := 82) dX1_sizeSingles_34 rfl ?_ ?_
          · refine tl_iload_n (pc := 37) (i := 1) dX1_sizeSingles_37 rfl rfl ?_
            refine tl_iload_n (pc := 38) (i := 2) dX1_sizeSingles_38 rfl rfl ?_
            refine tl_iload_n (pc := 39) (i := 3) dX1_sizeSingles_39 rfl rfl ?_
            refine tl_iload_n (pc := 40) (i := 2) dX1_sizeSingles_40 rfl rfl ?_
            refine tl_callSNi (pc := 41) k_X5_placeOf nm_X1_129 (c_X5_placeOf T _ _) (nx_X5_placeOf _ _) rfl rfl (Nat.le_of_ble_eq_true rfl) (Nat.le_of_ble_eq_true rfl) dX1_sizeSingles_41 (fun x6 => ?_)
            refine tl_callSi (pc := 44) k_X1_sizePlace gw_302 (c_X1_sizePlace T _ _ _) rfl rfl (Nat.le_of_ble_eq_true rfl) (Nat.le_of_ble_eq_true rfl) dX1_sizeSingles_44 (fun x7 => ?_)
            refine tl_istore (pc := 47) (i := 4) (lo' := [some (.ref b), some (.int p0), some (.int p1), some (.int x2), some (.int x7)]) dX1_sizeSingles_47 (by decide) rfl ?_
            refine tl_aload_n (pc := 49) (i := 0) dX1_sizeSingles_49 rfl rfl ?_
            refine tl_getR (pc := 50) (r := (b + 28)) fl_X1_42 hb.1 rfl dX1_sizeSingles_50 ?_
            refine tl_iload (pc := 53) (i := 4) dX1_sizeSingles_53 rfl ?_
            refine tl_aload_n (pc := 55) (i := 0) dX1_sizeSingles_55 rfl rfl ?_
            refine tl_getR (pc := 56) (r := (b + 28)) fl_X1_42 hb.1 rfl dX1_sizeSingles_56 ?_
            refine tl_iload (pc := 59) (i := 4) dX1_sizeSingles_59 rfl ?_
            refine tl_callVi (pc := 61) k_X2_at gw_221 hb.2.2.2.2.2.2.2.2.1.1 ⟨_, _, rfl⟩ (c_X2_at T _ _ _ hb.2.2.2.2.2.2.2.2.1) rfl rfl (Nat.le_of_ble_eq_true rfl) (Nat.le_of_ble_eq_true rfl) dX1_sizeSingles_61 (fun x8 => ?_)
            refine tl_aload_n (pc := 64) (i := 0) dX1_sizeSingles_64 rfl rfl ?_
            refine tl_getR (pc := 65) (r := (b + 22)) fl_X1_33 hb.1 rfl dX1_sizeSingles_65 ?_
            refine tl_iload_n (pc := 68) (i := 3) dX1_sizeSingles_68 rfl rfl ?_
            refine tl_iconst (pc := 69) (v := 2) dX1_sizeSingles_69 (by decide) ?_
            refine tl_imul (pc := 70) dX1_sizeSingles_70 ?_
            refine tl_iload_n (pc := 71) (i := 2) dX1_sizeSingles_71 rfl rfl ?_
            refine tl_iadd (pc := 72) dX1_sizeSingles_72 ?_
            refine tl_callVi (pc := 73) k_X2_at gw_221 hb.2.2.2.2.2.1.1 ⟨_, _, rfl⟩ (c_X2_at T _ _ _ hb.2.2.2.2.2.1) rfl rfl (Nat.le_of_ble_eq_true rfl) (Nat.le_of_ble_eq_true rfl) dX1_sizeSingles_73 (fun x9 => ?_)
            refine tl_mmax (pc := 76) gw_242 gw_43 gw_5 gw_44 (Nat.le_of_ble_eq_true rfl) (Nat.le_of_ble_eq_true rfl) dX1_sizeSingles_76 ?_
            refine tl_callVv (pc := 79) k_X2_store gw_222 hb.2.2.2.2.2.2.2.2.1.1 ⟨_, _, rfl⟩ (c_X2_store T _ _ _ _ hb.2.2.2.2.2.2.2.2.1) rfl rfl (Nat.le_of_ble_eq_true rfl) (Nat.le_of_ble_eq_true rfl) dX1_sizeSingles_79 (fun _ => ?_)
            exact tl_sub (hk1 ()) (sub_s (sub_s (sub_s (sub_s (sub_n sub_e)))))
          · exact tl_sub (hk1 ()) (sub_s (sub_s (sub_s (sub_s (sub_n sub_e)))))
set_option maxRecDepth 100000 in
theorem c_X1_sizeSingles (T : Tb) (b : Nat) (p0 : Int32) (p1 : Int32) (hb : isLay T b) : CT (.code yX1_sizeSingles cX1_sizeSingles 5 none) yX1_sizeSingles 2 vI T [.ref b, .int p0, .int p1] (F_X1_sizeSingles b p0 p1) := by
  refine ct_of (lo := [some (.ref b), some (.int p0), some (.int p1), none, none]) (j := 2) k_X1_sizeSingles.1 rfl (fun _ => Nat.le_of_ble_eq_true rfl) ?_
  show TL_X1_sizeSingles T 0 _ _ _
  rw [F_X1_sizeSingles]
  refine tl_iload_n (pc := 0) (i := 1) dX1_sizeSingles_0 rfl rfl ?_
  refine tl_bipush (pc := 1) (v := 25) dX1_sizeSingles_1 (by decide) ?_
  refine tl_imul (pc := 3) dX1_sizeSingles_3 ?_
  refine tl_bI (fun x1 => ?_)
  refine tl_istore_n (pc := 4) (i := 3) (lo' := [some (.ref b), some (.int p0), some (.int p1), some (.int x1), none]) dX1_sizeSingles_4 rfl (by decide) rfl ?_
  refine tl_sub (lp_X1_sizeSingles_5 T b p0 p1 hb    FU _) (sub_s (sub_s (sub_s (sub_s (sub_n sub_e)))))
abbrev TL_X1_sizeOf (T : Tb) (pc : Nat) (lo : List (Option Value)) (st : List Value) (X : Dm Int32) : Prop := TL yX1_sizeOf cX1_sizeOf 4 (some .int) 1 iI T pc lo st X
set_option maxRecDepth 100000 in
theorem c_X1_sizeOf (T : Tb) (b : Nat) (p0 : Int32) (p1 : Int32) (p2 : Int32) (hb : isLay T b) : CT (.code yX1_sizeOf cX1_sizeOf 4 (some .int)) yX1_sizeOf 1 iI T [.ref b, .int p0, .int p1, .int p2] (F_X1_sizeOf b p0 p1 p2) := by
  refine ct_of (lo := [some (.ref b), some (.int p0), some (.int p1), some (.int p2)]) (j := 0) k_X1_sizeOf.1 rfl (fun _ => Nat.le_of_ble_eq_true rfl) ?_
  show TL_X1_sizeOf T 0 _ _ _
  rw [F_X1_sizeOf]
  refine tl_aload_n (pc := 0) (i := 0) dX1_sizeOf_0 rfl rfl ?_
  refine tl_getR (pc := 1) (r := (b + 28)) fl_X1_42 hb.1 rfl dX1_sizeOf_1 ?_
  refine tl_iload_n (pc := 4) (i := 1) dX1_sizeOf_4 rfl rfl ?_
  refine tl_iload_n (pc := 5) (i := 2) dX1_sizeOf_5 rfl rfl ?_
  refine tl_iload_n (pc := 6) (i := 3) dX1_sizeOf_6 rfl rfl ?_
  refine tl_callSi (pc := 7) k_X1_sizePlace gw_302 (c_X1_sizePlace T _ _ _) rfl rfl (Nat.le_of_ble_eq_true rfl) (Nat.le_of_ble_eq_true rfl) dX1_sizeOf_7 (fun x1 => ?_)
  refine tl_callVi (pc := 10) k_X2_at gw_221 hb.2.2.2.2.2.2.2.2.1.1 ⟨_, _, rfl⟩ (c_X2_at T _ _ _ hb.2.2.2.2.2.2.2.2.1) rfl rfl (Nat.le_of_ble_eq_true rfl) (Nat.le_of_ble_eq_true rfl) dX1_sizeOf_10 (fun x2 => ?_)
  exact tl_iret (pc := 13) dX1_sizeOf_13
abbrev TL_X1_sizeTogether (T : Tb) (pc : Nat) (lo : List (Option Value)) (st : List Value) (X : Dm Int32) : Prop := TL yX1_sizeTogether cX1_sizeTogether 7 (some .int) 2 iI T pc lo st X
set_option maxRecDepth 100000 in
theorem lp_X1_sizeTogether_6 (T : Tb) (b : Nat) (p0 : Int32) (p1 : Int32) (p2 : Int32) (p3 : Int32)  (hb : isLay T b)    : ∀ (n : Nat) (x1 : Int32) (x2 : Int32), TL_X1_sizeTogether T 6 [some (.ref b), some (.int p0), some (.int p1), none, some (.int p3), some (.int x1), some (.int x2)] [] (L_X1_sizeTogether_6 b p0 p1 p3 n x1 x2 ) := by
  intro n
  induction n with
  | zero => intros; exact tl_fail
  | succ n ih =>
    intro x1 x2
    rw [L_X1_sizeTogether_6]
    refine tl_iload (pc := 6) (i := 6) dX1_sizeTogether_6 rfl ?_
    refine tl_iload (pc := 8) (i := 4) dX1_sizeTogether_8 rfl ?_
    refine tl_icmp_gt (pc := 10) (tgt := 32) dX1_sizeTogether_10 rfl ?_ ?_
    · refine tl_iload (pc := 32) (i := 5) dX1_sizeTogether_32 rfl ?_
      exact tl_iret (pc := 34) dX1_sizeTogether_34
    · refine tl_iload (pc := 13) (i := 5) dX1_sizeTogether_13 rfl ?_
      refine tl_aload_n (pc := 15) (i := 0) dX1_sizeTogether_15 rfl rfl ?_
      refine tl_iload_n (pc := 16) (i := 1) dX1_sizeTogether_16 rfl rfl ?_
      refine tl_iload_n (pc := 17) (i := 2) dX1_sizeTogether_17 rfl rfl ?_
      refine tl_iload (pc := 18) (i := 6) dX1_sizeTogether_18 rfl ?_
      refine tl_callVi (pc := 20) k_X1_sizeOf gw_313 hb.1 ⟨_, _, rfl⟩ (c_X1_sizeOf T _ _ _ _ hb) rfl rfl (Nat.le_of_ble_eq_true rfl) (Nat.le_of_ble_eq_true rfl) dX1_sizeTogether_20 (fun x3 => ?_)
      refine tl_iadd (pc := 23) dX1_sizeTogether_23 ?_
      refine tl_bI (fun x4 => ?_)
      refine tl_istore (pc := 24) (i := 5) (lo' := [some (.ref b), some (.int p0), some (.int p1), none, some (.int p3), some (.int x4), some (.int x2)]) dX1_sizeTogether_24 (by decide) rfl ?_
      refine tl_iinc (pc := 26) (i := 6) (v := x2 + (1 : Int32)) (lo' := [some (.ref b), some (.int p0), some (.int p1), none, some (.int p3), some (.int x4), some (.int (x2 + (1 : Int32)))]) dX1_sizeTogether_26 rfl rfl (by decide) rfl ?_
      refine tl_goto (pc := 29) (tgt := 6) dX1_sizeTogether_29 rfl ?_
      exact tl_sub (ih _ _) (sub_s (sub_s (sub_s (sub_n (sub_s (sub_s (sub_s sub_e)))))))
set_option maxRecDepth 100000 in
theorem c_X1_sizeTogether (T : Tb) (b : Nat) (p0 : Int32) (p1 : Int32) (p2 : Int32) (p3 : Int32) (hb : isLay T b) : CT (.code yX1_sizeTogether cX1_sizeTogether 7 (some .int)) yX1_sizeTogether 2 iI T [.ref b, .int p0, .int p1, .int p2, .int p3] (F_X1_sizeTogether b p0 p1 p2 p3) := by
  refine ct_of (lo := [some (.ref b), some (.int p0), some (.int p1), some (.int p2), some (.int p3), none, none]) (j := 2) k_X1_sizeTogether.1 rfl (fun _ => Nat.le_of_ble_eq_true rfl) ?_
  show TL_X1_sizeTogether T 0 _ _ _
  rw [F_X1_sizeTogether]
  refine tl_iconst (pc := 0) (v := 0) dX1_sizeTogether_0 (by decide) ?_
  refine tl_istore (pc := 1) (i := 5) (lo' := [some (.ref b), some (.int p0), some (.int p1), some (.int p2), some (.int p3), some (.int (0 : Int32)), none]) dX1_sizeTogether_1 (by decide) rfl ?_
  refine tl_iload_n (pc := 3) (i := 3) dX1_sizeTogether_3 rfl rfl ?_
  refine tl_istore (pc := 4) (i := 6) (lo' := [some (.ref b), some (.int p0), some (.int p1), some (.int p2), some (.int p3), some (.int (0 : Int32)), some (.int p2)]) dX1_sizeTogether_4 (by decide) rfl ?_
  refine tl_sub (lp_X1_sizeTogether_6 T b p0 p1 p2 p3 hb    FU _ _) (sub_s (sub_s (sub_s (sub_n (sub_s (sub_s (sub_s sub_e)))))))
abbrev TL_X1_sizeSpans (T : Tb) (pc : Nat) (lo : List (Option Value)) (st : List Value) (X : Dm Unit) : Prop := TL yX1_sizeSpans cX1_sizeSpans 8 none 3 vI T pc lo st X
set_option maxRecDepth 100000 in
theorem lp_X1_sizeSpans_5 (T : Tb) (b : Nat) (p0 : Int32) (p1 : Int32)  (hb : isLay T b)    : ∀ (n : Nat) (x2 : Int32), TL_X1_sizeSpans T 5 [some (.ref b), some (.int p0), some (.int p1), some (.int x2), none, none, none, none] [] (L_X1_sizeSpans_5 b p0 p1 n x2 ) := by
  intro n
  induction n with
  | zero => intros; exact tl_fail
  | succ n ih =>
    intro x2
    rw [L_X1_sizeSpans_5]
    refine tl_iload_n (pc := 5) (i := 3) dX1_sizeSpans_5 rfl rfl ?_
    refine tl_iload_n (pc := 6) (i := 1) dX1_sizeSpans_6 rfl rfl ?_
    refine tl_callSi (pc := 7) k_X1_squaresEndOf gw_206 (c_X1_squaresEndOf T _) rfl rfl (Nat.le_of_ble_eq_true rfl) (Nat.le_of_ble_eq_true rfl) dX1_sizeSpans_7 (fun x3 => ?_)
    refine tl_icmp_ge (pc := 10) (tgt := 125) dX1_sizeSpans_10 rfl ?_ ?_
    · exact tl_vret (pc := 125) dX1_sizeSpans_125
    · refine tl_aload_n (pc := 13) (i := 0) dX1_sizeSpans_13 rfl rfl ?_
      refine tl_getR (pc := 14) (r := (b + 1)) fl_X1_12 hb.1 rfl dX1_sizeSpans_14 ?_
      refine tl_iload_n (pc := 17) (i := 3) dX1_sizeSpans_17 rfl rfl ?_
      refine tl_callVi (pc := 18) k_X4_isCell gw_209 hb.2.1.1 ⟨_, _, rfl⟩ (c_X4_isCell T _ _ hb.2.1) rfl rfl (Nat.le_of_ble_eq_true rfl) (Nat.le_of_ble_eq_true rfl) dX1_sizeSpans_18 (fun x4 => ?_)
      refine tl_j (fun (k : Unit → Dm Unit) => ∀ (_ : Unit), TL_X1_sizeSpans T 119 [some (.ref b), some (.int p0), some (.int p1), some (.int x2), none, none, none, none] [] (k ())) (fun _ => ?_) (fun k1 hk1 => ?_)
      · refine tl_iinc (pc := 119) (i := 3) (v := x2 + (1 : Int32)) (lo' := [some (.ref b), some (.int p0), some (.int p1), some (.int (x2 + (1 : Int32))), none, none, none, none]) dX1_sizeSpans_119 rfl rfl (by decide) rfl ?_
        refine tl_goto (pc := 122) (tgt := 5) dX1_sizeSpans_122 rfl ?_
        exact tl_sub (ih _) (sub_s (sub_s (sub_s (sub_s (sub_n (sub_n (sub_n (sub_n sub_e))))))))
      · refine tl_if_eq (pc := 21) (tgt := 119) dX1_sizeSpans_21 rfl ?_ ?_
        · exact tl_sub (hk1 ()) (sub_s (sub_s (sub_s (sub_s (sub_n (sub_n (sub_n (sub_n sub_e))))))))
        · refine tl_aload_n (pc := 24) (i := 0) dX1_sizeSpans_24 rfl rfl ?_
          refine tl_getR (pc := 25) (r := (b + 1)) fl_X1_12 hb.1 rfl dX1_sizeSpans_25 ?_
          refine tl_iload_n (pc := 28) (i := 3) dX1_sizeSpans_28 rfl rfl ?_
          refine tl_iload_n (pc := 29) (i := 2) dX1_sizeSpans_29 rfl rfl ?_
          refine tl_callVi (pc := 30) k_X4_spanOf gw_298 hb.2.1.1 ⟨_, _, rfl⟩ (c_X4_spanOf T _ _ _ hb.2.1) rfl rfl (Nat.le_of_ble_eq_true rfl) (Nat.le_of_ble_eq_true rfl) dX1_sizeSpans_30 (fun x5 => ?_)
          refine tl_iconst (pc := 33) (v := 1) dX1_sizeSpans_33 (by decide) ?_
          refine tl_icmp_le (pc := 34) (tgt := 119) dX1_sizeSpans_34 rfl ?_ ?_
          · exact tl_sub (hk1 ()) (sub_s (sub_s (sub_s (sub_s (sub_n (sub_n (sub_n (sub_n sub_e))))))))
          · refine tl_iload_n (pc := 37) (i := 3) dX1_sizeSpans_37 rfl rfl ?_
            refine tl_iload_n (pc := 38) (i := 2) dX1_sizeSpans_38 rfl rfl ?_
            refine tl_callSNi (pc := 39) k_X5_placeOf nm_X1_129 (c_X5_placeOf T _ _) (nx_X5_placeOf _ _) rfl rfl (Nat.le_of_ble_eq_true rfl) (Nat.le_of_ble_eq_true rfl) dX1_sizeSpans_39 (fun x6 => ?_)
            refine tl_istore (pc := 42) (i := 4) (lo' := [some (.ref b), some (.int p0), some (.int p1), some (.int x2), some (.int x6), none, none, none]) dX1_sizeSpans_42 (by decide) rfl ?_
            refine tl_iload (pc := 44) (i := 4) dX1_sizeSpans_44 rfl ?_
            refine tl_aload_n (pc := 46) (i := 0) dX1_sizeSpans_46 rfl rfl ?_
            refine tl_getR (pc := 47) (r := (b + 1)) fl_X1_12 hb.1 rfl dX1_sizeSpans_47 ?_
            refine tl_iload_n (pc := 50) (i := 3) dX1_sizeSpans_50 rfl rfl ?_
            refine tl_iload_n (pc := 51) (i := 2) dX1_sizeSpans_51 rfl rfl ?_
            refine tl_callVi (pc := 52) k_X4_spanOf gw_298 hb.2.1.1 ⟨_, _, rfl⟩ (c_X4_spanOf T _ _ _ hb.2.1) rfl rfl (Nat.le_of_ble_eq_true rfl) (Nat.le_of_ble_eq_true rfl) dX1_sizeSpans_52 (fun x7 => ?_)
            refine tl_iadd (pc := 55) dX1_sizeSpans_55 ?_
            refine tl_iconst (pc := 56) (v := 1) dX1_sizeSpans_56 (by decide) ?_
            refine tl_isub (pc := 57) dX1_sizeSpans_57 ?_
            refine tl_bI (fun x8 => ?_)
            refine tl_istore (pc := 58) (i := 5) (lo' := [some (.ref b), some (.int p0), some (.int p1), some (.int x2), some (.int x6), some (.int x8), none, none]) dX1_sizeSpans_58 (by decide) rfl ?_
            refine tl_aload_n (pc := 60) (i := 0) dX1_sizeSpans_60 rfl rfl ?_
            refine tl_getR (pc := 61) (r := (b + 22)) fl_X1_33 hb.1 rfl dX1_sizeSpans_61 ?_
            refine tl_iload_n (pc := 64) (i := 3) dX1_sizeSpans_64 rfl rfl ?_
            refine tl_iconst (pc := 65) (v := 2) dX1_sizeSpans_65 (by decide) ?_
            refine tl_imul (pc := 66) dX1_sizeSpans_66 ?_
            refine tl_iload_n (pc := 67) (i := 2) dX1_sizeSpans_67 rfl rfl ?_
            refine tl_iadd (pc := 68) dX1_sizeSpans_68 ?_
            refine tl_callVi (pc := 69) k_X2_at gw_221 hb.2.2.2.2.2.1.1 ⟨_, _, rfl⟩ (c_X2_at T _ _ _ hb.2.2.2.2.2.1) rfl rfl (Nat.le_of_ble_eq_true rfl) (Nat.le_of_ble_eq_true rfl) dX1_sizeSpans_69 (fun x9 => ?_)
            refine tl_aload_n (pc := 72) (i := 0) dX1_sizeSpans_72 rfl rfl ?_
            refine tl_iload_n (pc := 73) (i := 1) dX1_sizeSpans_73 rfl rfl ?_
            refine tl_iload_n (pc := 74) (i := 2) dX1_sizeSpans_74 rfl rfl ?_
            refine tl_iload (pc := 75) (i := 4) dX1_sizeSpans_75 rfl ?_
            refine tl_iload (pc := 77) (i := 5) dX1_sizeSpans_77 rfl ?_
            refine tl_callVi (pc := 79) k_X1_sizeTogether gw_309 hb.1 ⟨_, _, rfl⟩ (c_X1_sizeTogether T _ _ _ _ _ hb) rfl rfl (Nat.le_of_ble_eq_true rfl) (Nat.le_of_ble_eq_true rfl) dX1_sizeSpans_79 (fun x10 => ?_)
            refine tl_isub (pc := 82) dX1_sizeSpans_82 ?_
            refine tl_bI (fun x11 => ?_)
            refine tl_istore (pc := 83) (i := 6) (lo' := [some (.ref b), some (.int p0), some (.int p1), some (.int x2), some (.int x6), some (.int x8), some (.int x11), none]) dX1_sizeSpans_83 (by decide) rfl ?_
            refine tl_iload_n (pc := 85) (i := 1) dX1_sizeSpans_85 rfl rfl ?_
            refine tl_iload_n (pc := 86) (i := 2) dX1_sizeSpans_86 rfl rfl ?_
            refine tl_iload (pc := 87) (i := 5) dX1_sizeSpans_87 rfl ?_
            refine tl_callSi (pc := 89) k_X1_sizePlace gw_302 (c_X1_sizePlace T _ _ _) rfl rfl (Nat.le_of_ble_eq_true rfl) (Nat.le_of_ble_eq_true rfl) dX1_sizeSpans_89 (fun x12 => ?_)
            refine tl_istore (pc := 92) (i := 7) (lo' := [some (.ref b), some (.int p0), some (.int p1), some (.int x2), some (.int x6), some (.int x8), some (.int x11), some (.int x12)]) dX1_sizeSpans_92 (by decide) rfl ?_
            refine tl_aload_n (pc := 94) (i := 0) dX1_sizeSpans_94 rfl rfl ?_
            refine tl_getR (pc := 95) (r := (b + 28)) fl_X1_42 hb.1 rfl dX1_sizeSpans_95 ?_
            refine tl_iload (pc := 98) (i := 7) dX1_sizeSpans_98 rfl ?_
            refine tl_aload_n (pc := 100) (i := 0) dX1_sizeSpans_100 rfl rfl ?_
            refine tl_getR (pc := 101) (r := (b + 28)) fl_X1_42 hb.1 rfl dX1_sizeSpans_101 ?_
            refine tl_iload (pc := 104) (i := 7) dX1_sizeSpans_104 rfl ?_
            refine tl_callVi (pc := 106) k_X2_at gw_221 hb.2.2.2.2.2.2.2.2.1.1 ⟨_, _, rfl⟩ (c_X2_at T _ _ _ hb.2.2.2.2.2.2.2.2.1) rfl rfl (Nat.le_of_ble_eq_true rfl) (Nat.le_of_ble_eq_true rfl) dX1_sizeSpans_106 (fun x13 => ?_)
            refine tl_iconst (pc := 109) (v := 0) dX1_sizeSpans_109 (by decide) ?_
            refine tl_iload (pc := 110) (i := 6) dX1_sizeSpans_110 rfl ?_
            refine tl_mmax (pc := 112) gw_242 gw_43 gw_5 gw_44 (Nat.le_of_ble_eq_true rfl) (Nat.le_of_ble_eq_true rfl) dX1_sizeSpans_112 ?_
            refine tl_iadd (pc := 115) dX1_sizeSpans_115 ?_
            refine tl_callVv (pc := 116) k_X2_store gw_222 hb.2.2.2.2.2.2.2.2.1.1 ⟨_, _, rfl⟩ (c_X2_store T _ _ _ _ hb.2.2.2.2.2.2.2.2.1) rfl rfl (Nat.le_of_ble_eq_true rfl) (Nat.le_of_ble_eq_true rfl) dX1_sizeSpans_116 (fun _ => ?_)
            exact tl_sub (hk1 ()) (sub_s (sub_s (sub_s (sub_s (sub_n (sub_n (sub_n (sub_n sub_e))))))))
set_option maxRecDepth 100000 in
theorem c_X1_sizeSpans (T : Tb) (b : Nat) (p0 : Int32) (p1 : Int32) (hb : isLay T b) : CT (.code yX1_sizeSpans cX1_sizeSpans 8 none) yX1_sizeSpans 3 vI T [.ref b, .int p0, .int p1] (F_X1_sizeSpans b p0 p1) := by
  refine ct_of (lo := [some (.ref b), some (.int p0), some (.int p1), none, none, none, none, none]) (j := 5) k_X1_sizeSpans.1 rfl (fun _ => Nat.le_of_ble_eq_true rfl) ?_
  show TL_X1_sizeSpans T 0 _ _ _
  rw [F_X1_sizeSpans]
  refine tl_iload_n (pc := 0) (i := 1) dX1_sizeSpans_0 rfl rfl ?_
  refine tl_bipush (pc := 1) (v := 25) dX1_sizeSpans_1 (by decide) ?_
  refine tl_imul (pc := 3) dX1_sizeSpans_3 ?_
  refine tl_bI (fun x1 => ?_)
  refine tl_istore_n (pc := 4) (i := 3) (lo' := [some (.ref b), some (.int p0), some (.int p1), some (.int x1), none, none, none, none]) dX1_sizeSpans_4 rfl (by decide) rfl ?_
  refine tl_sub (lp_X1_sizeSpans_5 T b p0 p1 hb    FU _) (sub_s (sub_s (sub_s (sub_s (sub_n (sub_n (sub_n (sub_n sub_e))))))))
abbrev TL_X1_sizeTable (T : Tb) (pc : Nat) (lo : List (Option Value)) (st : List Value) (X : Dm Unit) : Prop := TL yX1_sizeTable cX1_sizeTable 8 none 3 vI T pc lo st X
set_option maxRecDepth 100000 in
theorem lp_X1_sizeTable_58 (T : Tb) (b : Nat) (p0 : Int32) (p1 : Int32) (x2 : Int32) (x3 : Int32) (hb : isLay T b)  (k4 : Int32 → Dm Unit) (hk4 : ∀ (y58_0 : Int32), TL_X1_sizeTable T 93 [some (.ref b), some (.int p0), some (.int p1), some (.int x2), none, none, some (.int y58_0), none] [] (k4 y58_0)) : ∀ (n : Nat) (x7 : Int32) (x8 : Int32), TL_X1_sizeTable T 58 [some (.ref b), some (.int p0), some (.int p1), some (.int x2), some (.int x3), none, some (.int x7), some (.int x8)] [] (L_X1_sizeTable_58 b p0 p1 x2 x3 n x7 x8 k4) := by
  intro n
  induction n with
  | zero => intros; exact tl_fail
  | succ n ih =>
    intro x7 x8
    rw [L_X1_sizeTable_58]
    refine tl_iload (pc := 58) (i := 7) dX1_sizeTable_58 rfl ?_
    refine tl_iload_n (pc := 60) (i := 3) dX1_sizeTable_60 rfl rfl ?_
    refine tl_icmp_gt (pc := 61) (tgt := 93) dX1_sizeTable_61 rfl ?_ ?_
    · exact tl_sub (hk4 _) (sub_s (sub_s (sub_s (sub_s (sub_n (sub_n (sub_s (sub_n sub_e))))))))
    · refine tl_iload (pc := 64) (i := 6) dX1_sizeTable_64 rfl ?_
      refine tl_aload_n (pc := 66) (i := 0) dX1_sizeTable_66 rfl rfl ?_
      refine tl_iload_n (pc := 67) (i := 1) dX1_sizeTable_67 rfl rfl ?_
      refine tl_iload_n (pc := 68) (i := 2) dX1_sizeTable_68 rfl rfl ?_
      refine tl_iload (pc := 69) (i := 7) dX1_sizeTable_69 rfl ?_
      refine tl_iload (pc := 71) (i := 4) dX1_sizeTable_71 rfl ?_
      refine tl_callVi (pc := 73) k_X1_greatestRule gw_263 hb.1 ⟨_, _, rfl⟩ (c_X1_greatestRule T _ _ _ _ _ hb) rfl rfl (Nat.le_of_ble_eq_true rfl) (Nat.le_of_ble_eq_true rfl) dX1_sizeTable_73 (fun x9 => ?_)
      refine tl_j (fun (k : Int32 → Dm Unit) => ∀ (x10 : Int32), TL_X1_sizeTable T 84 [some (.ref b), some (.int p0), some (.int p1), some (.int x2), some (.int x3), none, none, some (.int x8)] [.int x10, .int x7] (k x10)) (fun x10 => ?_) (fun k5 hk5 => ?_)
      · refine tl_iadd (pc := 84) dX1_sizeTable_84 ?_
        refine tl_bI (fun x11 => ?_)
        refine tl_istore (pc := 85) (i := 6) (lo' := [some (.ref b), some (.int p0), some (.int p1), some (.int x2), some (.int x3), none, some (.int x11), some (.int x8)]) dX1_sizeTable_85 (by decide) rfl ?_
        refine tl_iinc (pc := 87) (i := 7) (v := x8 + (1 : Int32)) (lo' := [some (.ref b), some (.int p0), some (.int p1), some (.int x2), some (.int x3), none, some (.int x11), some (.int (x8 + (1 : Int32)))]) dX1_sizeTable_87 rfl rfl (by decide) rfl ?_
        refine tl_goto (pc := 90) (tgt := 58) dX1_sizeTable_90 rfl ?_
        exact tl_sub (ih _ _) (sub_s (sub_s (sub_s (sub_s (sub_s (sub_n (sub_s (sub_s sub_e))))))))
      · refine tl_if_le (pc := 76) (tgt := 83) dX1_sizeTable_76 rfl ?_ ?_
        · refine tl_iconst (pc := 83) (v := 0) dX1_sizeTable_83 (by decide) ?_
          exact tl_sub (hk5 _) (sub_s (sub_s (sub_s (sub_s (sub_s (sub_n (sub_n (sub_s sub_e))))))))
        · refine tl_iconst (pc := 79) (v := 1) dX1_sizeTable_79 (by decide) ?_
          refine tl_goto (pc := 80) (tgt := 84) dX1_sizeTable_80 rfl ?_
          exact tl_sub (hk5 _) (sub_s (sub_s (sub_s (sub_s (sub_s (sub_n (sub_n (sub_s sub_e))))))))
set_option maxRecDepth 100000 in
theorem c_X1_sizeTable (T : Tb) (b : Nat) (p0 : Int32) (p1 : Int32) (hb : isLay T b) : CT (.code yX1_sizeTable cX1_sizeTable 8 none) yX1_sizeTable 3 vI T [.ref b, .int p0, .int p1] (F_X1_sizeTable b p0 p1) := by
  refine ct_of (lo := [some (.ref b), some (.int p0), some (.int p1), none, none, none, none, none]) (j := 5) k_X1_sizeTable.1 rfl (fun _ => Nat.le_of_ble_eq_true rfl) ?_
  show TL_X1_sizeTable T 0 _ _ _
  rw [F_X1_sizeTable]
  refine tl_aload_n (pc := 0) (i := 0) dX1_sizeTable_0 rfl rfl ?_
  refine tl_getR (pc := 1) (r := (b + 1)) fl_X1_12 hb.1 rfl dX1_sizeTable_1 ?_
  refine tl_iload_n (pc := 4) (i := 1) dX1_sizeTable_4 rfl rfl ?_
  refine tl_iload_n (pc := 5) (i := 2) dX1_sizeTable_5 rfl rfl ?_
  refine tl_callVi (pc := 6) k_X4_linesOf gw_259 hb.2.1.1 ⟨_, _, rfl⟩ (c_X4_linesOf T _ _ _ hb.2.1) rfl rfl (Nat.le_of_ble_eq_true rfl) (Nat.le_of_ble_eq_true rfl) dX1_sizeTable_6 (fun x1 => ?_)
  refine tl_iconst (pc := 9) (v := 1) dX1_sizeTable_9 (by decide) ?_
  refine tl_isub (pc := 10) dX1_sizeTable_10 ?_
  refine tl_bI (fun x2 => ?_)
  refine tl_istore_n (pc := 11) (i := 3) (lo' := [some (.ref b), some (.int p0), some (.int p1), some (.int x2), none, none, none, none]) dX1_sizeTable_11 rfl (by decide) rfl ?_
  refine tl_iload_n (pc := 12) (i := 2) dX1_sizeTable_12 rfl rfl ?_
  refine tl_iconst (pc := 13) (v := 1) dX1_sizeTable_13 (by decide) ?_
  refine tl_j (fun (k : Int32 → Dm Unit) => ∀ (x3 : Int32), TL_X1_sizeTable T 22 [some (.ref b), some (.int p0), some (.int p1), some (.int x2), none, none, none, none] [.int x3] (k x3)) (fun x3 => ?_) (fun k1 hk1 => ?_)
  · refine tl_istore (pc := 22) (i := 4) (lo' := [some (.ref b), some (.int p0), some (.int p1), some (.int x2), some (.int x3), none, none, none]) dX1_sizeTable_22 (by decide) rfl ?_
    refine tl_iload_n (pc := 24) (i := 2) dX1_sizeTable_24 rfl rfl ?_
    refine tl_iconst (pc := 25) (v := 1) dX1_sizeTable_25 (by decide) ?_
    refine tl_j (fun (k : Int32 → Dm Unit) => ∀ (x4 : Int32), TL_X1_sizeTable T 34 [some (.ref b), some (.int p0), some (.int p1), some (.int x2), some (.int x3), none, none, none] [.int x4] (k x4)) (fun x4 => ?_) (fun k2 hk2 => ?_)
    · refine tl_istore (pc := 34) (i := 5) (lo' := [some (.ref b), some (.int p0), some (.int p1), some (.int x2), some (.int x3), some (.int x4), none, none]) dX1_sizeTable_34 (by decide) rfl ?_
      refine tl_aload_n (pc := 36) (i := 0) dX1_sizeTable_36 rfl rfl ?_
      refine tl_iload_n (pc := 37) (i := 1) dX1_sizeTable_37 rfl rfl ?_
      refine tl_iload_n (pc := 38) (i := 2) dX1_sizeTable_38 rfl rfl ?_
      refine tl_iload_n (pc := 39) (i := 3) dX1_sizeTable_39 rfl rfl ?_
      refine tl_iload (pc := 40) (i := 5) dX1_sizeTable_40 rfl ?_
      refine tl_callVi (pc := 42) k_X1_greatestRule gw_263 hb.1 ⟨_, _, rfl⟩ (c_X1_greatestRule T _ _ _ _ _ hb) rfl rfl (Nat.le_of_ble_eq_true rfl) (Nat.le_of_ble_eq_true rfl) dX1_sizeTable_42 (fun x5 => ?_)
      refine tl_j (fun (k : Int32 → Dm Unit) => ∀ (x6 : Int32), TL_X1_sizeTable T 53 [some (.ref b), some (.int p0), some (.int p1), some (.int x2), some (.int x3), none, none, none] [.int x6] (k x6)) (fun x6 => ?_) (fun k3 hk3 => ?_)
      · refine tl_istore (pc := 53) (i := 6) (lo' := [some (.ref b), some (.int p0), some (.int p1), some (.int x2), some (.int x3), none, some (.int x6), none]) dX1_sizeTable_53 (by decide) rfl ?_
        refine tl_iconst (pc := 55) (v := 0) dX1_sizeTable_55 (by decide) ?_
        refine tl_istore (pc := 56) (i := 7) (lo' := [some (.ref b), some (.int p0), some (.int p1), some (.int x2), some (.int x3), none, some (.int x6), some (.int (0 : Int32))]) dX1_sizeTable_56 (by decide) rfl ?_
        refine tl_sub (lp_X1_sizeTable_58 T b p0 p1 x2 x3 hb  _ (fun x12 => ?_) FU _ _) (sub_s (sub_s (sub_s (sub_s (sub_s (sub_n (sub_s (sub_s sub_e))))))))
        refine tl_aload_n (pc := 93) (i := 0) dX1_sizeTable_93 rfl rfl ?_
        refine tl_getR (pc := 94) (r := (b + 30)) fl_X1_45 hb.1 rfl dX1_sizeTable_94 ?_
        refine tl_iload_n (pc := 97) (i := 1) dX1_sizeTable_97 rfl rfl ?_
        refine tl_iconst (pc := 98) (v := 2) dX1_sizeTable_98 (by decide) ?_
        refine tl_imul (pc := 99) dX1_sizeTable_99 ?_
        refine tl_iload_n (pc := 100) (i := 2) dX1_sizeTable_100 rfl rfl ?_
        refine tl_iadd (pc := 101) dX1_sizeTable_101 ?_
        refine tl_iload (pc := 102) (i := 6) dX1_sizeTable_102 rfl ?_
        refine tl_callVv (pc := 104) k_X2_store gw_222 hb.2.2.2.2.2.2.2.2.2.1.1 ⟨_, _, rfl⟩ (c_X2_store T _ _ _ _ hb.2.2.2.2.2.2.2.2.2.1) rfl rfl (Nat.le_of_ble_eq_true rfl) (Nat.le_of_ble_eq_true rfl) dX1_sizeTable_104 (fun _ => ?_)
        refine tl_aload_n (pc := 107) (i := 0) dX1_sizeTable_107 rfl rfl ?_
        refine tl_getR (pc := 108) (r := (b + 32)) fl_X1_48 hb.1 rfl dX1_sizeTable_108 ?_
        refine tl_iload_n (pc := 111) (i := 1) dX1_sizeTable_111 rfl rfl ?_
        refine tl_iconst (pc := 112) (v := 2) dX1_sizeTable_112 (by decide) ?_
        refine tl_imul (pc := 113) dX1_sizeTable_113 ?_
        refine tl_iload_n (pc := 114) (i := 2) dX1_sizeTable_114 rfl rfl ?_
        refine tl_iadd (pc := 115) dX1_sizeTable_115 ?_
        refine tl_iload (pc := 116) (i := 6) dX1_sizeTable_116 rfl ?_
        refine tl_aload_n (pc := 118) (i := 0) dX1_sizeTable_118 rfl rfl ?_
        refine tl_iload_n (pc := 119) (i := 1) dX1_sizeTable_119 rfl rfl ?_
        refine tl_iload_n (pc := 120) (i := 2) dX1_sizeTable_120 rfl rfl ?_
        refine tl_iconst (pc := 121) (v := 0) dX1_sizeTable_121 (by decide) ?_
        refine tl_iload_n (pc := 122) (i := 3) dX1_sizeTable_122 rfl rfl ?_
        refine tl_callVi (pc := 123) k_X1_sizeTogether gw_309 hb.1 ⟨_, _, rfl⟩ (c_X1_sizeTogether T _ _ _ _ _ hb) rfl rfl (Nat.le_of_ble_eq_true rfl) (Nat.le_of_ble_eq_true rfl) dX1_sizeTable_123 (fun x13 => ?_)
        refine tl_iadd (pc := 126) dX1_sizeTable_126 ?_
        refine tl_callVv (pc := 127) k_X2_store gw_222 hb.2.2.2.2.2.2.2.2.2.2.1.1 ⟨_, _, rfl⟩ (c_X2_store T _ _ _ _ hb.2.2.2.2.2.2.2.2.2.2.1) rfl rfl (Nat.le_of_ble_eq_true rfl) (Nat.le_of_ble_eq_true rfl) dX1_sizeTable_127 (fun _ => ?_)
        exact tl_vret (pc := 130) dX1_sizeTable_130
      · refine tl_if_le (pc := 45) (tgt := 52) dX1_sizeTable_45 rfl ?_ ?_
        · refine tl_iconst (pc := 52) (v := 0) dX1_sizeTable_52 (by decide) ?_
          exact tl_sub (hk3 _) (sub_s (sub_s (sub_s (sub_s (sub_s (sub_n (sub_n (sub_n sub_e))))))))
        · refine tl_iconst (pc := 48) (v := 1) dX1_sizeTable_48 (by decide) ?_
          refine tl_goto (pc := 49) (tgt := 53) dX1_sizeTable_49 rfl ?_
          exact tl_sub (hk3 _) (sub_s (sub_s (sub_s (sub_s (sub_s (sub_n (sub_n (sub_n sub_e))))))))
    · refine tl_icmp_ne (pc := 26) (tgt := 33) dX1_sizeTable_26 rfl ?_ ?_
      · refine tl_iconst (pc := 29) (v := 2) dX1_sizeTable_29 (by decide) ?_
        refine tl_goto (pc := 30) (tgt := 34) dX1_sizeTable_30 rfl ?_
        exact tl_sub (hk2 _) (sub_s (sub_s (sub_s (sub_s (sub_s (sub_n (sub_n (sub_n sub_e))))))))
      · refine tl_iconst (pc := 33) (v := 1) dX1_sizeTable_33 (by decide) ?_
        exact tl_sub (hk2 _) (sub_s (sub_s (sub_s (sub_s (sub_s (sub_n (sub_n (sub_n sub_e))))))))
  · refine tl_icmp_ne (pc := 14) (tgt := 21) dX1_sizeTable_14 rfl ?_ ?_
    · refine tl_iconst (pc := 17) (v := 0) dX1_sizeTable_17 (by decide) ?_
      refine tl_goto (pc := 18) (tgt := 22) dX1_sizeTable_18 rfl ?_
      exact tl_sub (hk1 _) (sub_s (sub_s (sub_s (sub_s (sub_n (sub_n (sub_n (sub_n sub_e))))))))
    · refine tl_iconst (pc := 21) (v := 3) dX1_sizeTable_21 (by decide) ?_
      exact tl_sub (hk1 _) (sub_s (sub_s (sub_s (sub_s (sub_n (sub_n (sub_n (sub_n sub_e))))))))
abbrev TL_X1_measure (T : Tb) (pc : Nat) (lo : List (Option Value)) (st : List Value) (X : Dm Unit) : Prop := TL yX1_measure cX1_measure 3 none 4 vI T pc lo st X
set_option maxRecDepth 100000 in
theorem lp_X1_measure_43 (T : Tb) (b : Nat) (x3 : Int32) (hb : isLay T b)  (k1 : Unit → Dm Unit) (hk1 : ∀ (_ : Unit), TL_X1_measure T 78 [some (.ref b), some (.int x3), none] [] (k1 ())) : ∀ (n : Nat) (x4 : Int32), TL_X1_measure T 43 [some (.ref b), some (.int x3), some (.int x4)] [] (L_X1_measure_43 b x3 n x4 k1) := by
  intro n
  induction n with
  | zero => intros; exact tl_fail
  | succ n ih =>
    intro x4
    rw [L_X1_measure_43]
    refine tl_iload_n (pc := 43) (i := 2) dX1_measure_43 rfl rfl ?_
    refine tl_iconst (pc := 44) (v := 1) dX1_measure_44 (by decide) ?_
    refine tl_icmp_gt (pc := 45) (tgt := 78) dX1_measure_45 rfl ?_ ?_
    · exact tl_sub (hk1 ()) (sub_s (sub_s (sub_n sub_e)))
    · refine tl_aload_n (pc := 48) (i := 0) dX1_measure_48 rfl rfl ?_
      refine tl_iload_n (pc := 49) (i := 1) dX1_measure_49 rfl rfl ?_
      refine tl_iload_n (pc := 50) (i := 2) dX1_measure_50 rfl rfl ?_
      refine tl_callVv (pc := 51) k_X1_wantSizes gw_283 hb.1 ⟨_, _, rfl⟩ (c_X1_wantSizes T _ _ _ hb) rfl rfl (Nat.le_of_ble_eq_true rfl) (Nat.le_of_ble_eq_true rfl) dX1_measure_51 (fun _ => ?_)
      refine tl_aload_n (pc := 54) (i := 0) dX1_measure_54 rfl rfl ?_
      refine tl_iload_n (pc := 55) (i := 1) dX1_measure_55 rfl rfl ?_
      refine tl_iload_n (pc := 56) (i := 2) dX1_measure_56 rfl rfl ?_
      refine tl_callVv (pc := 57) k_X1_sizeSingles gw_294 hb.1 ⟨_, _, rfl⟩ (c_X1_sizeSingles T _ _ _ hb) rfl rfl (Nat.le_of_ble_eq_true rfl) (Nat.le_of_ble_eq_true rfl) dX1_measure_57 (fun _ => ?_)
      refine tl_aload_n (pc := 60) (i := 0) dX1_measure_60 rfl rfl ?_
      refine tl_iload_n (pc := 61) (i := 1) dX1_measure_61 rfl rfl ?_
      refine tl_iload_n (pc := 62) (i := 2) dX1_measure_62 rfl rfl ?_
      refine tl_callVv (pc := 63) k_X1_sizeSpans gw_305 hb.1 ⟨_, _, rfl⟩ (c_X1_sizeSpans T _ _ _ hb) rfl rfl (Nat.le_of_ble_eq_true rfl) (Nat.le_of_ble_eq_true rfl) dX1_measure_63 (fun _ => ?_)
      refine tl_aload_n (pc := 66) (i := 0) dX1_measure_66 rfl rfl ?_
      refine tl_iload_n (pc := 67) (i := 1) dX1_measure_67 rfl rfl ?_
      refine tl_iload_n (pc := 68) (i := 2) dX1_measure_68 rfl rfl ?_
      refine tl_callVv (pc := 69) k_X1_sizeTable gw_317 hb.1 ⟨_, _, rfl⟩ (c_X1_sizeTable T _ _ _ hb) rfl rfl (Nat.le_of_ble_eq_true rfl) (Nat.le_of_ble_eq_true rfl) dX1_measure_69 (fun _ => ?_)
      refine tl_iinc (pc := 72) (i := 2) (v := x4 + (1 : Int32)) (lo' := [some (.ref b), some (.int x3), some (.int (x4 + (1 : Int32)))]) dX1_measure_72 rfl rfl (by decide) rfl ?_
      refine tl_goto (pc := 75) (tgt := 43) dX1_measure_75 rfl ?_
      exact tl_sub (ih _) (sub_s (sub_s (sub_s sub_e)))
set_option maxRecDepth 100000 in
theorem lp_X1_measure_17 (T : Tb) (b : Nat)  (hb : isLay T b)    : ∀ (n : Nat) (x3 : Int32), TL_X1_measure T 17 [some (.ref b), some (.int x3), none] [] (L_X1_measure_17 b n x3 ) := by
  intro n
  induction n with
  | zero => intros; exact tl_fail
  | succ n ih =>
    intro x3
    rw [L_X1_measure_17]
    refine tl_iload_n (pc := 17) (i := 1) dX1_measure_17 rfl rfl ?_
    refine tl_if_lt (pc := 18) (tgt := 84) dX1_measure_18 rfl ?_ ?_
    · exact tl_vret (pc := 84) dX1_measure_84
    · refine tl_aload_n (pc := 21) (i := 0) dX1_measure_21 rfl rfl ?_
      refine tl_iload_n (pc := 22) (i := 1) dX1_measure_22 rfl rfl ?_
      refine tl_callVv (pc := 23) k_X1_valueCells gw_202 hb.1 ⟨_, _, rfl⟩ (c_X1_valueCells T _ _ hb) rfl rfl (Nat.le_of_ble_eq_true rfl) (Nat.le_of_ble_eq_true rfl) dX1_measure_23 (fun _ => ?_)
      refine tl_aload_n (pc := 26) (i := 0) dX1_measure_26 rfl rfl ?_
      refine tl_iload_n (pc := 27) (i := 1) dX1_measure_27 rfl rfl ?_
      refine tl_callVv (pc := 28) k_X1_showNumbers gw_223 hb.1 ⟨_, _, rfl⟩ (c_X1_showNumbers T _ _ hb) rfl rfl (Nat.le_of_ble_eq_true rfl) (Nat.le_of_ble_eq_true rfl) dX1_measure_28 (fun _ => ?_)
      refine tl_aload_n (pc := 31) (i := 0) dX1_measure_31 rfl rfl ?_
      refine tl_iload_n (pc := 32) (i := 1) dX1_measure_32 rfl rfl ?_
      refine tl_callVv (pc := 33) k_X1_ruleCells gw_247 hb.1 ⟨_, _, rfl⟩ (c_X1_ruleCells T _ _ hb) rfl rfl (Nat.le_of_ble_eq_true rfl) (Nat.le_of_ble_eq_true rfl) dX1_measure_33 (fun _ => ?_)
      refine tl_aload_n (pc := 36) (i := 0) dX1_measure_36 rfl rfl ?_
      refine tl_iload_n (pc := 37) (i := 1) dX1_measure_37 rfl rfl ?_
      refine tl_callVv (pc := 38) k_X1_ruleEdges gw_267 hb.1 ⟨_, _, rfl⟩ (c_X1_ruleEdges T _ _ hb) rfl rfl (Nat.le_of_ble_eq_true rfl) (Nat.le_of_ble_eq_true rfl) dX1_measure_38 (fun _ => ?_)
      refine tl_iconst (pc := 41) (v := 0) dX1_measure_41 (by decide) ?_
      refine tl_istore_n (pc := 42) (i := 2) (lo' := [some (.ref b), some (.int x3), some (.int (0 : Int32))]) dX1_measure_42 rfl (by decide) rfl ?_
      refine tl_sub (lp_X1_measure_43 T b x3 hb  _ (fun _ => ?_) FU _) (sub_s (sub_s (sub_s sub_e)))
      refine tl_iinc (pc := 78) (i := 1) (v := x3 + (-1 : Int32)) (lo' := [some (.ref b), some (.int (x3 + (-1 : Int32))), none]) dX1_measure_78 rfl rfl (by decide) rfl ?_
      refine tl_goto (pc := 81) (tgt := 17) dX1_measure_81 rfl ?_
      exact tl_sub (ih _) (sub_s (sub_s (sub_n sub_e)))
set_option maxRecDepth 100000 in
theorem c_X1_measure (T : Tb) (b : Nat) (hb : isLay T b) : CT (.code yX1_measure cX1_measure 3 none) yX1_measure 4 vI T [.ref b] (F_X1_measure b) := by
  refine ct_of (lo := [some (.ref b), none, none]) (j := 2) k_X1_measure.1 rfl (fun _ => Nat.le_of_ble_eq_true rfl) ?_
  show TL_X1_measure T 0 _ _ _
  rw [F_X1_measure]
  refine tl_aload_n (pc := 0) (i := 0) dX1_measure_0 rfl rfl ?_
  refine tl_getR (pc := 1) (r := (b + 28)) fl_X1_42 hb.1 rfl dX1_measure_1 ?_
  refine tl_callVv (pc := 4) k_X2_clear gw_195 hb.2.2.2.2.2.2.2.2.1.1 ⟨_, _, rfl⟩ (c_X2_clear T _ _ hb.2.2.2.2.2.2.2.2.1) rfl rfl (Nat.le_of_ble_eq_true rfl) (Nat.le_of_ble_eq_true rfl) dX1_measure_4 (fun _ => ?_)
  refine tl_aload_n (pc := 7) (i := 0) dX1_measure_7 rfl rfl ?_
  refine tl_getR (pc := 8) (r := (b + 1)) fl_X1_12 hb.1 rfl dX1_measure_8 ?_
  refine tl_getI (pc := 11) fl_X1_65 hb.2.1.1 rfl dX1_measure_11 (fun x1 => ?_)
  refine tl_iconst (pc := 14) (v := 1) dX1_measure_14 (by decide) ?_
  refine tl_isub (pc := 15) dX1_measure_15 ?_
  refine tl_bI (fun x2 => ?_)
  refine tl_istore_n (pc := 16) (i := 1) (lo' := [some (.ref b), some (.int x2), none]) dX1_measure_16 rfl (by decide) rfl ?_
  refine tl_sub (lp_X1_measure_17 T b hb    FU _) (sub_s (sub_s (sub_n sub_e)))
abbrev TL_X0_sheetAt (T : Tb) (pc : Nat) (lo : List (Option Value)) (st : List Value) (X : Dm Nat) : Prop := TL yX0_sheetAt cX0_sheetAt 3 (some (.object "NestedSums$Sheet")) 0 rI T pc lo st X
set_option maxRecDepth 100000 in
theorem c_X0_sheetAt (T : Tb) (p0 : Int32) (hb : isHist T) : CT (.code yX0_sheetAt cX0_sheetAt 3 (some (.object "NestedSums$Sheet"))) yX0_sheetAt 0 rI T [.ref 73, .int p0] (F_X0_sheetAt p0) := by
  refine ct_of (lo := [some (.ref 73), some (.int p0), none]) (j := 1) k_X0_sheetAt.1 rfl (fun _ => Nat.le_of_ble_eq_true rfl) ?_
  show TL_X0_sheetAt T 0 _ _ _
  rw [F_X0_sheetAt]
  refine tl_aload_n (pc := 0) (i := 0) dX0_sheetAt_0 rfl rfl ?_
  refine tl_getI (pc := 1) fl_X0_22 hb.1 rfl dX0_sheetAt_1 (fun x1 => ?_)
  refine tl_iload_n (pc := 4) (i := 1) dX0_sheetAt_4 rfl rfl ?_
  refine tl_iadd (pc := 5) dX0_sheetAt_5 ?_
  refine tl_bipush (pc := 6) (v := 6) dX0_sheetAt_6 (by decide) ?_
  refine tl_irem (pc := 8) dX0_sheetAt_8 (by decide) ?_
  refine tl_bI (fun x2 => ?_)
  refine tl_istore_n (pc := 9) (i := 2) (lo' := [some (.ref 73), some (.int p0), some (.int x2)]) dX0_sheetAt_9 rfl (by decide) rfl ?_
  refine tl_iload_n (pc := 10) (i := 2) dX0_sheetAt_10 rfl rfl ?_
  refine tl_if_lt (pc := 11) (tgt := 32) dX0_sheetAt_11 rfl ?_ ?_
  · exact tl_fail
  · refine tl_iload_n (pc := 14) (i := 2) dX0_sheetAt_14 rfl rfl ?_
    refine tl_aload_n (pc := 15) (i := 0) dX0_sheetAt_15 rfl rfl ?_
    refine tl_getR (pc := 16) (r := 74) fl_X0_11 hb.1 rfl dX0_sheetAt_16 ?_
    refine tl_alenq (pc := 19) hb.2.1 dX0_sheetAt_19 ?_
    refine tl_icmp_ge (pc := 20) (tgt := 32) dX0_sheetAt_20 rfl ?_ ?_
    · exact tl_fail
    · refine tl_aload_n (pc := 23) (i := 0) dX0_sheetAt_23 rfl rfl ?_
      refine tl_getR (pc := 24) (r := 74) fl_X0_11 hb.1 rfl dX0_sheetAt_24 ?_
      refine tl_iload_n (pc := 27) (i := 2) dX0_sheetAt_27 rfl rfl ?_
      refine tl_aaldH (pc := 28) hb dX0_sheetAt_28 (fun r3 hrr3 => ?_)
      refine tl_goto (pc := 29) (tgt := 33) dX0_sheetAt_29 rfl ?_
      exact tl_aret (pc := 33) dX0_sheetAt_33
abbrev TL_X0_save (T : Tb) (pc : Nat) (lo : List (Option Value)) (st : List Value) (X : Dm Unit) : Prop := TL yX0_save cX0_save 3 none 3 vI T pc lo st X
set_option maxRecDepth 100000 in
theorem c_X0_save (T : Tb) (o0 : Nat) (hb : isHist T) (ho0 : isSheet T o0) : CT (.code yX0_save cX0_save 3 none) yX0_save 3 vI T [.ref 73, .ref o0] (F_X0_save o0) := by
  refine ct_of (lo := [some (.ref 73), some (.ref o0), none]) (j := 1) k_X0_save.1 rfl (fun _ => Nat.le_of_ble_eq_true rfl) ?_
  show TL_X0_save T 0 _ _ _
  rw [F_X0_save]
  refine tl_aload_n (pc := 0) (i := 0) dX0_save_0 rfl rfl ?_
  refine tl_getI (pc := 1) fl_X0_18 hb.1 rfl dX0_save_1 (fun x1 => ?_)
  refine tl_bipush (pc := 4) (v := 6) dX0_save_4 (by decide) ?_
  refine tl_j (fun (k : Unit → Dm Unit) => ∀ (_ : Unit), TL_X0_save T 27 [some (.ref 73), some (.ref o0), none] [] (k ())) (fun _ => ?_) (fun k1 hk1 => ?_)
  · refine tl_aload_n (pc := 27) (i := 0) dX0_save_27 rfl rfl ?_
    refine tl_aload_n (pc := 28) (i := 0) dX0_save_28 rfl rfl ?_
    refine tl_getI (pc := 29) fl_X0_18 hb.1 rfl dX0_save_29 (fun x2 => ?_)
    refine tl_callVr (pc := 32) k_X0_sheetAt gw_415 hb.1 ⟨_, _, rfl⟩ (c_X0_sheetAt T _ hb) rfl rfl (Nat.le_of_ble_eq_true rfl) (Nat.le_of_ble_eq_true rfl) dX0_save_32 (fun r3 => ?_)
    refine tl_ck (fun hrr3 => ?_)
    refine tl_astore_n (pc := 35) (i := 2) (lo' := [some (.ref 73), some (.ref o0), some (.ref r3)]) dX0_save_35 rfl (by decide) rfl ?_
    refine tl_aload_n (pc := 36) (i := 2) dX0_save_36 rfl rfl ?_
    refine tl_ifnull (pc := 37) dX0_save_37 ?_
    refine tl_aload_n (pc := 40) (i := 2) dX0_save_40 rfl rfl ?_
    refine tl_aload_n (pc := 41) (i := 1) dX0_save_41 rfl rfl ?_
    refine tl_callVv (pc := 42) k_X4_copyFrom gw_419 (hb.2.2 r3 hrr3).1 ⟨_, _, rfl⟩ (c_X4_copyFrom T _ _ (hb.2.2 r3 hrr3) ho0) rfl rfl (Nat.le_of_ble_eq_true rfl) (Nat.le_of_ble_eq_true rfl) dX0_save_42 (fun _ => ?_)
    refine tl_aload_n (pc := 45) (i := 0) dX0_save_45 rfl rfl ?_
    refine tl_dup (pc := 46) dX0_save_46 rfl ?_
    refine tl_getI (pc := 47) fl_X0_18 hb.1 rfl dX0_save_47 (fun x4 => ?_)
    refine tl_iconst (pc := 50) (v := 1) dX0_save_50 (by decide) ?_
    refine tl_iadd (pc := 51) dX0_save_51 ?_
    refine tl_putI (pc := 52) fw_X0_18 hb.1 rfl dX0_save_52 ?_
    exact tl_vret (pc := 55) dX0_save_55
  · refine tl_icmp_lt (pc := 6) (tgt := 27) dX0_save_6 rfl ?_ ?_
    · exact tl_sub (hk1 ()) (sub_s (sub_s (sub_n sub_e)))
    · refine tl_aload_n (pc := 9) (i := 0) dX0_save_9 rfl rfl ?_
      refine tl_aload_n (pc := 10) (i := 0) dX0_save_10 rfl rfl ?_
      refine tl_getI (pc := 11) fl_X0_22 hb.1 rfl dX0_save_11 (fun x5 => ?_)
      refine tl_iconst (pc := 14) (v := 1) dX0_save_14 (by decide) ?_
      refine tl_iadd (pc := 15) dX0_save_15 ?_
      refine tl_bipush (pc := 16) (v := 6) dX0_save_16 (by decide) ?_
      refine tl_irem (pc := 18) dX0_save_18 (by decide) ?_
      refine tl_putI (pc := 19) fw_X0_22 hb.1 rfl dX0_save_19 ?_
      refine tl_aload_n (pc := 22) (i := 0) dX0_save_22 rfl rfl ?_
      refine tl_iconst (pc := 23) (v := 5) dX0_save_23 (by decide) ?_
      refine tl_putI (pc := 24) fw_X0_18 hb.1 rfl dX0_save_24 ?_
      exact tl_sub (hk1 ()) (sub_s (sub_s (sub_n sub_e)))
abbrev TL_X0_takeBack (T : Tb) (pc : Nat) (lo : List (Option Value)) (st : List Value) (X : Dm Unit) : Prop := TL yX0_takeBack cX0_takeBack 3 none 3 vI T pc lo st X
set_option maxRecDepth 100000 in
theorem c_X0_takeBack (T : Tb) (o0 : Nat) (hb : isHist T) (ho0 : isSheet T o0) : CT (.code yX0_takeBack cX0_takeBack 3 none) yX0_takeBack 3 vI T [.ref 73, .ref o0] (F_X0_takeBack o0) := by
  refine ct_of (lo := [some (.ref 73), some (.ref o0), none]) (j := 1) k_X0_takeBack.1 rfl (fun _ => Nat.le_of_ble_eq_true rfl) ?_
  show TL_X0_takeBack T 0 _ _ _
  rw [F_X0_takeBack]
  refine tl_aload_n (pc := 0) (i := 0) dX0_takeBack_0 rfl rfl ?_
  refine tl_dup (pc := 1) dX0_takeBack_1 rfl ?_
  refine tl_getI (pc := 2) fl_X0_18 hb.1 rfl dX0_takeBack_2 (fun x1 => ?_)
  refine tl_iconst (pc := 5) (v := 1) dX0_takeBack_5 (by decide) ?_
  refine tl_isub (pc := 6) dX0_takeBack_6 ?_
  refine tl_putI (pc := 7) fw_X0_18 hb.1 rfl dX0_takeBack_7 ?_
  refine tl_aload_n (pc := 10) (i := 0) dX0_takeBack_10 rfl rfl ?_
  refine tl_aload_n (pc := 11) (i := 0) dX0_takeBack_11 rfl rfl ?_
  refine tl_getI (pc := 12) fl_X0_18 hb.1 rfl dX0_takeBack_12 (fun x2 => ?_)
  refine tl_callVr (pc := 15) k_X0_sheetAt gw_415 hb.1 ⟨_, _, rfl⟩ (c_X0_sheetAt T _ hb) rfl rfl (Nat.le_of_ble_eq_true rfl) (Nat.le_of_ble_eq_true rfl) dX0_takeBack_15 (fun r3 => ?_)
  refine tl_ck (fun hrr3 => ?_)
  refine tl_astore_n (pc := 18) (i := 2) (lo' := [some (.ref 73), some (.ref o0), some (.ref r3)]) dX0_takeBack_18 rfl (by decide) rfl ?_
  refine tl_aload_n (pc := 19) (i := 2) dX0_takeBack_19 rfl rfl ?_
  refine tl_ifnull (pc := 20) dX0_takeBack_20 ?_
  refine tl_aload_n (pc := 23) (i := 1) dX0_takeBack_23 rfl rfl ?_
  refine tl_aload_n (pc := 24) (i := 2) dX0_takeBack_24 rfl rfl ?_
  refine tl_callVv (pc := 25) k_X4_copyFrom gw_419 ho0.1 ⟨_, _, rfl⟩ (c_X4_copyFrom T _ _ ho0 (hb.2.2 r3 hrr3)) rfl rfl (Nat.le_of_ble_eq_true rfl) (Nat.le_of_ble_eq_true rfl) dX0_takeBack_25 (fun _ => ?_)
  exact tl_vret (pc := 28) dX0_takeBack_28
abbrev TL_X1_isJoined (T : Tb) (pc : Nat) (lo : List (Option Value)) (st : List Value) (X : Dm Int32) : Prop := TL yX1_isJoined cX1_isJoined 4 (some .boolean) 2 iI T pc lo st X
set_option maxRecDepth 100000 in
theorem lp_X1_isJoined_2 (T : Tb) (b : Nat) (p0 : Int32)  (hb : isLay T b)    : ∀ (n : Nat) (x1 : Int32), TL_X1_isJoined T 2 [some (.ref b), some (.int p0), some (.int x1), none] [] (L_X1_isJoined_2 b p0 n x1 ) := by
  intro n
  induction n with
  | zero => intros; exact tl_fail
  | succ n ih =>
    intro x1
    rw [L_X1_isJoined_2]
    refine tl_iload_n (pc := 2) (i := 2) dX1_isJoined_2 rfl rfl ?_
    refine tl_aload_n (pc := 3) (i := 0) dX1_isJoined_3 rfl rfl ?_
    refine tl_getR (pc := 4) (r := (b + 1)) fl_X1_12 hb.1 rfl dX1_isJoined_4 ?_
    refine tl_iconst (pc := 7) (v := 0) dX1_isJoined_7 (by decide) ?_
    refine tl_iconst (pc := 8) (v := 0) dX1_isJoined_8 (by decide) ?_
    refine tl_callVi (pc := 9) k_X4_linesOf gw_259 hb.2.1.1 ⟨_, _, rfl⟩ (c_X4_linesOf T _ _ _ hb.2.1) rfl rfl (Nat.le_of_ble_eq_true rfl) (Nat.le_of_ble_eq_true rfl) dX1_isJoined_9 (fun x2 => ?_)
    refine tl_icmp_ge (pc := 12) (tgt := 52) dX1_isJoined_12 rfl ?_ ?_
    · refine tl_iconst (pc := 52) (v := 0) dX1_isJoined_52 (by decide) ?_
      exact tl_zret (pc := 53) dX1_isJoined_53
    · refine tl_iload_n (pc := 15) (i := 1) dX1_isJoined_15 rfl rfl ?_
      refine tl_iconst (pc := 16) (v := 5) dX1_isJoined_16 (by decide) ?_
      refine tl_imul (pc := 17) dX1_isJoined_17 ?_
      refine tl_iload_n (pc := 18) (i := 2) dX1_isJoined_18 rfl rfl ?_
      refine tl_iadd (pc := 19) dX1_isJoined_19 ?_
      refine tl_bI (fun x3 => ?_)
      refine tl_istore_n (pc := 20) (i := 3) (lo' := [some (.ref b), some (.int p0), some (.int x1), some (.int x3)]) dX1_isJoined_20 rfl (by decide) rfl ?_
      refine tl_aload_n (pc := 21) (i := 0) dX1_isJoined_21 rfl rfl ?_
      refine tl_getR (pc := 22) (r := (b + 1)) fl_X1_12 hb.1 rfl dX1_isJoined_22 ?_
      refine tl_iload_n (pc := 25) (i := 3) dX1_isJoined_25 rfl rfl ?_
      refine tl_iconst (pc := 26) (v := 0) dX1_isJoined_26 (by decide) ?_
      refine tl_callVi (pc := 27) k_X4_ownerBeside gw_275 hb.2.1.1 ⟨_, _, rfl⟩ (c_X4_ownerBeside T _ _ _ hb.2.1) rfl rfl (Nat.le_of_ble_eq_true rfl) (Nat.le_of_ble_eq_true rfl) dX1_isJoined_27 (fun x4 => ?_)
      refine tl_aload_n (pc := 30) (i := 0) dX1_isJoined_30 rfl rfl ?_
      refine tl_getR (pc := 31) (r := (b + 1)) fl_X1_12 hb.1 rfl dX1_isJoined_31 ?_
      refine tl_getR (pc := 34) (r := ((b + 1) + 5)) fl_X1_158 hb.2.1.1 rfl dX1_isJoined_34 ?_
      refine tl_iload_n (pc := 37) (i := 3) dX1_isJoined_37 rfl rfl ?_
      refine tl_callVi (pc := 38) k_X2_at gw_221 hb.2.1.2.2.2.1.1 ⟨_, _, rfl⟩ (c_X2_at T _ _ _ hb.2.1.2.2.2.1) rfl rfl (Nat.le_of_ble_eq_true rfl) (Nat.le_of_ble_eq_true rfl) dX1_isJoined_38 (fun x5 => ?_)
      refine tl_icmp_ne (pc := 41) (tgt := 46) dX1_isJoined_41 rfl ?_ ?_
      · refine tl_iconst (pc := 44) (v := 1) dX1_isJoined_44 (by decide) ?_
        exact tl_zret (pc := 45) dX1_isJoined_45
      · refine tl_iinc (pc := 46) (i := 2) (v := x1 + (1 : Int32)) (lo' := [some (.ref b), some (.int p0), some (.int (x1 + (1 : Int32))), some (.int x3)]) dX1_isJoined_46 rfl rfl (by decide) rfl ?_
        refine tl_goto (pc := 49) (tgt := 2) dX1_isJoined_49 rfl ?_
        exact tl_sub (ih _) (sub_s (sub_s (sub_s (sub_n sub_e))))
set_option maxRecDepth 100000 in
theorem c_X1_isJoined (T : Tb) (b : Nat) (p0 : Int32) (hb : isLay T b) : CT (.code yX1_isJoined cX1_isJoined 4 (some .boolean)) yX1_isJoined 2 iI T [.ref b, .int p0] (F_X1_isJoined b p0) := by
  refine ct_of (lo := [some (.ref b), some (.int p0), none, none]) (j := 2) k_X1_isJoined.1 rfl (fun _ => Nat.le_of_ble_eq_true rfl) ?_
  show TL_X1_isJoined T 0 _ _ _
  rw [F_X1_isJoined]
  refine tl_iconst (pc := 0) (v := 0) dX1_isJoined_0 (by decide) ?_
  refine tl_istore_n (pc := 1) (i := 2) (lo' := [some (.ref b), some (.int p0), some (.int (0 : Int32)), none]) dX1_isJoined_1 rfl (by decide) rfl ?_
  refine tl_sub (lp_X1_isJoined_2 T b p0 hb    FU _) (sub_s (sub_s (sub_s (sub_n sub_e))))
abbrev TL_X1_pageOf (T : Tb) (pc : Nat) (lo : List (Option Value)) (st : List Value) (X : Dm Int32) : Prop := TL yX1_pageOf cX1_pageOf 8 (some .int) 3 iI T pc lo st X
set_option maxRecDepth 100000 in
theorem lp_X1_pageOf_42 (T : Tb) (b : Nat) (p0 : Int32) (p1 : Int32) (x1 : Int32) (x2 : Int32) (x3 : Int32) (hb : isLay T b)  (k2 : Int32 → Dm Int32) (hk2 : ∀ (y42_0 : Int32), TL_X1_pageOf T 84 [some (.ref b), some (.int p0), some (.int p1), some (.int x1), some (.int x2), some (.int x3), some (.int y42_0), none] [] (k2 y42_0)) : ∀ (n : Nat) (x9 : Int32) (x10 : Int32), TL_X1_pageOf T 42 [some (.ref b), some (.int p0), some (.int p1), some (.int x1), some (.int x2), some (.int x3), some (.int x9), some (.int x10)] [] (L_X1_pageOf_42 b n x9 x10 k2) := by
  intro n
  induction n with
  | zero => intros; exact tl_fail
  | succ n ih =>
    intro x9 x10
    rw [L_X1_pageOf_42]
    refine tl_iload (pc := 42) (i := 7) dX1_pageOf_42 rfl ?_
    refine tl_aload_n (pc := 44) (i := 0) dX1_pageOf_44 rfl rfl ?_
    refine tl_getR (pc := 45) (r := (b + 1)) fl_X1_12 hb.1 rfl dX1_pageOf_45 ?_
    refine tl_iconst (pc := 48) (v := 0) dX1_pageOf_48 (by decide) ?_
    refine tl_iconst (pc := 49) (v := 1) dX1_pageOf_49 (by decide) ?_
    refine tl_callVi (pc := 50) k_X4_linesOf gw_259 hb.2.1.1 ⟨_, _, rfl⟩ (c_X4_linesOf T _ _ _ hb.2.1) rfl rfl (Nat.le_of_ble_eq_true rfl) (Nat.le_of_ble_eq_true rfl) dX1_pageOf_50 (fun x11 => ?_)
    refine tl_icmp_ge (pc := 53) (tgt := 84) dX1_pageOf_53 rfl ?_ ?_
    · exact tl_sub (hk2 _) (sub_s (sub_s (sub_s (sub_s (sub_s (sub_s (sub_s (sub_n sub_e))))))))
    · refine tl_aload_n (pc := 56) (i := 0) dX1_pageOf_56 rfl rfl ?_
      refine tl_iload (pc := 57) (i := 7) dX1_pageOf_57 rfl ?_
      refine tl_callVi (pc := 59) k_X1_isJoined gw_488 hb.1 ⟨_, _, rfl⟩ (c_X1_isJoined T _ _ hb) rfl rfl (Nat.le_of_ble_eq_true rfl) (Nat.le_of_ble_eq_true rfl) dX1_pageOf_59 (fun x12 => ?_)
      refine tl_if_eq (pc := 62) (tgt := 84) dX1_pageOf_62 rfl ?_ ?_
      · exact tl_sub (hk2 _) (sub_s (sub_s (sub_s (sub_s (sub_s (sub_s (sub_s (sub_n sub_e))))))))
      · refine tl_iload (pc := 65) (i := 6) dX1_pageOf_65 rfl ?_
        refine tl_aload_n (pc := 67) (i := 0) dX1_pageOf_67 rfl rfl ?_
        refine tl_iconst (pc := 68) (v := 0) dX1_pageOf_68 (by decide) ?_
        refine tl_iconst (pc := 69) (v := 1) dX1_pageOf_69 (by decide) ?_
        refine tl_iload (pc := 70) (i := 7) dX1_pageOf_70 rfl ?_
        refine tl_callVi (pc := 72) k_X1_sizeOf gw_313 hb.1 ⟨_, _, rfl⟩ (c_X1_sizeOf T _ _ _ _ hb) rfl rfl (Nat.le_of_ble_eq_true rfl) (Nat.le_of_ble_eq_true rfl) dX1_pageOf_72 (fun x13 => ?_)
        refine tl_iadd (pc := 75) dX1_pageOf_75 ?_
        refine tl_bI (fun x14 => ?_)
        refine tl_istore (pc := 76) (i := 6) (lo' := [some (.ref b), some (.int p0), some (.int p1), some (.int x1), some (.int x2), some (.int x3), some (.int x14), some (.int x10)]) dX1_pageOf_76 (by decide) rfl ?_
        refine tl_iinc (pc := 78) (i := 7) (v := x10 + (1 : Int32)) (lo' := [some (.ref b), some (.int p0), some (.int p1), some (.int x1), some (.int x2), some (.int x3), some (.int x14), some (.int (x10 + (1 : Int32)))]) dX1_pageOf_78 rfl rfl (by decide) rfl ?_
        refine tl_goto (pc := 81) (tgt := 42) dX1_pageOf_81 rfl ?_
        exact tl_sub (ih _ _) (sub_s (sub_s (sub_s (sub_s (sub_s (sub_s (sub_s (sub_s sub_e))))))))
set_option maxRecDepth 100000 in
theorem lp_X1_pageOf_8 (T : Tb) (b : Nat) (p0 : Int32) (p1 : Int32)  (hb : isLay T b)    : ∀ (n : Nat) (x1 : Int32) (x2 : Int32) (x3 : Int32), TL_X1_pageOf T 8 [some (.ref b), some (.int p0), some (.int p1), some (.int x1), some (.int x2), some (.int x3), none, none] [] (L_X1_pageOf_8 b p0 p1 n x1 x2 x3 ) := by
  intro n
  induction n with
  | zero => intros; exact tl_fail
  | succ n ih =>
    intro x1 x2 x3
    rw [L_X1_pageOf_8]
    refine tl_iload (pc := 8) (i := 5) dX1_pageOf_8 rfl ?_
    refine tl_iload_n (pc := 10) (i := 1) dX1_pageOf_10 rfl rfl ?_
    refine tl_icmp_gt (pc := 11) (tgt := 117) dX1_pageOf_11 rfl ?_ ?_
    · refine tl_iload_n (pc := 117) (i := 3) dX1_pageOf_117 rfl rfl ?_
      exact tl_iret (pc := 118) dX1_pageOf_118
    · refine tl_aload_n (pc := 14) (i := 0) dX1_pageOf_14 rfl rfl ?_
      refine tl_iload (pc := 15) (i := 5) dX1_pageOf_15 rfl ?_
      refine tl_callVi (pc := 17) k_X1_isJoined gw_488 hb.1 ⟨_, _, rfl⟩ (c_X1_isJoined T _ _ hb) rfl rfl (Nat.le_of_ble_eq_true rfl) (Nat.le_of_ble_eq_true rfl) dX1_pageOf_17 (fun x4 => ?_)
      refine tl_j (fun (k : Int32 → Int32 → Dm Int32) => ∀ (x5 : Int32) (x6 : Int32), TL_X1_pageOf T 111 [some (.ref b), some (.int p0), some (.int p1), some (.int x5), some (.int x6), some (.int x3), none, none] [] (k x5 x6)) (fun x5 x6 => ?_) (fun k1 hk1 => ?_)
      · refine tl_iinc (pc := 111) (i := 5) (v := x3 + (1 : Int32)) (lo' := [some (.ref b), some (.int p0), some (.int p1), some (.int x5), some (.int x6), some (.int (x3 + (1 : Int32))), none, none]) dX1_pageOf_111 rfl rfl (by decide) rfl ?_
        refine tl_goto (pc := 114) (tgt := 8) dX1_pageOf_114 rfl ?_
        exact tl_sub (ih _ _ _) (sub_s (sub_s (sub_s (sub_s (sub_s (sub_s (sub_n (sub_n sub_e))))))))
      · refine tl_if_eq (pc := 20) (tgt := 26) dX1_pageOf_20 rfl ?_ ?_
        · refine tl_aload_n (pc := 26) (i := 0) dX1_pageOf_26 rfl rfl ?_
          refine tl_iconst (pc := 27) (v := 0) dX1_pageOf_27 (by decide) ?_
          refine tl_iconst (pc := 28) (v := 1) dX1_pageOf_28 (by decide) ?_
          refine tl_iload (pc := 29) (i := 5) dX1_pageOf_29 rfl ?_
          refine tl_callVi (pc := 31) k_X1_sizeOf gw_313 hb.1 ⟨_, _, rfl⟩ (c_X1_sizeOf T _ _ _ _ hb) rfl rfl (Nat.le_of_ble_eq_true rfl) (Nat.le_of_ble_eq_true rfl) dX1_pageOf_31 (fun x7 => ?_)
          refine tl_istore (pc := 34) (i := 6) (lo' := [some (.ref b), some (.int p0), some (.int p1), some (.int x1), some (.int x2), some (.int x3), some (.int x7), none]) dX1_pageOf_34 (by decide) rfl ?_
          refine tl_iload (pc := 36) (i := 5) dX1_pageOf_36 rfl ?_
          refine tl_iconst (pc := 38) (v := 1) dX1_pageOf_38 (by decide) ?_
          refine tl_iadd (pc := 39) dX1_pageOf_39 ?_
          refine tl_bI (fun x8 => ?_)
          refine tl_istore (pc := 40) (i := 7) (lo' := [some (.ref b), some (.int p0), some (.int p1), some (.int x1), some (.int x2), some (.int x3), some (.int x7), some (.int x8)]) dX1_pageOf_40 (by decide) rfl ?_
          refine tl_sub (lp_X1_pageOf_42 T b p0 p1 x1 x2 x3 hb  _ (fun x15 => ?_) FU _ _) (sub_s (sub_s (sub_s (sub_s (sub_s (sub_s (sub_s (sub_s sub_e))))))))
          refine tl_iload (pc := 84) (i := 5) dX1_pageOf_84 rfl ?_
          refine tl_j (fun (k : Int32 → Int32 → Dm Int32) => ∀ (x16 : Int32) (x17 : Int32), TL_X1_pageOf T 104 [some (.ref b), some (.int p0), some (.int p1), some (.int x16), some (.int x17), some (.int x3), some (.int x15), none] [] (k x16 x17)) (fun x16 x17 => ?_) (fun k3 hk3 => ?_)
          · refine tl_iload (pc := 104) (i := 4) dX1_pageOf_104 rfl ?_
            refine tl_iload (pc := 106) (i := 6) dX1_pageOf_106 rfl ?_
            refine tl_iadd (pc := 108) dX1_pageOf_108 ?_
            refine tl_bI (fun x18 => ?_)
            refine tl_istore (pc := 109) (i := 4) (lo' := [some (.ref b), some (.int p0), some (.int p1), some (.int x16), some (.int x18), some (.int x3), some (.int x15), none]) dX1_pageOf_109 (by decide) rfl ?_
            exact tl_sub (hk1 _ _) (sub_s (sub_s (sub_s (sub_s (sub_s (sub_s (sub_n (sub_n sub_e))))))))
          · refine tl_if_le (pc := 86) (tgt := 104) dX1_pageOf_86 rfl ?_ ?_
            · exact tl_sub (hk3 _ _) (sub_s (sub_s (sub_s (sub_s (sub_s (sub_s (sub_s (sub_n sub_e))))))))
            · refine tl_iload (pc := 89) (i := 4) dX1_pageOf_89 rfl ?_
              refine tl_iload (pc := 91) (i := 6) dX1_pageOf_91 rfl ?_
              refine tl_iadd (pc := 93) dX1_pageOf_93 ?_
              refine tl_iload_n (pc := 94) (i := 2) dX1_pageOf_94 rfl rfl ?_
              refine tl_icmp_le (pc := 95) (tgt := 104) dX1_pageOf_95 rfl ?_ ?_
              · exact tl_sub (hk3 _ _) (sub_s (sub_s (sub_s (sub_s (sub_s (sub_s (sub_s (sub_n sub_e))))))))
              · refine tl_iinc (pc := 98) (i := 3) (v := x1 + (1 : Int32)) (lo' := [some (.ref b), some (.int p0), some (.int p1), some (.int (x1 + (1 : Int32))), some (.int x2), some (.int x3), some (.int x15), none]) dX1_pageOf_98 rfl rfl (by decide) rfl ?_
                refine tl_iconst (pc := 101) (v := 0) dX1_pageOf_101 (by decide) ?_
                refine tl_istore (pc := 102) (i := 4) (lo' := [some (.ref b), some (.int p0), some (.int p1), some (.int (x1 + (1 : Int32))), some (.int (0 : Int32)), some (.int x3), some (.int x15), none]) dX1_pageOf_102 (by decide) rfl ?_
                exact tl_sub (hk3 _ _) (sub_s (sub_s (sub_s (sub_s (sub_s (sub_s (sub_s (sub_n sub_e))))))))
        · refine tl_goto (pc := 23) (tgt := 111) dX1_pageOf_23 rfl ?_
          exact tl_sub (hk1 _ _) (sub_s (sub_s (sub_s (sub_s (sub_s (sub_s (sub_n (sub_n sub_e))))))))
set_option maxRecDepth 100000 in
theorem c_X1_pageOf (T : Tb) (b : Nat) (p0 : Int32) (p1 : Int32) (hb : isLay T b) : CT (.code yX1_pageOf cX1_pageOf 8 (some .int)) yX1_pageOf 3 iI T [.ref b, .int p0, .int p1] (F_X1_pageOf b p0 p1) := by
  refine ct_of (lo := [some (.ref b), some (.int p0), some (.int p1), none, none, none, none, none]) (j := 5) k_X1_pageOf.1 rfl (fun _ => Nat.le_of_ble_eq_true rfl) ?_
  show TL_X1_pageOf T 0 _ _ _
  rw [F_X1_pageOf]
  refine tl_iconst (pc := 0) (v := 0) dX1_pageOf_0 (by decide) ?_
  refine tl_istore_n (pc := 1) (i := 3) (lo' := [some (.ref b), some (.int p0), some (.int p1), some (.int (0 : Int32)), none, none, none, none]) dX1_pageOf_1 rfl (by decide) rfl ?_
  refine tl_iconst (pc := 2) (v := 0) dX1_pageOf_2 (by decide) ?_
  refine tl_istore (pc := 3) (i := 4) (lo' := [some (.ref b), some (.int p0), some (.int p1), some (.int (0 : Int32)), some (.int (0 : Int32)), none, none, none]) dX1_pageOf_3 (by decide) rfl ?_
  refine tl_iconst (pc := 5) (v := 0) dX1_pageOf_5 (by decide) ?_
  refine tl_istore (pc := 6) (i := 5) (lo' := [some (.ref b), some (.int p0), some (.int p1), some (.int (0 : Int32)), some (.int (0 : Int32)), some (.int (0 : Int32)), none, none]) dX1_pageOf_6 (by decide) rfl ?_
  refine tl_sub (lp_X1_pageOf_8 T b p0 p1 hb    FU _ _ _) (sub_s (sub_s (sub_s (sub_s (sub_s (sub_s (sub_n (sub_n sub_e))))))))
abbrev TL_X1_countPages (T : Tb) (pc : Nat) (lo : List (Option Value)) (st : List Value) (X : Dm Int32) : Prop := TL yX1_countPages cX1_countPages 2 (some .int) 4 iI T pc lo st X
set_option maxRecDepth 100000 in
theorem c_X1_countPages (T : Tb) (b : Nat) (p0 : Int32) (hb : isLay T b) : CT (.code yX1_countPages cX1_countPages 2 (some .int)) yX1_countPages 4 iI T [.ref b, .int p0] (F_X1_countPages b p0) := by
  refine ct_of (lo := [some (.ref b), some (.int p0)]) (j := 0) k_X1_countPages.1 rfl (fun _ => Nat.le_of_ble_eq_true rfl) ?_
  show TL_X1_countPages T 0 _ _ _
  rw [F_X1_countPages]
  refine tl_aload_n (pc := 0) (i := 0) dX1_countPages_0 rfl rfl ?_
  refine tl_aload_n (pc := 1) (i := 0) dX1_countPages_1 rfl rfl ?_
  refine tl_getR (pc := 2) (r := (b + 1)) fl_X1_12 hb.1 rfl dX1_countPages_2 ?_
  refine tl_iconst (pc := 5) (v := 0) dX1_countPages_5 (by decide) ?_
  refine tl_iconst (pc := 6) (v := 1) dX1_countPages_6 (by decide) ?_
  refine tl_callVi (pc := 7) k_X4_linesOf gw_259 hb.2.1.1 ⟨_, _, rfl⟩ (c_X4_linesOf T _ _ _ hb.2.1) rfl rfl (Nat.le_of_ble_eq_true rfl) (Nat.le_of_ble_eq_true rfl) dX1_countPages_7 (fun x1 => ?_)
  refine tl_iconst (pc := 10) (v := 1) dX1_countPages_10 (by decide) ?_
  refine tl_isub (pc := 11) dX1_countPages_11 ?_
  refine tl_iload_n (pc := 12) (i := 1) dX1_countPages_12 rfl rfl ?_
  refine tl_callVi (pc := 13) k_X1_pageOf gw_484 hb.1 ⟨_, _, rfl⟩ (c_X1_pageOf T _ _ _ hb) rfl rfl (Nat.le_of_ble_eq_true rfl) (Nat.le_of_ble_eq_true rfl) dX1_countPages_13 (fun x2 => ?_)
  refine tl_iconst (pc := 16) (v := 1) dX1_countPages_16 (by decide) ?_
  refine tl_iadd (pc := 17) dX1_countPages_17 ?_
  exact tl_iret (pc := 18) dX1_countPages_18
abbrev TL_X1_countEdges (T : Tb) (pc : Nat) (lo : List (Option Value)) (st : List Value) (X : Dm Int32) : Prop := TL yX1_countEdges cX1_countEdges 5 (some .int) 2 iI T pc lo st X
set_option maxRecDepth 100000 in
theorem lp_X1_countEdges_17 (T : Tb) (b : Nat) (x2 : Int32) (hb : isLay T b)  (k1 : Int32 → Dm Int32) (hk1 : ∀ (y17_0 : Int32), TL_X1_countEdges T 80 [some (.ref b), some (.int y17_0), some (.int x2), none, none] [] (k1 y17_0)) : ∀ (n : Nat) (x4 : Int32) (x5 : Int32), TL_X1_countEdges T 17 [some (.ref b), some (.int x4), some (.int x2), some (.int x5), none] [] (L_X1_countEdges_17 b x2 n x4 x5 k1) := by
  intro n
  induction n with
  | zero => intros; exact tl_fail
  | succ n ih =>
    intro x4 x5
    rw [L_X1_countEdges_17]
    refine tl_iload_n (pc := 17) (i := 3) dX1_countEdges_17 rfl rfl ?_
    refine tl_iconst (pc := 18) (v := 4) dX1_countEdges_18 (by decide) ?_
    refine tl_icmp_ge (pc := 19) (tgt := 80) dX1_countEdges_19 rfl ?_ ?_
    · exact tl_sub (hk1 _) (sub_s (sub_s (sub_s (sub_n (sub_n sub_e)))))
    · refine tl_iload_n (pc := 22) (i := 3) dX1_countEdges_22 rfl rfl ?_
      refine tl_j (fun (k : Int32 → Dm Int32) => ∀ (x6 : Int32), TL_X1_countEdges T 49 [some (.ref b), some (.int x4), some (.int x2), some (.int x5), none] [.int x6] (k x6)) (fun x6 => ?_) (fun k2 hk2 => ?_)
      · refine tl_istore (pc := 49) (i := 4) (lo' := [some (.ref b), some (.int x4), some (.int x2), some (.int x5), some (.int x6)]) dX1_countEdges_49 (by decide) rfl ?_
        refine tl_iload (pc := 51) (i := 4) dX1_countEdges_51 rfl ?_
        refine tl_j (fun (k : Int32 → Dm Int32) => ∀ (x7 : Int32), TL_X1_countEdges T 74 [some (.ref b), some (.int x7), some (.int x2), some (.int x5), none] [] (k x7)) (fun x7 => ?_) (fun k3 hk3 => ?_)
        · refine tl_iinc (pc := 74) (i := 3) (v := x5 + (1 : Int32)) (lo' := [some (.ref b), some (.int x7), some (.int x2), some (.int (x5 + (1 : Int32))), none]) dX1_countEdges_74 rfl rfl (by decide) rfl ?_
          refine tl_goto (pc := 77) (tgt := 17) dX1_countEdges_77 rfl ?_
          exact tl_sub (ih _ _) (sub_s (sub_s (sub_s (sub_s (sub_n sub_e)))))
        · refine tl_if_eq (pc := 53) (tgt := 74) dX1_countEdges_53 rfl ?_ ?_
          · exact tl_sub (hk3 _) (sub_s (sub_s (sub_s (sub_s (sub_n sub_e)))))
          · refine tl_aload_n (pc := 56) (i := 0) dX1_countEdges_56 rfl rfl ?_
            refine tl_getR (pc := 57) (r := (b + 26)) fl_X1_39 hb.1 rfl dX1_countEdges_57 ?_
            refine tl_iload_n (pc := 60) (i := 2) dX1_countEdges_60 rfl rfl ?_
            refine tl_iconst (pc := 61) (v := 4) dX1_countEdges_61 (by decide) ?_
            refine tl_imul (pc := 62) dX1_countEdges_62 ?_
            refine tl_iload_n (pc := 63) (i := 3) dX1_countEdges_63 rfl rfl ?_
            refine tl_iadd (pc := 64) dX1_countEdges_64 ?_
            refine tl_callVi (pc := 65) k_X2_at gw_221 hb.2.2.2.2.2.2.2.1.1 ⟨_, _, rfl⟩ (c_X2_at T _ _ _ hb.2.2.2.2.2.2.2.1) rfl rfl (Nat.le_of_ble_eq_true rfl) (Nat.le_of_ble_eq_true rfl) dX1_countEdges_65 (fun x8 => ?_)
            refine tl_if_le (pc := 68) (tgt := 74) dX1_countEdges_68 rfl ?_ ?_
            · exact tl_sub (hk3 _) (sub_s (sub_s (sub_s (sub_s (sub_n sub_e)))))
            · refine tl_iinc (pc := 71) (i := 1) (v := x4 + (1 : Int32)) (lo' := [some (.ref b), some (.int (x4 + (1 : Int32))), some (.int x2), some (.int x5), some (.int x6)]) dX1_countEdges_71 rfl rfl (by decide) rfl ?_
              exact tl_sub (hk3 _) (sub_s (sub_s (sub_s (sub_s (sub_n sub_e)))))
      · refine tl_j (fun (k : Unit → Dm Int32) => ∀ (_ : Unit), TL_X1_countEdges T 44 [some (.ref b), some (.int x4), some (.int x2), some (.int x5), none] [] (k ())) (fun _ => ?_) (fun k4 hk4 => ?_)
        · refine tl_iconst (pc := 44) (v := 1) dX1_countEdges_44 (by decide) ?_
          refine tl_goto (pc := 45) (tgt := 49) dX1_countEdges_45 rfl ?_
          exact tl_sub (hk2 _) (sub_s (sub_s (sub_s (sub_s (sub_n sub_e)))))
        · refine tl_if_eq (pc := 23) (tgt := 44) dX1_countEdges_23 rfl ?_ ?_
          · exact tl_sub (hk4 ()) (sub_s (sub_s (sub_s (sub_s (sub_n sub_e)))))
          · refine tl_iload_n (pc := 26) (i := 3) dX1_countEdges_26 rfl rfl ?_
            refine tl_iconst (pc := 27) (v := 3) dX1_countEdges_27 (by decide) ?_
            refine tl_icmp_eq (pc := 28) (tgt := 44) dX1_countEdges_28 rfl ?_ ?_
            · exact tl_sub (hk4 ()) (sub_s (sub_s (sub_s (sub_s (sub_n sub_e)))))
            · refine tl_aload_n (pc := 31) (i := 0) dX1_countEdges_31 rfl rfl ?_
              refine tl_getR (pc := 32) (r := (b + 1)) fl_X1_12 hb.1 rfl dX1_countEdges_32 ?_
              refine tl_iload_n (pc := 35) (i := 2) dX1_countEdges_35 rfl rfl ?_
              refine tl_iload_n (pc := 36) (i := 3) dX1_countEdges_36 rfl rfl ?_
              refine tl_callVi (pc := 37) k_X4_ownerBeside gw_275 hb.2.1.1 ⟨_, _, rfl⟩ (c_X4_ownerBeside T _ _ _ hb.2.1) rfl rfl (Nat.le_of_ble_eq_true rfl) (Nat.le_of_ble_eq_true rfl) dX1_countEdges_37 (fun x9 => ?_)
              refine tl_iconst (pc := 40) (v := -1) dX1_countEdges_40 (by decide) ?_
              refine tl_icmp_ne (pc := 41) (tgt := 48) dX1_countEdges_41 rfl ?_ ?_
              · exact tl_sub (hk4 ()) (sub_s (sub_s (sub_s (sub_s (sub_n sub_e)))))
              · refine tl_iconst (pc := 48) (v := 0) dX1_countEdges_48 (by decide) ?_
                exact tl_sub (hk2 _) (sub_s (sub_s (sub_s (sub_s (sub_n sub_e)))))
set_option maxRecDepth 100000 in
theorem lp_X1_countEdges_4 (T : Tb) (b : Nat)  (hb : isLay T b)    : ∀ (n : Nat) (x1 : Int32) (x2 : Int32), TL_X1_countEdges T 4 [some (.ref b), some (.int x1), some (.int x2), none, none] [] (L_X1_countEdges_4 b n x1 x2 ) := by
  intro n
  induction n with
  | zero => intros; exact tl_fail
  | succ n ih =>
    intro x1 x2
    rw [L_X1_countEdges_4]
    refine tl_iload_n (pc := 4) (i := 2) dX1_countEdges_4 rfl rfl ?_
    refine tl_aload_n (pc := 5) (i := 0) dX1_countEdges_5 rfl rfl ?_
    refine tl_getR (pc := 6) (r := (b + 1)) fl_X1_12 hb.1 rfl dX1_countEdges_6 ?_
    refine tl_callVi (pc := 9) k_X4_squaresEnd gw_496 hb.2.1.1 ⟨_, _, rfl⟩ (c_X4_squaresEnd T _ hb.2.1) rfl rfl (Nat.le_of_ble_eq_true rfl) (Nat.le_of_ble_eq_true rfl) dX1_countEdges_9 (fun x3 => ?_)
    refine tl_icmp_ge (pc := 12) (tgt := 86) dX1_countEdges_12 rfl ?_ ?_
    · refine tl_iload_n (pc := 86) (i := 1) dX1_countEdges_86 rfl rfl ?_
      exact tl_iret (pc := 87) dX1_countEdges_87
    · refine tl_iconst (pc := 15) (v := 0) dX1_countEdges_15 (by decide) ?_
      refine tl_istore_n (pc := 16) (i := 3) (lo' := [some (.ref b), some (.int x1), some (.int x2), some (.int (0 : Int32)), none]) dX1_countEdges_16 rfl (by decide) rfl ?_
      refine tl_sub (lp_X1_countEdges_17 T b x2 hb  _ (fun x10 => ?_) FU _ _) (sub_s (sub_s (sub_s (sub_s (sub_n sub_e)))))
      refine tl_iinc (pc := 80) (i := 2) (v := x2 + (1 : Int32)) (lo' := [some (.ref b), some (.int x10), some (.int (x2 + (1 : Int32))), none, none]) dX1_countEdges_80 rfl rfl (by decide) rfl ?_
      refine tl_goto (pc := 83) (tgt := 4) dX1_countEdges_83 rfl ?_
      exact tl_sub (ih _ _) (sub_s (sub_s (sub_s (sub_n (sub_n sub_e)))))
set_option maxRecDepth 100000 in
theorem c_X1_countEdges (T : Tb) (b : Nat) (hb : isLay T b) : CT (.code yX1_countEdges cX1_countEdges 5 (some .int)) yX1_countEdges 2 iI T [.ref b] (F_X1_countEdges b) := by
  refine ct_of (lo := [some (.ref b), none, none, none, none]) (j := 4) k_X1_countEdges.1 rfl (fun _ => Nat.le_of_ble_eq_true rfl) ?_
  show TL_X1_countEdges T 0 _ _ _
  rw [F_X1_countEdges]
  refine tl_iconst (pc := 0) (v := 0) dX1_countEdges_0 (by decide) ?_
  refine tl_istore_n (pc := 1) (i := 1) (lo' := [some (.ref b), some (.int (0 : Int32)), none, none, none]) dX1_countEdges_1 rfl (by decide) rfl ?_
  refine tl_iconst (pc := 2) (v := 0) dX1_countEdges_2 (by decide) ?_
  refine tl_istore_n (pc := 3) (i := 2) (lo' := [some (.ref b), some (.int (0 : Int32)), some (.int (0 : Int32)), none, none]) dX1_countEdges_3 rfl (by decide) rfl ?_
  refine tl_sub (lp_X1_countEdges_4 T b hb    FU _ _) (sub_s (sub_s (sub_s (sub_n (sub_n sub_e)))))
abbrev TL_X1_countSumsOf (T : Tb) (pc : Nat) (lo : List (Option Value)) (st : List Value) (X : Dm Int32) : Prop := TL yX1_countSumsOf cX1_countSumsOf 5 (some .int) 2 iI T pc lo st X
set_option maxRecDepth 100000 in
theorem lp_X1_countSumsOf_13 (T : Tb) (b : Nat) (p0 : Int32) (x1 : Int32) (hb : isLay T b)    : ∀ (n : Nat) (x3 : Int32) (x4 : Int32), TL_X1_countSumsOf T 13 [some (.ref b), some (.int p0), some (.int x3), some (.int x1), some (.int x4)] [] (L_X1_countSumsOf_13 b p0 x1 n x3 x4 ) := by
  intro n
  induction n with
  | zero => intros; exact tl_fail
  | succ n ih =>
    intro x3 x4
    rw [L_X1_countSumsOf_13]
    refine tl_iload (pc := 13) (i := 4) dX1_countSumsOf_13 rfl ?_
    refine tl_iload_n (pc := 15) (i := 3) dX1_countSumsOf_15 rfl rfl ?_
    refine tl_callSi (pc := 16) k_X1_squaresEndOf gw_206 (c_X1_squaresEndOf T _) rfl rfl (Nat.le_of_ble_eq_true rfl) (Nat.le_of_ble_eq_true rfl) dX1_countSumsOf_16 (fun x5 => ?_)
    refine tl_icmp_ge (pc := 19) (tgt := 71) dX1_countSumsOf_19 rfl ?_ ?_
    · refine tl_iload_n (pc := 71) (i := 2) dX1_countSumsOf_71 rfl rfl ?_
      exact tl_iret (pc := 72) dX1_countSumsOf_72
    · refine tl_aload_n (pc := 22) (i := 0) dX1_countSumsOf_22 rfl rfl ?_
      refine tl_getR (pc := 23) (r := (b + 1)) fl_X1_12 hb.1 rfl dX1_countSumsOf_23 ?_
      refine tl_iload (pc := 26) (i := 4) dX1_countSumsOf_26 rfl ?_
      refine tl_callVi (pc := 28) k_X4_isCell gw_209 hb.2.1.1 ⟨_, _, rfl⟩ (c_X4_isCell T _ _ hb.2.1) rfl rfl (Nat.le_of_ble_eq_true rfl) (Nat.le_of_ble_eq_true rfl) dX1_countSumsOf_28 (fun x6 => ?_)
      refine tl_j (fun (k : Int32 → Dm Int32) => ∀ (x7 : Int32), TL_X1_countSumsOf T 65 [some (.ref b), some (.int p0), some (.int x7), some (.int x1), some (.int x4)] [] (k x7)) (fun x7 => ?_) (fun k1 hk1 => ?_)
      · refine tl_iinc (pc := 65) (i := 4) (v := x4 + (1 : Int32)) (lo' := [some (.ref b), some (.int p0), some (.int x7), some (.int x1), some (.int (x4 + (1 : Int32)))]) dX1_countSumsOf_65 rfl rfl (by decide) rfl ?_
        refine tl_goto (pc := 68) (tgt := 13) dX1_countSumsOf_68 rfl ?_
        exact tl_sub (ih _ _) (sub_s (sub_s (sub_s (sub_s (sub_s sub_e)))))
      · refine tl_if_eq (pc := 31) (tgt := 65) dX1_countSumsOf_31 rfl ?_ ?_
        · exact tl_sub (hk1 _) (sub_s (sub_s (sub_s (sub_s (sub_s sub_e)))))
        · refine tl_aload_n (pc := 34) (i := 0) dX1_countSumsOf_34 rfl rfl ?_
          refine tl_getR (pc := 35) (r := (b + 1)) fl_X1_12 hb.1 rfl dX1_countSumsOf_35 ?_
          refine tl_getR (pc := 38) (r := ((b + 1) + 7)) fl_X1_107 hb.2.1.1 rfl dX1_countSumsOf_38 ?_
          refine tl_iload (pc := 41) (i := 4) dX1_countSumsOf_41 rfl ?_
          refine tl_callVi (pc := 43) k_X2_at gw_221 hb.2.1.2.2.2.2.1.1 ⟨_, _, rfl⟩ (c_X2_at T _ _ _ hb.2.1.2.2.2.2.1) rfl rfl (Nat.le_of_ble_eq_true rfl) (Nat.le_of_ble_eq_true rfl) dX1_countSumsOf_43 (fun x8 => ?_)
          refine tl_callSNi (pc := 46) k_X5_isSum nm_X1_113 (c_X5_isSum T _) (nx_X5_isSum _) rfl rfl (Nat.le_of_ble_eq_true rfl) (Nat.le_of_ble_eq_true rfl) dX1_countSumsOf_46 (fun x9 => ?_)
          refine tl_if_eq (pc := 49) (tgt := 65) dX1_countSumsOf_49 rfl ?_ ?_
          · exact tl_sub (hk1 _) (sub_s (sub_s (sub_s (sub_s (sub_s sub_e)))))
          · refine tl_aload_n (pc := 52) (i := 0) dX1_countSumsOf_52 rfl rfl ?_
            refine tl_iload (pc := 53) (i := 4) dX1_countSumsOf_53 rfl ?_
            refine tl_iload_n (pc := 55) (i := 1) dX1_countSumsOf_55 rfl rfl ?_
            refine tl_callVi (pc := 56) k_X1_isCounted gw_237 hb.1 ⟨_, _, rfl⟩ (c_X1_isCounted T _ _ _ hb) rfl rfl (Nat.le_of_ble_eq_true rfl) (Nat.le_of_ble_eq_true rfl) dX1_countSumsOf_56 (fun x10 => ?_)
            refine tl_if_eq (pc := 59) (tgt := 65) dX1_countSumsOf_59 rfl ?_ ?_
            · exact tl_sub (hk1 _) (sub_s (sub_s (sub_s (sub_s (sub_s sub_e)))))
            · refine tl_iinc (pc := 62) (i := 2) (v := x3 + (1 : Int32)) (lo' := [some (.ref b), some (.int p0), some (.int (x3 + (1 : Int32))), some (.int x1), some (.int x4)]) dX1_countSumsOf_62 rfl rfl (by decide) rfl ?_
              exact tl_sub (hk1 _) (sub_s (sub_s (sub_s (sub_s (sub_s sub_e)))))
set_option maxRecDepth 100000 in
theorem c_X1_countSumsOf (T : Tb) (b : Nat) (p0 : Int32) (hb : isLay T b) : CT (.code yX1_countSumsOf cX1_countSumsOf 5 (some .int)) yX1_countSumsOf 2 iI T [.ref b, .int p0] (F_X1_countSumsOf b p0) := by
  refine ct_of (lo := [some (.ref b), some (.int p0), none, none, none]) (j := 3) k_X1_countSumsOf.1 rfl (fun _ => Nat.le_of_ble_eq_true rfl) ?_
  show TL_X1_countSumsOf T 0 _ _ _
  rw [F_X1_countSumsOf]
  refine tl_iconst (pc := 0) (v := 0) dX1_countSumsOf_0 (by decide) ?_
  refine tl_istore_n (pc := 1) (i := 2) (lo' := [some (.ref b), some (.int p0), some (.int (0 : Int32)), none, none]) dX1_countSumsOf_1 rfl (by decide) rfl ?_
  refine tl_iload_n (pc := 2) (i := 1) dX1_countSumsOf_2 rfl rfl ?_
  refine tl_callSNi (pc := 3) k_X5_tableOf nm_X1_122 (c_X5_tableOf T _) (nx_X5_tableOf _) rfl rfl (Nat.le_of_ble_eq_true rfl) (Nat.le_of_ble_eq_true rfl) dX1_countSumsOf_3 (fun x1 => ?_)
  refine tl_istore_n (pc := 6) (i := 3) (lo' := [some (.ref b), some (.int p0), some (.int (0 : Int32)), some (.int x1), none]) dX1_countSumsOf_6 rfl (by decide) rfl ?_
  refine tl_iload_n (pc := 7) (i := 3) dX1_countSumsOf_7 rfl rfl ?_
  refine tl_bipush (pc := 8) (v := 25) dX1_countSumsOf_8 (by decide) ?_
  refine tl_imul (pc := 10) dX1_countSumsOf_10 ?_
  refine tl_bI (fun x2 => ?_)
  refine tl_istore (pc := 11) (i := 4) (lo' := [some (.ref b), some (.int p0), some (.int (0 : Int32)), some (.int x1), some (.int x2)]) dX1_countSumsOf_11 (by decide) rfl ?_
  refine tl_sub (lp_X1_countSumsOf_13 T b p0 x1 hb    FU _ _) (sub_s (sub_s (sub_s (sub_s (sub_s sub_e)))))
