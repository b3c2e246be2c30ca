abbrev TL_X6_mayPut (T : Tb) (pc : Nat) (lo : List (Option Value)) (st : List Value) (X : Dm Int32) : Prop := TL yX6_mayPut cX6_mayPut 7 (some .int) 3 iI T pc lo st X
set_option maxRecDepth 100000 in
theorem c_X6_mayPut (T : Tb) (p0 : Int32) (p1 : Int32) (p2 : Int32) (p3 : Int32) (p4 : Int32) (hb : isMod T) : CT (.code yX6_mayPut cX6_mayPut 7 (some .int)) yX6_mayPut 3 iI T [.ref 168, .int p0, .int p1, .int p2, .int p3, .int p4] (F_X6_mayPut p0 p1 p2 p3 p4) := by
  refine ct_of (lo := [some (.ref 168), some (.int p0), some (.int p1), some (.int p2), some (.int p3), some (.int p4), none]) (j := 1) k_X6_mayPut.1 rfl (fun _ => Nat.le_of_ble_eq_true rfl) ?_
  show TL_X6_mayPut T 0 _ _ _
  rw [F_X6_mayPut]
  refine tl_aload_n (pc := 0) (i := 0) dX6_mayPut_0 rfl rfl ?_
  refine tl_iload_n (pc := 1) (i := 1) dX6_mayPut_1 rfl rfl ?_
  refine tl_iload_n (pc := 2) (i := 2) dX6_mayPut_2 rfl rfl ?_
  refine tl_iload_n (pc := 3) (i := 3) dX6_mayPut_3 rfl rfl ?_
  refine tl_callVi (pc := 4) k_X6_isSquare gw_930 hb.1 ⟨_, _, rfl⟩ (c_X6_isSquare T _ _ _ hb) rfl rfl (Nat.le_of_ble_eq_true rfl) (Nat.le_of_ble_eq_true rfl) dX6_mayPut_4 (fun x1 => ?_)
  refine tl_if_ne (pc := 7) (tgt := 12) dX6_mayPut_7 rfl ?_ ?_
  · refine tl_iconst (pc := 10) (v := 1) dX6_mayPut_10 (by decide) ?_
    exact tl_iret (pc := 11) dX6_mayPut_11
  · refine tl_iload (pc := 12) (i := 4) dX6_mayPut_12 rfl ?_
    refine tl_iload (pc := 14) (i := 5) dX6_mayPut_14 rfl ?_
    refine tl_callSi (pc := 16) k_X6_isKind gw_954 (c_X6_isKind T _ _) rfl rfl (Nat.le_of_ble_eq_true rfl) (Nat.le_of_ble_eq_true rfl) dX6_mayPut_16 (fun x2 => ?_)
    refine tl_if_ne (pc := 19) (tgt := 24) dX6_mayPut_19 rfl ?_ ?_
    · refine tl_iconst (pc := 22) (v := 2) dX6_mayPut_22 (by decide) ?_
      exact tl_iret (pc := 23) dX6_mayPut_23
    · refine tl_iload_n (pc := 24) (i := 1) dX6_mayPut_24 rfl rfl ?_
      refine tl_iload_n (pc := 25) (i := 2) dX6_mayPut_25 rfl rfl ?_
      refine tl_iload_n (pc := 26) (i := 3) dX6_mayPut_26 rfl rfl ?_
      refine tl_callSi (pc := 27) k_X6_square gw_937 (c_X6_square T _ _ _) rfl rfl (Nat.le_of_ble_eq_true rfl) (Nat.le_of_ble_eq_true rfl) dX6_mayPut_27 (fun x3 => ?_)
      refine tl_istore (pc := 30) (i := 6) (lo' := [some (.ref 168), some (.int p0), some (.int p1), some (.int p2), some (.int p3), some (.int p4), some (.int x3)]) dX6_mayPut_30 (by decide) rfl ?_
      refine tl_aload_n (pc := 32) (i := 0) dX6_mayPut_32 rfl rfl ?_
      refine tl_getR (pc := 33) (r := 169) fl_X6_7 hb.1 rfl dX6_mayPut_33 ?_
      refine tl_iload (pc := 36) (i := 6) dX6_mayPut_36 rfl ?_
      refine tl_callSi (pc := 38) k_X6_isCell gw_940 (c_X6_isCell T _ _ _ hb.2.1) rfl rfl (Nat.le_of_ble_eq_true rfl) (Nat.le_of_ble_eq_true rfl) dX6_mayPut_38 (fun x4 => ?_)
      refine tl_if_eq (pc := 41) (tgt := 80) dX6_mayPut_41 rfl ?_ ?_
      · refine tl_iconst (pc := 80) (v := 3) dX6_mayPut_80 (by decide) ?_
        refine tl_goto (pc := 81) (tgt := 85) dX6_mayPut_81 rfl ?_
        exact tl_iret (pc := 85) dX6_mayPut_85
      · refine tl_aload_n (pc := 44) (i := 0) dX6_mayPut_44 rfl rfl ?_
        refine tl_getR (pc := 45) (r := 169) fl_X6_7 hb.1 rfl dX6_mayPut_45 ?_
        refine tl_bipush (pc := 48) (v := 12) dX6_mayPut_48 (by decide) ?_
        refine tl_iload (pc := 50) (i := 6) dX6_mayPut_50 rfl ?_
        refine tl_iadd (pc := 52) dX6_mayPut_52 ?_
        refine tl_iald (pc := 53) hb.2.1 dX6_mayPut_53 (fun x5 => ?_)
        refine tl_iconst (pc := 54) (v := 3) dX6_mayPut_54 (by decide) ?_
        refine tl_icmp_ne (pc := 55) (tgt := 84) dX6_mayPut_55 rfl ?_ ?_
        · refine tl_aload_n (pc := 58) (i := 0) dX6_mayPut_58 rfl rfl ?_
          refine tl_getR (pc := 59) (r := 169) fl_X6_7 hb.1 rfl dX6_mayPut_59 ?_
          refine tl_sipush (pc := 62) (v := 137) dX6_mayPut_62 (by decide) ?_
          refine tl_iload (pc := 65) (i := 6) dX6_mayPut_65 rfl ?_
          refine tl_iadd (pc := 67) dX6_mayPut_67 ?_
          refine tl_iald (pc := 68) hb.2.1 dX6_mayPut_68 (fun x6 => ?_)
          refine tl_aload_n (pc := 69) (i := 0) dX6_mayPut_69 rfl rfl ?_
          refine tl_getR (pc := 70) (r := 169) fl_X6_7 hb.1 rfl dX6_mayPut_70 ?_
          refine tl_iconst (pc := 73) (v := 0) dX6_mayPut_73 (by decide) ?_
          refine tl_iald (pc := 74) hb.2.1 dX6_mayPut_74 (fun x7 => ?_)
          refine tl_iconst (pc := 75) (v := 1) dX6_mayPut_75 (by decide) ?_
          refine tl_isub (pc := 76) dX6_mayPut_76 ?_
          refine tl_icmp_eq (pc := 77) (tgt := 84) dX6_mayPut_77 rfl ?_ ?_
          · refine tl_iconst (pc := 84) (v := 0) dX6_mayPut_84 (by decide) ?_
            exact tl_iret (pc := 85) dX6_mayPut_85
          · refine tl_iconst (pc := 80) (v := 3) dX6_mayPut_80 (by decide) ?_
            refine tl_goto (pc := 81) (tgt := 85) dX6_mayPut_81 rfl ?_
            exact tl_iret (pc := 85) dX6_mayPut_85
        · refine tl_iconst (pc := 84) (v := 0) dX6_mayPut_84 (by decide) ?_
          exact tl_iret (pc := 85) dX6_mayPut_85
abbrev TL_X6_puts (T : Tb) (pc : Nat) (lo : List (Option Value)) (st : List Value) (X : Dm Int32) : Prop := TL yX6_puts cX6_puts 5 (some .int) 0 iI T pc lo st X
set_option maxRecDepth 100000 in
theorem c_X6_puts (T : Tb) (a0 na0 : Nat) (p1 : Int32) (p2 : Int32) (p3 : Int32) (ha0 : T[a0]? = some (0, na0, [])) : CT (.code yX6_puts cX6_puts 5 (some .int)) yX6_puts 0 iI T [.ref a0, .int p1, .int p2, .int p3] (F_X6_puts a0 na0 p1 p2 p3) := by
  refine ct_of (lo := [some (.ref a0), some (.int p1), some (.int p2), some (.int p3), none]) (j := 1) k_X6_puts.1 rfl (fun _ => Nat.le_of_ble_eq_true rfl) ?_
  show TL_X6_puts T 0 _ _ _
  rw [F_X6_puts]
  refine tl_aload_n (pc := 0) (i := 0) dX6_puts_0 rfl rfl ?_
  refine tl_bipush (pc := 1) (v := 12) dX6_puts_1 (by decide) ?_
  refine tl_iload_n (pc := 3) (i := 1) dX6_puts_3 rfl rfl ?_
  refine tl_iadd (pc := 4) dX6_puts_4 ?_
  refine tl_iald (pc := 5) ha0 dX6_puts_5 (fun x1 => ?_)
  refine tl_istore (pc := 6) (i := 4) (lo' := [some (.ref a0), some (.int p1), some (.int p2), some (.int p3), some (.int x1)]) dX6_puts_6 (by decide) rfl ?_
  refine tl_aload_n (pc := 8) (i := 0) dX6_puts_8 rfl rfl ?_
  refine tl_iconst (pc := 9) (v := 0) dX6_puts_9 (by decide) ?_
  refine tl_dup2 (pc := 10) dX6_puts_10 rfl rfl ?_
  refine tl_iald (pc := 11) ha0 dX6_puts_11 (fun x2 => ?_)
  refine tl_iload (pc := 12) (i := 4) dX6_puts_12 rfl ?_
  refine tl_iconst (pc := 14) (v := 3) dX6_puts_14 (by decide) ?_
  refine tl_j (fun (k : Int32 → Dm Int32) => ∀ (x3 : Int32), TL_X6_puts T 23 [some (.ref a0), some (.int p1), some (.int p2), some (.int p3), some (.int x1)] [.int x3, .int x2, .int (0 : Int32), .ref a0] (k x3)) (fun x3 => ?_) (fun k1 hk1 => ?_)
  · refine tl_isub (pc := 23) dX6_puts_23 ?_
    refine tl_iast (pc := 24) ha0 dX6_puts_24 ?_
    refine tl_aload_n (pc := 25) (i := 0) dX6_puts_25 rfl rfl ?_
    refine tl_bipush (pc := 26) (v := 12) dX6_puts_26 (by decide) ?_
    refine tl_iload_n (pc := 28) (i := 1) dX6_puts_28 rfl rfl ?_
    refine tl_iadd (pc := 29) dX6_puts_29 ?_
    refine tl_iload_n (pc := 30) (i := 2) dX6_puts_30 rfl rfl ?_
    refine tl_iast (pc := 31) ha0 dX6_puts_31 ?_
    refine tl_aload_n (pc := 32) (i := 0) dX6_puts_32 rfl rfl ?_
    refine tl_sipush (pc := 33) (v := 137) dX6_puts_33 (by decide) ?_
    refine tl_iload_n (pc := 36) (i := 1) dX6_puts_36 rfl rfl ?_
    refine tl_iadd (pc := 37) dX6_puts_37 ?_
    refine tl_iload_n (pc := 38) (i := 2) dX6_puts_38 rfl rfl ?_
    refine tl_iconst (pc := 39) (v := 1) dX6_puts_39 (by decide) ?_
    refine tl_icmp_eq (pc := 40) (tgt := 48) dX6_puts_40 rfl ?_ ?_
    · refine tl_iload_n (pc := 48) (i := 3) dX6_puts_48 rfl rfl ?_
      refine tl_goto (pc := 49) (tgt := 53) dX6_puts_49 rfl ?_
      refine tl_iast (pc := 53) ha0 dX6_puts_53 ?_
      refine tl_iload (pc := 54) (i := 4) dX6_puts_54 rfl ?_
      exact tl_iret (pc := 56) dX6_puts_56
    · refine tl_iload_n (pc := 43) (i := 2) dX6_puts_43 rfl rfl ?_
      refine tl_iconst (pc := 44) (v := 2) dX6_puts_44 (by decide) ?_
      refine tl_icmp_ne (pc := 45) (tgt := 52) dX6_puts_45 rfl ?_ ?_
      · refine tl_iload_n (pc := 48) (i := 3) dX6_puts_48 rfl rfl ?_
        refine tl_goto (pc := 49) (tgt := 53) dX6_puts_49 rfl ?_
        refine tl_iast (pc := 53) ha0 dX6_puts_53 ?_
        refine tl_iload (pc := 54) (i := 4) dX6_puts_54 rfl ?_
        exact tl_iret (pc := 56) dX6_puts_56
      · refine tl_iconst (pc := 52) (v := 0) dX6_puts_52 (by decide) ?_
        refine tl_iast (pc := 53) ha0 dX6_puts_53 ?_
        refine tl_iload (pc := 54) (i := 4) dX6_puts_54 rfl ?_
        exact tl_iret (pc := 56) dX6_puts_56
  · refine tl_icmp_ne (pc := 15) (tgt := 22) dX6_puts_15 rfl ?_ ?_
    · refine tl_iconst (pc := 18) (v := 1) dX6_puts_18 (by decide) ?_
      refine tl_goto (pc := 19) (tgt := 23) dX6_puts_19 rfl ?_
      exact tl_sub (hk1 _) (sub_s (sub_s (sub_s (sub_s (sub_s sub_e)))))
    · refine tl_iconst (pc := 22) (v := 0) dX6_puts_22 (by decide) ?_
      exact tl_sub (hk1 _) (sub_s (sub_s (sub_s (sub_s (sub_s sub_e)))))
abbrev TL_X6_put (T : Tb) (pc : Nat) (lo : List (Option Value)) (st : List Value) (X : Dm Int32) : Prop := TL yX6_put cX6_put 6 (some .int) 4 iI T pc lo st X
set_option maxRecDepth 100000 in
theorem c_X6_put (T : Tb) (p0 : Int32) (p1 : Int32) (p2 : Int32) (p3 : Int32) (p4 : Int32) (hb : isMod T) : CT (.code yX6_put cX6_put 6 (some .int)) yX6_put 4 iI T [.ref 168, .int p0, .int p1, .int p2, .int p3, .int p4] (F_X6_put p0 p1 p2 p3 p4) := by
  refine ct_of (lo := [some (.ref 168), some (.int p0), some (.int p1), some (.int p2), some (.int p3), some (.int p4)]) (j := 0) k_X6_put.1 rfl (fun _ => Nat.le_of_ble_eq_true rfl) ?_
  show TL_X6_put T 0 _ _ _
  rw [F_X6_put]
  refine tl_aload_n (pc := 0) (i := 0) dX6_put_0 rfl rfl ?_
  refine tl_aload_n (pc := 1) (i := 0) dX6_put_1 rfl rfl ?_
  refine tl_iload_n (pc := 2) (i := 1) dX6_put_2 rfl rfl ?_
  refine tl_iload_n (pc := 3) (i := 2) dX6_put_3 rfl rfl ?_
  refine tl_iload_n (pc := 4) (i := 3) dX6_put_4 rfl rfl ?_
  refine tl_iload (pc := 5) (i := 4) dX6_put_5 rfl ?_
  refine tl_iload (pc := 7) (i := 5) dX6_put_7 rfl ?_
  refine tl_callVi (pc := 9) k_X6_mayPut gw_950 hb.1 ⟨_, _, rfl⟩ (c_X6_mayPut T _ _ _ _ _ hb) rfl rfl (Nat.le_of_ble_eq_true rfl) (Nat.le_of_ble_eq_true rfl) dX6_put_9 (fun x1 => ?_)
  refine tl_putI (pc := 12) fw_X6_62 hb.1 rfl dX6_put_12 ?_
  refine tl_aload_n (pc := 15) (i := 0) dX6_put_15 rfl rfl ?_
  refine tl_getI (pc := 16) fl_X6_62 hb.1 rfl dX6_put_16 (fun x2 => ?_)
  refine tl_if_eq (pc := 19) (tgt := 24) dX6_put_19 rfl ?_ ?_
  · refine tl_aload_n (pc := 24) (i := 0) dX6_put_24 rfl rfl ?_
    refine tl_callVv (pc := 25) k_X6_saves gw_922 hb.1 ⟨_, _, rfl⟩ (c_X6_saves T hb) rfl rfl (Nat.le_of_ble_eq_true rfl) (Nat.le_of_ble_eq_true rfl) dX6_put_25 (fun _ => ?_)
    refine tl_aload_n (pc := 28) (i := 0) dX6_put_28 rfl rfl ?_
    refine tl_getR (pc := 29) (r := 169) fl_X6_7 hb.1 rfl dX6_put_29 ?_
    refine tl_iload_n (pc := 32) (i := 1) dX6_put_32 rfl rfl ?_
    refine tl_iload_n (pc := 33) (i := 2) dX6_put_33 rfl rfl ?_
    refine tl_iload_n (pc := 34) (i := 3) dX6_put_34 rfl rfl ?_
    refine tl_callSi (pc := 35) k_X6_square gw_937 (c_X6_square T _ _ _) rfl rfl (Nat.le_of_ble_eq_true rfl) (Nat.le_of_ble_eq_true rfl) dX6_put_35 (fun x3 => ?_)
    refine tl_iload (pc := 38) (i := 4) dX6_put_38 rfl ?_
    refine tl_iload (pc := 40) (i := 5) dX6_put_40 rfl ?_
    refine tl_callSi (pc := 42) k_X6_puts gw_957 (c_X6_puts T _ _ _ _ _ hb.2.1) rfl rfl (Nat.le_of_ble_eq_true rfl) (Nat.le_of_ble_eq_true rfl) dX6_put_42 (fun x4 => ?_)
    exact tl_iret (pc := 45) dX6_put_45
  · refine tl_iconst (pc := 22) (v := 0) dX6_put_22 (by decide) ?_
    exact tl_iret (pc := 23) dX6_put_23
abbrev TL_X6_canSpan (T : Tb) (pc : Nat) (lo : List (Option Value)) (st : List Value) (X : Dm Int32) : Prop := TL yX6_canSpan cX6_canSpan 7 (some .boolean) 2 iI T pc lo st X
set_option maxRecDepth 100000 in
theorem lp_X6_canSpan_13 (T : Tb) (p0 : Int32) (p1 : Int32) (p2 : Int32)  (hb : isMod T)    : ∀ (n : Nat) (x2 : Int32) (x3 : Int32), TL_X6_canSpan T 13 [some (.ref 168), some (.int p0), some (.int p1), some (.int p2), some (.int x2), some (.int x3), none] [] (L_X6_canSpan_13 p0 p1 p2 n x2 x3 ) := by
  intro n
  induction n with
  | zero => intros; exact tl_fail
  | succ n ih =>
    intro x2 x3
    rw [L_X6_canSpan_13]
    refine tl_iload (pc := 13) (i := 5) dX6_canSpan_13 rfl ?_
    refine tl_iload_n (pc := 15) (i := 2) dX6_canSpan_15 rfl rfl ?_
    refine tl_iload_n (pc := 16) (i := 3) dX6_canSpan_16 rfl rfl ?_
    refine tl_imul (pc := 17) dX6_canSpan_17 ?_
    refine tl_icmp_ge (pc := 18) (tgt := 109) dX6_canSpan_18 rfl ?_ ?_
    · refine tl_iload (pc := 109) (i := 4) dX6_canSpan_109 rfl ?_
      exact tl_zret (pc := 111) dX6_canSpan_111
    · refine tl_iload (pc := 21) (i := 4) dX6_canSpan_21 rfl ?_
      refine tl_if_eq (pc := 23) (tgt := 109) dX6_canSpan_23 rfl ?_ ?_
      · refine tl_iload (pc := 109) (i := 4) dX6_canSpan_109 rfl ?_
        exact tl_zret (pc := 111) dX6_canSpan_111
      · refine tl_aload_n (pc := 26) (i := 0) dX6_canSpan_26 rfl rfl ?_
        refine tl_getR (pc := 27) (r := 169) fl_X6_7 hb.1 rfl dX6_canSpan_27 ?_
        refine tl_sipush (pc := 30) (v := 512) dX6_canSpan_30 (by decide) ?_
        refine tl_iload_n (pc := 33) (i := 1) dX6_canSpan_33 rfl rfl ?_
        refine tl_iadd (pc := 34) dX6_canSpan_34 ?_
        refine tl_iconst (pc := 35) (v := 5) dX6_canSpan_35 (by decide) ?_
        refine tl_iload (pc := 36) (i := 5) dX6_canSpan_36 rfl ?_
        refine tl_iload_n (pc := 38) (i := 3) dX6_canSpan_38 rfl rfl ?_
        refine tl_ck (fun hc39 => ?_)
        refine tl_idiv (pc := 39) dX6_canSpan_39 hc39 ?_
        refine tl_imul (pc := 40) dX6_canSpan_40 ?_
        refine tl_iadd (pc := 41) dX6_canSpan_41 ?_
        refine tl_iload (pc := 42) (i := 5) dX6_canSpan_42 rfl ?_
        refine tl_iload_n (pc := 44) (i := 3) dX6_canSpan_44 rfl rfl ?_
        refine tl_ck (fun hc45 => ?_)
        refine tl_irem (pc := 45) dX6_canSpan_45 hc45 ?_
        refine tl_iadd (pc := 46) dX6_canSpan_46 ?_
        refine tl_iald (pc := 47) hb.2.1 dX6_canSpan_47 (fun x4 => ?_)
        refine tl_istore (pc := 48) (i := 6) (lo' := [some (.ref 168), some (.int p0), some (.int p1), some (.int p2), some (.int x2), some (.int x3), some (.int x4)]) dX6_canSpan_48 (by decide) rfl ?_
        refine tl_iload (pc := 50) (i := 6) dX6_canSpan_50 rfl ?_
        refine tl_iload_n (pc := 52) (i := 1) dX6_canSpan_52 rfl rfl ?_
        refine tl_j (fun (k : Int32 → Dm Int32) => ∀ (x5 : Int32), TL_X6_canSpan T 101 [some (.ref 168), some (.int p0), some (.int p1), some (.int p2), none, some (.int x3), none] [.int x5] (k x5)) (fun x5 => ?_) (fun k1 hk1 => ?_)
        · refine tl_istore (pc := 101) (i := 4) (lo' := [some (.ref 168), some (.int p0), some (.int p1), some (.int p2), some (.int x5), some (.int x3), none]) dX6_canSpan_101 (by decide) rfl ?_
          refine tl_iinc (pc := 103) (i := 5) (v := x3 + (1 : Int32)) (lo' := [some (.ref 168), some (.int p0), some (.int p1), some (.int p2), some (.int x5), some (.int (x3 + (1 : Int32))), none]) dX6_canSpan_103 rfl rfl (by decide) rfl ?_
          refine tl_goto (pc := 106) (tgt := 13) dX6_canSpan_106 rfl ?_
          exact tl_sub (ih _ _) (sub_s (sub_s (sub_s (sub_s (sub_s (sub_s (sub_n sub_e)))))))
        · refine tl_j (fun (k : Unit → Dm Int32) => ∀ (_ : Unit), TL_X6_canSpan T 96 [some (.ref 168), some (.int p0), some (.int p1), some (.int p2), none, some (.int x3), none] [] (k ())) (fun _ => ?_) (fun k2 hk2 => ?_)
          · refine tl_iconst (pc := 96) (v := 1) dX6_canSpan_96 (by decide) ?_
            refine tl_goto (pc := 97) (tgt := 101) dX6_canSpan_97 rfl ?_
            exact tl_sub (hk1 _) (sub_s (sub_s (sub_s (sub_s (sub_n (sub_s (sub_n sub_e)))))))
          · refine tl_icmp_eq (pc := 53) (tgt := 96) dX6_canSpan_53 rfl ?_ ?_
            · exact tl_sub (hk2 ()) (sub_s (sub_s (sub_s (sub_s (sub_n (sub_s (sub_n sub_e)))))))
            · refine tl_aload_n (pc := 56) (i := 0) dX6_canSpan_56 rfl rfl ?_
              refine tl_getR (pc := 57) (r := 169) fl_X6_7 hb.1 rfl dX6_canSpan_57 ?_
              refine tl_bipush (pc := 60) (v := 12) dX6_canSpan_60 (by decide) ?_
              refine tl_iload (pc := 62) (i := 6) dX6_canSpan_62 rfl ?_
              refine tl_iadd (pc := 64) dX6_canSpan_64 ?_
              refine tl_iald (pc := 65) hb.2.1 dX6_canSpan_65 (fun x6 => ?_)
              refine tl_j (fun (k : Unit → Dm Int32) => ∀ (_ : Unit), TL_X6_canSpan T 100 [some (.ref 168), some (.int p0), some (.int p1), some (.int p2), none, some (.int x3), none] [] (k ())) (fun _ => ?_) (fun k3 hk3 => ?_)
              · refine tl_iconst (pc := 100) (v := 0) dX6_canSpan_100 (by decide) ?_
                exact tl_sub (hk1 _) (sub_s (sub_s (sub_s (sub_s (sub_n (sub_s (sub_n sub_e)))))))
              · refine tl_if_ne (pc := 66) (tgt := 100) dX6_canSpan_66 rfl ?_ ?_
                · refine tl_aload_n (pc := 69) (i := 0) dX6_canSpan_69 rfl rfl ?_
                  refine tl_getR (pc := 70) (r := 169) fl_X6_7 hb.1 rfl dX6_canSpan_70 ?_
                  refine tl_sipush (pc := 73) (v := 262) dX6_canSpan_73 (by decide) ?_
                  refine tl_iload (pc := 76) (i := 6) dX6_canSpan_76 rfl ?_
                  refine tl_iadd (pc := 78) dX6_canSpan_78 ?_
                  refine tl_iald (pc := 79) hb.2.1 dX6_canSpan_79 (fun x7 => ?_)
                  refine tl_aload_n (pc := 80) (i := 0) dX6_canSpan_80 rfl rfl ?_
                  refine tl_getR (pc := 81) (r := 169) fl_X6_7 hb.1 rfl dX6_canSpan_81 ?_
                  refine tl_sipush (pc := 84) (v := 387) dX6_canSpan_84 (by decide) ?_
                  refine tl_iload (pc := 87) (i := 6) dX6_canSpan_87 rfl ?_
                  refine tl_iadd (pc := 89) dX6_canSpan_89 ?_
                  refine tl_iald (pc := 90) hb.2.1 dX6_canSpan_90 (fun x8 => ?_)
                  refine tl_imul (pc := 91) dX6_canSpan_91 ?_
                  refine tl_iconst (pc := 92) (v := 1) dX6_canSpan_92 (by decide) ?_
                  refine tl_icmp_ne (pc := 93) (tgt := 100) dX6_canSpan_93 rfl ?_ ?_
                  · exact tl_sub (hk2 ()) (sub_s (sub_s (sub_s (sub_s (sub_n (sub_s (sub_n sub_e)))))))
                  · exact tl_sub (hk3 ()) (sub_s (sub_s (sub_s (sub_s (sub_n (sub_s (sub_n sub_e)))))))
                · exact tl_sub (hk3 ()) (sub_s (sub_s (sub_s (sub_s (sub_n (sub_s (sub_n sub_e)))))))
set_option maxRecDepth 100000 in
theorem c_X6_canSpan (T : Tb) (p0 : Int32) (p1 : Int32) (p2 : Int32) (hb : isMod T) : CT (.code yX6_canSpan cX6_canSpan 7 (some .boolean)) yX6_canSpan 2 iI T [.ref 168, .int p0, .int p1, .int p2] (F_X6_canSpan p0 p1 p2) := by
  refine ct_of (lo := [some (.ref 168), some (.int p0), some (.int p1), some (.int p2), none, none, none]) (j := 3) k_X6_canSpan.1 rfl (fun _ => Nat.le_of_ble_eq_true rfl) ?_
  show TL_X6_canSpan T 0 _ _ _
  rw [F_X6_canSpan]
  refine tl_aload_n (pc := 0) (i := 0) dX6_canSpan_0 rfl rfl ?_
  refine tl_getR (pc := 1) (r := 169) fl_X6_7 hb.1 rfl dX6_canSpan_1 ?_
  refine tl_iload_n (pc := 4) (i := 1) dX6_canSpan_4 rfl rfl ?_
  refine tl_callSi (pc := 5) k_X6_isCell gw_940 (c_X6_isCell T _ _ _ hb.2.1) rfl rfl (Nat.le_of_ble_eq_true rfl) (Nat.le_of_ble_eq_true rfl) dX6_canSpan_5 (fun x1 => ?_)
  refine tl_istore (pc := 8) (i := 4) (lo' := [some (.ref 168), some (.int p0), some (.int p1), some (.int p2), some (.int x1), none, none]) dX6_canSpan_8 (by decide) rfl ?_
  refine tl_iconst (pc := 10) (v := 0) dX6_canSpan_10 (by decide) ?_
  refine tl_istore (pc := 11) (i := 5) (lo' := [some (.ref 168), some (.int p0), some (.int p1), some (.int p2), some (.int x1), some (.int (0 : Int32)), none]) dX6_canSpan_11 (by decide) rfl ?_
  refine tl_sub (lp_X6_canSpan_13 T p0 p1 p2 hb    FU _ _) (sub_s (sub_s (sub_s (sub_s (sub_s (sub_s (sub_n sub_e)))))))
abbrev TL_X6_span (T : Tb) (pc : Nat) (lo : List (Option Value)) (st : List Value) (X : Dm Int32) : Prop := TL yX6_span cX6_span 10 (some .int) 3 iI T pc lo st X
set_option maxRecDepth 100000 in
theorem lp_X6_span_129 (T : Tb) (p0 : Int32) (p1 : Int32) (p2 : Int32) (p3 : Int32) (p4 : Int32) (x5 : Int32) (hb : isMod T)  (k3 : Unit → Dm Int32) (hk3 : ∀ (_ : Unit), TL_X6_span T 183 [some (.ref 168), none, none, none, some (.int p3), some (.int p4), none, some (.int x5), none, none] [] (k3 ())) : ∀ (n : Nat) (x7 : Int32), TL_X6_span T 129 [some (.ref 168), some (.int p0), none, none, some (.int p3), some (.int p4), none, some (.int x5), some (.int x7), none] [] (L_X6_span_129 p0 x5 n x7 k3) := by
  intro n
  induction n with
  | zero => intros; exact tl_fail
  | succ n ih =>
    intro x7
    rw [L_X6_span_129]
    refine tl_iload (pc := 129) (i := 8) dX6_span_129 rfl ?_
    refine tl_bipush (pc := 131) (v := 25) dX6_span_131 (by decide) ?_
    refine tl_icmp_ge (pc := 133) (tgt := 183) dX6_span_133 rfl ?_ ?_
    · exact tl_sub (hk3 ()) (sub_s (sub_n (sub_n (sub_n (sub_s (sub_s (sub_n (sub_s (sub_n (sub_n sub_e))))))))))
    · refine tl_bipush (pc := 136) (v := 25) dX6_span_136 (by decide) ?_
      refine tl_iload_n (pc := 138) (i := 1) dX6_span_138 rfl rfl ?_
      refine tl_imul (pc := 139) dX6_span_139 ?_
      refine tl_iload (pc := 140) (i := 8) dX6_span_140 rfl ?_
      refine tl_iadd (pc := 142) dX6_span_142 ?_
      refine tl_bI (fun x8 => ?_)
      refine tl_istore (pc := 143) (i := 9) (lo' := [some (.ref 168), some (.int p0), none, none, some (.int p3), some (.int p4), none, some (.int x5), some (.int x7), some (.int x8)]) dX6_span_143 (by decide) rfl ?_
      refine tl_iload (pc := 145) (i := 9) dX6_span_145 rfl ?_
      refine tl_iload (pc := 147) (i := 7) dX6_span_147 rfl ?_
      refine tl_j (fun (k : Unit → Dm Int32) => ∀ (_ : Unit), TL_X6_span T 177 [some (.ref 168), some (.int p0), none, none, some (.int p3), some (.int p4), none, some (.int x5), some (.int x7), none] [] (k ())) (fun _ => ?_) (fun k4 hk4 => ?_)
      · refine tl_iinc (pc := 177) (i := 8) (v := x7 + (1 : Int32)) (lo' := [some (.ref 168), some (.int p0), none, none, some (.int p3), some (.int p4), none, some (.int x5), some (.int (x7 + (1 : Int32))), none]) dX6_span_177 rfl rfl (by decide) rfl ?_
        refine tl_goto (pc := 180) (tgt := 129) dX6_span_180 rfl ?_
        exact tl_sub (ih _) (sub_s (sub_s (sub_n (sub_n (sub_s (sub_s (sub_n (sub_s (sub_s (sub_n sub_e))))))))))
      · refine tl_icmp_eq (pc := 149) (tgt := 177) dX6_span_149 rfl ?_ ?_
        · exact tl_sub (hk4 ()) (sub_s (sub_s (sub_n (sub_n (sub_s (sub_s (sub_n (sub_s (sub_s (sub_n sub_e))))))))))
        · refine tl_aload_n (pc := 152) (i := 0) dX6_span_152 rfl rfl ?_
          refine tl_getR (pc := 153) (r := 169) fl_X6_7 hb.1 rfl dX6_span_153 ?_
          refine tl_sipush (pc := 156) (v := 512) dX6_span_156 (by decide) ?_
          refine tl_iload (pc := 159) (i := 9) dX6_span_159 rfl ?_
          refine tl_iadd (pc := 161) dX6_span_161 ?_
          refine tl_iald (pc := 162) hb.2.1 dX6_span_162 (fun x9 => ?_)
          refine tl_iload (pc := 163) (i := 7) dX6_span_163 rfl ?_
          refine tl_icmp_ne (pc := 165) (tgt := 177) dX6_span_165 rfl ?_ ?_
          · refine tl_aload_n (pc := 168) (i := 0) dX6_span_168 rfl rfl ?_
            refine tl_getR (pc := 169) (r := 169) fl_X6_7 hb.1 rfl dX6_span_169 ?_
            refine tl_iload (pc := 172) (i := 9) dX6_span_172 rfl ?_
            refine tl_callSv (pc := 174) k_X6_empties gw_824 (c_X6_empties T _ _ _ hb.2.1) rfl rfl (Nat.le_of_ble_eq_true rfl) (Nat.le_of_ble_eq_true rfl) dX6_span_174 (fun _ => ?_)
            exact tl_sub (hk4 ()) (sub_s (sub_s (sub_n (sub_n (sub_s (sub_s (sub_n (sub_s (sub_s (sub_n sub_e))))))))))
          · exact tl_sub (hk4 ()) (sub_s (sub_s (sub_n (sub_n (sub_s (sub_s (sub_n (sub_s (sub_s (sub_n sub_e))))))))))
set_option maxRecDepth 100000 in
theorem lp_X6_span_186 (T : Tb) (p0 : Int32) (p1 : Int32) (p2 : Int32) (p3 : Int32) (p4 : Int32) (x5 : Int32) (hb : isMod T)  (k5 : Unit → Dm Int32) (hk5 : ∀ (_ : Unit), TL_X6_span T 242 [some (.ref 168), none, none, none, some (.int p3), some (.int p4), none, some (.int x5), none, none] [] (k5 ())) : ∀ (n : Nat) (x10 : Int32), TL_X6_span T 186 [some (.ref 168), none, none, none, some (.int p3), some (.int p4), none, some (.int x5), some (.int x10), none] [] (L_X6_span_186 p3 p4 x5 n x10 k5) := by
  intro n
  induction n with
  | zero => intros; exact tl_fail
  | succ n ih =>
    intro x10
    rw [L_X6_span_186]
    refine tl_iload (pc := 186) (i := 8) dX6_span_186 rfl ?_
    refine tl_iload (pc := 188) (i := 4) dX6_span_188 rfl ?_
    refine tl_iload (pc := 190) (i := 5) dX6_span_190 rfl ?_
    refine tl_imul (pc := 192) dX6_span_192 ?_
    refine tl_icmp_ge (pc := 193) (tgt := 242) dX6_span_193 rfl ?_ ?_
    · exact tl_sub (hk5 ()) (sub_s (sub_n (sub_n (sub_n (sub_s (sub_s (sub_n (sub_s (sub_n (sub_n sub_e))))))))))
    · refine tl_iload (pc := 196) (i := 7) dX6_span_196 rfl ?_
      refine tl_iconst (pc := 198) (v := 5) dX6_span_198 (by decide) ?_
      refine tl_iload (pc := 199) (i := 8) dX6_span_199 rfl ?_
      refine tl_iload (pc := 201) (i := 5) dX6_span_201 rfl ?_
      refine tl_ck (fun hc203 => ?_)
      refine tl_idiv (pc := 203) dX6_span_203 hc203 ?_
      refine tl_imul (pc := 204) dX6_span_204 ?_
      refine tl_iadd (pc := 205) dX6_span_205 ?_
      refine tl_iload (pc := 206) (i := 8) dX6_span_206 rfl ?_
      refine tl_iload (pc := 208) (i := 5) dX6_span_208 rfl ?_
      refine tl_ck (fun hc210 => ?_)
      refine tl_irem (pc := 210) dX6_span_210 hc210 ?_
      refine tl_iadd (pc := 211) dX6_span_211 ?_
      refine tl_bI (fun x11 => ?_)
      refine tl_istore (pc := 212) (i := 9) (lo' := [some (.ref 168), none, none, none, some (.int p3), some (.int p4), none, some (.int x5), some (.int x10), some (.int x11)]) dX6_span_212 (by decide) rfl ?_
      refine tl_aload_n (pc := 214) (i := 0) dX6_span_214 rfl rfl ?_
      refine tl_getR (pc := 215) (r := 169) fl_X6_7 hb.1 rfl dX6_span_215 ?_
      refine tl_iload (pc := 218) (i := 9) dX6_span_218 rfl ?_
      refine tl_callSv (pc := 220) k_X6_empties gw_824 (c_X6_empties T _ _ _ hb.2.1) rfl rfl (Nat.le_of_ble_eq_true rfl) (Nat.le_of_ble_eq_true rfl) dX6_span_220 (fun _ => ?_)
      refine tl_aload_n (pc := 223) (i := 0) dX6_span_223 rfl rfl ?_
      refine tl_getR (pc := 224) (r := 169) fl_X6_7 hb.1 rfl dX6_span_224 ?_
      refine tl_sipush (pc := 227) (v := 512) dX6_span_227 (by decide) ?_
      refine tl_iload (pc := 230) (i := 9) dX6_span_230 rfl ?_
      refine tl_iadd (pc := 232) dX6_span_232 ?_
      refine tl_iload (pc := 233) (i := 7) dX6_span_233 rfl ?_
      refine tl_iast (pc := 235) hb.2.1 dX6_span_235 ?_
      refine tl_iinc (pc := 236) (i := 8) (v := x10 + (1 : Int32)) (lo' := [some (.ref 168), none, none, none, some (.int p3), some (.int p4), none, some (.int x5), some (.int (x10 + (1 : Int32))), some (.int x11)]) dX6_span_236 rfl rfl (by decide) rfl ?_
      refine tl_goto (pc := 239) (tgt := 186) dX6_span_239 rfl ?_
      exact tl_sub (ih _) (sub_s (sub_n (sub_n (sub_n (sub_s (sub_s (sub_n (sub_s (sub_s (sub_n sub_e))))))))))
set_option maxRecDepth 100000 in
theorem c_X6_span (T : Tb) (p0 : Int32) (p1 : Int32) (p2 : Int32) (p3 : Int32) (p4 : Int32) (hb : isMod T) : CT (.code yX6_span cX6_span 10 (some .int)) yX6_span 3 iI T [.ref 168, .int p0, .int p1, .int p2, .int p3, .int p4] (F_X6_span p0 p1 p2 p3 p4) := by
  refine ct_of (lo := [some (.ref 168), some (.int p0), some (.int p1), some (.int p2), some (.int p3), some (.int p4), none, none, none, none]) (j := 4) k_X6_span.1 rfl (fun _ => Nat.le_of_ble_eq_true rfl) ?_
  show TL_X6_span T 0 _ _ _
  rw [F_X6_span]
  refine tl_aload_n (pc := 0) (i := 0) dX6_span_0 rfl rfl ?_
  refine tl_iconst (pc := 1) (v := 0) dX6_span_1 (by decide) ?_
  refine tl_putI (pc := 2) fw_X6_62 hb.1 rfl dX6_span_2 ?_
  refine tl_iload (pc := 5) (i := 4) dX6_span_5 rfl ?_
  refine tl_iconst (pc := 7) (v := 1) dX6_span_7 (by decide) ?_
  refine tl_iconst (pc := 8) (v := 5) dX6_span_8 (by decide) ?_
  refine tl_callSi (pc := 9) k_X6_in gw_919 (c_X6_in T _ _ _) rfl rfl (Nat.le_of_ble_eq_true rfl) (Nat.le_of_ble_eq_true rfl) dX6_span_9 (fun x1 => ?_)
  refine tl_j (fun (k : Int32 → Dm Int32) => ∀ (x2 : Int32), TL_X6_span T 30 [some (.ref 168), some (.int p0), some (.int p1), some (.int p2), some (.int p3), some (.int p4), none, none, none, none] [.int x2] (k x2)) (fun x2 => ?_) (fun k1 hk1 => ?_)
  · refine tl_istore (pc := 30) (i := 6) (lo' := [some (.ref 168), some (.int p0), some (.int p1), some (.int p2), some (.int p3), some (.int p4), some (.int x2), none, none, none]) dX6_span_30 (by decide) rfl ?_
    refine tl_aload_n (pc := 32) (i := 0) dX6_span_32 rfl rfl ?_
    refine tl_iload_n (pc := 33) (i := 1) dX6_span_33 rfl rfl ?_
    refine tl_iload_n (pc := 34) (i := 2) dX6_span_34 rfl rfl ?_
    refine tl_iload_n (pc := 35) (i := 3) dX6_span_35 rfl rfl ?_
    refine tl_callVi (pc := 36) k_X6_isSquare gw_930 hb.1 ⟨_, _, rfl⟩ (c_X6_isSquare T _ _ _ hb) rfl rfl (Nat.le_of_ble_eq_true rfl) (Nat.le_of_ble_eq_true rfl) dX6_span_36 (fun x3 => ?_)
    refine tl_if_eq (pc := 39) (tgt := 78) dX6_span_39 rfl ?_ ?_
    · refine tl_aload_n (pc := 78) (i := 0) dX6_span_78 rfl rfl ?_
      refine tl_iconst (pc := 79) (v := 1) dX6_span_79 (by decide) ?_
      refine tl_callVi (pc := 80) k_X6_fails gw_908 hb.1 ⟨_, _, rfl⟩ (c_X6_fails T _ hb) rfl rfl (Nat.le_of_ble_eq_true rfl) (Nat.le_of_ble_eq_true rfl) dX6_span_80 (fun x4 => ?_)
      exact tl_iret (pc := 83) dX6_span_83
    · refine tl_iload (pc := 42) (i := 6) dX6_span_42 rfl ?_
      refine tl_j (fun (k : Unit → Dm Int32) => ∀ (_ : Unit), TL_X6_span T 84 [some (.ref 168), some (.int p0), some (.int p1), some (.int p2), some (.int p3), some (.int p4), some (.int x2), none, none, none] [] (k ())) (fun _ => ?_) (fun k2 hk2 => ?_)
      · refine tl_iload (pc := 84) (i := 6) dX6_span_84 rfl ?_
        refine tl_if_ne (pc := 86) (tgt := 95) dX6_span_86 rfl ?_ ?_
        · refine tl_aload_n (pc := 89) (i := 0) dX6_span_89 rfl rfl ?_
          refine tl_iconst (pc := 90) (v := 2) dX6_span_90 (by decide) ?_
          refine tl_callVi (pc := 91) k_X6_fails gw_908 hb.1 ⟨_, _, rfl⟩ (c_X6_fails T _ hb) rfl rfl (Nat.le_of_ble_eq_true rfl) (Nat.le_of_ble_eq_true rfl) dX6_span_91 (fun x13 => ?_)
          exact tl_iret (pc := 94) dX6_span_94
        · refine tl_iload_n (pc := 95) (i := 1) dX6_span_95 rfl rfl ?_
          refine tl_iload_n (pc := 96) (i := 2) dX6_span_96 rfl rfl ?_
          refine tl_iload_n (pc := 97) (i := 3) dX6_span_97 rfl rfl ?_
          refine tl_callSi (pc := 98) k_X6_square gw_937 (c_X6_square T _ _ _) rfl rfl (Nat.le_of_ble_eq_true rfl) (Nat.le_of_ble_eq_true rfl) dX6_span_98 (fun x5 => ?_)
          refine tl_istore (pc := 101) (i := 7) (lo' := [some (.ref 168), some (.int p0), some (.int p1), some (.int p2), some (.int p3), some (.int p4), some (.int x2), some (.int x5), none, none]) dX6_span_101 (by decide) rfl ?_
          refine tl_aload_n (pc := 103) (i := 0) dX6_span_103 rfl rfl ?_
          refine tl_iload (pc := 104) (i := 7) dX6_span_104 rfl ?_
          refine tl_iload (pc := 106) (i := 4) dX6_span_106 rfl ?_
          refine tl_iload (pc := 108) (i := 5) dX6_span_108 rfl ?_
          refine tl_callVi (pc := 110) k_X6_canSpan gw_964 hb.1 ⟨_, _, rfl⟩ (c_X6_canSpan T _ _ _ hb) rfl rfl (Nat.le_of_ble_eq_true rfl) (Nat.le_of_ble_eq_true rfl) dX6_span_110 (fun x6 => ?_)
          refine tl_if_ne (pc := 113) (tgt := 122) dX6_span_113 rfl ?_ ?_
          · refine tl_aload_n (pc := 116) (i := 0) dX6_span_116 rfl rfl ?_
            refine tl_iconst (pc := 117) (v := 3) dX6_span_117 (by decide) ?_
            refine tl_callVi (pc := 118) k_X6_fails gw_908 hb.1 ⟨_, _, rfl⟩ (c_X6_fails T _ hb) rfl rfl (Nat.le_of_ble_eq_true rfl) (Nat.le_of_ble_eq_true rfl) dX6_span_118 (fun x12 => ?_)
            exact tl_iret (pc := 121) dX6_span_121
          · refine tl_aload_n (pc := 122) (i := 0) dX6_span_122 rfl rfl ?_
            refine tl_callVv (pc := 123) k_X6_saves gw_922 hb.1 ⟨_, _, rfl⟩ (c_X6_saves T hb) rfl rfl (Nat.le_of_ble_eq_true rfl) (Nat.le_of_ble_eq_true rfl) dX6_span_123 (fun _ => ?_)
            refine tl_iconst (pc := 126) (v := 0) dX6_span_126 (by decide) ?_
            refine tl_istore (pc := 127) (i := 8) (lo' := [some (.ref 168), some (.int p0), some (.int p1), some (.int p2), some (.int p3), some (.int p4), some (.int x2), some (.int x5), some (.int (0 : Int32)), none]) dX6_span_127 (by decide) rfl ?_
            refine tl_sub (lp_X6_span_129 T p0 p1 p2 p3 p4 x5 hb  _ (fun _ => ?_) FU _) (sub_s (sub_s (sub_n (sub_n (sub_s (sub_s (sub_n (sub_s (sub_s (sub_n sub_e))))))))))
            refine tl_iconst (pc := 183) (v := 1) dX6_span_183 (by decide) ?_
            refine tl_istore (pc := 184) (i := 8) (lo' := [some (.ref 168), none, none, none, some (.int p3), some (.int p4), none, some (.int x5), some (.int (1 : Int32)), none]) dX6_span_184 (by decide) rfl ?_
            refine tl_sub (lp_X6_span_186 T p0 p1 p2 p3 p4 x5 hb  _ (fun _ => ?_) FU _) (sub_s (sub_n (sub_n (sub_n (sub_s (sub_s (sub_n (sub_s (sub_s (sub_n sub_e))))))))))
            refine tl_aload_n (pc := 242) (i := 0) dX6_span_242 rfl rfl ?_
            refine tl_getR (pc := 243) (r := 169) fl_X6_7 hb.1 rfl dX6_span_243 ?_
            refine tl_sipush (pc := 246) (v := 262) dX6_span_246 (by decide) ?_
            refine tl_iload (pc := 249) (i := 7) dX6_span_249 rfl ?_
            refine tl_iadd (pc := 251) dX6_span_251 ?_
            refine tl_iload (pc := 252) (i := 4) dX6_span_252 rfl ?_
            refine tl_iast (pc := 254) hb.2.1 dX6_span_254 ?_
            refine tl_aload_n (pc := 255) (i := 0) dX6_span_255 rfl rfl ?_
            refine tl_getR (pc := 256) (r := 169) fl_X6_7 hb.1 rfl dX6_span_256 ?_
            refine tl_sipush (pc := 259) (v := 387) dX6_span_259 (by decide) ?_
            refine tl_iload (pc := 262) (i := 7) dX6_span_262 rfl ?_
            refine tl_iadd (pc := 264) dX6_span_264 ?_
            refine tl_iload (pc := 265) (i := 5) dX6_span_265 rfl ?_
            refine tl_iast (pc := 267) hb.2.1 dX6_span_267 ?_
            refine tl_iload (pc := 268) (i := 4) dX6_span_268 rfl ?_
            refine tl_iload (pc := 270) (i := 5) dX6_span_270 rfl ?_
            refine tl_imul (pc := 272) dX6_span_272 ?_
            exact tl_iret (pc := 273) dX6_span_273
      · refine tl_if_eq (pc := 44) (tgt := 84) dX6_span_44 rfl ?_ ?_
        · exact tl_sub (hk2 ()) (sub_s (sub_s (sub_s (sub_s (sub_s (sub_s (sub_s (sub_n (sub_n (sub_n sub_e))))))))))
        · refine tl_iload_n (pc := 47) (i := 2) dX6_span_47 rfl rfl ?_
          refine tl_iload (pc := 48) (i := 4) dX6_span_48 rfl ?_
          refine tl_iadd (pc := 50) dX6_span_50 ?_
          refine tl_aload_n (pc := 51) (i := 0) dX6_span_51 rfl rfl ?_
          refine tl_getR (pc := 52) (r := 169) fl_X6_7 hb.1 rfl dX6_span_52 ?_
          refine tl_iconst (pc := 55) (v := 2) dX6_span_55 (by decide) ?_
          refine tl_iload_n (pc := 56) (i := 1) dX6_span_56 rfl rfl ?_
          refine tl_iadd (pc := 57) dX6_span_57 ?_
          refine tl_iald (pc := 58) hb.2.1 dX6_span_58 (fun x14 => ?_)
          refine tl_icmp_gt (pc := 59) (tgt := 78) dX6_span_59 rfl ?_ ?_
          · refine tl_aload_n (pc := 78) (i := 0) dX6_span_78 rfl rfl ?_
            refine tl_iconst (pc := 79) (v := 1) dX6_span_79 (by decide) ?_
            refine tl_callVi (pc := 80) k_X6_fails gw_908 hb.1 ⟨_, _, rfl⟩ (c_X6_fails T _ hb) rfl rfl (Nat.le_of_ble_eq_true rfl) (Nat.le_of_ble_eq_true rfl) dX6_span_80 (fun x15 => ?_)
            exact tl_iret (pc := 83) dX6_span_83
          · refine tl_iload_n (pc := 62) (i := 3) dX6_span_62 rfl rfl ?_
            refine tl_iload (pc := 63) (i := 5) dX6_span_63 rfl ?_
            refine tl_iadd (pc := 65) dX6_span_65 ?_
            refine tl_aload_n (pc := 66) (i := 0) dX6_span_66 rfl rfl ?_
            refine tl_getR (pc := 67) (r := 169) fl_X6_7 hb.1 rfl dX6_span_67 ?_
            refine tl_bipush (pc := 70) (v := 7) dX6_span_70 (by decide) ?_
            refine tl_iload_n (pc := 72) (i := 1) dX6_span_72 rfl rfl ?_
            refine tl_iadd (pc := 73) dX6_span_73 ?_
            refine tl_iald (pc := 74) hb.2.1 dX6_span_74 (fun x16 => ?_)
            refine tl_icmp_le (pc := 75) (tgt := 84) dX6_span_75 rfl ?_ ?_
            · exact tl_sub (hk2 ()) (sub_s (sub_s (sub_s (sub_s (sub_s (sub_s (sub_s (sub_n (sub_n (sub_n sub_e))))))))))
            · refine tl_aload_n (pc := 78) (i := 0) dX6_span_78 rfl rfl ?_
              refine tl_iconst (pc := 79) (v := 1) dX6_span_79 (by decide) ?_
              refine tl_callVi (pc := 80) k_X6_fails gw_908 hb.1 ⟨_, _, rfl⟩ (c_X6_fails T _ hb) rfl rfl (Nat.le_of_ble_eq_true rfl) (Nat.le_of_ble_eq_true rfl) dX6_span_80 (fun x17 => ?_)
              exact tl_iret (pc := 83) dX6_span_83
  · refine tl_j (fun (k : Unit → Dm Int32) => ∀ (_ : Unit), TL_X6_span T 29 [some (.ref 168), some (.int p0), some (.int p1), some (.int p2), some (.int p3), some (.int p4), none, none, none, none] [] (k ())) (fun _ => ?_) (fun k6 hk6 => ?_)
    · refine tl_iconst (pc := 29) (v := 0) dX6_span_29 (by decide) ?_
      exact tl_sub (hk1 _) (sub_s (sub_s (sub_s (sub_s (sub_s (sub_s (sub_n (sub_n (sub_n (sub_n sub_e))))))))))
    · refine tl_if_eq (pc := 12) (tgt := 29) dX6_span_12 rfl ?_ ?_
      · exact tl_sub (hk6 ()) (sub_s (sub_s (sub_s (sub_s (sub_s (sub_s (sub_n (sub_n (sub_n (sub_n sub_e))))))))))
      · refine tl_iload (pc := 15) (i := 5) dX6_span_15 rfl ?_
        refine tl_iconst (pc := 17) (v := 1) dX6_span_17 (by decide) ?_
        refine tl_iconst (pc := 18) (v := 5) dX6_span_18 (by decide) ?_
        refine tl_callSi (pc := 19) k_X6_in gw_919 (c_X6_in T _ _ _) rfl rfl (Nat.le_of_ble_eq_true rfl) (Nat.le_of_ble_eq_true rfl) dX6_span_19 (fun x18 => ?_)
        refine tl_if_eq (pc := 22) (tgt := 29) dX6_span_22 rfl ?_ ?_
        · exact tl_sub (hk6 ()) (sub_s (sub_s (sub_s (sub_s (sub_s (sub_s (sub_n (sub_n (sub_n (sub_n sub_e))))))))))
        · refine tl_iconst (pc := 25) (v := 1) dX6_span_25 (by decide) ?_
          refine tl_goto (pc := 26) (tgt := 30) dX6_span_26 rfl ?_
          exact tl_sub (hk1 _) (sub_s (sub_s (sub_s (sub_s (sub_s (sub_s (sub_n (sub_n (sub_n (sub_n sub_e))))))))))
abbrev TL_X6_rule (T : Tb) (pc : Nat) (lo : List (Option Value)) (st : List Value) (X : Dm Int32) : Prop := TL yX6_rule cX6_rule 8 (some .int) 3 iI T pc lo st X
set_option maxRecDepth 100000 in
theorem c_X6_rule (T : Tb) (p0 : Int32) (p1 : Int32) (p2 : Int32) (p3 : Int32) (p4 : Int32) (hb : isMod T) : CT (.code yX6_rule cX6_rule 8 (some .int)) yX6_rule 3 iI T [.ref 168, .int p0, .int p1, .int p2, .int p3, .int p4] (F_X6_rule p0 p1 p2 p3 p4) := by
  refine ct_of (lo := [some (.ref 168), some (.int p0), some (.int p1), some (.int p2), some (.int p3), some (.int p4), none, none]) (j := 2) k_X6_rule.1 rfl (fun _ => Nat.le_of_ble_eq_true rfl) ?_
  show TL_X6_rule T 0 _ _ _
  rw [F_X6_rule]
  refine tl_aload_n (pc := 0) (i := 0) dX6_rule_0 rfl rfl ?_
  refine tl_iconst (pc := 1) (v := 0) dX6_rule_1 (by decide) ?_
  refine tl_putI (pc := 2) fw_X6_62 hb.1 rfl dX6_rule_2 ?_
  refine tl_aload_n (pc := 5) (i := 0) dX6_rule_5 rfl rfl ?_
  refine tl_iload_n (pc := 6) (i := 1) dX6_rule_6 rfl rfl ?_
  refine tl_iload_n (pc := 7) (i := 2) dX6_rule_7 rfl rfl ?_
  refine tl_iload_n (pc := 8) (i := 3) dX6_rule_8 rfl rfl ?_
  refine tl_callVi (pc := 9) k_X6_isSquare gw_930 hb.1 ⟨_, _, rfl⟩ (c_X6_isSquare T _ _ _ hb) rfl rfl (Nat.le_of_ble_eq_true rfl) (Nat.le_of_ble_eq_true rfl) dX6_rule_9 (fun x1 => ?_)
  refine tl_if_ne (pc := 12) (tgt := 21) dX6_rule_12 rfl ?_ ?_
  · refine tl_aload_n (pc := 15) (i := 0) dX6_rule_15 rfl rfl ?_
    refine tl_iconst (pc := 16) (v := 1) dX6_rule_16 (by decide) ?_
    refine tl_callVi (pc := 17) k_X6_fails gw_908 hb.1 ⟨_, _, rfl⟩ (c_X6_fails T _ hb) rfl rfl (Nat.le_of_ble_eq_true rfl) (Nat.le_of_ble_eq_true rfl) dX6_rule_17 (fun x10 => ?_)
    exact tl_iret (pc := 20) dX6_rule_20
  · refine tl_iload (pc := 21) (i := 4) dX6_rule_21 rfl ?_
    refine tl_iconst (pc := 23) (v := 0) dX6_rule_23 (by decide) ?_
    refine tl_iconst (pc := 24) (v := 3) dX6_rule_24 (by decide) ?_
    refine tl_callSi (pc := 25) k_X6_in gw_919 (c_X6_in T _ _ _) rfl rfl (Nat.le_of_ble_eq_true rfl) (Nat.le_of_ble_eq_true rfl) dX6_rule_25 (fun x2 => ?_)
    refine tl_if_eq (pc := 28) (tgt := 41) dX6_rule_28 rfl ?_ ?_
    · refine tl_aload_n (pc := 41) (i := 0) dX6_rule_41 rfl rfl ?_
      refine tl_iconst (pc := 42) (v := 2) dX6_rule_42 (by decide) ?_
      refine tl_callVi (pc := 43) k_X6_fails gw_908 hb.1 ⟨_, _, rfl⟩ (c_X6_fails T _ hb) rfl rfl (Nat.le_of_ble_eq_true rfl) (Nat.le_of_ble_eq_true rfl) dX6_rule_43 (fun x3 => ?_)
      exact tl_iret (pc := 46) dX6_rule_46
    · refine tl_iload (pc := 31) (i := 5) dX6_rule_31 rfl ?_
      refine tl_iconst (pc := 33) (v := 0) dX6_rule_33 (by decide) ?_
      refine tl_iconst (pc := 34) (v := 3) dX6_rule_34 (by decide) ?_
      refine tl_callSi (pc := 35) k_X6_in gw_919 (c_X6_in T _ _ _) rfl rfl (Nat.le_of_ble_eq_true rfl) (Nat.le_of_ble_eq_true rfl) dX6_rule_35 (fun x4 => ?_)
      refine tl_if_ne (pc := 38) (tgt := 47) dX6_rule_38 rfl ?_ ?_
      · refine tl_aload_n (pc := 41) (i := 0) dX6_rule_41 rfl rfl ?_
        refine tl_iconst (pc := 42) (v := 2) dX6_rule_42 (by decide) ?_
        refine tl_callVi (pc := 43) k_X6_fails gw_908 hb.1 ⟨_, _, rfl⟩ (c_X6_fails T _ hb) rfl rfl (Nat.le_of_ble_eq_true rfl) (Nat.le_of_ble_eq_true rfl) dX6_rule_43 (fun x9 => ?_)
        exact tl_iret (pc := 46) dX6_rule_46
      · refine tl_iload_n (pc := 47) (i := 1) dX6_rule_47 rfl rfl ?_
        refine tl_iload_n (pc := 48) (i := 2) dX6_rule_48 rfl rfl ?_
        refine tl_iload_n (pc := 49) (i := 3) dX6_rule_49 rfl rfl ?_
        refine tl_callSi (pc := 50) k_X6_square gw_937 (c_X6_square T _ _ _) rfl rfl (Nat.le_of_ble_eq_true rfl) (Nat.le_of_ble_eq_true rfl) dX6_rule_50 (fun x5 => ?_)
        refine tl_istore (pc := 53) (i := 6) (lo' := [some (.ref 168), some (.int p0), some (.int p1), some (.int p2), some (.int p3), some (.int p4), some (.int x5), none]) dX6_rule_53 (by decide) rfl ?_
        refine tl_aload_n (pc := 55) (i := 0) dX6_rule_55 rfl rfl ?_
        refine tl_getR (pc := 56) (r := 169) fl_X6_7 hb.1 rfl dX6_rule_56 ?_
        refine tl_iload (pc := 59) (i := 6) dX6_rule_59 rfl ?_
        refine tl_callSi (pc := 61) k_X6_isCell gw_940 (c_X6_isCell T _ _ _ hb.2.1) rfl rfl (Nat.le_of_ble_eq_true rfl) (Nat.le_of_ble_eq_true rfl) dX6_rule_61 (fun x6 => ?_)
        refine tl_if_ne (pc := 64) (tgt := 73) dX6_rule_64 rfl ?_ ?_
        · refine tl_aload_n (pc := 67) (i := 0) dX6_rule_67 rfl rfl ?_
          refine tl_iconst (pc := 68) (v := 3) dX6_rule_68 (by decide) ?_
          refine tl_callVi (pc := 69) k_X6_fails gw_908 hb.1 ⟨_, _, rfl⟩ (c_X6_fails T _ hb) rfl rfl (Nat.le_of_ble_eq_true rfl) (Nat.le_of_ble_eq_true rfl) dX6_rule_69 (fun x8 => ?_)
          exact tl_iret (pc := 72) dX6_rule_72
        · refine tl_aload_n (pc := 73) (i := 0) dX6_rule_73 rfl rfl ?_
          refine tl_callVv (pc := 74) k_X6_saves gw_922 hb.1 ⟨_, _, rfl⟩ (c_X6_saves T hb) rfl rfl (Nat.le_of_ble_eq_true rfl) (Nat.le_of_ble_eq_true rfl) dX6_rule_74 (fun _ => ?_)
          refine tl_aload_n (pc := 77) (i := 0) dX6_rule_77 rfl rfl ?_
          refine tl_getR (pc := 78) (r := 169) fl_X6_7 hb.1 rfl dX6_rule_78 ?_
          refine tl_sipush (pc := 81) (v := 637) dX6_rule_81 (by decide) ?_
          refine tl_iconst (pc := 84) (v := 4) dX6_rule_84 (by decide) ?_
          refine tl_iload (pc := 85) (i := 6) dX6_rule_85 rfl ?_
          refine tl_imul (pc := 87) dX6_rule_87 ?_
          refine tl_iadd (pc := 88) dX6_rule_88 ?_
          refine tl_iload (pc := 89) (i := 4) dX6_rule_89 rfl ?_
          refine tl_iadd (pc := 91) dX6_rule_91 ?_
          refine tl_iald (pc := 92) hb.2.1 dX6_rule_92 (fun x7 => ?_)
          refine tl_istore (pc := 93) (i := 7) (lo' := [some (.ref 168), some (.int p0), some (.int p1), some (.int p2), some (.int p3), some (.int p4), some (.int x5), some (.int x7)]) dX6_rule_93 (by decide) rfl ?_
          refine tl_aload_n (pc := 95) (i := 0) dX6_rule_95 rfl rfl ?_
          refine tl_getR (pc := 96) (r := 169) fl_X6_7 hb.1 rfl dX6_rule_96 ?_
          refine tl_sipush (pc := 99) (v := 637) dX6_rule_99 (by decide) ?_
          refine tl_iconst (pc := 102) (v := 4) dX6_rule_102 (by decide) ?_
          refine tl_iload (pc := 103) (i := 6) dX6_rule_103 rfl ?_
          refine tl_imul (pc := 105) dX6_rule_105 ?_
          refine tl_iadd (pc := 106) dX6_rule_106 ?_
          refine tl_iload (pc := 107) (i := 4) dX6_rule_107 rfl ?_
          refine tl_iadd (pc := 109) dX6_rule_109 ?_
          refine tl_iload (pc := 110) (i := 5) dX6_rule_110 rfl ?_
          refine tl_iast (pc := 112) hb.2.1 dX6_rule_112 ?_
          refine tl_iload (pc := 113) (i := 7) dX6_rule_113 rfl ?_
          exact tl_iret (pc := 115) dX6_rule_115
abbrev TL_X6_set (T : Tb) (pc : Nat) (lo : List (Option Value)) (st : List Value) (X : Dm Int32) : Prop := TL yX6_set cX6_set 3 (some .int) 2 iI T pc lo st X
set_option maxRecDepth 100000 in
theorem c_X6_set (T : Tb) (p0 : Int32) (hb : isMod T) : CT (.code yX6_set cX6_set 3 (some .int)) yX6_set 2 iI T [.ref 168, .int p0] (F_X6_set p0) := by
  refine ct_of (lo := [some (.ref 168), some (.int p0), none]) (j := 1) k_X6_set.1 rfl (fun _ => Nat.le_of_ble_eq_true rfl) ?_
  show TL_X6_set T 0 _ _ _
  rw [F_X6_set]
  refine tl_aload_n (pc := 0) (i := 0) dX6_set_0 rfl rfl ?_
  refine tl_iconst (pc := 1) (v := 0) dX6_set_1 (by decide) ?_
  refine tl_putI (pc := 2) fw_X6_62 hb.1 rfl dX6_set_2 ?_
  refine tl_iload_n (pc := 5) (i := 1) dX6_set_5 rfl rfl ?_
  refine tl_iconst (pc := 6) (v := 1) dX6_set_6 (by decide) ?_
  refine tl_bipush (pc := 7) (v := 60) dX6_set_7 (by decide) ?_
  refine tl_callSi (pc := 9) k_X6_in gw_919 (c_X6_in T _ _ _) rfl rfl (Nat.le_of_ble_eq_true rfl) (Nat.le_of_ble_eq_true rfl) dX6_set_9 (fun x1 => ?_)
  refine tl_if_ne (pc := 12) (tgt := 21) dX6_set_12 rfl ?_ ?_
  · refine tl_aload_n (pc := 15) (i := 0) dX6_set_15 rfl rfl ?_
    refine tl_iconst (pc := 16) (v := 1) dX6_set_16 (by decide) ?_
    refine tl_callVi (pc := 17) k_X6_fails gw_908 hb.1 ⟨_, _, rfl⟩ (c_X6_fails T _ hb) rfl rfl (Nat.le_of_ble_eq_true rfl) (Nat.le_of_ble_eq_true rfl) dX6_set_17 (fun x3 => ?_)
    exact tl_iret (pc := 20) dX6_set_20
  · refine tl_aload_n (pc := 21) (i := 0) dX6_set_21 rfl rfl ?_
    refine tl_callVv (pc := 22) k_X6_saves gw_922 hb.1 ⟨_, _, rfl⟩ (c_X6_saves T hb) rfl rfl (Nat.le_of_ble_eq_true rfl) (Nat.le_of_ble_eq_true rfl) dX6_set_22 (fun _ => ?_)
    refine tl_aload_n (pc := 25) (i := 0) dX6_set_25 rfl rfl ?_
    refine tl_getR (pc := 26) (r := 169) fl_X6_7 hb.1 rfl dX6_set_26 ?_
    refine tl_iconst (pc := 29) (v := 1) dX6_set_29 (by decide) ?_
    refine tl_iald (pc := 30) hb.2.1 dX6_set_30 (fun x2 => ?_)
    refine tl_istore_n (pc := 31) (i := 2) (lo' := [some (.ref 168), some (.int p0), some (.int x2)]) dX6_set_31 rfl (by decide) rfl ?_
    refine tl_aload_n (pc := 32) (i := 0) dX6_set_32 rfl rfl ?_
    refine tl_getR (pc := 33) (r := 169) fl_X6_7 hb.1 rfl dX6_set_33 ?_
    refine tl_iconst (pc := 36) (v := 1) dX6_set_36 (by decide) ?_
    refine tl_iload_n (pc := 37) (i := 1) dX6_set_37 rfl rfl ?_
    refine tl_iast (pc := 38) hb.2.1 dX6_set_38 ?_
    refine tl_iload_n (pc := 39) (i := 2) dX6_set_39 rfl rfl ?_
    exact tl_iret (pc := 40) dX6_set_40
abbrev TL_X6_append (T : Tb) (pc : Nat) (lo : List (Option Value)) (st : List Value) (X : Dm Int32) : Prop := TL yX6_append cX6_append 2 (some .int) 1 iI T pc lo st X
set_option maxRecDepth 100000 in
theorem c_X6_append (T : Tb) (p0 : Int32) (hb : isMod T) : CT (.code yX6_append cX6_append 2 (some .int)) yX6_append 1 iI T [.ref 168, .int p0] (F_X6_append p0) := by
  refine ct_of (lo := [some (.ref 168), some (.int p0)]) (j := 0) k_X6_append.1 rfl (fun _ => Nat.le_of_ble_eq_true rfl) ?_
  show TL_X6_append T 0 _ _ _
  rw [F_X6_append]
  refine tl_aload_n (pc := 0) (i := 0) dX6_append_0 rfl rfl ?_
  refine tl_iconst (pc := 1) (v := 0) dX6_append_1 (by decide) ?_
  refine tl_putI (pc := 2) fw_X6_62 hb.1 rfl dX6_append_2 ?_
  refine tl_iload_n (pc := 5) (i := 1) dX6_append_5 rfl rfl ?_
  refine tl_bipush (pc := 6) (v := 33) dX6_append_6 (by decide) ?_
  refine tl_bipush (pc := 8) (v := 126) dX6_append_8 (by decide) ?_
  refine tl_callSi (pc := 10) k_X6_in gw_919 (c_X6_in T _ _ _) rfl rfl (Nat.le_of_ble_eq_true rfl) (Nat.le_of_ble_eq_true rfl) dX6_append_10 (fun x1 => ?_)
  refine tl_if_ne (pc := 13) (tgt := 22) dX6_append_13 rfl ?_ ?_
  · refine tl_aload_n (pc := 16) (i := 0) dX6_append_16 rfl rfl ?_
    refine tl_iconst (pc := 17) (v := 1) dX6_append_17 (by decide) ?_
    refine tl_callVi (pc := 18) k_X6_fails gw_908 hb.1 ⟨_, _, rfl⟩ (c_X6_fails T _ hb) rfl rfl (Nat.le_of_ble_eq_true rfl) (Nat.le_of_ble_eq_true rfl) dX6_append_18 (fun x7 => ?_)
    exact tl_iret (pc := 21) dX6_append_21
  · refine tl_aload_n (pc := 22) (i := 0) dX6_append_22 rfl rfl ?_
    refine tl_getI (pc := 23) fl_X6_198 hb.1 rfl dX6_append_23 (fun x2 => ?_)
    refine tl_bipush (pc := 26) (v := 60) dX6_append_26 (by decide) ?_
    refine tl_icmp_ne (pc := 28) (tgt := 37) dX6_append_28 rfl ?_ ?_
    · refine tl_aload_n (pc := 31) (i := 0) dX6_append_31 rfl rfl ?_
      refine tl_iconst (pc := 32) (v := 2) dX6_append_32 (by decide) ?_
      refine tl_callVi (pc := 33) k_X6_fails gw_908 hb.1 ⟨_, _, rfl⟩ (c_X6_fails T _ hb) rfl rfl (Nat.le_of_ble_eq_true rfl) (Nat.le_of_ble_eq_true rfl) dX6_append_33 (fun x6 => ?_)
      exact tl_iret (pc := 36) dX6_append_36
    · refine tl_aload_n (pc := 37) (i := 0) dX6_append_37 rfl rfl ?_
      refine tl_getR (pc := 38) (r := 172) fl_X6_19 hb.1 rfl dX6_append_38 ?_
      refine tl_aload_n (pc := 41) (i := 0) dX6_append_41 rfl rfl ?_
      refine tl_getI (pc := 42) fl_X6_198 hb.1 rfl dX6_append_42 (fun x3 => ?_)
      refine tl_iload_n (pc := 45) (i := 1) dX6_append_45 rfl rfl ?_
      refine tl_iast (pc := 46) hb.2.2.2.2.1 dX6_append_46 ?_
      refine tl_aload_n (pc := 47) (i := 0) dX6_append_47 rfl rfl ?_
      refine tl_dup (pc := 48) dX6_append_48 rfl ?_
      refine tl_getI (pc := 49) fl_X6_198 hb.1 rfl dX6_append_49 (fun x4 => ?_)
      refine tl_iconst (pc := 52) (v := 1) dX6_append_52 (by decide) ?_
      refine tl_iadd (pc := 53) dX6_append_53 ?_
      refine tl_putI (pc := 54) fw_X6_198 hb.1 rfl dX6_append_54 ?_
      refine tl_aload_n (pc := 57) (i := 0) dX6_append_57 rfl rfl ?_
      refine tl_getI (pc := 58) fl_X6_198 hb.1 rfl dX6_append_58 (fun x5 => ?_)
      exact tl_iret (pc := 61) dX6_append_61
abbrev TL_X6_clearBuffer (T : Tb) (pc : Nat) (lo : List (Option Value)) (st : List Value) (X : Dm Int32) : Prop := TL yX6_clearBuffer cX6_clearBuffer 2 (some .int) 0 iI T pc lo st X
set_option maxRecDepth 100000 in
theorem c_X6_clearBuffer (T : Tb)  (hb : isMod T) : CT (.code yX6_clearBuffer cX6_clearBuffer 2 (some .int)) yX6_clearBuffer 0 iI T [.ref 168] (F_X6_clearBuffer) := by
  refine ct_of (lo := [some (.ref 168), none]) (j := 1) k_X6_clearBuffer.1 rfl (fun _ => Nat.le_of_ble_eq_true rfl) ?_
  show TL_X6_clearBuffer T 0 _ _ _
  rw [F_X6_clearBuffer]
  refine tl_aload_n (pc := 0) (i := 0) dX6_clearBuffer_0 rfl rfl ?_
  refine tl_iconst (pc := 1) (v := 0) dX6_clearBuffer_1 (by decide) ?_
  refine tl_putI (pc := 2) fw_X6_62 hb.1 rfl dX6_clearBuffer_2 ?_
  refine tl_aload_n (pc := 5) (i := 0) dX6_clearBuffer_5 rfl rfl ?_
  refine tl_getI (pc := 6) fl_X6_198 hb.1 rfl dX6_clearBuffer_6 (fun x1 => ?_)
  refine tl_istore_n (pc := 9) (i := 1) (lo' := [some (.ref 168), some (.int x1)]) dX6_clearBuffer_9 rfl (by decide) rfl ?_
  refine tl_aload_n (pc := 10) (i := 0) dX6_clearBuffer_10 rfl rfl ?_
  refine tl_iconst (pc := 11) (v := 0) dX6_clearBuffer_11 (by decide) ?_
  refine tl_putI (pc := 12) fw_X6_198 hb.1 rfl dX6_clearBuffer_12 ?_
  refine tl_iload_n (pc := 15) (i := 1) dX6_clearBuffer_15 rfl rfl ?_
  exact tl_iret (pc := 16) dX6_clearBuffer_16
abbrev TL_X6_isAt (T : Tb) (pc : Nat) (lo : List (Option Value)) (st : List Value) (X : Dm Int32) : Prop := TL yX6_isAt cX6_isAt 3 (some .boolean) 1 iI T pc lo st X
set_option maxRecDepth 100000 in
theorem c_X6_isAt (T : Tb) (p0 : Int32) (p1 : Int32) (hb : isMod T) : CT (.code yX6_isAt cX6_isAt 3 (some .boolean)) yX6_isAt 1 iI T [.ref 168, .int p0, .int p1] (F_X6_isAt p0 p1) := by
  refine ct_of (lo := [some (.ref 168), some (.int p0), some (.int p1)]) (j := 0) k_X6_isAt.1 rfl (fun _ => Nat.le_of_ble_eq_true rfl) ?_
  show TL_X6_isAt T 0 _ _ _
  rw [F_X6_isAt]
  refine tl_aload_n (pc := 0) (i := 0) dX6_isAt_0 rfl rfl ?_
  refine tl_getI (pc := 1) fl_X6_201 hb.1 rfl dX6_isAt_1 (fun x1 => ?_)
  refine tl_aload_n (pc := 4) (i := 0) dX6_isAt_4 rfl rfl ?_
  refine tl_getI (pc := 5) fl_X6_198 hb.1 rfl dX6_isAt_5 (fun x2 => ?_)
  refine tl_icmp_ge (pc := 8) (tgt := 32) dX6_isAt_8 rfl ?_ ?_
  · refine tl_iconst (pc := 32) (v := 0) dX6_isAt_32 (by decide) ?_
    exact tl_zret (pc := 33) dX6_isAt_33
  · refine tl_aload_n (pc := 11) (i := 0) dX6_isAt_11 rfl rfl ?_
    refine tl_getR (pc := 12) (r := 172) fl_X6_19 hb.1 rfl dX6_isAt_12 ?_
    refine tl_aload_n (pc := 15) (i := 0) dX6_isAt_15 rfl rfl ?_
    refine tl_getI (pc := 16) fl_X6_201 hb.1 rfl dX6_isAt_16 (fun x3 => ?_)
    refine tl_iald (pc := 19) hb.2.2.2.2.1 dX6_isAt_19 (fun x4 => ?_)
    refine tl_iload_n (pc := 20) (i := 1) dX6_isAt_20 rfl rfl ?_
    refine tl_iload_n (pc := 21) (i := 2) dX6_isAt_21 rfl rfl ?_
    refine tl_callSi (pc := 22) k_X6_in gw_919 (c_X6_in T _ _ _) rfl rfl (Nat.le_of_ble_eq_true rfl) (Nat.le_of_ble_eq_true rfl) dX6_isAt_22 (fun x5 => ?_)
    refine tl_if_eq (pc := 25) (tgt := 32) dX6_isAt_25 rfl ?_ ?_
    · refine tl_iconst (pc := 32) (v := 0) dX6_isAt_32 (by decide) ?_
      exact tl_zret (pc := 33) dX6_isAt_33
    · refine tl_iconst (pc := 28) (v := 1) dX6_isAt_28 (by decide) ?_
      refine tl_goto (pc := 29) (tgt := 33) dX6_isAt_29 rfl ?_
      exact tl_zret (pc := 33) dX6_isAt_33
abbrev TL_X6_stops (T : Tb) (pc : Nat) (lo : List (Option Value)) (st : List Value) (X : Dm Int32) : Prop := TL yX6_stops cX6_stops 1 (some .boolean) 0 iI T pc lo st X
set_option maxRecDepth 100000 in
theorem c_X6_stops (T : Tb)  (hb : isMod T) : CT (.code yX6_stops cX6_stops 1 (some .boolean)) yX6_stops 0 iI T [.ref 168] (F_X6_stops) := by
  refine ct_of (lo := [some (.ref 168)]) (j := 0) k_X6_stops.1 rfl (fun _ => Nat.le_of_ble_eq_true rfl) ?_
  show TL_X6_stops T 0 _ _ _
  rw [F_X6_stops]
  refine tl_aload_n (pc := 0) (i := 0) dX6_stops_0 rfl rfl ?_
  refine tl_aload_n (pc := 1) (i := 0) dX6_stops_1 rfl rfl ?_
  refine tl_getI (pc := 2) fl_X6_201 hb.1 rfl dX6_stops_2 (fun x1 => ?_)
  refine tl_aload_n (pc := 5) (i := 0) dX6_stops_5 rfl rfl ?_
  refine tl_getI (pc := 6) fl_X6_198 hb.1 rfl dX6_stops_6 (fun x2 => ?_)
  refine tl_icmp_ge (pc := 9) (tgt := 16) dX6_stops_9 rfl ?_ ?_
  · refine tl_iconst (pc := 16) (v := 0) dX6_stops_16 (by decide) ?_
    refine tl_putZ (pc := 17) fw_X6_204 hb.1 rfl dX6_stops_17 ?_
    refine tl_iconst (pc := 20) (v := 0) dX6_stops_20 (by decide) ?_
    exact tl_zret (pc := 21) dX6_stops_21
  · refine tl_iconst (pc := 12) (v := 1) dX6_stops_12 (by decide) ?_
    refine tl_goto (pc := 13) (tgt := 17) dX6_stops_13 rfl ?_
    refine tl_putZ (pc := 17) fw_X6_204 hb.1 rfl dX6_stops_17 ?_
    refine tl_iconst (pc := 20) (v := 0) dX6_stops_20 (by decide) ?_
    exact tl_zret (pc := 21) dX6_stops_21
abbrev TL_X6_isFigure (T : Tb) (pc : Nat) (lo : List (Option Value)) (st : List Value) (X : Dm Int32) : Prop := TL yX6_isFigure cX6_isFigure 4 (some .boolean) 2 iI T pc lo st X
set_option maxRecDepth 100000 in
theorem c_X6_isFigure (T : Tb) (p0 : Int32) (p1 : Int32) (p2 : Int32) (hb : isMod T) : CT (.code yX6_isFigure cX6_isFigure 4 (some .boolean)) yX6_isFigure 2 iI T [.ref 168, .int p0, .int p1, .int p2] (F_X6_isFigure p0 p1 p2) := by
  refine ct_of (lo := [some (.ref 168), some (.int p0), some (.int p1), some (.int p2)]) (j := 0) k_X6_isFigure.1 rfl (fun _ => Nat.le_of_ble_eq_true rfl) ?_
  show TL_X6_isFigure T 0 _ _ _
  rw [F_X6_isFigure]
  refine tl_aload_n (pc := 0) (i := 0) dX6_isFigure_0 rfl rfl ?_
  refine tl_iload_n (pc := 1) (i := 2) dX6_isFigure_1 rfl rfl ?_
  refine tl_iload_n (pc := 2) (i := 3) dX6_isFigure_2 rfl rfl ?_
  refine tl_callVi (pc := 3) k_X6_isAt gw_1000 hb.1 ⟨_, _, rfl⟩ (c_X6_isAt T _ _ hb) rfl rfl (Nat.le_of_ble_eq_true rfl) (Nat.le_of_ble_eq_true rfl) dX6_isFigure_3 (fun x1 => ?_)
  refine tl_if_ne (pc := 6) (tgt := 14) dX6_isFigure_6 rfl ?_ ?_
  · refine tl_aload_n (pc := 9) (i := 0) dX6_isFigure_9 rfl rfl ?_
    refine tl_callVi (pc := 10) k_X6_stops gw_1004 hb.1 ⟨_, _, rfl⟩ (c_X6_stops T hb) rfl rfl (Nat.le_of_ble_eq_true rfl) (Nat.le_of_ble_eq_true rfl) dX6_isFigure_10 (fun x6 => ?_)
    exact tl_zret (pc := 13) dX6_isFigure_13
  · refine tl_aload_n (pc := 14) (i := 0) dX6_isFigure_14 rfl rfl ?_
    refine tl_getR (pc := 15) (r := 173) fl_X6_22 hb.1 rfl dX6_isFigure_15 ?_
    refine tl_iconst (pc := 18) (v := 5) dX6_isFigure_18 (by decide) ?_
    refine tl_aload_n (pc := 19) (i := 0) dX6_isFigure_19 rfl rfl ?_
    refine tl_getI (pc := 20) fl_X6_214 hb.1 rfl dX6_isFigure_20 (fun x2 => ?_)
    refine tl_imul (pc := 23) dX6_isFigure_23 ?_
    refine tl_iload_n (pc := 24) (i := 1) dX6_isFigure_24 rfl rfl ?_
    refine tl_iadd (pc := 25) dX6_isFigure_25 ?_
    refine tl_aload_n (pc := 26) (i := 0) dX6_isFigure_26 rfl rfl ?_
    refine tl_getR (pc := 27) (r := 172) fl_X6_19 hb.1 rfl dX6_isFigure_27 ?_
    refine tl_aload_n (pc := 30) (i := 0) dX6_isFigure_30 rfl rfl ?_
    refine tl_getI (pc := 31) fl_X6_201 hb.1 rfl dX6_isFigure_31 (fun x3 => ?_)
    refine tl_iald (pc := 34) hb.2.2.2.2.1 dX6_isFigure_34 (fun x4 => ?_)
    refine tl_iload_n (pc := 35) (i := 2) dX6_isFigure_35 rfl rfl ?_
    refine tl_isub (pc := 36) dX6_isFigure_36 ?_
    refine tl_iast (pc := 37) hb.2.2.2.2.2.1 dX6_isFigure_37 ?_
    refine tl_aload_n (pc := 38) (i := 0) dX6_isFigure_38 rfl rfl ?_
    refine tl_dup (pc := 39) dX6_isFigure_39 rfl ?_
    refine tl_getI (pc := 40) fl_X6_201 hb.1 rfl dX6_isFigure_40 (fun x5 => ?_)
    refine tl_iconst (pc := 43) (v := 1) dX6_isFigure_43 (by decide) ?_
    refine tl_iadd (pc := 44) dX6_isFigure_44 ?_
    refine tl_putI (pc := 45) fw_X6_201 hb.1 rfl dX6_isFigure_45 ?_
    refine tl_iconst (pc := 48) (v := 1) dX6_isFigure_48 (by decide) ?_
    exact tl_zret (pc := 49) dX6_isFigure_49
abbrev TL_X6_isNumber (T : Tb) (pc : Nat) (lo : List (Option Value)) (st : List Value) (X : Dm Int32) : Prop := TL yX6_isNumber cX6_isNumber 3 (some .boolean) 2 iI T pc lo st X
set_option maxRecDepth 100000 in
theorem lp_X6_isNumber_41 (T : Tb) (p0 : Int32) (p1 : Int32)  (hb : isMod T)    : ∀ (n : Nat), TL_X6_isNumber T 41 [some (.ref 168), none, some (.int p1)] [] (L_X6_isNumber_41 p1 n  ) := by
  intro n
  induction n with
  | zero => intros; exact tl_fail
  | succ n ih =>
    skip
    rw [L_X6_isNumber_41]
    refine tl_aload_n (pc := 41) (i := 0) dX6_isNumber_41 rfl rfl ?_
    refine tl_getI (pc := 42) fl_X6_217 hb.1 rfl dX6_isNumber_42 (fun x5 => ?_)
    refine tl_if_le (pc := 45) (tgt := 120) dX6_isNumber_45 rfl ?_ ?_
    · refine tl_iconst (pc := 120) (v := 1) dX6_isNumber_120 (by decide) ?_
      exact tl_zret (pc := 121) dX6_isNumber_121
    · refine tl_aload_n (pc := 48) (i := 0) dX6_isNumber_48 rfl rfl ?_
      refine tl_bipush (pc := 49) (v := 48) dX6_isNumber_49 (by decide) ?_
      refine tl_bipush (pc := 51) (v := 57) dX6_isNumber_51 (by decide) ?_
      refine tl_callVi (pc := 53) k_X6_isAt gw_1000 hb.1 ⟨_, _, rfl⟩ (c_X6_isAt T _ _ hb) rfl rfl (Nat.le_of_ble_eq_true rfl) (Nat.le_of_ble_eq_true rfl) dX6_isNumber_53 (fun x6 => ?_)
      refine tl_if_eq (pc := 56) (tgt := 120) dX6_isNumber_56 rfl ?_ ?_
      · refine tl_iconst (pc := 120) (v := 1) dX6_isNumber_120 (by decide) ?_
        exact tl_zret (pc := 121) dX6_isNumber_121
      · refine tl_bipush (pc := 59) (v := 10) dX6_isNumber_59 (by decide) ?_
        refine tl_aload_n (pc := 61) (i := 0) dX6_isNumber_61 rfl rfl ?_
        refine tl_getI (pc := 62) fl_X6_217 hb.1 rfl dX6_isNumber_62 (fun x7 => ?_)
        refine tl_imul (pc := 65) dX6_isNumber_65 ?_
        refine tl_aload_n (pc := 66) (i := 0) dX6_isNumber_66 rfl rfl ?_
        refine tl_getR (pc := 67) (r := 172) fl_X6_19 hb.1 rfl dX6_isNumber_67 ?_
        refine tl_aload_n (pc := 70) (i := 0) dX6_isNumber_70 rfl rfl ?_
        refine tl_getI (pc := 71) fl_X6_201 hb.1 rfl dX6_isNumber_71 (fun x8 => ?_)
        refine tl_iald (pc := 74) hb.2.2.2.2.1 dX6_isNumber_74 (fun x9 => ?_)
        refine tl_iadd (pc := 75) dX6_isNumber_75 ?_
        refine tl_bipush (pc := 76) (v := 48) dX6_isNumber_76 (by decide) ?_
        refine tl_isub (pc := 78) dX6_isNumber_78 ?_
        refine tl_iload_n (pc := 79) (i := 2) dX6_isNumber_79 rfl rfl ?_
        refine tl_icmp_gt (pc := 80) (tgt := 120) dX6_isNumber_80 rfl ?_ ?_
        · refine tl_iconst (pc := 120) (v := 1) dX6_isNumber_120 (by decide) ?_
          exact tl_zret (pc := 121) dX6_isNumber_121
        · refine tl_aload_n (pc := 83) (i := 0) dX6_isNumber_83 rfl rfl ?_
          refine tl_bipush (pc := 84) (v := 10) dX6_isNumber_84 (by decide) ?_
          refine tl_aload_n (pc := 86) (i := 0) dX6_isNumber_86 rfl rfl ?_
          refine tl_getI (pc := 87) fl_X6_217 hb.1 rfl dX6_isNumber_87 (fun x10 => ?_)
          refine tl_imul (pc := 90) dX6_isNumber_90 ?_
          refine tl_aload_n (pc := 91) (i := 0) dX6_isNumber_91 rfl rfl ?_
          refine tl_getR (pc := 92) (r := 172) fl_X6_19 hb.1 rfl dX6_isNumber_92 ?_
          refine tl_aload_n (pc := 95) (i := 0) dX6_isNumber_95 rfl rfl ?_
          refine tl_getI (pc := 96) fl_X6_201 hb.1 rfl dX6_isNumber_96 (fun x11 => ?_)
          refine tl_iald (pc := 99) hb.2.2.2.2.1 dX6_isNumber_99 (fun x12 => ?_)
          refine tl_iadd (pc := 100) dX6_isNumber_100 ?_
          refine tl_bipush (pc := 101) (v := 48) dX6_isNumber_101 (by decide) ?_
          refine tl_isub (pc := 103) dX6_isNumber_103 ?_
          refine tl_putI (pc := 104) fw_X6_217 hb.1 rfl dX6_isNumber_104 ?_
          refine tl_aload_n (pc := 107) (i := 0) dX6_isNumber_107 rfl rfl ?_
          refine tl_dup (pc := 108) dX6_isNumber_108 rfl ?_
          refine tl_getI (pc := 109) fl_X6_201 hb.1 rfl dX6_isNumber_109 (fun x13 => ?_)
          refine tl_iconst (pc := 112) (v := 1) dX6_isNumber_112 (by decide) ?_
          refine tl_iadd (pc := 113) dX6_isNumber_113 ?_
          refine tl_putI (pc := 114) fw_X6_201 hb.1 rfl dX6_isNumber_114 ?_
          refine tl_goto (pc := 117) (tgt := 41) dX6_isNumber_117 rfl ?_
          exact tl_sub (ih ) (sub_s (sub_n (sub_s sub_e)))
set_option maxRecDepth 100000 in
theorem c_X6_isNumber (T : Tb) (p0 : Int32) (p1 : Int32) (hb : isMod T) : CT (.code yX6_isNumber cX6_isNumber 3 (some .boolean)) yX6_isNumber 2 iI T [.ref 168, .int p0, .int p1] (F_X6_isNumber p0 p1) := by
  refine ct_of (lo := [some (.ref 168), some (.int p0), some (.int p1)]) (j := 0) k_X6_isNumber.1 rfl (fun _ => Nat.le_of_ble_eq_true rfl) ?_
  show TL_X6_isNumber T 0 _ _ _
  rw [F_X6_isNumber]
  refine tl_aload_n (pc := 0) (i := 0) dX6_isNumber_0 rfl rfl ?_
  refine tl_iload_n (pc := 1) (i := 1) dX6_isNumber_1 rfl rfl ?_
  refine tl_bipush (pc := 2) (v := 57) dX6_isNumber_2 (by decide) ?_
  refine tl_callVi (pc := 4) k_X6_isAt gw_1000 hb.1 ⟨_, _, rfl⟩ (c_X6_isAt T _ _ hb) rfl rfl (Nat.le_of_ble_eq_true rfl) (Nat.le_of_ble_eq_true rfl) dX6_isNumber_4 (fun x1 => ?_)
  refine tl_if_ne (pc := 7) (tgt := 15) dX6_isNumber_7 rfl ?_ ?_
  · refine tl_aload_n (pc := 10) (i := 0) dX6_isNumber_10 rfl rfl ?_
    refine tl_callVi (pc := 11) k_X6_stops gw_1004 hb.1 ⟨_, _, rfl⟩ (c_X6_stops T hb) rfl rfl (Nat.le_of_ble_eq_true rfl) (Nat.le_of_ble_eq_true rfl) dX6_isNumber_11 (fun x14 => ?_)
    exact tl_zret (pc := 14) dX6_isNumber_14
  · refine tl_aload_n (pc := 15) (i := 0) dX6_isNumber_15 rfl rfl ?_
    refine tl_aload_n (pc := 16) (i := 0) dX6_isNumber_16 rfl rfl ?_
    refine tl_getR (pc := 17) (r := 172) fl_X6_19 hb.1 rfl dX6_isNumber_17 ?_
    refine tl_aload_n (pc := 20) (i := 0) dX6_isNumber_20 rfl rfl ?_
    refine tl_getI (pc := 21) fl_X6_201 hb.1 rfl dX6_isNumber_21 (fun x2 => ?_)
    refine tl_iald (pc := 24) hb.2.2.2.2.1 dX6_isNumber_24 (fun x3 => ?_)
    refine tl_bipush (pc := 25) (v := 48) dX6_isNumber_25 (by decide) ?_
    refine tl_isub (pc := 27) dX6_isNumber_27 ?_
    refine tl_putI (pc := 28) fw_X6_217 hb.1 rfl dX6_isNumber_28 ?_
    refine tl_aload_n (pc := 31) (i := 0) dX6_isNumber_31 rfl rfl ?_
    refine tl_dup (pc := 32) dX6_isNumber_32 rfl ?_
    refine tl_getI (pc := 33) fl_X6_201 hb.1 rfl dX6_isNumber_33 (fun x4 => ?_)
    refine tl_iconst (pc := 36) (v := 1) dX6_isNumber_36 (by decide) ?_
    refine tl_iadd (pc := 37) dX6_isNumber_37 ?_
    refine tl_putI (pc := 38) fw_X6_201 hb.1 rfl dX6_isNumber_38 ?_
    refine tl_sub (lp_X6_isNumber_41 T p0 p1 hb    FU ) (sub_s (sub_n (sub_s sub_e)))
abbrev TL_X6_isOrder (T : Tb) (pc : Nat) (lo : List (Option Value)) (st : List Value) (X : Dm Int32) : Prop := TL yX6_isOrder cX6_isOrder 4 (some .boolean) 3 iI T pc lo st X
set_option maxRecDepth 100000 in
theorem c_X6_isOrder (T : Tb)  (hb : isMod T) : CT (.code yX6_isOrder cX6_isOrder 4 (some .boolean)) yX6_isOrder 3 iI T [.ref 168] (F_X6_isOrder) := by
  refine ct_of (lo := [some (.ref 168), none, none, none]) (j := 3) k_X6_isOrder.1 rfl (fun _ => Nat.le_of_ble_eq_true rfl) ?_
  show TL_X6_isOrder T 0 _ _ _
  rw [F_X6_isOrder]
  refine tl_aload_n (pc := 0) (i := 0) dX6_isOrder_0 rfl rfl ?_
  refine tl_iconst (pc := 1) (v := 0) dX6_isOrder_1 (by decide) ?_
  refine tl_bipush (pc := 2) (v := 48) dX6_isOrder_2 (by decide) ?_
  refine tl_bipush (pc := 4) (v := 52) dX6_isOrder_4 (by decide) ?_
  refine tl_callVi (pc := 6) k_X6_isFigure gw_996 hb.1 ⟨_, _, rfl⟩ (c_X6_isFigure T _ _ _ hb) rfl rfl (Nat.le_of_ble_eq_true rfl) (Nat.le_of_ble_eq_true rfl) dX6_isOrder_6 (fun x1 => ?_)
  refine tl_if_eq (pc := 9) (tgt := 36) dX6_isOrder_9 rfl ?_ ?_
  · refine tl_iconst (pc := 36) (v := 0) dX6_isOrder_36 (by decide) ?_
    exact tl_zret (pc := 37) dX6_isOrder_37
  · refine tl_aload_n (pc := 12) (i := 0) dX6_isOrder_12 rfl rfl ?_
    refine tl_iconst (pc := 13) (v := 2) dX6_isOrder_13 (by decide) ?_
    refine tl_bipush (pc := 14) (v := 97) dX6_isOrder_14 (by decide) ?_
    refine tl_bipush (pc := 16) (v := 101) dX6_isOrder_16 (by decide) ?_
    refine tl_callVi (pc := 18) k_X6_isFigure gw_996 hb.1 ⟨_, _, rfl⟩ (c_X6_isFigure T _ _ _ hb) rfl rfl (Nat.le_of_ble_eq_true rfl) (Nat.le_of_ble_eq_true rfl) dX6_isOrder_18 (fun x2 => ?_)
    refine tl_if_eq (pc := 21) (tgt := 36) dX6_isOrder_21 rfl ?_ ?_
    · refine tl_iconst (pc := 36) (v := 0) dX6_isOrder_36 (by decide) ?_
      exact tl_zret (pc := 37) dX6_isOrder_37
    · refine tl_aload_n (pc := 24) (i := 0) dX6_isOrder_24 rfl rfl ?_
      refine tl_iconst (pc := 25) (v := 1) dX6_isOrder_25 (by decide) ?_
      refine tl_bipush (pc := 26) (v := 49) dX6_isOrder_26 (by decide) ?_
      refine tl_bipush (pc := 28) (v := 53) dX6_isOrder_28 (by decide) ?_
      refine tl_callVi (pc := 30) k_X6_isFigure gw_996 hb.1 ⟨_, _, rfl⟩ (c_X6_isFigure T _ _ _ hb) rfl rfl (Nat.le_of_ble_eq_true rfl) (Nat.le_of_ble_eq_true rfl) dX6_isOrder_30 (fun x3 => ?_)
      refine tl_if_ne (pc := 33) (tgt := 38) dX6_isOrder_33 rfl ?_ ?_
      · refine tl_iconst (pc := 36) (v := 0) dX6_isOrder_36 (by decide) ?_
        exact tl_zret (pc := 37) dX6_isOrder_37
      · refine tl_aload_n (pc := 38) (i := 0) dX6_isOrder_38 rfl rfl ?_
        refine tl_getI (pc := 39) fl_X6_201 hb.1 rfl dX6_isOrder_39 (fun x4 => ?_)
        refine tl_aload_n (pc := 42) (i := 0) dX6_isOrder_42 rfl rfl ?_
        refine tl_getI (pc := 43) fl_X6_198 hb.1 rfl dX6_isOrder_43 (fun x5 => ?_)
        refine tl_j (fun (k : Int32 → Dm Int32) => ∀ (x6 : Int32), TL_X6_isOrder T 62 [some (.ref 168), none, none, none] [.int x6] (k x6)) (fun x6 => ?_) (fun k1 hk1 => ?_)
        · refine tl_istore_n (pc := 62) (i := 1) (lo' := [some (.ref 168), some (.int x6), none, none]) dX6_isOrder_62 rfl (by decide) rfl ?_
          refine tl_iload_n (pc := 63) (i := 1) dX6_isOrder_63 rfl rfl ?_
          refine tl_bipush (pc := 64) (v := 61) dX6_isOrder_64 (by decide) ?_
          refine tl_j (fun (k : Int32 → Dm Int32) => ∀ (x7 : Int32), TL_X6_isOrder T 125 [some (.ref 168), none, none, none] [.int x7] (k x7)) (fun x7 => ?_) (fun k2 hk2 => ?_)
          · refine tl_istore_n (pc := 125) (i := 2) (lo' := [some (.ref 168), none, some (.int x7), none]) dX6_isOrder_125 rfl (by decide) rfl ?_
            refine tl_iload_n (pc := 126) (i := 2) dX6_isOrder_126 rfl rfl ?_
            refine tl_iconst (pc := 127) (v := -1) dX6_isOrder_127 (by decide) ?_
            refine tl_icmp_ne (pc := 128) (tgt := 136) dX6_isOrder_128 rfl ?_ ?_
            · refine tl_aload_n (pc := 131) (i := 0) dX6_isOrder_131 rfl rfl ?_
              refine tl_callVi (pc := 132) k_X6_stops gw_1004 hb.1 ⟨_, _, rfl⟩ (c_X6_stops T hb) rfl rfl (Nat.le_of_ble_eq_true rfl) (Nat.le_of_ble_eq_true rfl) dX6_isOrder_132 (fun x21 => ?_)
              exact tl_zret (pc := 135) dX6_isOrder_135
            · refine tl_aload_n (pc := 136) (i := 0) dX6_isOrder_136 rfl rfl ?_
              refine tl_dup (pc := 137) dX6_isOrder_137 rfl ?_
              refine tl_getI (pc := 138) fl_X6_201 hb.1 rfl dX6_isOrder_138 (fun x8 => ?_)
              refine tl_iconst (pc := 141) (v := 1) dX6_isOrder_141 (by decide) ?_
              refine tl_iadd (pc := 142) dX6_isOrder_142 ?_
              refine tl_putI (pc := 143) fw_X6_201 hb.1 rfl dX6_isOrder_143 ?_
              refine tl_aload_n (pc := 146) (i := 0) dX6_isOrder_146 rfl rfl ?_
              refine tl_getR (pc := 147) (r := 173) fl_X6_22 hb.1 rfl dX6_isOrder_147 ?_
              refine tl_iconst (pc := 150) (v := 5) dX6_isOrder_150 (by decide) ?_
              refine tl_aload_n (pc := 151) (i := 0) dX6_isOrder_151 rfl rfl ?_
              refine tl_getI (pc := 152) fl_X6_214 hb.1 rfl dX6_isOrder_152 (fun x9 => ?_)
              refine tl_imul (pc := 155) dX6_isOrder_155 ?_
              refine tl_iconst (pc := 156) (v := 3) dX6_isOrder_156 (by decide) ?_
              refine tl_iadd (pc := 157) dX6_isOrder_157 ?_
              refine tl_iload_n (pc := 158) (i := 2) dX6_isOrder_158 rfl rfl ?_
              refine tl_iast (pc := 159) hb.2.2.2.2.2.1 dX6_isOrder_159 ?_
              refine tl_aload_n (pc := 160) (i := 0) dX6_isOrder_160 rfl rfl ?_
              refine tl_getR (pc := 161) (r := 173) fl_X6_22 hb.1 rfl dX6_isOrder_161 ?_
              refine tl_iconst (pc := 164) (v := 5) dX6_isOrder_164 (by decide) ?_
              refine tl_aload_n (pc := 165) (i := 0) dX6_isOrder_165 rfl rfl ?_
              refine tl_getI (pc := 166) fl_X6_214 hb.1 rfl dX6_isOrder_166 (fun x10 => ?_)
              refine tl_imul (pc := 169) dX6_isOrder_169 ?_
              refine tl_iconst (pc := 170) (v := 4) dX6_isOrder_170 (by decide) ?_
              refine tl_iadd (pc := 171) dX6_isOrder_171 ?_
              refine tl_iconst (pc := 172) (v := 0) dX6_isOrder_172 (by decide) ?_
              refine tl_iast (pc := 173) hb.2.2.2.2.2.1 dX6_isOrder_173 ?_
              refine tl_iload_n (pc := 174) (i := 2) dX6_isOrder_174 rfl rfl ?_
              refine tl_iconst (pc := 175) (v := 1) dX6_isOrder_175 (by decide) ?_
              refine tl_j (fun (k : Unit → Dm Int32) => ∀ (_ : Unit), TL_X6_isOrder T 186 [some (.ref 168), none, some (.int x7), none] [] (k ())) (fun _ => ?_) (fun k3 hk3 => ?_)
              · refine tl_iload_n (pc := 186) (i := 2) dX6_isOrder_186 rfl rfl ?_
                refine tl_iconst (pc := 187) (v := 1) dX6_isOrder_187 (by decide) ?_
                refine tl_j (fun (k : Int32 → Dm Int32) => ∀ (x11 : Int32), TL_X6_isOrder T 207 [some (.ref 168), none, some (.int x7), none] [.int x11] (k x11)) (fun x11 => ?_) (fun k4 hk4 => ?_)
                · refine tl_istore_n (pc := 207) (i := 3) (lo' := [some (.ref 168), none, some (.int x7), some (.int x11)]) dX6_isOrder_207 rfl (by decide) rfl ?_
                  refine tl_aload_n (pc := 208) (i := 0) dX6_isOrder_208 rfl rfl ?_
                  refine tl_dup (pc := 209) dX6_isOrder_209 rfl ?_
                  refine tl_getI (pc := 210) fl_X6_201 hb.1 rfl dX6_isOrder_210 (fun x12 => ?_)
                  refine tl_iload_n (pc := 213) (i := 3) dX6_isOrder_213 rfl rfl ?_
                  refine tl_j (fun (k : Int32 → Dm Int32) => ∀ (x13 : Int32), TL_X6_isOrder T 222 [some (.ref 168), none, some (.int x7), some (.int x11)] [.int x13, .int x12, .ref 168] (k x13)) (fun x13 => ?_) (fun k5 hk5 => ?_)
                  · refine tl_iadd (pc := 222) dX6_isOrder_222 ?_
                    refine tl_putI (pc := 223) fw_X6_201 hb.1 rfl dX6_isOrder_223 ?_
                    refine tl_aload_n (pc := 226) (i := 0) dX6_isOrder_226 rfl rfl ?_
                    refine tl_iload_n (pc := 227) (i := 2) dX6_isOrder_227 rfl rfl ?_
                    refine tl_iconst (pc := 228) (v := 2) dX6_isOrder_228 (by decide) ?_
                    refine tl_j (fun (k : Int32 → Dm Int32) => ∀ (x14 : Int32), TL_X6_isOrder T 239 [some (.ref 168), none, some (.int x7), some (.int x11)] [.int x14, .ref 168] (k x14)) (fun x14 => ?_) (fun k6 hk6 => ?_)
                    · refine tl_iload_n (pc := 239) (i := 2) dX6_isOrder_239 rfl rfl ?_
                      refine tl_iconst (pc := 240) (v := 2) dX6_isOrder_240 (by decide) ?_
                      refine tl_j (fun (k : Int32 → Dm Int32) => ∀ (x15 : Int32), TL_X6_isOrder T 252 [some (.ref 168), none, none, some (.int x11)] [.int x15, .int x14, .ref 168] (k x15)) (fun x15 => ?_) (fun k7 hk7 => ?_)
                      · refine tl_callVi (pc := 252) k_X6_isNumber gw_1008 hb.1 ⟨_, _, rfl⟩ (c_X6_isNumber T _ _ hb) rfl rfl (Nat.le_of_ble_eq_true rfl) (Nat.le_of_ble_eq_true rfl) dX6_isOrder_252 (fun x16 => ?_)
                        refine tl_if_ne (pc := 255) (tgt := 260) dX6_isOrder_255 rfl ?_ ?_
                        · refine tl_iconst (pc := 258) (v := 0) dX6_isOrder_258 (by decide) ?_
                          exact tl_zret (pc := 259) dX6_isOrder_259
                        · refine tl_aload_n (pc := 260) (i := 0) dX6_isOrder_260 rfl rfl ?_
                          refine tl_getR (pc := 261) (r := 173) fl_X6_22 hb.1 rfl dX6_isOrder_261 ?_
                          refine tl_iconst (pc := 264) (v := 5) dX6_isOrder_264 (by decide) ?_
                          refine tl_aload_n (pc := 265) (i := 0) dX6_isOrder_265 rfl rfl ?_
                          refine tl_getI (pc := 266) fl_X6_214 hb.1 rfl dX6_isOrder_266 (fun x17 => ?_)
                          refine tl_imul (pc := 269) dX6_isOrder_269 ?_
                          refine tl_iconst (pc := 270) (v := 4) dX6_isOrder_270 (by decide) ?_
                          refine tl_iadd (pc := 271) dX6_isOrder_271 ?_
                          refine tl_iload_n (pc := 272) (i := 3) dX6_isOrder_272 rfl rfl ?_
                          refine tl_if_eq (pc := 273) (tgt := 284) dX6_isOrder_273 rfl ?_ ?_
                          · refine tl_aload_n (pc := 284) (i := 0) dX6_isOrder_284 rfl rfl ?_
                            refine tl_getI (pc := 285) fl_X6_217 hb.1 rfl dX6_isOrder_285 (fun x18 => ?_)
                            refine tl_iast (pc := 288) hb.2.2.2.2.2.1 dX6_isOrder_288 ?_
                            refine tl_iconst (pc := 289) (v := 1) dX6_isOrder_289 (by decide) ?_
                            exact tl_zret (pc := 290) dX6_isOrder_290
                          · refine tl_aload_n (pc := 276) (i := 0) dX6_isOrder_276 rfl rfl ?_
                            refine tl_getI (pc := 277) fl_X6_217 hb.1 rfl dX6_isOrder_277 (fun x19 => ?_)
                            refine tl_ineg (pc := 280) dX6_isOrder_280 ?_
                            refine tl_goto (pc := 281) (tgt := 288) dX6_isOrder_281 rfl ?_
                            refine tl_iast (pc := 288) hb.2.2.2.2.2.1 dX6_isOrder_288 ?_
                            refine tl_iconst (pc := 289) (v := 1) dX6_isOrder_289 (by decide) ?_
                            exact tl_zret (pc := 290) dX6_isOrder_290
                      · refine tl_icmp_ne (pc := 241) (tgt := 249) dX6_isOrder_241 rfl ?_ ?_
                        · refine tl_bipush (pc := 244) (v := 12) dX6_isOrder_244 (by decide) ?_
                          refine tl_goto (pc := 246) (tgt := 252) dX6_isOrder_246 rfl ?_
                          exact tl_sub (hk7 _) (sub_s (sub_n (sub_n (sub_s sub_e))))
                        · refine tl_sipush (pc := 249) (v := 999) dX6_isOrder_249 (by decide) ?_
                          exact tl_sub (hk7 _) (sub_s (sub_n (sub_n (sub_s sub_e))))
                    · refine tl_icmp_ne (pc := 229) (tgt := 237) dX6_isOrder_229 rfl ?_ ?_
                      · refine tl_bipush (pc := 232) (v := 49) dX6_isOrder_232 (by decide) ?_
                        refine tl_goto (pc := 234) (tgt := 239) dX6_isOrder_234 rfl ?_
                        exact tl_sub (hk6 _) (sub_s (sub_n (sub_s (sub_s sub_e))))
                      · refine tl_bipush (pc := 237) (v := 48) dX6_isOrder_237 (by decide) ?_
                        exact tl_sub (hk6 _) (sub_s (sub_n (sub_s (sub_s sub_e))))
                  · refine tl_if_eq (pc := 214) (tgt := 221) dX6_isOrder_214 rfl ?_ ?_
                    · refine tl_iconst (pc := 221) (v := 0) dX6_isOrder_221 (by decide) ?_
                      exact tl_sub (hk5 _) (sub_s (sub_n (sub_s (sub_s sub_e))))
                    · refine tl_iconst (pc := 217) (v := 1) dX6_isOrder_217 (by decide) ?_
                      refine tl_goto (pc := 218) (tgt := 222) dX6_isOrder_218 rfl ?_
                      exact tl_sub (hk5 _) (sub_s (sub_n (sub_s (sub_s sub_e))))
                · refine tl_j (fun (k : Unit → Dm Int32) => ∀ (_ : Unit), TL_X6_isOrder T 206 [some (.ref 168), none, some (.int x7), none] [] (k ())) (fun _ => ?_) (fun k8 hk8 => ?_)
                  · refine tl_iconst (pc := 206) (v := 0) dX6_isOrder_206 (by decide) ?_
                    exact tl_sub (hk4 _) (sub_s (sub_n (sub_s (sub_n sub_e))))
                  · refine tl_icmp_ne (pc := 188) (tgt := 206) dX6_isOrder_188 rfl ?_ ?_
                    · refine tl_aload_n (pc := 191) (i := 0) dX6_isOrder_191 rfl rfl ?_
                      refine tl_bipush (pc := 192) (v := 45) dX6_isOrder_192 (by decide) ?_
                      refine tl_bipush (pc := 194) (v := 45) dX6_isOrder_194 (by decide) ?_
                      refine tl_callVi (pc := 196) k_X6_isAt gw_1000 hb.1 ⟨_, _, rfl⟩ (c_X6_isAt T _ _ hb) rfl rfl (Nat.le_of_ble_eq_true rfl) (Nat.le_of_ble_eq_true rfl) dX6_isOrder_196 (fun x20 => ?_)
                      refine tl_if_eq (pc := 199) (tgt := 206) dX6_isOrder_199 rfl ?_ ?_
                      · exact tl_sub (hk8 ()) (sub_s (sub_n (sub_s (sub_n sub_e))))
                      · refine tl_iconst (pc := 202) (v := 1) dX6_isOrder_202 (by decide) ?_
                        refine tl_goto (pc := 203) (tgt := 207) dX6_isOrder_203 rfl ?_
                        exact tl_sub (hk4 _) (sub_s (sub_n (sub_s (sub_n sub_e))))
                    · exact tl_sub (hk8 ()) (sub_s (sub_n (sub_s (sub_n sub_e))))
              · refine tl_icmp_eq (pc := 176) (tgt := 186) dX6_isOrder_176 rfl ?_ ?_
                · exact tl_sub (hk3 ()) (sub_s (sub_n (sub_s (sub_n sub_e))))
                · refine tl_iload_n (pc := 179) (i := 2) dX6_isOrder_179 rfl rfl ?_
                  refine tl_iconst (pc := 180) (v := 2) dX6_isOrder_180 (by decide) ?_
                  refine tl_icmp_eq (pc := 181) (tgt := 186) dX6_isOrder_181 rfl ?_ ?_
                  · exact tl_sub (hk3 ()) (sub_s (sub_n (sub_s (sub_n sub_e))))
                  · refine tl_iconst (pc := 184) (v := 1) dX6_isOrder_184 (by decide) ?_
                    exact tl_zret (pc := 185) dX6_isOrder_185
          · refine tl_icmp_ne (pc := 66) (tgt := 73) dX6_isOrder_66 rfl ?_ ?_
            · refine tl_iconst (pc := 69) (v := 1) dX6_isOrder_69 (by decide) ?_
              refine tl_goto (pc := 70) (tgt := 125) dX6_isOrder_70 rfl ?_
              exact tl_sub (hk2 _) (sub_s (sub_n (sub_n (sub_n sub_e))))
            · refine tl_iload_n (pc := 73) (i := 1) dX6_isOrder_73 rfl rfl ?_
              refine tl_bipush (pc := 74) (v := 119) dX6_isOrder_74 (by decide) ?_
              refine tl_icmp_ne (pc := 76) (tgt := 83) dX6_isOrder_76 rfl ?_ ?_
              · refine tl_iconst (pc := 79) (v := 2) dX6_isOrder_79 (by decide) ?_
                refine tl_goto (pc := 80) (tgt := 125) dX6_isOrder_80 rfl ?_
                exact tl_sub (hk2 _) (sub_s (sub_n (sub_n (sub_n sub_e))))
              · refine tl_iload_n (pc := 83) (i := 1) dX6_isOrder_83 rfl rfl ?_
                refine tl_bipush (pc := 84) (v := 94) dX6_isOrder_84 (by decide) ?_
                refine tl_icmp_ne (pc := 86) (tgt := 93) dX6_isOrder_86 rfl ?_ ?_
                · refine tl_iconst (pc := 89) (v := 4) dX6_isOrder_89 (by decide) ?_
                  refine tl_goto (pc := 90) (tgt := 125) dX6_isOrder_90 rfl ?_
                  exact tl_sub (hk2 _) (sub_s (sub_n (sub_n (sub_n sub_e))))
                · refine tl_iload_n (pc := 93) (i := 1) dX6_isOrder_93 rfl rfl ?_
                  refine tl_bipush (pc := 94) (v := 60) dX6_isOrder_94 (by decide) ?_
                  refine tl_icmp_ne (pc := 96) (tgt := 103) dX6_isOrder_96 rfl ?_ ?_
                  · refine tl_iconst (pc := 99) (v := 5) dX6_isOrder_99 (by decide) ?_
                    refine tl_goto (pc := 100) (tgt := 125) dX6_isOrder_100 rfl ?_
                    exact tl_sub (hk2 _) (sub_s (sub_n (sub_n (sub_n sub_e))))
                  · refine tl_iload_n (pc := 103) (i := 1) dX6_isOrder_103 rfl rfl ?_
                    refine tl_bipush (pc := 104) (v := 35) dX6_isOrder_104 (by decide) ?_
                    refine tl_icmp_ne (pc := 106) (tgt := 114) dX6_isOrder_106 rfl ?_ ?_
                    · refine tl_bipush (pc := 109) (v := 6) dX6_isOrder_109 (by decide) ?_
                      refine tl_goto (pc := 111) (tgt := 125) dX6_isOrder_111 rfl ?_
                      exact tl_sub (hk2 _) (sub_s (sub_n (sub_n (sub_n sub_e))))
                    · refine tl_iload_n (pc := 114) (i := 1) dX6_isOrder_114 rfl rfl ?_
                      refine tl_bipush (pc := 115) (v := 33) dX6_isOrder_115 (by decide) ?_
                      refine tl_icmp_ne (pc := 117) (tgt := 124) dX6_isOrder_117 rfl ?_ ?_
                      · refine tl_iconst (pc := 120) (v := 0) dX6_isOrder_120 (by decide) ?_
                        refine tl_goto (pc := 121) (tgt := 125) dX6_isOrder_121 rfl ?_
                        exact tl_sub (hk2 _) (sub_s (sub_n (sub_n (sub_n sub_e))))
                      · refine tl_iconst (pc := 124) (v := -1) dX6_isOrder_124 (by decide) ?_
                        exact tl_sub (hk2 _) (sub_s (sub_n (sub_n (sub_n sub_e))))
        · refine tl_icmp_ge (pc := 46) (tgt := 61) dX6_isOrder_46 rfl ?_ ?_
          · refine tl_iconst (pc := 61) (v := 0) dX6_isOrder_61 (by decide) ?_
            exact tl_sub (hk1 _) (sub_s (sub_n (sub_n (sub_n sub_e))))
          · refine tl_aload_n (pc := 49) (i := 0) dX6_isOrder_49 rfl rfl ?_
            refine tl_getR (pc := 50) (r := 172) fl_X6_19 hb.1 rfl dX6_isOrder_50 ?_
            refine tl_aload_n (pc := 53) (i := 0) dX6_isOrder_53 rfl rfl ?_
            refine tl_getI (pc := 54) fl_X6_201 hb.1 rfl dX6_isOrder_54 (fun x22 => ?_)
            refine tl_iald (pc := 57) hb.2.2.2.2.1 dX6_isOrder_57 (fun x23 => ?_)
            refine tl_goto (pc := 58) (tgt := 62) dX6_isOrder_58 rfl ?_
            exact tl_sub (hk1 _) (sub_s (sub_n (sub_n (sub_n sub_e))))
abbrev TL_X6_isText (T : Tb) (pc : Nat) (lo : List (Option Value)) (st : List Value) (X : Dm Int32) : Prop := TL yX6_isText cX6_isText 2 (some .boolean) 4 iI T pc lo st X
set_option maxRecDepth 100000 in
theorem lp_X6_isText_17 (T : Tb)   (hb : isMod T)  (k1 : Unit → Dm Int32) (hk1 : ∀ (_ : Unit), TL_X6_isText T 70 [some (.ref 168), none] [] (k1 ())) : ∀ (n : Nat) (x1 : Int32), TL_X6_isText T 17 [some (.ref 168), some (.int x1)] [] (L_X6_isText_17  n x1 k1) := by
  intro n
  induction n with
  | zero => intros; exact tl_fail
  | succ n ih =>
    intro x1
    rw [L_X6_isText_17]
    refine tl_iload_n (pc := 17) (i := 1) dX6_isText_17 rfl rfl ?_
    refine tl_if_eq (pc := 18) (tgt := 70) dX6_isText_18 rfl ?_ ?_
    · exact tl_sub (hk1 ()) (sub_s (sub_n sub_e))
    · refine tl_aload_n (pc := 21) (i := 0) dX6_isText_21 rfl rfl ?_
      refine tl_callVi (pc := 22) k_X6_isOrder gw_992 hb.1 ⟨_, _, rfl⟩ (c_X6_isOrder T hb) rfl rfl (Nat.le_of_ble_eq_true rfl) (Nat.le_of_ble_eq_true rfl) dX6_isText_22 (fun x2 => ?_)
      refine tl_if_ne (pc := 25) (tgt := 30) dX6_isText_25 rfl ?_ ?_
      · refine tl_iconst (pc := 28) (v := 0) dX6_isText_28 (by decide) ?_
        exact tl_zret (pc := 29) dX6_isText_29
      · refine tl_aload_n (pc := 30) (i := 0) dX6_isText_30 rfl rfl ?_
        refine tl_dup (pc := 31) dX6_isText_31 rfl ?_
        refine tl_getI (pc := 32) fl_X6_214 hb.1 rfl dX6_isText_32 (fun x3 => ?_)
        refine tl_iconst (pc := 35) (v := 1) dX6_isText_35 (by decide) ?_
        refine tl_iadd (pc := 36) dX6_isText_36 ?_
        refine tl_putI (pc := 37) fw_X6_214 hb.1 rfl dX6_isText_37 ?_
        refine tl_aload_n (pc := 40) (i := 0) dX6_isText_40 rfl rfl ?_
        refine tl_bipush (pc := 41) (v := 59) dX6_isText_41 (by decide) ?_
        refine tl_bipush (pc := 43) (v := 59) dX6_isText_43 (by decide) ?_
        refine tl_callVi (pc := 45) k_X6_isAt gw_1000 hb.1 ⟨_, _, rfl⟩ (c_X6_isAt T _ _ hb) rfl rfl (Nat.le_of_ble_eq_true rfl) (Nat.le_of_ble_eq_true rfl) dX6_isText_45 (fun x4 => ?_)
        refine tl_istore_n (pc := 48) (i := 1) (lo' := [some (.ref 168), some (.int x4)]) dX6_isText_48 rfl (by decide) rfl ?_
        refine tl_aload_n (pc := 49) (i := 0) dX6_isText_49 rfl rfl ?_
        refine tl_dup (pc := 50) dX6_isText_50 rfl ?_
        refine tl_getI (pc := 51) fl_X6_201 hb.1 rfl dX6_isText_51 (fun x5 => ?_)
        refine tl_iload_n (pc := 54) (i := 1) dX6_isText_54 rfl rfl ?_
        refine tl_j (fun (k : Int32 → Dm Int32) => ∀ (x6 : Int32), TL_X6_isText T 63 [some (.ref 168), some (.int x4)] [.int x6, .int x5, .ref 168] (k x6)) (fun x6 => ?_) (fun k2 hk2 => ?_)
        · refine tl_iadd (pc := 63) dX6_isText_63 ?_
          refine tl_putI (pc := 64) fw_X6_201 hb.1 rfl dX6_isText_64 ?_
          refine tl_goto (pc := 67) (tgt := 17) dX6_isText_67 rfl ?_
          exact tl_sub (ih _) (sub_s (sub_s sub_e))
        · refine tl_if_eq (pc := 55) (tgt := 62) dX6_isText_55 rfl ?_ ?_
          · refine tl_iconst (pc := 62) (v := 0) dX6_isText_62 (by decide) ?_
            exact tl_sub (hk2 _) (sub_s (sub_s sub_e))
          · refine tl_iconst (pc := 58) (v := 1) dX6_isText_58 (by decide) ?_
            refine tl_goto (pc := 59) (tgt := 63) dX6_isText_59 rfl ?_
            exact tl_sub (hk2 _) (sub_s (sub_s sub_e))
set_option maxRecDepth 100000 in
theorem c_X6_isText (T : Tb)  (hb : isMod T) : CT (.code yX6_isText cX6_isText 2 (some .boolean)) yX6_isText 4 iI T [.ref 168] (F_X6_isText) := by
  refine ct_of (lo := [some (.ref 168), none]) (j := 1) k_X6_isText.1 rfl (fun _ => Nat.le_of_ble_eq_true rfl) ?_
  show TL_X6_isText T 0 _ _ _
  rw [F_X6_isText]
  refine tl_aload_n (pc := 0) (i := 0) dX6_isText_0 rfl rfl ?_
  refine tl_iconst (pc := 1) (v := 0) dX6_isText_1 (by decide) ?_
  refine tl_putI (pc := 2) fw_X6_201 hb.1 rfl dX6_isText_2 ?_
  refine tl_aload_n (pc := 5) (i := 0) dX6_isText_5 rfl rfl ?_
  refine tl_iconst (pc := 6) (v := 0) dX6_isText_6 (by decide) ?_
  refine tl_putI (pc := 7) fw_X6_214 hb.1 rfl dX6_isText_7 ?_
  refine tl_aload_n (pc := 10) (i := 0) dX6_isText_10 rfl rfl ?_
  refine tl_iconst (pc := 11) (v := 0) dX6_isText_11 (by decide) ?_
  refine tl_putZ (pc := 12) fw_X6_204 hb.1 rfl dX6_isText_12 ?_
  refine tl_iconst (pc := 15) (v := 1) dX6_isText_15 (by decide) ?_
  refine tl_istore_n (pc := 16) (i := 1) (lo' := [some (.ref 168), some (.int (1 : Int32))]) dX6_isText_16 rfl (by decide) rfl ?_
  refine tl_sub (lp_X6_isText_17 T  hb  _ (fun _ => ?_) FU _) (sub_s (sub_s sub_e))
  refine tl_aload_n (pc := 70) (i := 0) dX6_isText_70 rfl rfl ?_
  refine tl_aload_n (pc := 71) (i := 0) dX6_isText_71 rfl rfl ?_
  refine tl_getI (pc := 72) fl_X6_201 hb.1 rfl dX6_isText_72 (fun x7 => ?_)
  refine tl_aload_n (pc := 75) (i := 0) dX6_isText_75 rfl rfl ?_
  refine tl_getI (pc := 76) fl_X6_198 hb.1 rfl dX6_isText_76 (fun x8 => ?_)
  refine tl_j (fun (k : Int32 → Dm Int32) => ∀ (x9 : Int32), TL_X6_isText T 87 [some (.ref 168), none] [.int x9, .ref 168] (k x9)) (fun x9 => ?_) (fun k3 hk3 => ?_)
  · refine tl_putZ (pc := 87) fw_X6_204 hb.1 rfl dX6_isText_87 ?_
    refine tl_aload_n (pc := 90) (i := 0) dX6_isText_90 rfl rfl ?_
    refine tl_getI (pc := 91) fl_X6_201 hb.1 rfl dX6_isText_91 (fun x10 => ?_)
    refine tl_aload_n (pc := 94) (i := 0) dX6_isText_94 rfl rfl ?_
    refine tl_getI (pc := 95) fl_X6_198 hb.1 rfl dX6_isText_95 (fun x11 => ?_)
    refine tl_icmp_ne (pc := 98) (tgt := 105) dX6_isText_98 rfl ?_ ?_
    · refine tl_iconst (pc := 101) (v := 1) dX6_isText_101 (by decide) ?_
      refine tl_goto (pc := 102) (tgt := 106) dX6_isText_102 rfl ?_
      exact tl_zret (pc := 106) dX6_isText_106
    · refine tl_iconst (pc := 105) (v := 0) dX6_isText_105 (by decide) ?_
      exact tl_zret (pc := 106) dX6_isText_106
  · refine tl_icmp_ge (pc := 79) (tgt := 86) dX6_isText_79 rfl ?_ ?_
    · refine tl_iconst (pc := 86) (v := 0) dX6_isText_86 (by decide) ?_
      exact tl_sub (hk3 _) (sub_s (sub_n sub_e))
    · refine tl_iconst (pc := 82) (v := 1) dX6_isText_82 (by decide) ?_
      refine tl_goto (pc := 83) (tgt := 87) dX6_isText_83 rfl ?_
      exact tl_sub (hk3 _) (sub_s (sub_n sub_e))
abbrev TL_X6_firstError (T : Tb) (pc : Nat) (lo : List (Option Value)) (st : List Value) (X : Dm Int32) : Prop := TL yX6_firstError cX6_firstError 2 (some .int) 5 iI T pc lo st X
set_option maxRecDepth 100000 in
theorem c_X6_firstError (T : Tb)  (hb : isMod T) : CT (.code yX6_firstError cX6_firstError 2 (some .int)) yX6_firstError 5 iI T [.ref 168] (F_X6_firstError) := by
  refine ct_of (lo := [some (.ref 168), none]) (j := 1) k_X6_firstError.1 rfl (fun _ => Nat.le_of_ble_eq_true rfl) ?_
  show TL_X6_firstError T 0 _ _ _
  rw [F_X6_firstError]
  refine tl_aload_n (pc := 0) (i := 0) dX6_firstError_0 rfl rfl ?_
  refine tl_iconst (pc := 1) (v := 0) dX6_firstError_1 (by decide) ?_
  refine tl_putI (pc := 2) fw_X6_62 hb.1 rfl dX6_firstError_2 ?_
  refine tl_aload_n (pc := 5) (i := 0) dX6_firstError_5 rfl rfl ?_
  refine tl_callVi (pc := 6) k_X6_isText gw_988 hb.1 ⟨_, _, rfl⟩ (c_X6_isText T hb) rfl rfl (Nat.le_of_ble_eq_true rfl) (Nat.le_of_ble_eq_true rfl) dX6_firstError_6 (fun x1 => ?_)
  refine tl_istore_n (pc := 9) (i := 1) (lo' := [some (.ref 168), some (.int x1)]) dX6_firstError_9 rfl (by decide) rfl ?_
  refine tl_iload_n (pc := 10) (i := 1) dX6_firstError_10 rfl rfl ?_
  refine tl_if_ne (pc := 11) (tgt := 28) dX6_firstError_11 rfl ?_ ?_
  · refine tl_aload_n (pc := 14) (i := 0) dX6_firstError_14 rfl rfl ?_
    refine tl_getI (pc := 15) fl_X6_204 hb.1 rfl dX6_firstError_15 (fun x3 => ?_)
    refine tl_if_eq (pc := 18) (tgt := 28) dX6_firstError_18 rfl ?_ ?_
    · refine tl_aload_n (pc := 28) (i := 0) dX6_firstError_28 rfl rfl ?_
      refine tl_getI (pc := 29) fl_X6_198 hb.1 rfl dX6_firstError_29 (fun x4 => ?_)
      exact tl_iret (pc := 32) dX6_firstError_32
    · refine tl_aload_n (pc := 21) (i := 0) dX6_firstError_21 rfl rfl ?_
      refine tl_getI (pc := 22) fl_X6_201 hb.1 rfl dX6_firstError_22 (fun x5 => ?_)
      refine tl_goto (pc := 25) (tgt := 32) dX6_firstError_25 rfl ?_
      exact tl_iret (pc := 32) dX6_firstError_32
  · refine tl_aload_n (pc := 28) (i := 0) dX6_firstError_28 rfl rfl ?_
    refine tl_getI (pc := 29) fl_X6_198 hb.1 rfl dX6_firstError_29 (fun x2 => ?_)
    exact tl_iret (pc := 32) dX6_firstError_32
abbrev TL_X6_does (T : Tb) (pc : Nat) (lo : List (Option Value)) (st : List Value) (X : Dm Int32) : Prop := TL yX6_does cX6_does 6 (some .boolean) 4 iI T pc lo st X
set_option maxRecDepth 100000 in
theorem c_X6_does (T : Tb) (p0 : Int32) (hb : isMod T) : CT (.code yX6_does cX6_does 6 (some .boolean)) yX6_does 4 iI T [.ref 168, .int p0] (F_X6_does p0) := by
  refine ct_of (lo := [some (.ref 168), some (.int p0), none, none, none, none]) (j := 4) k_X6_does.1 rfl (fun _ => Nat.le_of_ble_eq_true rfl) ?_
  show TL_X6_does T 0 _ _ _
  rw [F_X6_does]
  refine tl_aload_n (pc := 0) (i := 0) dX6_does_0 rfl rfl ?_
  refine tl_getR (pc := 1) (r := 173) fl_X6_22 hb.1 rfl dX6_does_1 ?_
  refine tl_iconst (pc := 4) (v := 5) dX6_does_4 (by decide) ?_
  refine tl_iload_n (pc := 5) (i := 1) dX6_does_5 rfl rfl ?_
  refine tl_imul (pc := 6) dX6_does_6 ?_
  refine tl_iald (pc := 7) hb.2.2.2.2.2.1 dX6_does_7 (fun x1 => ?_)
  refine tl_istore_n (pc := 8) (i := 2) (lo' := [some (.ref 168), some (.int p0), some (.int x1), none, none, none]) dX6_does_8 rfl (by decide) rfl ?_
  refine tl_aload_n (pc := 9) (i := 0) dX6_does_9 rfl rfl ?_
  refine tl_getR (pc := 10) (r := 173) fl_X6_22 hb.1 rfl dX6_does_10 ?_
  refine tl_iconst (pc := 13) (v := 5) dX6_does_13 (by decide) ?_
  refine tl_iload_n (pc := 14) (i := 1) dX6_does_14 rfl rfl ?_
  refine tl_imul (pc := 15) dX6_does_15 ?_
  refine tl_iconst (pc := 16) (v := 1) dX6_does_16 (by decide) ?_
  refine tl_iadd (pc := 17) dX6_does_17 ?_
  refine tl_iald (pc := 18) hb.2.2.2.2.2.1 dX6_does_18 (fun x2 => ?_)
  refine tl_istore_n (pc := 19) (i := 3) (lo' := [some (.ref 168), some (.int p0), some (.int x1), some (.int x2), none, none]) dX6_does_19 rfl (by decide) rfl ?_
  refine tl_aload_n (pc := 20) (i := 0) dX6_does_20 rfl rfl ?_
  refine tl_getR (pc := 21) (r := 173) fl_X6_22 hb.1 rfl dX6_does_21 ?_
  refine tl_iconst (pc := 24) (v := 5) dX6_does_24 (by decide) ?_
  refine tl_iload_n (pc := 25) (i := 1) dX6_does_25 rfl rfl ?_
  refine tl_imul (pc := 26) dX6_does_26 ?_
  refine tl_iconst (pc := 27) (v := 2) dX6_does_27 (by decide) ?_
  refine tl_iadd (pc := 28) dX6_does_28 ?_
  refine tl_iald (pc := 29) hb.2.2.2.2.2.1 dX6_does_29 (fun x3 => ?_)
  refine tl_istore (pc := 30) (i := 4) (lo' := [some (.ref 168), some (.int p0), some (.int x1), some (.int x2), some (.int x3), none]) dX6_does_30 (by decide) rfl ?_
  refine tl_aload_n (pc := 32) (i := 0) dX6_does_32 rfl rfl ?_
  refine tl_iload_n (pc := 33) (i := 2) dX6_does_33 rfl rfl ?_
  refine tl_iload_n (pc := 34) (i := 3) dX6_does_34 rfl rfl ?_
  refine tl_iload (pc := 35) (i := 4) dX6_does_35 rfl ?_
  refine tl_aload_n (pc := 37) (i := 0) dX6_does_37 rfl rfl ?_
  refine tl_getR (pc := 38) (r := 173) fl_X6_22 hb.1 rfl dX6_does_38 ?_
  refine tl_iconst (pc := 41) (v := 5) dX6_does_41 (by decide) ?_
  refine tl_iload_n (pc := 42) (i := 1) dX6_does_42 rfl rfl ?_
  refine tl_imul (pc := 43) dX6_does_43 ?_
  refine tl_iconst (pc := 44) (v := 3) dX6_does_44 (by decide) ?_
  refine tl_iadd (pc := 45) dX6_does_45 ?_
  refine tl_iald (pc := 46) hb.2.2.2.2.2.1 dX6_does_46 (fun x4 => ?_)
  refine tl_aload_n (pc := 47) (i := 0) dX6_does_47 rfl rfl ?_
  refine tl_getR (pc := 48) (r := 173) fl_X6_22 hb.1 rfl dX6_does_48 ?_
  refine tl_iconst (pc := 51) (v := 5) dX6_does_51 (by decide) ?_
  refine tl_iload_n (pc := 52) (i := 1) dX6_does_52 rfl rfl ?_
  refine tl_imul (pc := 53) dX6_does_53 ?_
  refine tl_iconst (pc := 54) (v := 4) dX6_does_54 (by decide) ?_
  refine tl_iadd (pc := 55) dX6_does_55 ?_
  refine tl_iald (pc := 56) hb.2.2.2.2.2.1 dX6_does_56 (fun x5 => ?_)
  refine tl_callVi (pc := 57) k_X6_mayPut gw_950 hb.1 ⟨_, _, rfl⟩ (c_X6_mayPut T _ _ _ _ _ hb) rfl rfl (Nat.le_of_ble_eq_true rfl) (Nat.le_of_ble_eq_true rfl) dX6_does_57 (fun x6 => ?_)
  refine tl_j (fun (k : Int32 → Dm Int32) => ∀ (x7 : Int32), TL_X6_does T 68 [some (.ref 168), some (.int p0), some (.int x1), some (.int x2), some (.int x3), none] [.int x7] (k x7)) (fun x7 => ?_) (fun k1 hk1 => ?_)
  · refine tl_istore (pc := 68) (i := 5) (lo' := [some (.ref 168), some (.int p0), some (.int x1), some (.int x2), some (.int x3), some (.int x7)]) dX6_does_68 (by decide) rfl ?_
    refine tl_iload (pc := 70) (i := 5) dX6_does_70 rfl ?_
    refine tl_if_eq (pc := 72) (tgt := 110) dX6_does_72 rfl ?_ ?_
    · refine tl_iload (pc := 110) (i := 5) dX6_does_110 rfl ?_
      exact tl_zret (pc := 112) dX6_does_112
    · refine tl_aload_n (pc := 75) (i := 0) dX6_does_75 rfl rfl ?_
      refine tl_getR (pc := 76) (r := 169) fl_X6_7 hb.1 rfl dX6_does_76 ?_
      refine tl_iload_n (pc := 79) (i := 2) dX6_does_79 rfl rfl ?_
      refine tl_iload_n (pc := 80) (i := 3) dX6_does_80 rfl rfl ?_
      refine tl_iload (pc := 81) (i := 4) dX6_does_81 rfl ?_
      refine tl_callSi (pc := 83) k_X6_square gw_937 (c_X6_square T _ _ _) rfl rfl (Nat.le_of_ble_eq_true rfl) (Nat.le_of_ble_eq_true rfl) dX6_does_83 (fun x8 => ?_)
      refine tl_aload_n (pc := 86) (i := 0) dX6_does_86 rfl rfl ?_
      refine tl_getR (pc := 87) (r := 173) fl_X6_22 hb.1 rfl dX6_does_87 ?_
      refine tl_iconst (pc := 90) (v := 5) dX6_does_90 (by decide) ?_
      refine tl_iload_n (pc := 91) (i := 1) dX6_does_91 rfl rfl ?_
      refine tl_imul (pc := 92) dX6_does_92 ?_
      refine tl_iconst (pc := 93) (v := 3) dX6_does_93 (by decide) ?_
      refine tl_iadd (pc := 94) dX6_does_94 ?_
      refine tl_iald (pc := 95) hb.2.2.2.2.2.1 dX6_does_95 (fun x9 => ?_)
      refine tl_aload_n (pc := 96) (i := 0) dX6_does_96 rfl rfl ?_
      refine tl_getR (pc := 97) (r := 173) fl_X6_22 hb.1 rfl dX6_does_97 ?_
      refine tl_iconst (pc := 100) (v := 5) dX6_does_100 (by decide) ?_
      refine tl_iload_n (pc := 101) (i := 1) dX6_does_101 rfl rfl ?_
      refine tl_imul (pc := 102) dX6_does_102 ?_
      refine tl_iconst (pc := 103) (v := 4) dX6_does_103 (by decide) ?_
      refine tl_iadd (pc := 104) dX6_does_104 ?_
      refine tl_iald (pc := 105) hb.2.2.2.2.2.1 dX6_does_105 (fun x10 => ?_)
      refine tl_callSi (pc := 106) k_X6_puts gw_957 (c_X6_puts T _ _ _ _ _ hb.2.1) rfl rfl (Nat.le_of_ble_eq_true rfl) (Nat.le_of_ble_eq_true rfl) dX6_does_106 (fun x11 => ?_)
      refine tl_pop (pc := 109) dX6_does_109 rfl ?_
      refine tl_iload (pc := 110) (i := 5) dX6_does_110 rfl ?_
      exact tl_zret (pc := 112) dX6_does_112
  · refine tl_if_ne (pc := 60) (tgt := 67) dX6_does_60 rfl ?_ ?_
    · refine tl_iconst (pc := 63) (v := 1) dX6_does_63 (by decide) ?_
      refine tl_goto (pc := 64) (tgt := 68) dX6_does_64 rfl ?_
      exact tl_sub (hk1 _) (sub_s (sub_s (sub_s (sub_s (sub_s (sub_n sub_e))))))
    · refine tl_iconst (pc := 67) (v := 0) dX6_does_67 (by decide) ?_
      exact tl_sub (hk1 _) (sub_s (sub_s (sub_s (sub_s (sub_s (sub_n sub_e))))))
abbrev TL_X6_run (T : Tb) (pc : Nat) (lo : List (Option Value)) (st : List Value) (X : Dm Int32) : Prop := TL yX6_run cX6_run 2 (some .int) 5 iI T pc lo st X
set_option maxRecDepth 100000 in
theorem lp_X6_run_29 (T : Tb)   (hb : isMod T)    : ∀ (n : Nat) (x2 : Int32), TL_X6_run T 29 [some (.ref 168), some (.int x2)] [] (L_X6_run_29  n x2 ) := by
  intro n
  induction n with
  | zero => intros; exact tl_fail
  | succ n ih =>
    intro x2
    rw [L_X6_run_29]
    refine tl_iload_n (pc := 29) (i := 1) dX6_run_29 rfl rfl ?_
    refine tl_aload_n (pc := 30) (i := 0) dX6_run_30 rfl rfl ?_
    refine tl_getI (pc := 31) fl_X6_214 hb.1 rfl dX6_run_31 (fun x3 => ?_)
    refine tl_icmp_ge (pc := 34) (tgt := 51) dX6_run_34 rfl ?_ ?_
    · refine tl_iload_n (pc := 51) (i := 1) dX6_run_51 rfl rfl ?_
      exact tl_iret (pc := 52) dX6_run_52
    · refine tl_aload_n (pc := 37) (i := 0) dX6_run_37 rfl rfl ?_
      refine tl_iload_n (pc := 38) (i := 1) dX6_run_38 rfl rfl ?_
      refine tl_callVi (pc := 39) k_X6_does gw_1016 hb.1 ⟨_, _, rfl⟩ (c_X6_does T _ hb) rfl rfl (Nat.le_of_ble_eq_true rfl) (Nat.le_of_ble_eq_true rfl) dX6_run_39 (fun x4 => ?_)
      refine tl_if_eq (pc := 42) (tgt := 51) dX6_run_42 rfl ?_ ?_
      · refine tl_iload_n (pc := 51) (i := 1) dX6_run_51 rfl rfl ?_
        exact tl_iret (pc := 52) dX6_run_52
      · refine tl_iinc (pc := 45) (i := 1) (v := x2 + (1 : Int32)) (lo' := [some (.ref 168), some (.int (x2 + (1 : Int32)))]) dX6_run_45 rfl rfl (by decide) rfl ?_
        refine tl_goto (pc := 48) (tgt := 29) dX6_run_48 rfl ?_
        exact tl_sub (ih _) (sub_s (sub_s sub_e))
set_option maxRecDepth 100000 in
theorem c_X6_run (T : Tb)  (hb : isMod T) : CT (.code yX6_run cX6_run 2 (some .int)) yX6_run 5 iI T [.ref 168] (F_X6_run) := by
  refine ct_of (lo := [some (.ref 168), none]) (j := 1) k_X6_run.1 rfl (fun _ => Nat.le_of_ble_eq_true rfl) ?_
  show TL_X6_run T 0 _ _ _
  rw [F_X6_run]
  refine tl_aload_n (pc := 0) (i := 0) dX6_run_0 rfl rfl ?_
  refine tl_iconst (pc := 1) (v := 0) dX6_run_1 (by decide) ?_
  refine tl_putI (pc := 2) fw_X6_62 hb.1 rfl dX6_run_2 ?_
  refine tl_aload_n (pc := 5) (i := 0) dX6_run_5 rfl rfl ?_
  refine tl_callVi (pc := 6) k_X6_isText gw_988 hb.1 ⟨_, _, rfl⟩ (c_X6_isText T hb) rfl rfl (Nat.le_of_ble_eq_true rfl) (Nat.le_of_ble_eq_true rfl) dX6_run_6 (fun x1 => ?_)
  refine tl_if_ne (pc := 9) (tgt := 18) dX6_run_9 rfl ?_ ?_
  · refine tl_aload_n (pc := 12) (i := 0) dX6_run_12 rfl rfl ?_
    refine tl_iconst (pc := 13) (v := 1) dX6_run_13 (by decide) ?_
    refine tl_callVi (pc := 14) k_X6_fails gw_908 hb.1 ⟨_, _, rfl⟩ (c_X6_fails T _ hb) rfl rfl (Nat.le_of_ble_eq_true rfl) (Nat.le_of_ble_eq_true rfl) dX6_run_14 (fun x5 => ?_)
    exact tl_iret (pc := 17) dX6_run_17
  · refine tl_aload_n (pc := 18) (i := 0) dX6_run_18 rfl rfl ?_
    refine tl_callVv (pc := 19) k_X6_saves gw_922 hb.1 ⟨_, _, rfl⟩ (c_X6_saves T hb) rfl rfl (Nat.le_of_ble_eq_true rfl) (Nat.le_of_ble_eq_true rfl) dX6_run_19 (fun _ => ?_)
    refine tl_aload_n (pc := 22) (i := 0) dX6_run_22 rfl rfl ?_
    refine tl_iconst (pc := 23) (v := 0) dX6_run_23 (by decide) ?_
    refine tl_putI (pc := 24) fw_X6_198 hb.1 rfl dX6_run_24 ?_
    refine tl_iconst (pc := 27) (v := 0) dX6_run_27 (by decide) ?_
    refine tl_istore_n (pc := 28) (i := 1) (lo' := [some (.ref 168), some (.int (0 : Int32))]) dX6_run_28 rfl (by decide) rfl ?_
    refine tl_sub (lp_X6_run_29 T  hb    FU _) (sub_s (sub_s sub_e))
abbrev TL_X6_ofCell (T : Tb) (pc : Nat) (lo : List (Option Value)) (st : List Value) (X : Dm Int32) : Prop := TL yX6_ofCell cX6_ofCell 3 (some .int) 2 iI T pc lo st X
set_option maxRecDepth 100000 in
theorem c_X6_ofCell (T : Tb) (p0 : Int32) (p1 : Int32) (hb : isMod T) : CT (.code yX6_ofCell cX6_ofCell 3 (some .int)) yX6_ofCell 2 iI T [.ref 168, .int p0, .int p1] (F_X6_ofCell p0 p1) := by
  refine ct_of (lo := [some (.ref 168), some (.int p0), some (.int p1)]) (j := 0) k_X6_ofCell.1 rfl (fun _ => Nat.le_of_ble_eq_true rfl) ?_
  show TL_X6_ofCell T 0 _ _ _
  rw [F_X6_ofCell]
  refine tl_aload_n (pc := 0) (i := 0) dX6_ofCell_0 rfl rfl ?_
  refine tl_getR (pc := 1) (r := 169) fl_X6_7 hb.1 rfl dX6_ofCell_1 ?_
  refine tl_iload_n (pc := 4) (i := 1) dX6_ofCell_4 rfl rfl ?_
  refine tl_callSi (pc := 5) k_X6_isCell gw_940 (c_X6_isCell T _ _ _ hb.2.1) rfl rfl (Nat.le_of_ble_eq_true rfl) (Nat.le_of_ble_eq_true rfl) dX6_ofCell_5 (fun x1 => ?_)
  refine tl_if_ne (pc := 8) (tgt := 13) dX6_ofCell_8 rfl ?_ ?_
  · refine tl_iconst (pc := 11) (v := -1) dX6_ofCell_11 (by decide) ?_
    exact tl_iret (pc := 12) dX6_ofCell_12
  · refine tl_iload_n (pc := 13) (i := 2) dX6_ofCell_13 rfl rfl ?_
    refine tl_if (fun cs14_0 => ?_) (fun cs14_0 => ?_)
    · refine tl_tableIn (pc := 14) (tgt := 60) (off := 46) (0 : Int32) cs14_0 dX6_ofCell_14 (by decide) (by decide) (by decide) rfl ?_
      refine tl_aload_n (pc := 60) (i := 0) dX6_ofCell_60 rfl rfl ?_
      refine tl_getR (pc := 61) (r := 169) fl_X6_7 hb.1 rfl dX6_ofCell_61 ?_
      refine tl_bipush (pc := 64) (v := 12) dX6_ofCell_64 (by decide) ?_
      refine tl_iload_n (pc := 66) (i := 1) dX6_ofCell_66 rfl rfl ?_
      refine tl_iadd (pc := 67) dX6_ofCell_67 ?_
      refine tl_iald (pc := 68) hb.2.1 dX6_ofCell_68 (fun x2 => ?_)
      exact tl_iret (pc := 69) dX6_ofCell_69
    · refine tl_if (fun cs14_1 => ?_) (fun cs14_1 => ?_)
      · refine tl_tableIn (pc := 14) (tgt := 70) (off := 56) (1 : Int32) cs14_1 dX6_ofCell_14 (by decide) (by decide) (by decide) rfl ?_
        refine tl_aload_n (pc := 70) (i := 0) dX6_ofCell_70 rfl rfl ?_
        refine tl_aload_n (pc := 71) (i := 0) dX6_ofCell_71 rfl rfl ?_
        refine tl_getR (pc := 72) (r := 169) fl_X6_7 hb.1 rfl dX6_ofCell_72 ?_
        refine tl_iload_n (pc := 75) (i := 1) dX6_ofCell_75 rfl rfl ?_
        refine tl_callVi (pc := 76) k_X6_valueOf gw_1036 hb.1 ⟨_, _, rfl⟩ (c_X6_valueOf T _ _ _ hb hb.2.1) rfl rfl (Nat.le_of_ble_eq_true rfl) (Nat.le_of_ble_eq_true rfl) dX6_ofCell_76 (fun x3 => ?_)
        exact tl_iret (pc := 79) dX6_ofCell_79
      · refine tl_if (fun cs14_2 => ?_) (fun cs14_2 => ?_)
        · refine tl_tableIn (pc := 14) (tgt := 80) (off := 66) (2 : Int32) cs14_2 dX6_ofCell_14 (by decide) (by decide) (by decide) rfl ?_
          refine tl_aload_n (pc := 80) (i := 0) dX6_ofCell_80 rfl rfl ?_
          refine tl_getR (pc := 81) (r := 179) fl_X6_40 hb.1 rfl dX6_ofCell_81 ?_
          refine tl_iload_n (pc := 84) (i := 1) dX6_ofCell_84 rfl rfl ?_
          refine tl_iald (pc := 85) hb.2.2.2.2.2.2.2.2.2.2.2.1 dX6_ofCell_85 (fun x4 => ?_)
          exact tl_iret (pc := 86) dX6_ofCell_86
        · refine tl_if (fun cs14_3 => ?_) (fun cs14_3 => ?_)
          · refine tl_tableIn (pc := 14) (tgt := 87) (off := 73) (3 : Int32) cs14_3 dX6_ofCell_14 (by decide) (by decide) (by decide) rfl ?_
            refine tl_aload_n (pc := 87) (i := 0) dX6_ofCell_87 rfl rfl ?_
            refine tl_getR (pc := 88) (r := 169) fl_X6_7 hb.1 rfl dX6_ofCell_88 ?_
            refine tl_sipush (pc := 91) (v := 262) dX6_ofCell_91 (by decide) ?_
            refine tl_iload_n (pc := 94) (i := 1) dX6_ofCell_94 rfl rfl ?_
            refine tl_iadd (pc := 95) dX6_ofCell_95 ?_
            refine tl_iald (pc := 96) hb.2.1 dX6_ofCell_96 (fun x5 => ?_)
            exact tl_iret (pc := 97) dX6_ofCell_97
          · refine tl_if (fun cs14_4 => ?_) (fun cs14_4 => ?_)
            · refine tl_tableIn (pc := 14) (tgt := 98) (off := 84) (4 : Int32) cs14_4 dX6_ofCell_14 (by decide) (by decide) (by decide) rfl ?_
              refine tl_aload_n (pc := 98) (i := 0) dX6_ofCell_98 rfl rfl ?_
              refine tl_getR (pc := 99) (r := 169) fl_X6_7 hb.1 rfl dX6_ofCell_99 ?_
              refine tl_sipush (pc := 102) (v := 387) dX6_ofCell_102 (by decide) ?_
              refine tl_iload_n (pc := 105) (i := 1) dX6_ofCell_105 rfl rfl ?_
              refine tl_iadd (pc := 106) dX6_ofCell_106 ?_
              refine tl_iald (pc := 107) hb.2.1 dX6_ofCell_107 (fun x6 => ?_)
              exact tl_iret (pc := 108) dX6_ofCell_108
            · refine tl_if (fun cs14_5 => ?_) (fun cs14_5 => ?_)
              · refine tl_tableIn (pc := 14) (tgt := 109) (off := 95) (5 : Int32) cs14_5 dX6_ofCell_14 (by decide) (by decide) (by decide) rfl ?_
                refine tl_aload_n (pc := 109) (i := 0) dX6_ofCell_109 rfl rfl ?_
                refine tl_aload_n (pc := 110) (i := 0) dX6_ofCell_110 rfl rfl ?_
                refine tl_getR (pc := 111) (r := 169) fl_X6_7 hb.1 rfl dX6_ofCell_111 ?_
                refine tl_iload_n (pc := 114) (i := 1) dX6_ofCell_114 rfl rfl ?_
                refine tl_callVi (pc := 115) k_X6_widthOf gw_1085 hb.1 ⟨_, _, rfl⟩ (c_X6_widthOf T _ _ _ hb hb.2.1) rfl rfl (Nat.le_of_ble_eq_true rfl) (Nat.le_of_ble_eq_true rfl) dX6_ofCell_115 (fun x7 => ?_)
                exact tl_iret (pc := 118) dX6_ofCell_118
              · refine tl_if (fun cs14_6 => ?_) (fun cs14_6 => ?_)
                · refine tl_tableIn (pc := 14) (tgt := 119) (off := 105) (6 : Int32) cs14_6 dX6_ofCell_14 (by decide) (by decide) (by decide) rfl ?_
                  refine tl_aload_n (pc := 119) (i := 0) dX6_ofCell_119 rfl rfl ?_
                  refine tl_aload_n (pc := 120) (i := 0) dX6_ofCell_120 rfl rfl ?_
                  refine tl_getR (pc := 121) (r := 169) fl_X6_7 hb.1 rfl dX6_ofCell_121 ?_
                  refine tl_iload_n (pc := 124) (i := 1) dX6_ofCell_124 rfl rfl ?_
                  refine tl_callVi (pc := 125) k_X6_heightOf gw_1096 hb.1 ⟨_, _, rfl⟩ (c_X6_heightOf T _ _ _ hb hb.2.1) rfl rfl (Nat.le_of_ble_eq_true rfl) (Nat.le_of_ble_eq_true rfl) dX6_ofCell_125 (fun x8 => ?_)
                  exact tl_iret (pc := 128) dX6_ofCell_128
                · refine tl_if (fun cs14_7 => ?_) (fun cs14_7 => ?_)
                  · refine tl_tableIn (pc := 14) (tgt := 129) (off := 115) (7 : Int32) cs14_7 dX6_ofCell_14 (by decide) (by decide) (by decide) rfl ?_
                    refine tl_aload_n (pc := 129) (i := 0) dX6_ofCell_129 rfl rfl ?_
                    refine tl_getR (pc := 130) (r := 169) fl_X6_7 hb.1 rfl dX6_ofCell_130 ?_
                    refine tl_bipush (pc := 133) (v := 12) dX6_ofCell_133 (by decide) ?_
                    refine tl_iload_n (pc := 135) (i := 1) dX6_ofCell_135 rfl rfl ?_
                    refine tl_iadd (pc := 136) dX6_ofCell_136 ?_
                    refine tl_iald (pc := 137) hb.2.1 dX6_ofCell_137 (fun x9 => ?_)
                    refine tl_iconst (pc := 138) (v := 3) dX6_ofCell_138 (by decide) ?_
                    refine tl_icmp_ne (pc := 139) (tgt := 155) dX6_ofCell_139 rfl ?_ ?_
                    · refine tl_aload_n (pc := 142) (i := 0) dX6_ofCell_142 rfl rfl ?_
                      refine tl_getR (pc := 143) (r := 169) fl_X6_7 hb.1 rfl dX6_ofCell_143 ?_
                      refine tl_sipush (pc := 146) (v := 137) dX6_ofCell_146 (by decide) ?_
                      refine tl_iload_n (pc := 149) (i := 1) dX6_ofCell_149 rfl rfl ?_
                      refine tl_iadd (pc := 150) dX6_ofCell_150 ?_
                      refine tl_iald (pc := 151) hb.2.1 dX6_ofCell_151 (fun x10 => ?_)
                      refine tl_goto (pc := 152) (tgt := 156) dX6_ofCell_152 rfl ?_
                      exact tl_iret (pc := 156) dX6_ofCell_156
                    · refine tl_iconst (pc := 155) (v := -1) dX6_ofCell_155 (by decide) ?_
                      exact tl_iret (pc := 156) dX6_ofCell_156
                  · refine tl_tableOut (pc := 14) (tgt := 157) dX6_ofCell_14 (by have n0 := lv_neT cs14_0 (a := 0) (by decide); have n1 := lv_neT cs14_1 (a := 1) (by decide); have n2 := lv_neT cs14_2 (a := 2) (by decide); have n3 := lv_neT cs14_3 (a := 3) (by decide); have n4 := lv_neT cs14_4 (a := 4) (by decide); have n5 := lv_neT cs14_5 (a := 5) (by decide); have n6 := lv_neT cs14_6 (a := 6) (by decide); have n7 := lv_neT cs14_7 (a := 7) (by decide); omega) rfl ?_
                    refine tl_aload_n (pc := 157) (i := 0) dX6_ofCell_157 rfl rfl ?_
                    refine tl_getR (pc := 158) (r := 181) fl_X6_46 hb.1 rfl dX6_ofCell_158 ?_
                    refine tl_iconst (pc := 161) (v := 4) dX6_ofCell_161 (by decide) ?_
                    refine tl_iload_n (pc := 162) (i := 1) dX6_ofCell_162 rfl rfl ?_
                    refine tl_imul (pc := 163) dX6_ofCell_163 ?_
                    refine tl_iload_n (pc := 164) (i := 2) dX6_ofCell_164 rfl rfl ?_
                    refine tl_iadd (pc := 165) dX6_ofCell_165 ?_
                    refine tl_bipush (pc := 166) (v := 8) dX6_ofCell_166 (by decide) ?_
                    refine tl_isub (pc := 168) dX6_ofCell_168 ?_
                    refine tl_iald (pc := 169) hb.2.2.2.2.2.2.2.2.2.2.2.2.2.1 dX6_ofCell_169 (fun x11 => ?_)
                    exact tl_iret (pc := 170) dX6_ofCell_170
abbrev TL_X6_cell (T : Tb) (pc : Nat) (lo : List (Option Value)) (st : List Value) (X : Dm Int32) : Prop := TL yX6_cell cX6_cell 5 (some .int) 8 iI T pc lo st X
set_option maxRecDepth 100000 in
theorem c_X6_cell (T : Tb) (p0 : Int32) (p1 : Int32) (p2 : Int32) (p3 : Int32) (hb : isMod T) : CT (.code yX6_cell cX6_cell 5 (some .int)) yX6_cell 8 iI T [.ref 168, .int p0, .int p1, .int p2, .int p3] (F_X6_cell p0 p1 p2 p3) := by
  refine ct_of (lo := [some (.ref 168), some (.int p0), some (.int p1), some (.int p2), some (.int p3)]) (j := 0) k_X6_cell.1 rfl (fun _ => Nat.le_of_ble_eq_true rfl) ?_
  show TL_X6_cell T 0 _ _ _
  rw [F_X6_cell]
  refine tl_aload_n (pc := 0) (i := 0) dX6_cell_0 rfl rfl ?_
  refine tl_iconst (pc := 1) (v := 0) dX6_cell_1 (by decide) ?_
  refine tl_putI (pc := 2) fw_X6_62 hb.1 rfl dX6_cell_2 ?_
  refine tl_aload_n (pc := 5) (i := 0) dX6_cell_5 rfl rfl ?_
  refine tl_iload_n (pc := 6) (i := 1) dX6_cell_6 rfl rfl ?_
  refine tl_iload_n (pc := 7) (i := 2) dX6_cell_7 rfl rfl ?_
  refine tl_iload_n (pc := 8) (i := 3) dX6_cell_8 rfl rfl ?_
  refine tl_callVi (pc := 9) k_X6_isSquare gw_930 hb.1 ⟨_, _, rfl⟩ (c_X6_isSquare T _ _ _ hb) rfl rfl (Nat.le_of_ble_eq_true rfl) (Nat.le_of_ble_eq_true rfl) dX6_cell_9 (fun x1 => ?_)
  refine tl_if_ne (pc := 12) (tgt := 21) dX6_cell_12 rfl ?_ ?_
  · refine tl_aload_n (pc := 15) (i := 0) dX6_cell_15 rfl rfl ?_
    refine tl_iconst (pc := 16) (v := 1) dX6_cell_16 (by decide) ?_
    refine tl_callVi (pc := 17) k_X6_fails gw_908 hb.1 ⟨_, _, rfl⟩ (c_X6_fails T _ hb) rfl rfl (Nat.le_of_ble_eq_true rfl) (Nat.le_of_ble_eq_true rfl) dX6_cell_17 (fun x6 => ?_)
    exact tl_iret (pc := 20) dX6_cell_20
  · refine tl_aload_n (pc := 21) (i := 0) dX6_cell_21 rfl rfl ?_
    refine tl_callVv (pc := 22) k_X6_laysNow gw_1024 hb.1 ⟨_, _, rfl⟩ (c_X6_laysNow T hb) rfl rfl (Nat.le_of_ble_eq_true rfl) (Nat.le_of_ble_eq_true rfl) dX6_cell_22 (fun _ => ?_)
    refine tl_iload (pc := 25) (i := 4) dX6_cell_25 rfl ?_
    refine tl_iconst (pc := 27) (v := 0) dX6_cell_27 (by decide) ?_
    refine tl_bipush (pc := 28) (v := 11) dX6_cell_28 (by decide) ?_
    refine tl_callSi (pc := 30) k_X6_in gw_919 (c_X6_in T _ _ _) rfl rfl (Nat.le_of_ble_eq_true rfl) (Nat.le_of_ble_eq_true rfl) dX6_cell_30 (fun x2 => ?_)
    refine tl_if_eq (pc := 33) (tgt := 51) dX6_cell_33 rfl ?_ ?_
    · refine tl_aload_n (pc := 51) (i := 0) dX6_cell_51 rfl rfl ?_
      refine tl_iconst (pc := 52) (v := 2) dX6_cell_52 (by decide) ?_
      refine tl_callVi (pc := 53) k_X6_fails gw_908 hb.1 ⟨_, _, rfl⟩ (c_X6_fails T _ hb) rfl rfl (Nat.le_of_ble_eq_true rfl) (Nat.le_of_ble_eq_true rfl) dX6_cell_53 (fun x3 => ?_)
      exact tl_iret (pc := 56) dX6_cell_56
    · refine tl_aload_n (pc := 36) (i := 0) dX6_cell_36 rfl rfl ?_
      refine tl_iload_n (pc := 37) (i := 1) dX6_cell_37 rfl rfl ?_
      refine tl_iload_n (pc := 38) (i := 2) dX6_cell_38 rfl rfl ?_
      refine tl_iload_n (pc := 39) (i := 3) dX6_cell_39 rfl rfl ?_
      refine tl_callSi (pc := 40) k_X6_square gw_937 (c_X6_square T _ _ _) rfl rfl (Nat.le_of_ble_eq_true rfl) (Nat.le_of_ble_eq_true rfl) dX6_cell_40 (fun x4 => ?_)
      refine tl_iload (pc := 43) (i := 4) dX6_cell_43 rfl ?_
      refine tl_callVi (pc := 45) k_X6_ofCell gw_1100 hb.1 ⟨_, _, rfl⟩ (c_X6_ofCell T _ _ hb) rfl rfl (Nat.le_of_ble_eq_true rfl) (Nat.le_of_ble_eq_true rfl) dX6_cell_45 (fun x5 => ?_)
      refine tl_goto (pc := 48) (tgt := 56) dX6_cell_48 rfl ?_
      exact tl_iret (pc := 56) dX6_cell_56
abbrev TL_X6_edge (T : Tb) (pc : Nat) (lo : List (Option Value)) (st : List Value) (X : Dm Int32) : Prop := TL yX6_edge cX6_edge 5 (some .int) 8 iI T pc lo st X
set_option maxRecDepth 100000 in
theorem c_X6_edge (T : Tb) (p0 : Int32) (p1 : Int32) (p2 : Int32) (p3 : Int32) (hb : isMod T) : CT (.code yX6_edge cX6_edge 5 (some .int)) yX6_edge 8 iI T [.ref 168, .int p0, .int p1, .int p2, .int p3] (F_X6_edge p0 p1 p2 p3) := by
  refine ct_of (lo := [some (.ref 168), some (.int p0), some (.int p1), some (.int p2), some (.int p3)]) (j := 0) k_X6_edge.1 rfl (fun _ => Nat.le_of_ble_eq_true rfl) ?_
  show TL_X6_edge T 0 _ _ _
  rw [F_X6_edge]
  refine tl_aload_n (pc := 0) (i := 0) dX6_edge_0 rfl rfl ?_
  refine tl_iconst (pc := 1) (v := 0) dX6_edge_1 (by decide) ?_
  refine tl_putI (pc := 2) fw_X6_62 hb.1 rfl dX6_edge_2 ?_
  refine tl_aload_n (pc := 5) (i := 0) dX6_edge_5 rfl rfl ?_
  refine tl_iload_n (pc := 6) (i := 1) dX6_edge_6 rfl rfl ?_
  refine tl_iload_n (pc := 7) (i := 2) dX6_edge_7 rfl rfl ?_
  refine tl_iload_n (pc := 8) (i := 3) dX6_edge_8 rfl rfl ?_
  refine tl_callVi (pc := 9) k_X6_isSquare gw_930 hb.1 ⟨_, _, rfl⟩ (c_X6_isSquare T _ _ _ hb) rfl rfl (Nat.le_of_ble_eq_true rfl) (Nat.le_of_ble_eq_true rfl) dX6_edge_9 (fun x1 => ?_)
  refine tl_if_ne (pc := 12) (tgt := 21) dX6_edge_12 rfl ?_ ?_
  · refine tl_aload_n (pc := 15) (i := 0) dX6_edge_15 rfl rfl ?_
    refine tl_iconst (pc := 16) (v := 1) dX6_edge_16 (by decide) ?_
    refine tl_callVi (pc := 17) k_X6_fails gw_908 hb.1 ⟨_, _, rfl⟩ (c_X6_fails T _ hb) rfl rfl (Nat.le_of_ble_eq_true rfl) (Nat.le_of_ble_eq_true rfl) dX6_edge_17 (fun x6 => ?_)
    exact tl_iret (pc := 20) dX6_edge_20
  · refine tl_aload_n (pc := 21) (i := 0) dX6_edge_21 rfl rfl ?_
    refine tl_callVv (pc := 22) k_X6_laysNow gw_1024 hb.1 ⟨_, _, rfl⟩ (c_X6_laysNow T hb) rfl rfl (Nat.le_of_ble_eq_true rfl) (Nat.le_of_ble_eq_true rfl) dX6_edge_22 (fun _ => ?_)
    refine tl_iload (pc := 25) (i := 4) dX6_edge_25 rfl ?_
    refine tl_iconst (pc := 27) (v := 0) dX6_edge_27 (by decide) ?_
    refine tl_iconst (pc := 28) (v := 3) dX6_edge_28 (by decide) ?_
    refine tl_callSi (pc := 29) k_X6_in gw_919 (c_X6_in T _ _ _) rfl rfl (Nat.le_of_ble_eq_true rfl) (Nat.le_of_ble_eq_true rfl) dX6_edge_29 (fun x2 => ?_)
    refine tl_if_eq (pc := 32) (tgt := 54) dX6_edge_32 rfl ?_ ?_
    · refine tl_aload_n (pc := 54) (i := 0) dX6_edge_54 rfl rfl ?_
      refine tl_iconst (pc := 55) (v := 2) dX6_edge_55 (by decide) ?_
      refine tl_callVi (pc := 56) k_X6_fails gw_908 hb.1 ⟨_, _, rfl⟩ (c_X6_fails T _ hb) rfl rfl (Nat.le_of_ble_eq_true rfl) (Nat.le_of_ble_eq_true rfl) dX6_edge_56 (fun x3 => ?_)
      exact tl_iret (pc := 59) dX6_edge_59
    · refine tl_aload_n (pc := 35) (i := 0) dX6_edge_35 rfl rfl ?_
      refine tl_aload_n (pc := 36) (i := 0) dX6_edge_36 rfl rfl ?_
      refine tl_getR (pc := 37) (r := 169) fl_X6_7 hb.1 rfl dX6_edge_37 ?_
      refine tl_iload_n (pc := 40) (i := 1) dX6_edge_40 rfl rfl ?_
      refine tl_iload_n (pc := 41) (i := 2) dX6_edge_41 rfl rfl ?_
      refine tl_iload_n (pc := 42) (i := 3) dX6_edge_42 rfl rfl ?_
      refine tl_callSi (pc := 43) k_X6_square gw_937 (c_X6_square T _ _ _) rfl rfl (Nat.le_of_ble_eq_true rfl) (Nat.le_of_ble_eq_true rfl) dX6_edge_43 (fun x4 => ?_)
      refine tl_iload (pc := 46) (i := 4) dX6_edge_46 rfl ?_
      refine tl_callVi (pc := 48) k_X6_edgeOf gw_1073 hb.1 ⟨_, _, rfl⟩ (c_X6_edgeOf T _ _ _ _ hb hb.2.1) rfl rfl (Nat.le_of_ble_eq_true rfl) (Nat.le_of_ble_eq_true rfl) dX6_edge_48 (fun x5 => ?_)
      refine tl_goto (pc := 51) (tgt := 59) dX6_edge_51 rfl ?_
      exact tl_iret (pc := 59) dX6_edge_59
abbrev TL_X6_around (T : Tb) (pc : Nat) (lo : List (Option Value)) (st : List Value) (X : Dm Int32) : Prop := TL yX6_around cX6_around 4 (some .int) 2 iI T pc lo st X
set_option maxRecDepth 100000 in
theorem lp_X6_around_4 (T : Tb) (a0 na0 : Nat) (p1 : Int32)  (ha0 : T[a0]? = some (0, na0, []))    : ∀ (n : Nat) (x1 : Int32) (x2 : Int32), TL_X6_around T 4 [some (.ref a0), some (.int p1), some (.int x1), some (.int x2)] [] (L_X6_around_4 a0 na0 p1 n x1 x2 ) := by
  intro n
  induction n with
  | zero => intros; exact tl_fail
  | succ n ih =>
    intro x1 x2
    rw [L_X6_around_4]
    refine tl_iload_n (pc := 4) (i := 3) dX6_around_4 rfl rfl ?_
    refine tl_bipush (pc := 5) (v := 125) dX6_around_5 (by decide) ?_
    refine tl_icmp_ge (pc := 7) (tgt := 51) dX6_around_7 rfl ?_ ?_
    · refine tl_iload_n (pc := 51) (i := 2) dX6_around_51 rfl rfl ?_
      exact tl_iret (pc := 52) dX6_around_52
    · refine tl_aload_n (pc := 10) (i := 0) dX6_around_10 rfl rfl ?_
      refine tl_iload_n (pc := 11) (i := 3) dX6_around_11 rfl rfl ?_
      refine tl_callSi (pc := 12) k_X6_isCell gw_940 (c_X6_isCell T _ _ _ ha0) rfl rfl (Nat.le_of_ble_eq_true rfl) (Nat.le_of_ble_eq_true rfl) dX6_around_12 (fun x3 => ?_)
      refine tl_j (fun (k : Int32 → Dm Int32) => ∀ (x4 : Int32), TL_X6_around T 44 [some (.ref a0), some (.int p1), none, some (.int x2)] [.int x4] (k x4)) (fun x4 => ?_) (fun k1 hk1 => ?_)
      · refine tl_istore_n (pc := 44) (i := 2) (lo' := [some (.ref a0), some (.int p1), some (.int x4), some (.int x2)]) dX6_around_44 rfl (by decide) rfl ?_
        refine tl_iinc (pc := 45) (i := 3) (v := x2 + (1 : Int32)) (lo' := [some (.ref a0), some (.int p1), some (.int x4), some (.int (x2 + (1 : Int32)))]) dX6_around_45 rfl rfl (by decide) rfl ?_
        refine tl_goto (pc := 48) (tgt := 4) dX6_around_48 rfl ?_
        exact tl_sub (ih _ _) (sub_s (sub_s (sub_s (sub_s sub_e))))
      · refine tl_j (fun (k : Unit → Dm Int32) => ∀ (_ : Unit), TL_X6_around T 43 [some (.ref a0), some (.int p1), some (.int x1), some (.int x2)] [] (k ())) (fun _ => ?_) (fun k2 hk2 => ?_)
        · refine tl_iload_n (pc := 43) (i := 2) dX6_around_43 rfl rfl ?_
          exact tl_sub (hk1 _) (sub_s (sub_s (sub_n (sub_s sub_e))))
        · refine tl_if_eq (pc := 15) (tgt := 43) dX6_around_15 rfl ?_ ?_
          · exact tl_sub (hk2 ()) (sub_s (sub_s (sub_s (sub_s sub_e))))
          · refine tl_aload_n (pc := 18) (i := 0) dX6_around_18 rfl rfl ?_
            refine tl_bipush (pc := 19) (v := 12) dX6_around_19 (by decide) ?_
            refine tl_iload_n (pc := 21) (i := 3) dX6_around_21 rfl rfl ?_
            refine tl_iadd (pc := 22) dX6_around_22 ?_
            refine tl_iald (pc := 23) ha0 dX6_around_23 (fun x5 => ?_)
            refine tl_iconst (pc := 24) (v := 3) dX6_around_24 (by decide) ?_
            refine tl_icmp_ne (pc := 25) (tgt := 43) dX6_around_25 rfl ?_ ?_
            · refine tl_aload_n (pc := 28) (i := 0) dX6_around_28 rfl rfl ?_
              refine tl_sipush (pc := 29) (v := 137) dX6_around_29 (by decide) ?_
              refine tl_iload_n (pc := 32) (i := 3) dX6_around_32 rfl rfl ?_
              refine tl_iadd (pc := 33) dX6_around_33 ?_
              refine tl_iald (pc := 34) ha0 dX6_around_34 (fun x6 => ?_)
              refine tl_iload_n (pc := 35) (i := 1) dX6_around_35 rfl rfl ?_
              refine tl_icmp_ne (pc := 36) (tgt := 43) dX6_around_36 rfl ?_ ?_
              · refine tl_iload_n (pc := 39) (i := 3) dX6_around_39 rfl rfl ?_
                refine tl_goto (pc := 40) (tgt := 44) dX6_around_40 rfl ?_
                exact tl_sub (hk1 _) (sub_s (sub_s (sub_n (sub_s sub_e))))
              · exact tl_sub (hk2 ()) (sub_s (sub_s (sub_s (sub_s sub_e))))
            · exact tl_sub (hk2 ()) (sub_s (sub_s (sub_s (sub_s sub_e))))
set_option maxRecDepth 100000 in
theorem c_X6_around (T : Tb) (a0 na0 : Nat) (p1 : Int32) (ha0 : T[a0]? = some (0, na0, [])) : CT (.code yX6_around cX6_around 4 (some .int)) yX6_around 2 iI T [.ref a0, .int p1] (F_X6_around a0 na0 p1) := by
  refine ct_of (lo := [some (.ref a0), some (.int p1), none, none]) (j := 2) k_X6_around.1 rfl (fun _ => Nat.le_of_ble_eq_true rfl) ?_
  show TL_X6_around T 0 _ _ _
  rw [F_X6_around]
  refine tl_iconst (pc := 0) (v := -1) dX6_around_0 (by decide) ?_
  refine tl_istore_n (pc := 1) (i := 2) (lo' := [some (.ref a0), some (.int p1), some (.int (-1 : Int32)), none]) dX6_around_1 rfl (by decide) rfl ?_
  refine tl_iconst (pc := 2) (v := 0) dX6_around_2 (by decide) ?_
  refine tl_istore_n (pc := 3) (i := 3) (lo' := [some (.ref a0), some (.int p1), some (.int (-1 : Int32)), some (.int (0 : Int32))]) dX6_around_3 rfl (by decide) rfl ?_
  refine tl_sub (lp_X6_around_4 T a0 na0 p1 ha0    FU _ _) (sub_s (sub_s (sub_s (sub_s sub_e))))
abbrev TL_X6_ofTable (T : Tb) (pc : Nat) (lo : List (Option Value)) (st : List Value) (X : Dm Int32) : Prop := TL yX6_ofTable cX6_ofTable 3 (some .int) 3 iI T pc lo st X
set_option maxRecDepth 100000 in
theorem c_X6_ofTable (T : Tb) (p0 : Int32) (p1 : Int32) (hb : isMod T) : CT (.code yX6_ofTable cX6_ofTable 3 (some .int)) yX6_ofTable 3 iI T [.ref 168, .int p0, .int p1] (F_X6_ofTable p0 p1) := by
  refine ct_of (lo := [some (.ref 168), some (.int p0), some (.int p1)]) (j := 0) k_X6_ofTable.1 rfl (fun _ => Nat.le_of_ble_eq_true rfl) ?_
  show TL_X6_ofTable T 0 _ _ _
  rw [F_X6_ofTable]
  refine tl_iload_n (pc := 0) (i := 2) dX6_ofTable_0 rfl rfl ?_
  refine tl_if (fun cs1_0 => ?_) (fun cs1_0 => ?_)
  · refine tl_tableIn (pc := 1) (tgt := 44) (off := 43) (0 : Int32) cs1_0 dX6_ofTable_1 (by decide) (by decide) (by decide) rfl ?_
    refine tl_aload_n (pc := 44) (i := 0) dX6_ofTable_44 rfl rfl ?_
    refine tl_getR (pc := 45) (r := 169) fl_X6_7 hb.1 rfl dX6_ofTable_45 ?_
    refine tl_iconst (pc := 48) (v := 2) dX6_ofTable_48 (by decide) ?_
    refine tl_iload_n (pc := 49) (i := 1) dX6_ofTable_49 rfl rfl ?_
    refine tl_iadd (pc := 50) dX6_ofTable_50 ?_
    refine tl_iald (pc := 51) hb.2.1 dX6_ofTable_51 (fun x1 => ?_)
    exact tl_iret (pc := 52) dX6_ofTable_52
  · refine tl_if (fun cs1_1 => ?_) (fun cs1_1 => ?_)
    · refine tl_tableIn (pc := 1) (tgt := 53) (off := 52) (1 : Int32) cs1_1 dX6_ofTable_1 (by decide) (by decide) (by decide) rfl ?_
      refine tl_aload_n (pc := 53) (i := 0) dX6_ofTable_53 rfl rfl ?_
      refine tl_getR (pc := 54) (r := 169) fl_X6_7 hb.1 rfl dX6_ofTable_54 ?_
      refine tl_bipush (pc := 57) (v := 7) dX6_ofTable_57 (by decide) ?_
      refine tl_iload_n (pc := 59) (i := 1) dX6_ofTable_59 rfl rfl ?_
      refine tl_iadd (pc := 60) dX6_ofTable_60 ?_
      refine tl_iald (pc := 61) hb.2.1 dX6_ofTable_61 (fun x2 => ?_)
      exact tl_iret (pc := 62) dX6_ofTable_62
    · refine tl_if (fun cs1_2 => ?_) (fun cs1_2 => ?_)
      · refine tl_tableIn (pc := 1) (tgt := 63) (off := 62) (2 : Int32) cs1_2 dX6_ofTable_1 (by decide) (by decide) (by decide) rfl ?_
        refine tl_aload_n (pc := 63) (i := 0) dX6_ofTable_63 rfl rfl ?_
        refine tl_getR (pc := 64) (r := 174) fl_X6_25 hb.1 rfl dX6_ofTable_64 ?_
        refine tl_iload_n (pc := 67) (i := 1) dX6_ofTable_67 rfl rfl ?_
        refine tl_iald (pc := 68) hb.2.2.2.2.2.2.1 dX6_ofTable_68 (fun x3 => ?_)
        exact tl_iret (pc := 69) dX6_ofTable_69
      · refine tl_if (fun cs1_3 => ?_) (fun cs1_3 => ?_)
        · refine tl_tableIn (pc := 1) (tgt := 70) (off := 69) (3 : Int32) cs1_3 dX6_ofTable_1 (by decide) (by decide) (by decide) rfl ?_
          refine tl_aload_n (pc := 70) (i := 0) dX6_ofTable_70 rfl rfl ?_
          refine tl_getR (pc := 71) (r := 175) fl_X6_28 hb.1 rfl dX6_ofTable_71 ?_
          refine tl_iload_n (pc := 74) (i := 1) dX6_ofTable_74 rfl rfl ?_
          refine tl_iald (pc := 75) hb.2.2.2.2.2.2.2.1 dX6_ofTable_75 (fun x4 => ?_)
          exact tl_iret (pc := 76) dX6_ofTable_76
        · refine tl_if (fun cs1_4 => ?_) (fun cs1_4 => ?_)
          · refine tl_tableIn (pc := 1) (tgt := 77) (off := 76) (4 : Int32) cs1_4 dX6_ofTable_1 (by decide) (by decide) (by decide) rfl ?_
            refine tl_aload_n (pc := 77) (i := 0) dX6_ofTable_77 rfl rfl ?_
            refine tl_getR (pc := 78) (r := 176) fl_X6_31 hb.1 rfl dX6_ofTable_78 ?_
            refine tl_iload_n (pc := 81) (i := 1) dX6_ofTable_81 rfl rfl ?_
            refine tl_iald (pc := 82) hb.2.2.2.2.2.2.2.2.1 dX6_ofTable_82 (fun x5 => ?_)
            exact tl_iret (pc := 83) dX6_ofTable_83
          · refine tl_if (fun cs1_5 => ?_) (fun cs1_5 => ?_)
            · refine tl_tableIn (pc := 1) (tgt := 84) (off := 83) (5 : Int32) cs1_5 dX6_ofTable_1 (by decide) (by decide) (by decide) rfl ?_
              refine tl_aload_n (pc := 84) (i := 0) dX6_ofTable_84 rfl rfl ?_
              refine tl_getR (pc := 85) (r := 177) fl_X6_34 hb.1 rfl dX6_ofTable_85 ?_
              refine tl_iload_n (pc := 88) (i := 1) dX6_ofTable_88 rfl rfl ?_
              refine tl_iald (pc := 89) hb.2.2.2.2.2.2.2.2.2.1 dX6_ofTable_89 (fun x6 => ?_)
              exact tl_iret (pc := 90) dX6_ofTable_90
            · refine tl_if (fun cs1_6 => ?_) (fun cs1_6 => ?_)
              · refine tl_tableIn (pc := 1) (tgt := 91) (off := 90) (6 : Int32) cs1_6 dX6_ofTable_1 (by decide) (by decide) (by decide) rfl ?_
                refine tl_aload_n (pc := 91) (i := 0) dX6_ofTable_91 rfl rfl ?_
                refine tl_getR (pc := 92) (r := 178) fl_X6_37 hb.1 rfl dX6_ofTable_92 ?_
                refine tl_iload_n (pc := 95) (i := 1) dX6_ofTable_95 rfl rfl ?_
                refine tl_iald (pc := 96) hb.2.2.2.2.2.2.2.2.2.2.1 dX6_ofTable_96 (fun x7 => ?_)
                exact tl_iret (pc := 97) dX6_ofTable_97
              · refine tl_tableOut (pc := 1) (tgt := 98) dX6_ofTable_1 (by have n0 := lv_neT cs1_0 (a := 0) (by decide); have n1 := lv_neT cs1_1 (a := 1) (by decide); have n2 := lv_neT cs1_2 (a := 2) (by decide); have n3 := lv_neT cs1_3 (a := 3) (by decide); have n4 := lv_neT cs1_4 (a := 4) (by decide); have n5 := lv_neT cs1_5 (a := 5) (by decide); have n6 := lv_neT cs1_6 (a := 6) (by decide); omega) rfl ?_
                refine tl_iload_n (pc := 98) (i := 1) dX6_ofTable_98 rfl rfl ?_
                refine tl_if_ne (pc := 99) (tgt := 106) dX6_ofTable_99 rfl ?_ ?_
                · refine tl_iconst (pc := 102) (v := -1) dX6_ofTable_102 (by decide) ?_
                  refine tl_goto (pc := 103) (tgt := 117) dX6_ofTable_103 rfl ?_
                  exact tl_iret (pc := 117) dX6_ofTable_117
                · refine tl_aload_n (pc := 106) (i := 0) dX6_ofTable_106 rfl rfl ?_
                  refine tl_getR (pc := 107) (r := 169) fl_X6_7 hb.1 rfl dX6_ofTable_107 ?_
                  refine tl_iload_n (pc := 110) (i := 1) dX6_ofTable_110 rfl rfl ?_
                  refine tl_callSi (pc := 111) k_X6_around gw_1116 (c_X6_around T _ _ _ hb.2.1) rfl rfl (Nat.le_of_ble_eq_true rfl) (Nat.le_of_ble_eq_true rfl) dX6_ofTable_111 (fun x8 => ?_)
                  refine tl_bipush (pc := 114) (v := 25) dX6_ofTable_114 (by decide) ?_
                  refine tl_idiv (pc := 116) dX6_ofTable_116 (by decide) ?_
                  exact tl_iret (pc := 117) dX6_ofTable_117
abbrev TL_X6_table (T : Tb) (pc : Nat) (lo : List (Option Value)) (st : List Value) (X : Dm Int32) : Prop := TL yX6_table cX6_table 3 (some .int) 8 iI T pc lo st X
set_option maxRecDepth 100000 in
theorem c_X6_table (T : Tb) (p0 : Int32) (p1 : Int32) (hb : isMod T) : CT (.code yX6_table cX6_table 3 (some .int)) yX6_table 8 iI T [.ref 168, .int p0, .int p1] (F_X6_table p0 p1) := by
  refine ct_of (lo := [some (.ref 168), some (.int p0), some (.int p1)]) (j := 0) k_X6_table.1 rfl (fun _ => Nat.le_of_ble_eq_true rfl) ?_
  show TL_X6_table T 0 _ _ _
  rw [F_X6_table]
  refine tl_aload_n (pc := 0) (i := 0) dX6_table_0 rfl rfl ?_
  refine tl_iconst (pc := 1) (v := 0) dX6_table_1 (by decide) ?_
  refine tl_putI (pc := 2) fw_X6_62 hb.1 rfl dX6_table_2 ?_
  refine tl_aload_n (pc := 5) (i := 0) dX6_table_5 rfl rfl ?_
  refine tl_getR (pc := 6) (r := 169) fl_X6_7 hb.1 rfl dX6_table_6 ?_
  refine tl_iload_n (pc := 9) (i := 1) dX6_table_9 rfl rfl ?_
  refine tl_callSi (pc := 10) k_X6_isTable gw_934 (c_X6_isTable T _ _ _ hb.2.1) rfl rfl (Nat.le_of_ble_eq_true rfl) (Nat.le_of_ble_eq_true rfl) dX6_table_10 (fun x1 => ?_)
  refine tl_if_ne (pc := 13) (tgt := 22) dX6_table_13 rfl ?_ ?_
  · refine tl_aload_n (pc := 16) (i := 0) dX6_table_16 rfl rfl ?_
    refine tl_iconst (pc := 17) (v := 1) dX6_table_17 (by decide) ?_
    refine tl_callVi (pc := 18) k_X6_fails gw_908 hb.1 ⟨_, _, rfl⟩ (c_X6_fails T _ hb) rfl rfl (Nat.le_of_ble_eq_true rfl) (Nat.le_of_ble_eq_true rfl) dX6_table_18 (fun x5 => ?_)
    exact tl_iret (pc := 21) dX6_table_21
  · refine tl_aload_n (pc := 22) (i := 0) dX6_table_22 rfl rfl ?_
    refine tl_callVv (pc := 23) k_X6_laysNow gw_1024 hb.1 ⟨_, _, rfl⟩ (c_X6_laysNow T hb) rfl rfl (Nat.le_of_ble_eq_true rfl) (Nat.le_of_ble_eq_true rfl) dX6_table_23 (fun _ => ?_)
    refine tl_iload_n (pc := 26) (i := 2) dX6_table_26 rfl rfl ?_
    refine tl_iconst (pc := 27) (v := 0) dX6_table_27 (by decide) ?_
    refine tl_bipush (pc := 28) (v := 7) dX6_table_28 (by decide) ?_
    refine tl_callSi (pc := 30) k_X6_in gw_919 (c_X6_in T _ _ _) rfl rfl (Nat.le_of_ble_eq_true rfl) (Nat.le_of_ble_eq_true rfl) dX6_table_30 (fun x2 => ?_)
    refine tl_if_eq (pc := 33) (tgt := 45) dX6_table_33 rfl ?_ ?_
    · refine tl_aload_n (pc := 45) (i := 0) dX6_table_45 rfl rfl ?_
      refine tl_iconst (pc := 46) (v := 2) dX6_table_46 (by decide) ?_
      refine tl_callVi (pc := 47) k_X6_fails gw_908 hb.1 ⟨_, _, rfl⟩ (c_X6_fails T _ hb) rfl rfl (Nat.le_of_ble_eq_true rfl) (Nat.le_of_ble_eq_true rfl) dX6_table_47 (fun x3 => ?_)
      exact tl_iret (pc := 50) dX6_table_50
    · refine tl_aload_n (pc := 36) (i := 0) dX6_table_36 rfl rfl ?_
      refine tl_iload_n (pc := 37) (i := 1) dX6_table_37 rfl rfl ?_
      refine tl_iload_n (pc := 38) (i := 2) dX6_table_38 rfl rfl ?_
      refine tl_callVi (pc := 39) k_X6_ofTable gw_1112 hb.1 ⟨_, _, rfl⟩ (c_X6_ofTable T _ _ hb) rfl rfl (Nat.le_of_ble_eq_true rfl) (Nat.le_of_ble_eq_true rfl) dX6_table_39 (fun x4 => ?_)
      refine tl_goto (pc := 42) (tgt := 50) dX6_table_42 rfl ?_
      exact tl_iret (pc := 50) dX6_table_50
abbrev TL_X6_size (T : Tb) (pc : Nat) (lo : List (Option Value)) (st : List Value) (X : Dm Int32) : Prop := TL yX6_size cX6_size 4 (some .int) 8 iI T pc lo st X
set_option maxRecDepth 100000 in
theorem c_X6_size (T : Tb) (p0 : Int32) (p1 : Int32) (p2 : Int32) (hb : isMod T) : CT (.code yX6_size cX6_size 4 (some .int)) yX6_size 8 iI T [.ref 168, .int p0, .int p1, .int p2] (F_X6_size p0 p1 p2) := by
  refine ct_of (lo := [some (.ref 168), some (.int p0), some (.int p1), some (.int p2)]) (j := 0) k_X6_size.1 rfl (fun _ => Nat.le_of_ble_eq_true rfl) ?_
  show TL_X6_size T 0 _ _ _
  rw [F_X6_size]
  refine tl_aload_n (pc := 0) (i := 0) dX6_size_0 rfl rfl ?_
  refine tl_iconst (pc := 1) (v := 0) dX6_size_1 (by decide) ?_
  refine tl_putI (pc := 2) fw_X6_62 hb.1 rfl dX6_size_2 ?_
  refine tl_aload_n (pc := 5) (i := 0) dX6_size_5 rfl rfl ?_
  refine tl_getR (pc := 6) (r := 169) fl_X6_7 hb.1 rfl dX6_size_6 ?_
  refine tl_iload_n (pc := 9) (i := 1) dX6_size_9 rfl rfl ?_
  refine tl_callSi (pc := 10) k_X6_isTable gw_934 (c_X6_isTable T _ _ _ hb.2.1) rfl rfl (Nat.le_of_ble_eq_true rfl) (Nat.le_of_ble_eq_true rfl) dX6_size_10 (fun x1 => ?_)
  refine tl_if_eq (pc := 13) (tgt := 43) dX6_size_13 rfl ?_ ?_
  · refine tl_aload_n (pc := 43) (i := 0) dX6_size_43 rfl rfl ?_
    refine tl_iconst (pc := 44) (v := 1) dX6_size_44 (by decide) ?_
    refine tl_callVi (pc := 45) k_X6_fails gw_908 hb.1 ⟨_, _, rfl⟩ (c_X6_fails T _ hb) rfl rfl (Nat.le_of_ble_eq_true rfl) (Nat.le_of_ble_eq_true rfl) dX6_size_45 (fun x2 => ?_)
    exact tl_iret (pc := 48) dX6_size_48
  · refine tl_iload_n (pc := 16) (i := 3) dX6_size_16 rfl rfl ?_
    refine tl_iconst (pc := 17) (v := 0) dX6_size_17 (by decide) ?_
    refine tl_aload_n (pc := 18) (i := 0) dX6_size_18 rfl rfl ?_
    refine tl_getR (pc := 19) (r := 169) fl_X6_7 hb.1 rfl dX6_size_19 ?_
    refine tl_iload_n (pc := 22) (i := 2) dX6_size_22 rfl rfl ?_
    refine tl_j (fun (k : Int32 → Dm Int32) => ∀ (x3 : Int32), TL_X6_size T 32 [some (.ref 168), some (.int p0), some (.int p1), some (.int p2)] [.int x3, .ref 169, .int (0 : Int32), .int p2] (k x3)) (fun x3 => ?_) (fun k1 hk1 => ?_)
    · refine tl_iload_n (pc := 32) (i := 1) dX6_size_32 rfl rfl ?_
      refine tl_iadd (pc := 33) dX6_size_33 ?_
      refine tl_iald (pc := 34) hb.2.1 dX6_size_34 (fun x4 => ?_)
      refine tl_iconst (pc := 35) (v := 1) dX6_size_35 (by decide) ?_
      refine tl_isub (pc := 36) dX6_size_36 ?_
      refine tl_callSi (pc := 37) k_X6_in gw_919 (c_X6_in T _ _ _) rfl rfl (Nat.le_of_ble_eq_true rfl) (Nat.le_of_ble_eq_true rfl) dX6_size_37 (fun x5 => ?_)
      refine tl_if_ne (pc := 40) (tgt := 49) dX6_size_40 rfl ?_ ?_
      · refine tl_aload_n (pc := 43) (i := 0) dX6_size_43 rfl rfl ?_
        refine tl_iconst (pc := 44) (v := 1) dX6_size_44 (by decide) ?_
        refine tl_callVi (pc := 45) k_X6_fails gw_908 hb.1 ⟨_, _, rfl⟩ (c_X6_fails T _ hb) rfl rfl (Nat.le_of_ble_eq_true rfl) (Nat.le_of_ble_eq_true rfl) dX6_size_45 (fun x8 => ?_)
        exact tl_iret (pc := 48) dX6_size_48
      · refine tl_aload_n (pc := 49) (i := 0) dX6_size_49 rfl rfl ?_
        refine tl_callVv (pc := 50) k_X6_laysNow gw_1024 hb.1 ⟨_, _, rfl⟩ (c_X6_laysNow T hb) rfl rfl (Nat.le_of_ble_eq_true rfl) (Nat.le_of_ble_eq_true rfl) dX6_size_50 (fun _ => ?_)
        refine tl_iload_n (pc := 53) (i := 2) dX6_size_53 rfl rfl ?_
        refine tl_if_eq (pc := 54) (tgt := 70) dX6_size_54 rfl ?_ ?_
        · refine tl_aload_n (pc := 70) (i := 0) dX6_size_70 rfl rfl ?_
          refine tl_getR (pc := 71) (r := 182) fl_X6_49 hb.1 rfl dX6_size_71 ?_
          refine tl_iconst (pc := 74) (v := 5) dX6_size_74 (by decide) ?_
          refine tl_iload_n (pc := 75) (i := 1) dX6_size_75 rfl rfl ?_
          refine tl_imul (pc := 76) dX6_size_76 ?_
          refine tl_iload_n (pc := 77) (i := 3) dX6_size_77 rfl rfl ?_
          refine tl_iadd (pc := 78) dX6_size_78 ?_
          refine tl_iald (pc := 79) hb.2.2.2.2.2.2.2.2.2.2.2.2.2.2.1 dX6_size_79 (fun x6 => ?_)
          exact tl_iret (pc := 80) dX6_size_80
        · refine tl_aload_n (pc := 57) (i := 0) dX6_size_57 rfl rfl ?_
          refine tl_getR (pc := 58) (r := 183) fl_X6_52 hb.1 rfl dX6_size_58 ?_
          refine tl_iconst (pc := 61) (v := 5) dX6_size_61 (by decide) ?_
          refine tl_iload_n (pc := 62) (i := 1) dX6_size_62 rfl rfl ?_
          refine tl_imul (pc := 63) dX6_size_63 ?_
          refine tl_iload_n (pc := 64) (i := 3) dX6_size_64 rfl rfl ?_
          refine tl_iadd (pc := 65) dX6_size_65 ?_
          refine tl_iald (pc := 66) hb.2.2.2.2.2.2.2.2.2.2.2.2.2.2.2.1 dX6_size_66 (fun x7 => ?_)
          refine tl_goto (pc := 67) (tgt := 80) dX6_size_67 rfl ?_
          exact tl_iret (pc := 80) dX6_size_80
    · refine tl_if_eq (pc := 23) (tgt := 30) dX6_size_23 rfl ?_ ?_
      · refine tl_bipush (pc := 30) (v := 7) dX6_size_30 (by decide) ?_
        exact tl_sub (hk1 _) (sub_s (sub_s (sub_s (sub_s sub_e))))
      · refine tl_iconst (pc := 26) (v := 2) dX6_size_26 (by decide) ?_
        refine tl_goto (pc := 27) (tgt := 32) dX6_size_27 rfl ?_
        exact tl_sub (hk1 _) (sub_s (sub_s (sub_s (sub_s sub_e))))
abbrev TL_X6_page (T : Tb) (pc : Nat) (lo : List (Option Value)) (st : List Value) (X : Dm Int32) : Prop := TL yX6_page cX6_page 2 (some .int) 8 iI T pc lo st X
set_option maxRecDepth 100000 in
theorem c_X6_page (T : Tb) (p0 : Int32) (hb : isMod T) : CT (.code yX6_page cX6_page 2 (some .int)) yX6_page 8 iI T [.ref 168, .int p0] (F_X6_page p0) := by
  refine ct_of (lo := [some (.ref 168), some (.int p0)]) (j := 0) k_X6_page.1 rfl (fun _ => Nat.le_of_ble_eq_true rfl) ?_
  show TL_X6_page T 0 _ _ _
  rw [F_X6_page]
  refine tl_aload_n (pc := 0) (i := 0) dX6_page_0 rfl rfl ?_
  refine tl_iconst (pc := 1) (v := 0) dX6_page_1 (by decide) ?_
  refine tl_putI (pc := 2) fw_X6_62 hb.1 rfl dX6_page_2 ?_
  refine tl_iload_n (pc := 5) (i := 1) dX6_page_5 rfl rfl ?_
  refine tl_iconst (pc := 6) (v := 0) dX6_page_6 (by decide) ?_
  refine tl_aload_n (pc := 7) (i := 0) dX6_page_7 rfl rfl ?_
  refine tl_getR (pc := 8) (r := 169) fl_X6_7 hb.1 rfl dX6_page_8 ?_
  refine tl_iconst (pc := 11) (v := 2) dX6_page_11 (by decide) ?_
  refine tl_iald (pc := 12) hb.2.1 dX6_page_12 (fun x1 => ?_)
  refine tl_iconst (pc := 13) (v := 1) dX6_page_13 (by decide) ?_
  refine tl_isub (pc := 14) dX6_page_14 ?_
  refine tl_callSi (pc := 15) k_X6_in gw_919 (c_X6_in T _ _ _) rfl rfl (Nat.le_of_ble_eq_true rfl) (Nat.le_of_ble_eq_true rfl) dX6_page_15 (fun x2 => ?_)
  refine tl_if_ne (pc := 18) (tgt := 27) dX6_page_18 rfl ?_ ?_
  · refine tl_aload_n (pc := 21) (i := 0) dX6_page_21 rfl rfl ?_
    refine tl_iconst (pc := 22) (v := 1) dX6_page_22 (by decide) ?_
    refine tl_callVi (pc := 23) k_X6_fails gw_908 hb.1 ⟨_, _, rfl⟩ (c_X6_fails T _ hb) rfl rfl (Nat.le_of_ble_eq_true rfl) (Nat.le_of_ble_eq_true rfl) dX6_page_23 (fun x6 => ?_)
    exact tl_iret (pc := 26) dX6_page_26
  · refine tl_aload_n (pc := 27) (i := 0) dX6_page_27 rfl rfl ?_
    refine tl_callVv (pc := 28) k_X6_laysNow gw_1024 hb.1 ⟨_, _, rfl⟩ (c_X6_laysNow T hb) rfl rfl (Nat.le_of_ble_eq_true rfl) (Nat.le_of_ble_eq_true rfl) dX6_page_28 (fun _ => ?_)
    refine tl_aload_n (pc := 31) (i := 0) dX6_page_31 rfl rfl ?_
    refine tl_aload_n (pc := 32) (i := 0) dX6_page_32 rfl rfl ?_
    refine tl_getR (pc := 33) (r := 169) fl_X6_7 hb.1 rfl dX6_page_33 ?_
    refine tl_aload_n (pc := 36) (i := 0) dX6_page_36 rfl rfl ?_
    refine tl_getR (pc := 37) (r := 169) fl_X6_7 hb.1 rfl dX6_page_37 ?_
    refine tl_iconst (pc := 40) (v := 1) dX6_page_40 (by decide) ?_
    refine tl_iald (pc := 41) hb.2.1 dX6_page_41 (fun x3 => ?_)
    refine tl_callVi (pc := 42) k_X6_laysPages gw_1127 hb.1 ⟨_, _, rfl⟩ (c_X6_laysPages T _ _ _ hb hb.2.1) rfl rfl (Nat.le_of_ble_eq_true rfl) (Nat.le_of_ble_eq_true rfl) dX6_page_42 (fun x4 => ?_)
    refine tl_pop (pc := 45) dX6_page_45 rfl ?_
    refine tl_aload_n (pc := 46) (i := 0) dX6_page_46 rfl rfl ?_
    refine tl_getR (pc := 47) (r := 184) fl_X6_55 hb.1 rfl dX6_page_47 ?_
    refine tl_iload_n (pc := 50) (i := 1) dX6_page_50 rfl rfl ?_
    refine tl_iald (pc := 51) hb.2.2.2.2.2.2.2.2.2.2.2.2.2.2.2.2 dX6_page_51 (fun x5 => ?_)
    exact tl_iret (pc := 52) dX6_page_52
abbrev TL_X6_cells (T : Tb) (pc : Nat) (lo : List (Option Value)) (st : List Value) (X : Dm Int32) : Prop := TL yX6_cells cX6_cells 4 (some .int) 2 iI T pc lo st X
set_option maxRecDepth 100000 in
theorem lp_X6_cells_4 (T : Tb) (p0 : Int32)  (hb : isMod T)    : ∀ (n : Nat) (x1 : Int32) (x2 : Int32), TL_X6_cells T 4 [some (.ref 168), some (.int p0), some (.int x1), some (.int x2)] [] (L_X6_cells_4 p0 n x1 x2 ) := by
  intro n
  induction n with
  | zero => intros; exact tl_fail
  | succ n ih =>
    intro x1 x2
    rw [L_X6_cells_4]
    refine tl_iload_n (pc := 4) (i := 3) dX6_cells_4 rfl rfl ?_
    refine tl_bipush (pc := 5) (v := 125) dX6_cells_5 (by decide) ?_
    refine tl_icmp_ge (pc := 7) (tgt := 53) dX6_cells_7 rfl ?_ ?_
    · refine tl_iload_n (pc := 53) (i := 2) dX6_cells_53 rfl rfl ?_
      exact tl_iret (pc := 54) dX6_cells_54
    · refine tl_iload_n (pc := 10) (i := 2) dX6_cells_10 rfl rfl ?_
      refine tl_aload_n (pc := 11) (i := 0) dX6_cells_11 rfl rfl ?_
      refine tl_getR (pc := 12) (r := 169) fl_X6_7 hb.1 rfl dX6_cells_12 ?_
      refine tl_iload_n (pc := 15) (i := 3) dX6_cells_15 rfl rfl ?_
      refine tl_callSi (pc := 16) k_X6_isCell gw_940 (c_X6_isCell T _ _ _ hb.2.1) rfl rfl (Nat.le_of_ble_eq_true rfl) (Nat.le_of_ble_eq_true rfl) dX6_cells_16 (fun x3 => ?_)
      refine tl_j (fun (k : Int32 → Dm Int32) => ∀ (x4 : Int32), TL_X6_cells T 45 [some (.ref 168), some (.int p0), none, some (.int x2)] [.int x4, .int x1] (k x4)) (fun x4 => ?_) (fun k1 hk1 => ?_)
      · refine tl_iadd (pc := 45) dX6_cells_45 ?_
        refine tl_bI (fun x5 => ?_)
        refine tl_istore_n (pc := 46) (i := 2) (lo' := [some (.ref 168), some (.int p0), some (.int x5), some (.int x2)]) dX6_cells_46 rfl (by decide) rfl ?_
        refine tl_iinc (pc := 47) (i := 3) (v := x2 + (1 : Int32)) (lo' := [some (.ref 168), some (.int p0), some (.int x5), some (.int (x2 + (1 : Int32)))]) dX6_cells_47 rfl rfl (by decide) rfl ?_
        refine tl_goto (pc := 50) (tgt := 4) dX6_cells_50 rfl ?_
        exact tl_sub (ih _ _) (sub_s (sub_s (sub_s (sub_s sub_e))))
      · refine tl_j (fun (k : Unit → Dm Int32) => ∀ (_ : Unit), TL_X6_cells T 44 [some (.ref 168), some (.int p0), none, some (.int x2)] [.int x1] (k ())) (fun _ => ?_) (fun k2 hk2 => ?_)
        · refine tl_iconst (pc := 44) (v := 0) dX6_cells_44 (by decide) ?_
          exact tl_sub (hk1 _) (sub_s (sub_s (sub_n (sub_s sub_e))))
        · refine tl_if_eq (pc := 19) (tgt := 44) dX6_cells_19 rfl ?_ ?_
          · exact tl_sub (hk2 ()) (sub_s (sub_s (sub_n (sub_s sub_e))))
          · refine tl_iload_n (pc := 22) (i := 1) dX6_cells_22 rfl rfl ?_
            refine tl_iconst (pc := 23) (v := -1) dX6_cells_23 (by decide) ?_
            refine tl_j (fun (k : Unit → Dm Int32) => ∀ (_ : Unit), TL_X6_cells T 40 [some (.ref 168), some (.int p0), none, some (.int x2)] [.int x1] (k ())) (fun _ => ?_) (fun k3 hk3 => ?_)
            · refine tl_iconst (pc := 40) (v := 1) dX6_cells_40 (by decide) ?_
              refine tl_goto (pc := 41) (tgt := 45) dX6_cells_41 rfl ?_
              exact tl_sub (hk1 _) (sub_s (sub_s (sub_n (sub_s sub_e))))
            · refine tl_icmp_eq (pc := 24) (tgt := 40) dX6_cells_24 rfl ?_ ?_
              · exact tl_sub (hk3 ()) (sub_s (sub_s (sub_n (sub_s sub_e))))
              · refine tl_aload_n (pc := 27) (i := 0) dX6_cells_27 rfl rfl ?_
                refine tl_getR (pc := 28) (r := 169) fl_X6_7 hb.1 rfl dX6_cells_28 ?_
                refine tl_bipush (pc := 31) (v := 12) dX6_cells_31 (by decide) ?_
                refine tl_iload_n (pc := 33) (i := 3) dX6_cells_33 rfl rfl ?_
                refine tl_iadd (pc := 34) dX6_cells_34 ?_
                refine tl_iald (pc := 35) hb.2.1 dX6_cells_35 (fun x6 => ?_)
                refine tl_iload_n (pc := 36) (i := 1) dX6_cells_36 rfl rfl ?_
                refine tl_icmp_ne (pc := 37) (tgt := 44) dX6_cells_37 rfl ?_ ?_
                · exact tl_sub (hk3 ()) (sub_s (sub_s (sub_n (sub_s sub_e))))
                · exact tl_sub (hk2 ()) (sub_s (sub_s (sub_n (sub_s sub_e))))
set_option maxRecDepth 100000 in
theorem c_X6_cells (T : Tb) (p0 : Int32) (hb : isMod T) : CT (.code yX6_cells cX6_cells 4 (some .int)) yX6_cells 2 iI T [.ref 168, .int p0] (F_X6_cells p0) := by
  refine ct_of (lo := [some (.ref 168), some (.int p0), none, none]) (j := 2) k_X6_cells.1 rfl (fun _ => Nat.le_of_ble_eq_true rfl) ?_
  show TL_X6_cells T 0 _ _ _
  rw [F_X6_cells]
  refine tl_iconst (pc := 0) (v := 0) dX6_cells_0 (by decide) ?_
  refine tl_istore_n (pc := 1) (i := 2) (lo' := [some (.ref 168), some (.int p0), some (.int (0 : Int32)), none]) dX6_cells_1 rfl (by decide) rfl ?_
  refine tl_iconst (pc := 2) (v := 0) dX6_cells_2 (by decide) ?_
  refine tl_istore_n (pc := 3) (i := 3) (lo' := [some (.ref 168), some (.int p0), some (.int (0 : Int32)), some (.int (0 : Int32))]) dX6_cells_3 rfl (by decide) rfl ?_
  refine tl_sub (lp_X6_cells_4 T p0 hb    FU _ _) (sub_s (sub_s (sub_s (sub_s sub_e))))
abbrev TL_X6_squares (T : Tb) (pc : Nat) (lo : List (Option Value)) (st : List Value) (X : Dm Int32) : Prop := TL yX6_squares cX6_squares 3 (some .int) 1 iI T pc lo st X
set_option maxRecDepth 100000 in
theorem lp_X6_squares_4 (T : Tb)   (hb : isMod T)    : ∀ (n : Nat) (x1 : Int32) (x2 : Int32), TL_X6_squares T 4 [some (.ref 168), some (.int x1), some (.int x2)] [] (L_X6_squares_4  n x1 x2 ) := by
  intro n
  induction n with
  | zero => intros; exact tl_fail
  | succ n ih =>
    intro x1 x2
    rw [L_X6_squares_4]
    refine tl_iload_n (pc := 4) (i := 2) dX6_squares_4 rfl rfl ?_
    refine tl_bipush (pc := 5) (v := 125) dX6_squares_5 (by decide) ?_
    refine tl_icmp_ge (pc := 7) (tgt := 35) dX6_squares_7 rfl ?_ ?_
    · refine tl_iload_n (pc := 35) (i := 1) dX6_squares_35 rfl rfl ?_
      exact tl_iret (pc := 36) dX6_squares_36
    · refine tl_iload_n (pc := 10) (i := 1) dX6_squares_10 rfl rfl ?_
      refine tl_aload_n (pc := 11) (i := 0) dX6_squares_11 rfl rfl ?_
      refine tl_getR (pc := 12) (r := 169) fl_X6_7 hb.1 rfl dX6_squares_12 ?_
      refine tl_iload_n (pc := 15) (i := 2) dX6_squares_15 rfl rfl ?_
      refine tl_callSi (pc := 16) k_X6_isOf gw_943 (c_X6_isOf T _ _ _ hb.2.1) rfl rfl (Nat.le_of_ble_eq_true rfl) (Nat.le_of_ble_eq_true rfl) dX6_squares_16 (fun x3 => ?_)
      refine tl_j (fun (k : Int32 → Dm Int32) => ∀ (x4 : Int32), TL_X6_squares T 27 [some (.ref 168), none, some (.int x2)] [.int x4, .int x1] (k x4)) (fun x4 => ?_) (fun k1 hk1 => ?_)
      · refine tl_iadd (pc := 27) dX6_squares_27 ?_
        refine tl_bI (fun x5 => ?_)
        refine tl_istore_n (pc := 28) (i := 1) (lo' := [some (.ref 168), some (.int x5), some (.int x2)]) dX6_squares_28 rfl (by decide) rfl ?_
        refine tl_iinc (pc := 29) (i := 2) (v := x2 + (1 : Int32)) (lo' := [some (.ref 168), some (.int x5), some (.int (x2 + (1 : Int32)))]) dX6_squares_29 rfl rfl (by decide) rfl ?_
        refine tl_goto (pc := 32) (tgt := 4) dX6_squares_32 rfl ?_
        exact tl_sub (ih _ _) (sub_s (sub_s (sub_s sub_e)))
      · refine tl_if_eq (pc := 19) (tgt := 26) dX6_squares_19 rfl ?_ ?_
        · refine tl_iconst (pc := 26) (v := 0) dX6_squares_26 (by decide) ?_
          exact tl_sub (hk1 _) (sub_s (sub_n (sub_s sub_e)))
        · refine tl_iconst (pc := 22) (v := 1) dX6_squares_22 (by decide) ?_
          refine tl_goto (pc := 23) (tgt := 27) dX6_squares_23 rfl ?_
          exact tl_sub (hk1 _) (sub_s (sub_n (sub_s sub_e)))
set_option maxRecDepth 100000 in
theorem c_X6_squares (T : Tb)  (hb : isMod T) : CT (.code yX6_squares cX6_squares 3 (some .int)) yX6_squares 1 iI T [.ref 168] (F_X6_squares) := by
  refine ct_of (lo := [some (.ref 168), none, none]) (j := 2) k_X6_squares.1 rfl (fun _ => Nat.le_of_ble_eq_true rfl) ?_
  show TL_X6_squares T 0 _ _ _
  rw [F_X6_squares]
  refine tl_iconst (pc := 0) (v := 0) dX6_squares_0 (by decide) ?_
  refine tl_istore_n (pc := 1) (i := 1) (lo' := [some (.ref 168), some (.int (0 : Int32)), none]) dX6_squares_1 rfl (by decide) rfl ?_
  refine tl_iconst (pc := 2) (v := 0) dX6_squares_2 (by decide) ?_
  refine tl_istore_n (pc := 3) (i := 2) (lo' := [some (.ref 168), some (.int (0 : Int32)), some (.int (0 : Int32))]) dX6_squares_3 rfl (by decide) rfl ?_
  refine tl_sub (lp_X6_squares_4 T  hb    FU _ _) (sub_s (sub_s (sub_s sub_e)))
abbrev TL_X6_edges (T : Tb) (pc : Nat) (lo : List (Option Value)) (st : List Value) (X : Dm Int32) : Prop := TL yX6_edges cX6_edges 5 (some .int) 3 iI T pc lo st X
set_option maxRecDepth 100000 in
theorem lp_X6_edges_4 (T : Tb)   (hb : isMod T)    : ∀ (n : Nat) (x1 : Int32) (x2 : Int32), TL_X6_edges T 4 [some (.ref 168), some (.int x1), some (.int x2), none, none] [] (L_X6_edges_4  n x1 x2 ) := by
  intro n
  induction n with
  | zero => intros; exact tl_fail
  | succ n ih =>
    intro x1 x2
    rw [L_X6_edges_4]
    refine tl_iload_n (pc := 4) (i := 2) dX6_edges_4 rfl rfl ?_
    refine tl_sipush (pc := 5) (v := 500) dX6_edges_5 (by decide) ?_
    refine tl_icmp_ge (pc := 8) (tgt := 96) dX6_edges_8 rfl ?_ ?_
    · refine tl_iload_n (pc := 96) (i := 1) dX6_edges_96 rfl rfl ?_
      exact tl_iret (pc := 97) dX6_edges_97
    · refine tl_iload_n (pc := 11) (i := 2) dX6_edges_11 rfl rfl ?_
      refine tl_iconst (pc := 12) (v := 4) dX6_edges_12 (by decide) ?_
      refine tl_idiv (pc := 13) dX6_edges_13 (by decide) ?_
      refine tl_bI (fun x3 => ?_)
      refine tl_istore_n (pc := 14) (i := 3) (lo' := [some (.ref 168), some (.int x1), some (.int x2), some (.int x3), none]) dX6_edges_14 rfl (by decide) rfl ?_
      refine tl_aload_n (pc := 15) (i := 0) dX6_edges_15 rfl rfl ?_
      refine tl_getR (pc := 16) (r := 169) fl_X6_7 hb.1 rfl dX6_edges_16 ?_
      refine tl_iload_n (pc := 19) (i := 3) dX6_edges_19 rfl rfl ?_
      refine tl_callSi (pc := 20) k_X6_isOf gw_943 (c_X6_isOf T _ _ _ hb.2.1) rfl rfl (Nat.le_of_ble_eq_true rfl) (Nat.le_of_ble_eq_true rfl) dX6_edges_20 (fun x4 => ?_)
      refine tl_j (fun (k : Int32 → Dm Int32) => ∀ (x5 : Int32), TL_X6_edges T 60 [some (.ref 168), some (.int x1), some (.int x2), some (.int x3), none] [.int x5] (k x5)) (fun x5 => ?_) (fun k1 hk1 => ?_)
      · refine tl_istore (pc := 60) (i := 4) (lo' := [some (.ref 168), some (.int x1), some (.int x2), some (.int x3), some (.int x5)]) dX6_edges_60 (by decide) rfl ?_
        refine tl_iload_n (pc := 62) (i := 1) dX6_edges_62 rfl rfl ?_
        refine tl_iload (pc := 63) (i := 4) dX6_edges_63 rfl ?_
        refine tl_j (fun (k : Int32 → Dm Int32) => ∀ (x6 : Int32), TL_X6_edges T 88 [some (.ref 168), none, some (.int x2), none, none] [.int x6, .int x1] (k x6)) (fun x6 => ?_) (fun k2 hk2 => ?_)
        · refine tl_iadd (pc := 88) dX6_edges_88 ?_
          refine tl_bI (fun x7 => ?_)
          refine tl_istore_n (pc := 89) (i := 1) (lo' := [some (.ref 168), some (.int x7), some (.int x2), none, none]) dX6_edges_89 rfl (by decide) rfl ?_
          refine tl_iinc (pc := 90) (i := 2) (v := x2 + (1 : Int32)) (lo' := [some (.ref 168), some (.int x7), some (.int (x2 + (1 : Int32))), none, none]) dX6_edges_90 rfl rfl (by decide) rfl ?_
          refine tl_goto (pc := 93) (tgt := 4) dX6_edges_93 rfl ?_
          exact tl_sub (ih _ _) (sub_s (sub_s (sub_s (sub_n (sub_n sub_e)))))
        · refine tl_j (fun (k : Unit → Dm Int32) => ∀ (_ : Unit), TL_X6_edges T 87 [some (.ref 168), none, some (.int x2), none, none] [.int x1] (k ())) (fun _ => ?_) (fun k3 hk3 => ?_)
          · refine tl_iconst (pc := 87) (v := 0) dX6_edges_87 (by decide) ?_
            exact tl_sub (hk2 _) (sub_s (sub_n (sub_s (sub_n (sub_n sub_e)))))
          · refine tl_if_eq (pc := 65) (tgt := 87) dX6_edges_65 rfl ?_ ?_
            · exact tl_sub (hk3 ()) (sub_s (sub_n (sub_s (sub_n (sub_n sub_e)))))
            · refine tl_aload_n (pc := 68) (i := 0) dX6_edges_68 rfl rfl ?_
              refine tl_aload_n (pc := 69) (i := 0) dX6_edges_69 rfl rfl ?_
              refine tl_getR (pc := 70) (r := 169) fl_X6_7 hb.1 rfl dX6_edges_70 ?_
              refine tl_iload_n (pc := 73) (i := 3) dX6_edges_73 rfl rfl ?_
              refine tl_iload_n (pc := 74) (i := 2) dX6_edges_74 rfl rfl ?_
              refine tl_iconst (pc := 75) (v := 4) dX6_edges_75 (by decide) ?_
              refine tl_irem (pc := 76) dX6_edges_76 (by decide) ?_
              refine tl_callVi (pc := 77) k_X6_edgeOf gw_1073 hb.1 ⟨_, _, rfl⟩ (c_X6_edgeOf T _ _ _ _ hb hb.2.1) rfl rfl (Nat.le_of_ble_eq_true rfl) (Nat.le_of_ble_eq_true rfl) dX6_edges_77 (fun x8 => ?_)
              refine tl_if_le (pc := 80) (tgt := 87) dX6_edges_80 rfl ?_ ?_
              · exact tl_sub (hk3 ()) (sub_s (sub_n (sub_s (sub_n (sub_n sub_e)))))
              · refine tl_iconst (pc := 83) (v := 1) dX6_edges_83 (by decide) ?_
                refine tl_goto (pc := 84) (tgt := 88) dX6_edges_84 rfl ?_
                exact tl_sub (hk2 _) (sub_s (sub_n (sub_s (sub_n (sub_n sub_e)))))
      · refine tl_j (fun (k : Unit → Dm Int32) => ∀ (_ : Unit), TL_X6_edges T 59 [some (.ref 168), some (.int x1), some (.int x2), some (.int x3), none] [] (k ())) (fun _ => ?_) (fun k4 hk4 => ?_)
        · refine tl_iconst (pc := 59) (v := 0) dX6_edges_59 (by decide) ?_
          exact tl_sub (hk1 _) (sub_s (sub_s (sub_s (sub_s (sub_n sub_e)))))
        · refine tl_if_eq (pc := 23) (tgt := 59) dX6_edges_23 rfl ?_ ?_
          · exact tl_sub (hk4 ()) (sub_s (sub_s (sub_s (sub_s (sub_n sub_e)))))
          · refine tl_iload_n (pc := 26) (i := 2) dX6_edges_26 rfl rfl ?_
            refine tl_iconst (pc := 27) (v := 4) dX6_edges_27 (by decide) ?_
            refine tl_irem (pc := 28) dX6_edges_28 (by decide) ?_
            refine tl_iconst (pc := 29) (v := 1) dX6_edges_29 (by decide) ?_
            refine tl_j (fun (k : Unit → Dm Int32) => ∀ (_ : Unit), TL_X6_edges T 55 [some (.ref 168), some (.int x1), some (.int x2), some (.int x3), none] [] (k ())) (fun _ => ?_) (fun k5 hk5 => ?_)
            · refine tl_iconst (pc := 55) (v := 1) dX6_edges_55 (by decide) ?_
              refine tl_goto (pc := 56) (tgt := 60) dX6_edges_56 rfl ?_
              exact tl_sub (hk1 _) (sub_s (sub_s (sub_s (sub_s (sub_n sub_e)))))
            · refine tl_icmp_eq (pc := 30) (tgt := 55) dX6_edges_30 rfl ?_ ?_
              · exact tl_sub (hk5 ()) (sub_s (sub_s (sub_s (sub_s (sub_n sub_e)))))
              · refine tl_iload_n (pc := 33) (i := 2) dX6_edges_33 rfl rfl ?_
                refine tl_iconst (pc := 34) (v := 4) dX6_edges_34 (by decide) ?_
                refine tl_irem (pc := 35) dX6_edges_35 (by decide) ?_
                refine tl_iconst (pc := 36) (v := 2) dX6_edges_36 (by decide) ?_
                refine tl_icmp_eq (pc := 37) (tgt := 55) dX6_edges_37 rfl ?_ ?_
                · exact tl_sub (hk5 ()) (sub_s (sub_s (sub_s (sub_s (sub_n sub_e)))))
                · refine tl_aload_n (pc := 40) (i := 0) dX6_edges_40 rfl rfl ?_
                  refine tl_getR (pc := 41) (r := 169) fl_X6_7 hb.1 rfl dX6_edges_41 ?_
                  refine tl_iload_n (pc := 44) (i := 3) dX6_edges_44 rfl rfl ?_
                  refine tl_iload_n (pc := 45) (i := 2) dX6_edges_45 rfl rfl ?_
                  refine tl_iconst (pc := 46) (v := 4) dX6_edges_46 (by decide) ?_
                  refine tl_irem (pc := 47) dX6_edges_47 (by decide) ?_
                  refine tl_callSi (pc := 48) k_X6_beside gw_1070 (c_X6_beside T _ _ _ _ hb.2.1) rfl rfl (Nat.le_of_ble_eq_true rfl) (Nat.le_of_ble_eq_true rfl) dX6_edges_48 (fun x9 => ?_)
                  refine tl_iconst (pc := 51) (v := -1) dX6_edges_51 (by decide) ?_
                  refine tl_icmp_ne (pc := 52) (tgt := 59) dX6_edges_52 rfl ?_ ?_
                  · exact tl_sub (hk5 ()) (sub_s (sub_s (sub_s (sub_s (sub_n sub_e)))))
                  · exact tl_sub (hk4 ()) (sub_s (sub_s (sub_s (sub_s (sub_n sub_e)))))
set_option maxRecDepth 100000 in
theorem c_X6_edges (T : Tb)  (hb : isMod T) : CT (.code yX6_edges cX6_edges 5 (some .int)) yX6_edges 3 iI T [.ref 168] (F_X6_edges) := by
  refine ct_of (lo := [some (.ref 168), none, none, none, none]) (j := 4) k_X6_edges.1 rfl (fun _ => Nat.le_of_ble_eq_true rfl) ?_
  show TL_X6_edges T 0 _ _ _
  rw [F_X6_edges]
  refine tl_iconst (pc := 0) (v := 0) dX6_edges_0 (by decide) ?_
  refine tl_istore_n (pc := 1) (i := 1) (lo' := [some (.ref 168), some (.int (0 : Int32)), none, none, none]) dX6_edges_1 rfl (by decide) rfl ?_
  refine tl_iconst (pc := 2) (v := 0) dX6_edges_2 (by decide) ?_
  refine tl_istore_n (pc := 3) (i := 2) (lo' := [some (.ref 168), some (.int (0 : Int32)), some (.int (0 : Int32)), none, none]) dX6_edges_3 rfl (by decide) rfl ?_
  refine tl_sub (lp_X6_edges_4 T  hb    FU _ _) (sub_s (sub_s (sub_s (sub_n (sub_n sub_e)))))
abbrev TL_X6_counted (T : Tb) (pc : Nat) (lo : List (Option Value)) (st : List Value) (X : Dm Int32) : Prop := TL yX6_counted cX6_counted 2 (some .int) 4 iI T pc lo st X
set_option maxRecDepth 100000 in
theorem c_X6_counted (T : Tb) (p0 : Int32) (hb : isMod T) : CT (.code yX6_counted cX6_counted 2 (some .int)) yX6_counted 4 iI T [.ref 168, .int p0] (F_X6_counted p0) := by
  refine ct_of (lo := [some (.ref 168), some (.int p0)]) (j := 0) k_X6_counted.1 rfl (fun _ => Nat.le_of_ble_eq_true rfl) ?_
  show TL_X6_counted T 0 _ _ _
  rw [F_X6_counted]
  refine tl_iload_n (pc := 0) (i := 1) dX6_counted_0 rfl rfl ?_
  refine tl_bipush (pc := 1) (v := 9) dX6_counted_1 (by decide) ?_
  refine tl_icmp_ge (pc := 3) (tgt := 36) dX6_counted_3 rfl ?_ ?_
  · refine tl_iload_n (pc := 36) (i := 1) dX6_counted_36 rfl rfl ?_
    refine tl_bipush (pc := 37) (v := 9) dX6_counted_37 (by decide) ?_
    refine tl_icmp_ne (pc := 39) (tgt := 59) dX6_counted_39 rfl ?_ ?_
    · refine tl_aload_n (pc := 42) (i := 0) dX6_counted_42 rfl rfl ?_
      refine tl_aload_n (pc := 43) (i := 0) dX6_counted_43 rfl rfl ?_
      refine tl_getR (pc := 44) (r := 169) fl_X6_7 hb.1 rfl dX6_counted_44 ?_
      refine tl_aload_n (pc := 47) (i := 0) dX6_counted_47 rfl rfl ?_
      refine tl_getR (pc := 48) (r := 169) fl_X6_7 hb.1 rfl dX6_counted_48 ?_
      refine tl_iconst (pc := 51) (v := 1) dX6_counted_51 (by decide) ?_
      refine tl_iald (pc := 52) hb.2.1 dX6_counted_52 (fun x5 => ?_)
      refine tl_callVi (pc := 53) k_X6_laysPages gw_1127 hb.1 ⟨_, _, rfl⟩ (c_X6_laysPages T _ _ _ hb hb.2.1) rfl rfl (Nat.le_of_ble_eq_true rfl) (Nat.le_of_ble_eq_true rfl) dX6_counted_53 (fun x6 => ?_)
      refine tl_goto (pc := 56) (tgt := 95) dX6_counted_56 rfl ?_
      exact tl_iret (pc := 95) dX6_counted_95
    · refine tl_iload_n (pc := 59) (i := 1) dX6_counted_59 rfl rfl ?_
      refine tl_bipush (pc := 60) (v := 10) dX6_counted_60 (by decide) ?_
      refine tl_icmp_ne (pc := 62) (tgt := 72) dX6_counted_62 rfl ?_ ?_
      · refine tl_aload_n (pc := 65) (i := 0) dX6_counted_65 rfl rfl ?_
        refine tl_callVi (pc := 66) k_X6_edges gw_1146 hb.1 ⟨_, _, rfl⟩ (c_X6_edges T hb) rfl rfl (Nat.le_of_ble_eq_true rfl) (Nat.le_of_ble_eq_true rfl) dX6_counted_66 (fun x4 => ?_)
        refine tl_goto (pc := 69) (tgt := 95) dX6_counted_69 rfl ?_
        exact tl_iret (pc := 95) dX6_counted_95
      · refine tl_iload_n (pc := 72) (i := 1) dX6_counted_72 rfl rfl ?_
        refine tl_bipush (pc := 73) (v := 11) dX6_counted_73 (by decide) ?_
        refine tl_icmp_ne (pc := 75) (tgt := 91) dX6_counted_75 rfl ?_ ?_
        · refine tl_aload_n (pc := 78) (i := 0) dX6_counted_78 rfl rfl ?_
          refine tl_callVi (pc := 79) k_X6_squares gw_1150 hb.1 ⟨_, _, rfl⟩ (c_X6_squares T hb) rfl rfl (Nat.le_of_ble_eq_true rfl) (Nat.le_of_ble_eq_true rfl) dX6_counted_79 (fun x2 => ?_)
          refine tl_aload_n (pc := 82) (i := 0) dX6_counted_82 rfl rfl ?_
          refine tl_iconst (pc := 83) (v := -1) dX6_counted_83 (by decide) ?_
          refine tl_callVi (pc := 84) k_X6_cells gw_1142 hb.1 ⟨_, _, rfl⟩ (c_X6_cells T _ hb) rfl rfl (Nat.le_of_ble_eq_true rfl) (Nat.le_of_ble_eq_true rfl) dX6_counted_84 (fun x3 => ?_)
          refine tl_isub (pc := 87) dX6_counted_87 ?_
          refine tl_goto (pc := 88) (tgt := 95) dX6_counted_88 rfl ?_
          exact tl_iret (pc := 95) dX6_counted_95
        · refine tl_aload_n (pc := 91) (i := 0) dX6_counted_91 rfl rfl ?_
          refine tl_getI (pc := 92) fl_X6_81 hb.1 rfl dX6_counted_92 (fun x1 => ?_)
          exact tl_iret (pc := 95) dX6_counted_95
  · refine tl_iload_n (pc := 6) (i := 1) dX6_counted_6 rfl rfl ?_
    refine tl_if_ne (pc := 7) (tgt := 19) dX6_counted_7 rfl ?_ ?_
    · refine tl_aload_n (pc := 10) (i := 0) dX6_counted_10 rfl rfl ?_
      refine tl_getR (pc := 11) (r := 169) fl_X6_7 hb.1 rfl dX6_counted_11 ?_
      refine tl_iconst (pc := 14) (v := 0) dX6_counted_14 (by decide) ?_
      refine tl_iald (pc := 15) hb.2.1 dX6_counted_15 (fun x9 => ?_)
      refine tl_goto (pc := 16) (tgt := 35) dX6_counted_16 rfl ?_
      exact tl_iret (pc := 35) dX6_counted_35
    · refine tl_aload_n (pc := 19) (i := 0) dX6_counted_19 rfl rfl ?_
      refine tl_iload_n (pc := 20) (i := 1) dX6_counted_20 rfl rfl ?_
      refine tl_iconst (pc := 21) (v := 1) dX6_counted_21 (by decide) ?_
      refine tl_j (fun (k : Int32 → Dm Int32) => ∀ (x7 : Int32), TL_X6_counted T 32 [none, none] [.int x7, .ref 168] (k x7)) (fun x7 => ?_) (fun k1 hk1 => ?_)
      · refine tl_callVi (pc := 32) k_X6_cells gw_1142 hb.1 ⟨_, _, rfl⟩ (c_X6_cells T _ hb) rfl rfl (Nat.le_of_ble_eq_true rfl) (Nat.le_of_ble_eq_true rfl) dX6_counted_32 (fun x8 => ?_)
        exact tl_iret (pc := 35) dX6_counted_35
      · refine tl_icmp_ne (pc := 22) (tgt := 29) dX6_counted_22 rfl ?_ ?_
        · refine tl_iconst (pc := 25) (v := -1) dX6_counted_25 (by decide) ?_
          refine tl_goto (pc := 26) (tgt := 32) dX6_counted_26 rfl ?_
          exact tl_sub (hk1 _) (sub_n (sub_n sub_e))
        · refine tl_iload_n (pc := 29) (i := 1) dX6_counted_29 rfl rfl ?_
          refine tl_iconst (pc := 30) (v := 2) dX6_counted_30 (by decide) ?_
          refine tl_isub (pc := 31) dX6_counted_31 ?_
          exact tl_sub (hk1 _) (sub_n (sub_n sub_e))
abbrev TL_X6_count (T : Tb) (pc : Nat) (lo : List (Option Value)) (st : List Value) (X : Dm Int32) : Prop := TL yX6_count cX6_count 2 (some .int) 8 iI T pc lo st X
set_option maxRecDepth 100000 in
theorem c_X6_count (T : Tb) (p0 : Int32) (hb : isMod T) : CT (.code yX6_count cX6_count 2 (some .int)) yX6_count 8 iI T [.ref 168, .int p0] (F_X6_count p0) := by
  refine ct_of (lo := [some (.ref 168), some (.int p0)]) (j := 0) k_X6_count.1 rfl (fun _ => Nat.le_of_ble_eq_true rfl) ?_
  show TL_X6_count T 0 _ _ _
  rw [F_X6_count]
  refine tl_aload_n (pc := 0) (i := 0) dX6_count_0 rfl rfl ?_
  refine tl_iconst (pc := 1) (v := 0) dX6_count_1 (by decide) ?_
  refine tl_putI (pc := 2) fw_X6_62 hb.1 rfl dX6_count_2 ?_
  refine tl_iload_n (pc := 5) (i := 1) dX6_count_5 rfl rfl ?_
  refine tl_iconst (pc := 6) (v := 0) dX6_count_6 (by decide) ?_
  refine tl_bipush (pc := 7) (v := 12) dX6_count_7 (by decide) ?_
  refine tl_callSi (pc := 9) k_X6_in gw_919 (c_X6_in T _ _ _) rfl rfl (Nat.le_of_ble_eq_true rfl) (Nat.le_of_ble_eq_true rfl) dX6_count_9 (fun x1 => ?_)
  refine tl_if_ne (pc := 12) (tgt := 21) dX6_count_12 rfl ?_ ?_
  · refine tl_aload_n (pc := 15) (i := 0) dX6_count_15 rfl rfl ?_
    refine tl_iconst (pc := 16) (v := 1) dX6_count_16 (by decide) ?_
    refine tl_callVi (pc := 17) k_X6_fails gw_908 hb.1 ⟨_, _, rfl⟩ (c_X6_fails T _ hb) rfl rfl (Nat.le_of_ble_eq_true rfl) (Nat.le_of_ble_eq_true rfl) dX6_count_17 (fun x3 => ?_)
    exact tl_iret (pc := 20) dX6_count_20
  · refine tl_aload_n (pc := 21) (i := 0) dX6_count_21 rfl rfl ?_
    refine tl_callVv (pc := 22) k_X6_laysNow gw_1024 hb.1 ⟨_, _, rfl⟩ (c_X6_laysNow T hb) rfl rfl (Nat.le_of_ble_eq_true rfl) (Nat.le_of_ble_eq_true rfl) dX6_count_22 (fun _ => ?_)
    refine tl_aload_n (pc := 25) (i := 0) dX6_count_25 rfl rfl ?_
    refine tl_iload_n (pc := 26) (i := 1) dX6_count_26 rfl rfl ?_
    refine tl_callVi (pc := 27) k_X6_counted gw_1138 hb.1 ⟨_, _, rfl⟩ (c_X6_counted T _ hb) rfl rfl (Nat.le_of_ble_eq_true rfl) (Nat.le_of_ble_eq_true rfl) dX6_count_27 (fun x2 => ?_)
    exact tl_iret (pc := 30) dX6_count_30
abbrev TL_X6_byPutting (T : Tb) (pc : Nat) (lo : List (Option Value)) (st : List Value) (X : Dm Int32) : Prop := TL yX6_byPutting cX6_byPutting 6 (some .int) 8 iI T pc lo st X
set_option maxRecDepth 100000 in
theorem lp_X6_byPutting_33 (T : Tb) (p0 : Int32) (p1 : Int32) (p2 : Int32)  (hb : isMod T)  (k1 : Unit → Dm Int32) (hk1 : ∀ (_ : Unit), TL_X6_byPutting T 76 [some (.ref 168), some (.int p0), some (.int p1), some (.int p2), none, none] [] (k1 ())) : ∀ (n : Nat) (x3 : Int32), TL_X6_byPutting T 33 [some (.ref 168), some (.int p0), some (.int p1), some (.int p2), some (.int x3), none] [] (L_X6_byPutting_33  n x3 k1) := by
  intro n
  induction n with
  | zero => intros; exact tl_fail
  | succ n ih =>
    intro x3
    rw [L_X6_byPutting_33]
    refine tl_iload (pc := 33) (i := 4) dX6_byPutting_33 rfl ?_
    refine tl_bipush (pc := 35) (v := 125) dX6_byPutting_35 (by decide) ?_
    refine tl_icmp_ge (pc := 37) (tgt := 76) dX6_byPutting_37 rfl ?_ ?_
    · exact tl_sub (hk1 ()) (sub_s (sub_s (sub_s (sub_s (sub_n (sub_n sub_e))))))
    · refine tl_aload_n (pc := 40) (i := 0) dX6_byPutting_40 rfl rfl ?_
      refine tl_getR (pc := 41) (r := 180) fl_X6_43 hb.1 rfl dX6_byPutting_41 ?_
      refine tl_iload (pc := 44) (i := 4) dX6_byPutting_44 rfl ?_
      refine tl_aload_n (pc := 46) (i := 0) dX6_byPutting_46 rfl rfl ?_
      refine tl_getR (pc := 47) (r := 169) fl_X6_7 hb.1 rfl dX6_byPutting_47 ?_
      refine tl_iload (pc := 50) (i := 4) dX6_byPutting_50 rfl ?_
      refine tl_callSi (pc := 52) k_X6_isCell gw_940 (c_X6_isCell T _ _ _ hb.2.1) rfl rfl (Nat.le_of_ble_eq_true rfl) (Nat.le_of_ble_eq_true rfl) dX6_byPutting_52 (fun x4 => ?_)
      refine tl_j (fun (k : Int32 → Dm Int32) => ∀ (x5 : Int32), TL_X6_byPutting T 69 [some (.ref 168), some (.int p0), some (.int p1), some (.int p2), some (.int x3), none] [.int x5, .int x3, .ref 180] (k x5)) (fun x5 => ?_) (fun k2 hk2 => ?_)
      · refine tl_iast (pc := 69) hb.2.2.2.2.2.2.2.2.2.2.2.2.1 dX6_byPutting_69 ?_
        refine tl_iinc (pc := 70) (i := 4) (v := x3 + (1 : Int32)) (lo' := [some (.ref 168), some (.int p0), some (.int p1), some (.int p2), some (.int (x3 + (1 : Int32))), none]) dX6_byPutting_70 rfl rfl (by decide) rfl ?_
        refine tl_goto (pc := 73) (tgt := 33) dX6_byPutting_73 rfl ?_
        exact tl_sub (ih _) (sub_s (sub_s (sub_s (sub_s (sub_s (sub_n sub_e))))))
      · refine tl_if_eq (pc := 55) (tgt := 68) dX6_byPutting_55 rfl ?_ ?_
        · refine tl_iconst (pc := 68) (v := 0) dX6_byPutting_68 (by decide) ?_
          exact tl_sub (hk2 _) (sub_s (sub_s (sub_s (sub_s (sub_s (sub_n sub_e))))))
        · refine tl_aload_n (pc := 58) (i := 0) dX6_byPutting_58 rfl rfl ?_
          refine tl_getR (pc := 59) (r := 179) fl_X6_40 hb.1 rfl dX6_byPutting_59 ?_
          refine tl_iload (pc := 62) (i := 4) dX6_byPutting_62 rfl ?_
          refine tl_iald (pc := 64) hb.2.2.2.2.2.2.2.2.2.2.2.1 dX6_byPutting_64 (fun x6 => ?_)
          refine tl_goto (pc := 65) (tgt := 69) dX6_byPutting_65 rfl ?_
          exact tl_sub (hk2 _) (sub_s (sub_s (sub_s (sub_s (sub_s (sub_n sub_e))))))
set_option maxRecDepth 100000 in
theorem lp_X6_byPutting_114 (T : Tb) (p0 : Int32) (p1 : Int32) (p2 : Int32)  (hb : isMod T)  (k3 : Int32 → Dm Int32) (hk3 : ∀ (y114_0 : Int32), TL_X6_byPutting T 178 [some (.ref 168), none, none, some (.int p2), some (.int y114_0), none] [] (k3 y114_0)) : ∀ (n : Nat) (x8 : Int32) (x9 : Int32), TL_X6_byPutting T 114 [some (.ref 168), none, none, some (.int p2), some (.int x8), some (.int x9)] [] (L_X6_byPutting_114  n x8 x9 k3) := by
  intro n
  induction n with
  | zero => intros; exact tl_fail
  | succ n ih =>
    intro x8 x9
    rw [L_X6_byPutting_114]
    refine tl_iload (pc := 114) (i := 5) dX6_byPutting_114 rfl ?_
    refine tl_bipush (pc := 116) (v := 125) dX6_byPutting_116 (by decide) ?_
    refine tl_icmp_ge (pc := 118) (tgt := 178) dX6_byPutting_118 rfl ?_ ?_
    · exact tl_sub (hk3 _) (sub_s (sub_n (sub_n (sub_s (sub_s (sub_n sub_e))))))
    · refine tl_iload (pc := 121) (i := 4) dX6_byPutting_121 rfl ?_
      refine tl_aload_n (pc := 123) (i := 0) dX6_byPutting_123 rfl rfl ?_
      refine tl_getR (pc := 124) (r := 170) fl_X6_13 hb.1 rfl dX6_byPutting_124 ?_
      refine tl_iload (pc := 127) (i := 5) dX6_byPutting_127 rfl ?_
      refine tl_callSi (pc := 129) k_X6_isCell gw_940 (c_X6_isCell T _ _ _ hb.2.2.1) rfl rfl (Nat.le_of_ble_eq_true rfl) (Nat.le_of_ble_eq_true rfl) dX6_byPutting_129 (fun x10 => ?_)
      refine tl_j (fun (k : Int32 → Dm Int32) => ∀ (x11 : Int32), TL_X6_byPutting T 169 [some (.ref 168), none, none, some (.int p2), none, some (.int x9)] [.int x11, .int x8] (k x11)) (fun x11 => ?_) (fun k4 hk4 => ?_)
      · refine tl_iadd (pc := 169) dX6_byPutting_169 ?_
        refine tl_bI (fun x12 => ?_)
        refine tl_istore (pc := 170) (i := 4) (lo' := [some (.ref 168), none, none, some (.int p2), some (.int x12), some (.int x9)]) dX6_byPutting_170 (by decide) rfl ?_
        refine tl_iinc (pc := 172) (i := 5) (v := x9 + (1 : Int32)) (lo' := [some (.ref 168), none, none, some (.int p2), some (.int x12), some (.int (x9 + (1 : Int32)))]) dX6_byPutting_172 rfl rfl (by decide) rfl ?_
        refine tl_goto (pc := 175) (tgt := 114) dX6_byPutting_175 rfl ?_
        exact tl_sub (ih _ _) (sub_s (sub_n (sub_n (sub_s (sub_s (sub_s sub_e))))))
      · refine tl_j (fun (k : Unit → Dm Int32) => ∀ (_ : Unit), TL_X6_byPutting T 168 [some (.ref 168), none, none, some (.int p2), none, some (.int x9)] [.int x8] (k ())) (fun _ => ?_) (fun k5 hk5 => ?_)
        · refine tl_iconst (pc := 168) (v := 0) dX6_byPutting_168 (by decide) ?_
          exact tl_sub (hk4 _) (sub_s (sub_n (sub_n (sub_s (sub_n (sub_s sub_e))))))
        · refine tl_if_eq (pc := 132) (tgt := 168) dX6_byPutting_132 rfl ?_ ?_
          · exact tl_sub (hk5 ()) (sub_s (sub_n (sub_n (sub_s (sub_n (sub_s sub_e))))))
          · refine tl_aload_n (pc := 135) (i := 0) dX6_byPutting_135 rfl rfl ?_
            refine tl_getR (pc := 136) (r := 170) fl_X6_13 hb.1 rfl dX6_byPutting_136 ?_
            refine tl_iload (pc := 139) (i := 5) dX6_byPutting_139 rfl ?_
            refine tl_callSi (pc := 141) k_X6_isSum gw_1040 (c_X6_isSum T _ _ _ hb.2.2.1) rfl rfl (Nat.le_of_ble_eq_true rfl) (Nat.le_of_ble_eq_true rfl) dX6_byPutting_141 (fun x13 => ?_)
            refine tl_if_eq (pc := 144) (tgt := 168) dX6_byPutting_144 rfl ?_ ?_
            · exact tl_sub (hk5 ()) (sub_s (sub_n (sub_n (sub_s (sub_n (sub_s sub_e))))))
            · refine tl_aload_n (pc := 147) (i := 0) dX6_byPutting_147 rfl rfl ?_
              refine tl_getR (pc := 148) (r := 179) fl_X6_40 hb.1 rfl dX6_byPutting_148 ?_
              refine tl_iload (pc := 151) (i := 5) dX6_byPutting_151 rfl ?_
              refine tl_iald (pc := 153) hb.2.2.2.2.2.2.2.2.2.2.2.1 dX6_byPutting_153 (fun x14 => ?_)
              refine tl_aload_n (pc := 154) (i := 0) dX6_byPutting_154 rfl rfl ?_
              refine tl_getR (pc := 155) (r := 180) fl_X6_43 hb.1 rfl dX6_byPutting_155 ?_
              refine tl_iload (pc := 158) (i := 5) dX6_byPutting_158 rfl ?_
              refine tl_iald (pc := 160) hb.2.2.2.2.2.2.2.2.2.2.2.2.1 dX6_byPutting_160 (fun x15 => ?_)
              refine tl_icmp_eq (pc := 161) (tgt := 168) dX6_byPutting_161 rfl ?_ ?_
              · exact tl_sub (hk5 ()) (sub_s (sub_n (sub_n (sub_s (sub_n (sub_s sub_e))))))
              · refine tl_iconst (pc := 164) (v := 1) dX6_byPutting_164 (by decide) ?_
                refine tl_goto (pc := 165) (tgt := 169) dX6_byPutting_165 rfl ?_
                exact tl_sub (hk4 _) (sub_s (sub_n (sub_n (sub_s (sub_n (sub_s sub_e))))))
set_option maxRecDepth 100000 in
theorem c_X6_byPutting (T : Tb) (p0 : Int32) (p1 : Int32) (p2 : Int32) (hb : isMod T) : CT (.code yX6_byPutting cX6_byPutting 6 (some .int)) yX6_byPutting 8 iI T [.ref 168, .int p0, .int p1, .int p2] (F_X6_byPutting p0 p1 p2) := by
  refine ct_of (lo := [some (.ref 168), some (.int p0), some (.int p1), some (.int p2), none, none]) (j := 2) k_X6_byPutting.1 rfl (fun _ => Nat.le_of_ble_eq_true rfl) ?_
  show TL_X6_byPutting T 0 _ _ _
  rw [F_X6_byPutting]
  refine tl_aload_n (pc := 0) (i := 0) dX6_byPutting_0 rfl rfl ?_
  refine tl_getR (pc := 1) (r := 169) fl_X6_7 hb.1 rfl dX6_byPutting_1 ?_
  refine tl_iload_n (pc := 4) (i := 1) dX6_byPutting_4 rfl rfl ?_
  refine tl_callSi (pc := 5) k_X6_isCell gw_940 (c_X6_isCell T _ _ _ hb.2.1) rfl rfl (Nat.le_of_ble_eq_true rfl) (Nat.le_of_ble_eq_true rfl) dX6_byPutting_5 (fun x1 => ?_)
  refine tl_if_eq (pc := 8) (tgt := 24) dX6_byPutting_8 rfl ?_ ?_
  · refine tl_iconst (pc := 24) (v := -1) dX6_byPutting_24 (by decide) ?_
    exact tl_iret (pc := 25) dX6_byPutting_25
  · refine tl_aload_n (pc := 11) (i := 0) dX6_byPutting_11 rfl rfl ?_
    refine tl_getR (pc := 12) (r := 169) fl_X6_7 hb.1 rfl dX6_byPutting_12 ?_
    refine tl_bipush (pc := 15) (v := 12) dX6_byPutting_15 (by decide) ?_
    refine tl_iload_n (pc := 17) (i := 1) dX6_byPutting_17 rfl rfl ?_
    refine tl_iadd (pc := 18) dX6_byPutting_18 ?_
    refine tl_iald (pc := 19) hb.2.1 dX6_byPutting_19 (fun x2 => ?_)
    refine tl_iconst (pc := 20) (v := 3) dX6_byPutting_20 (by decide) ?_
    refine tl_icmp_ne (pc := 21) (tgt := 26) dX6_byPutting_21 rfl ?_ ?_
    · refine tl_iconst (pc := 24) (v := -1) dX6_byPutting_24 (by decide) ?_
      exact tl_iret (pc := 25) dX6_byPutting_25
    · refine tl_aload_n (pc := 26) (i := 0) dX6_byPutting_26 rfl rfl ?_
      refine tl_callVv (pc := 27) k_X6_laysNow gw_1024 hb.1 ⟨_, _, rfl⟩ (c_X6_laysNow T hb) rfl rfl (Nat.le_of_ble_eq_true rfl) (Nat.le_of_ble_eq_true rfl) dX6_byPutting_27 (fun _ => ?_)
      refine tl_iconst (pc := 30) (v := 0) dX6_byPutting_30 (by decide) ?_
      refine tl_istore (pc := 31) (i := 4) (lo' := [some (.ref 168), some (.int p0), some (.int p1), some (.int p2), some (.int (0 : Int32)), none]) dX6_byPutting_31 (by decide) rfl ?_
      refine tl_sub (lp_X6_byPutting_33 T p0 p1 p2 hb  _ (fun _ => ?_) FU _) (sub_s (sub_s (sub_s (sub_s (sub_s (sub_n sub_e))))))
      refine tl_aload_n (pc := 76) (i := 0) dX6_byPutting_76 rfl rfl ?_
      refine tl_getR (pc := 77) (r := 169) fl_X6_7 hb.1 rfl dX6_byPutting_77 ?_
      refine tl_iconst (pc := 80) (v := 0) dX6_byPutting_80 (by decide) ?_
      refine tl_aload_n (pc := 81) (i := 0) dX6_byPutting_81 rfl rfl ?_
      refine tl_getR (pc := 82) (r := 170) fl_X6_13 hb.1 rfl dX6_byPutting_82 ?_
      refine tl_iconst (pc := 85) (v := 0) dX6_byPutting_85 (by decide) ?_
      refine tl_callSv (pc := 86) k_X6_copies gw_912 (c_X6_copies T _ _ _ _ _ _ hb.2.1 hb.2.2.1) rfl rfl (Nat.le_of_ble_eq_true rfl) (Nat.le_of_ble_eq_true rfl) dX6_byPutting_86 (fun _ => ?_)
      refine tl_aload_n (pc := 89) (i := 0) dX6_byPutting_89 rfl rfl ?_
      refine tl_getR (pc := 90) (r := 170) fl_X6_13 hb.1 rfl dX6_byPutting_90 ?_
      refine tl_iload_n (pc := 93) (i := 1) dX6_byPutting_93 rfl rfl ?_
      refine tl_iconst (pc := 94) (v := 1) dX6_byPutting_94 (by decide) ?_
      refine tl_iload_n (pc := 95) (i := 2) dX6_byPutting_95 rfl rfl ?_
      refine tl_callSi (pc := 96) k_X6_puts gw_957 (c_X6_puts T _ _ _ _ _ hb.2.2.1) rfl rfl (Nat.le_of_ble_eq_true rfl) (Nat.le_of_ble_eq_true rfl) dX6_byPutting_96 (fun x7 => ?_)
      refine tl_pop (pc := 99) dX6_byPutting_99 rfl ?_
      refine tl_aload_n (pc := 100) (i := 0) dX6_byPutting_100 rfl rfl ?_
      refine tl_aload_n (pc := 101) (i := 0) dX6_byPutting_101 rfl rfl ?_
      refine tl_getR (pc := 102) (r := 170) fl_X6_13 hb.1 rfl dX6_byPutting_102 ?_
      refine tl_callVv (pc := 105) k_X6_lays gw_1028 hb.1 ⟨_, _, rfl⟩ (c_X6_lays T _ _ hb hb.2.2.1) rfl rfl (Nat.le_of_ble_eq_true rfl) (Nat.le_of_ble_eq_true rfl) dX6_byPutting_105 (fun _ => ?_)
      refine tl_iconst (pc := 108) (v := 0) dX6_byPutting_108 (by decide) ?_
      refine tl_istore (pc := 109) (i := 4) (lo' := [some (.ref 168), some (.int p0), some (.int p1), some (.int p2), some (.int (0 : Int32)), none]) dX6_byPutting_109 (by decide) rfl ?_
      refine tl_iconst (pc := 111) (v := 0) dX6_byPutting_111 (by decide) ?_
      refine tl_istore (pc := 112) (i := 5) (lo' := [some (.ref 168), some (.int p0), some (.int p1), some (.int p2), some (.int (0 : Int32)), some (.int (0 : Int32))]) dX6_byPutting_112 (by decide) rfl ?_
      refine tl_sub (lp_X6_byPutting_114 T p0 p1 p2 hb  _ (fun x16 => ?_) FU _ _) (sub_s (sub_n (sub_n (sub_s (sub_s (sub_s sub_e))))))
      refine tl_iload_n (pc := 178) (i := 3) dX6_byPutting_178 rfl rfl ?_
      refine tl_j (fun (k : Int32 → Dm Int32) => ∀ (x17 : Int32), TL_X6_byPutting T 207 [some (.ref 168), none, none, none, none, none] [.int x17] (k x17)) (fun x17 => ?_) (fun k6 hk6 => ?_)
      · refine tl_istore (pc := 207) (i := 5) (lo' := [some (.ref 168), none, none, none, none, some (.int x17)]) dX6_byPutting_207 (by decide) rfl ?_
        refine tl_aload_n (pc := 209) (i := 0) dX6_byPutting_209 rfl rfl ?_
        refine tl_aload_n (pc := 210) (i := 0) dX6_byPutting_210 rfl rfl ?_
        refine tl_getR (pc := 211) (r := 169) fl_X6_7 hb.1 rfl dX6_byPutting_211 ?_
        refine tl_callVv (pc := 214) k_X6_lays gw_1028 hb.1 ⟨_, _, rfl⟩ (c_X6_lays T _ _ hb hb.2.1) rfl rfl (Nat.le_of_ble_eq_true rfl) (Nat.le_of_ble_eq_true rfl) dX6_byPutting_214 (fun _ => ?_)
        refine tl_iload (pc := 217) (i := 5) dX6_byPutting_217 rfl ?_
        exact tl_iret (pc := 219) dX6_byPutting_219
      · refine tl_if_ne (pc := 179) (tgt := 191) dX6_byPutting_179 rfl ?_ ?_
        · refine tl_aload_n (pc := 182) (i := 0) dX6_byPutting_182 rfl rfl ?_
          refine tl_getR (pc := 183) (r := 174) fl_X6_25 hb.1 rfl dX6_byPutting_183 ?_
          refine tl_iconst (pc := 186) (v := 0) dX6_byPutting_186 (by decide) ?_
          refine tl_iald (pc := 187) hb.2.2.2.2.2.2.1 dX6_byPutting_187 (fun x19 => ?_)
          refine tl_goto (pc := 188) (tgt := 207) dX6_byPutting_188 rfl ?_
          exact tl_sub (hk6 _) (sub_s (sub_n (sub_n (sub_n (sub_n (sub_n sub_e))))))
        · refine tl_iload_n (pc := 191) (i := 3) dX6_byPutting_191 rfl rfl ?_
          refine tl_iconst (pc := 192) (v := 1) dX6_byPutting_192 (by decide) ?_
          refine tl_icmp_ne (pc := 193) (tgt := 201) dX6_byPutting_193 rfl ?_ ?_
          · refine tl_iload (pc := 196) (i := 4) dX6_byPutting_196 rfl ?_
            refine tl_goto (pc := 198) (tgt := 207) dX6_byPutting_198 rfl ?_
            exact tl_sub (hk6 _) (sub_s (sub_n (sub_n (sub_n (sub_n (sub_n sub_e))))))
          · refine tl_aload_n (pc := 201) (i := 0) dX6_byPutting_201 rfl rfl ?_
            refine tl_getR (pc := 202) (r := 175) fl_X6_28 hb.1 rfl dX6_byPutting_202 ?_
            refine tl_iconst (pc := 205) (v := 0) dX6_byPutting_205 (by decide) ?_
            refine tl_iald (pc := 206) hb.2.2.2.2.2.2.2.1 dX6_byPutting_206 (fun x18 => ?_)
            exact tl_sub (hk6 _) (sub_s (sub_n (sub_n (sub_n (sub_n (sub_n sub_e))))))
abbrev TL_X6_ifPut (T : Tb) (pc : Nat) (lo : List (Option Value)) (st : List Value) (X : Dm Int32) : Prop := TL yX6_ifPut cX6_ifPut 6 (some .int) 9 iI T pc lo st X
set_option maxRecDepth 100000 in
theorem c_X6_ifPut (T : Tb) (p0 : Int32) (p1 : Int32) (p2 : Int32) (p3 : Int32) (p4 : Int32) (hb : isMod T) : CT (.code yX6_ifPut cX6_ifPut 6 (some .int)) yX6_ifPut 9 iI T [.ref 168, .int p0, .int p1, .int p2, .int p3, .int p4] (F_X6_ifPut p0 p1 p2 p3 p4) := by
  refine ct_of (lo := [some (.ref 168), some (.int p0), some (.int p1), some (.int p2), some (.int p3), some (.int p4)]) (j := 0) k_X6_ifPut.1 rfl (fun _ => Nat.le_of_ble_eq_true rfl) ?_
  show TL_X6_ifPut T 0 _ _ _
  rw [F_X6_ifPut]
  refine tl_aload_n (pc := 0) (i := 0) dX6_ifPut_0 rfl rfl ?_
  refine tl_iconst (pc := 1) (v := 0) dX6_ifPut_1 (by decide) ?_
  refine tl_putI (pc := 2) fw_X6_62 hb.1 rfl dX6_ifPut_2 ?_
  refine tl_aload_n (pc := 5) (i := 0) dX6_ifPut_5 rfl rfl ?_
  refine tl_iload_n (pc := 6) (i := 1) dX6_ifPut_6 rfl rfl ?_
  refine tl_iload_n (pc := 7) (i := 2) dX6_ifPut_7 rfl rfl ?_
  refine tl_iload_n (pc := 8) (i := 3) dX6_ifPut_8 rfl rfl ?_
  refine tl_callVi (pc := 9) k_X6_isSquare gw_930 hb.1 ⟨_, _, rfl⟩ (c_X6_isSquare T _ _ _ hb) rfl rfl (Nat.le_of_ble_eq_true rfl) (Nat.le_of_ble_eq_true rfl) dX6_ifPut_9 (fun x1 => ?_)
  refine tl_if_ne (pc := 12) (tgt := 21) dX6_ifPut_12 rfl ?_ ?_
  · refine tl_aload_n (pc := 15) (i := 0) dX6_ifPut_15 rfl rfl ?_
    refine tl_iconst (pc := 16) (v := 1) dX6_ifPut_16 (by decide) ?_
    refine tl_callVi (pc := 17) k_X6_fails gw_908 hb.1 ⟨_, _, rfl⟩ (c_X6_fails T _ hb) rfl rfl (Nat.le_of_ble_eq_true rfl) (Nat.le_of_ble_eq_true rfl) dX6_ifPut_17 (fun x7 => ?_)
    exact tl_iret (pc := 20) dX6_ifPut_20
  · refine tl_iload (pc := 21) (i := 4) dX6_ifPut_21 rfl ?_
    refine tl_sipush (pc := 23) (v := -999) dX6_ifPut_23 (by decide) ?_
    refine tl_sipush (pc := 26) (v := 999) dX6_ifPut_26 (by decide) ?_
    refine tl_callSi (pc := 29) k_X6_in gw_919 (c_X6_in T _ _ _) rfl rfl (Nat.le_of_ble_eq_true rfl) (Nat.le_of_ble_eq_true rfl) dX6_ifPut_29 (fun x2 => ?_)
    refine tl_j (fun (k : Unit → Dm Int32) => ∀ (_ : Unit), TL_X6_ifPut T 62 [some (.ref 168), none, none, none, none, none] [] (k ())) (fun _ => ?_) (fun k1 hk1 => ?_)
    · refine tl_aload_n (pc := 62) (i := 0) dX6_ifPut_62 rfl rfl ?_
      refine tl_iconst (pc := 63) (v := 2) dX6_ifPut_63 (by decide) ?_
      refine tl_callVi (pc := 64) k_X6_fails gw_908 hb.1 ⟨_, _, rfl⟩ (c_X6_fails T _ hb) rfl rfl (Nat.le_of_ble_eq_true rfl) (Nat.le_of_ble_eq_true rfl) dX6_ifPut_64 (fun x3 => ?_)
      exact tl_iret (pc := 67) dX6_ifPut_67
    · refine tl_if_eq (pc := 32) (tgt := 62) dX6_ifPut_32 rfl ?_ ?_
      · exact tl_sub (hk1 ()) (sub_s (sub_n (sub_n (sub_n (sub_n (sub_n sub_e))))))
      · refine tl_iload (pc := 35) (i := 5) dX6_ifPut_35 rfl ?_
        refine tl_iconst (pc := 37) (v := 0) dX6_ifPut_37 (by decide) ?_
        refine tl_iconst (pc := 38) (v := 2) dX6_ifPut_38 (by decide) ?_
        refine tl_callSi (pc := 39) k_X6_in gw_919 (c_X6_in T _ _ _) rfl rfl (Nat.le_of_ble_eq_true rfl) (Nat.le_of_ble_eq_true rfl) dX6_ifPut_39 (fun x4 => ?_)
        refine tl_if_eq (pc := 42) (tgt := 62) dX6_ifPut_42 rfl ?_ ?_
        · exact tl_sub (hk1 ()) (sub_s (sub_n (sub_n (sub_n (sub_n (sub_n sub_e))))))
        · refine tl_aload_n (pc := 45) (i := 0) dX6_ifPut_45 rfl rfl ?_
          refine tl_iload_n (pc := 46) (i := 1) dX6_ifPut_46 rfl rfl ?_
          refine tl_iload_n (pc := 47) (i := 2) dX6_ifPut_47 rfl rfl ?_
          refine tl_iload_n (pc := 48) (i := 3) dX6_ifPut_48 rfl rfl ?_
          refine tl_callSi (pc := 49) k_X6_square gw_937 (c_X6_square T _ _ _) rfl rfl (Nat.le_of_ble_eq_true rfl) (Nat.le_of_ble_eq_true rfl) dX6_ifPut_49 (fun x5 => ?_)
          refine tl_iload (pc := 52) (i := 4) dX6_ifPut_52 rfl ?_
          refine tl_iload (pc := 54) (i := 5) dX6_ifPut_54 rfl ?_
          refine tl_callVi (pc := 56) k_X6_byPutting gw_1158 hb.1 ⟨_, _, rfl⟩ (c_X6_byPutting T _ _ _ hb) rfl rfl (Nat.le_of_ble_eq_true rfl) (Nat.le_of_ble_eq_true rfl) dX6_ifPut_56 (fun x6 => ?_)
          refine tl_goto (pc := 59) (tgt := 67) dX6_ifPut_59 rfl ?_
          exact tl_iret (pc := 67) dX6_ifPut_67
abbrev TL_X6_counters (T : Tb) (pc : Nat) (lo : List (Option Value)) (st : List Value) (X : Dm Int32) : Prop := TL yX6_counters cX6_counters 7 (some .int) 4 iI T pc lo st X
set_option maxRecDepth 100000 in
theorem lp_X6_counters_46 (T : Tb) (p0 : Int32) (x5 : Int32) (x6 : Int32) (hb : isMod T)  (k2 : Int32 → Dm Int32) (hk2 : ∀ (y46_0 : Int32), TL_X6_counters T 114 [some (.ref 168), none, some (.int y46_0), none, some (.int x6), none, none] [] (k2 y46_0)) : ∀ (n : Nat) (x7 : Int32) (x8 : Int32), TL_X6_counters T 46 [some (.ref 168), none, some (.int x7), some (.int x5), some (.int x6), some (.int x8), none] [] (L_X6_counters_46 x5 x6 n x7 x8 k2) := by
  intro n
  induction n with
  | zero => intros; exact tl_fail
  | succ n ih =>
    intro x7 x8
    rw [L_X6_counters_46]
    refine tl_iload (pc := 46) (i := 5) dX6_counters_46 rfl ?_
    refine tl_bipush (pc := 48) (v := 25) dX6_counters_48 (by decide) ?_
    refine tl_icmp_ge (pc := 50) (tgt := 114) dX6_counters_50 rfl ?_ ?_
    · exact tl_sub (hk2 _) (sub_s (sub_n (sub_s (sub_n (sub_s (sub_n (sub_n sub_e)))))))
    · refine tl_bipush (pc := 53) (v := 25) dX6_counters_53 (by decide) ?_
      refine tl_iload (pc := 55) (i := 4) dX6_counters_55 rfl ?_
      refine tl_imul (pc := 57) dX6_counters_57 ?_
      refine tl_iload (pc := 58) (i := 5) dX6_counters_58 rfl ?_
      refine tl_iadd (pc := 60) dX6_counters_60 ?_
      refine tl_bI (fun x9 => ?_)
      refine tl_istore (pc := 61) (i := 6) (lo' := [some (.ref 168), none, some (.int x7), some (.int x5), some (.int x6), some (.int x8), some (.int x9)]) dX6_counters_61 (by decide) rfl ?_
      refine tl_iload_n (pc := 63) (i := 2) dX6_counters_63 rfl rfl ?_
      refine tl_aload_n (pc := 64) (i := 0) dX6_counters_64 rfl rfl ?_
      refine tl_getR (pc := 65) (r := 169) fl_X6_7 hb.1 rfl dX6_counters_65 ?_
      refine tl_iload (pc := 68) (i := 6) dX6_counters_68 rfl ?_
      refine tl_callSi (pc := 70) k_X6_isCell gw_940 (c_X6_isCell T _ _ _ hb.2.1) rfl rfl (Nat.le_of_ble_eq_true rfl) (Nat.le_of_ble_eq_true rfl) dX6_counters_70 (fun x10 => ?_)
      refine tl_j (fun (k : Int32 → Dm Int32) => ∀ (x11 : Int32), TL_X6_counters T 106 [some (.ref 168), none, none, some (.int x5), some (.int x6), some (.int x8), none] [.int x11, .int x7] (k x11)) (fun x11 => ?_) (fun k3 hk3 => ?_)
      · refine tl_iadd (pc := 106) dX6_counters_106 ?_
        refine tl_bI (fun x12 => ?_)
        refine tl_istore_n (pc := 107) (i := 2) (lo' := [some (.ref 168), none, some (.int x12), some (.int x5), some (.int x6), some (.int x8), none]) dX6_counters_107 rfl (by decide) rfl ?_
        refine tl_iinc (pc := 108) (i := 5) (v := x8 + (1 : Int32)) (lo' := [some (.ref 168), none, some (.int x12), some (.int x5), some (.int x6), some (.int (x8 + (1 : Int32))), none]) dX6_counters_108 rfl rfl (by decide) rfl ?_
        refine tl_goto (pc := 111) (tgt := 46) dX6_counters_111 rfl ?_
        exact tl_sub (ih _ _) (sub_s (sub_n (sub_s (sub_s (sub_s (sub_s (sub_n sub_e)))))))
      · refine tl_j (fun (k : Unit → Dm Int32) => ∀ (_ : Unit), TL_X6_counters T 105 [some (.ref 168), none, none, some (.int x5), some (.int x6), some (.int x8), none] [.int x7] (k ())) (fun _ => ?_) (fun k4 hk4 => ?_)
        · refine tl_iconst (pc := 105) (v := 0) dX6_counters_105 (by decide) ?_
          exact tl_sub (hk3 _) (sub_s (sub_n (sub_n (sub_s (sub_s (sub_s (sub_n sub_e)))))))
        · refine tl_if_eq (pc := 73) (tgt := 105) dX6_counters_73 rfl ?_ ?_
          · exact tl_sub (hk4 ()) (sub_s (sub_n (sub_n (sub_s (sub_s (sub_s (sub_n sub_e)))))))
          · refine tl_aload_n (pc := 76) (i := 0) dX6_counters_76 rfl rfl ?_
            refine tl_getR (pc := 77) (r := 169) fl_X6_7 hb.1 rfl dX6_counters_77 ?_
            refine tl_iload (pc := 80) (i := 6) dX6_counters_80 rfl ?_
            refine tl_callSi (pc := 82) k_X6_isSum gw_1040 (c_X6_isSum T _ _ _ hb.2.1) rfl rfl (Nat.le_of_ble_eq_true rfl) (Nat.le_of_ble_eq_true rfl) dX6_counters_82 (fun x13 => ?_)
            refine tl_if_eq (pc := 85) (tgt := 105) dX6_counters_85 rfl ?_ ?_
            · exact tl_sub (hk4 ()) (sub_s (sub_n (sub_n (sub_s (sub_s (sub_s (sub_n sub_e)))))))
            · refine tl_aload_n (pc := 88) (i := 0) dX6_counters_88 rfl rfl ?_
              refine tl_getR (pc := 89) (r := 169) fl_X6_7 hb.1 rfl dX6_counters_89 ?_
              refine tl_iload (pc := 92) (i := 6) dX6_counters_92 rfl ?_
              refine tl_iload_n (pc := 94) (i := 3) dX6_counters_94 rfl rfl ?_
              refine tl_callSi (pc := 95) k_X6_counts gw_1047 (c_X6_counts T _ _ _ _ hb.2.1) rfl rfl (Nat.le_of_ble_eq_true rfl) (Nat.le_of_ble_eq_true rfl) dX6_counters_95 (fun x14 => ?_)
              refine tl_if_eq (pc := 98) (tgt := 105) dX6_counters_98 rfl ?_ ?_
              · exact tl_sub (hk4 ()) (sub_s (sub_n (sub_n (sub_s (sub_s (sub_s (sub_n sub_e)))))))
              · refine tl_iconst (pc := 101) (v := 1) dX6_counters_101 (by decide) ?_
                refine tl_goto (pc := 102) (tgt := 106) dX6_counters_102 rfl ?_
                exact tl_sub (hk3 _) (sub_s (sub_n (sub_n (sub_s (sub_s (sub_s (sub_n sub_e)))))))
set_option maxRecDepth 100000 in
theorem lp_X6_counters_32 (T : Tb) (p0 : Int32)  (hb : isMod T)    : ∀ (n : Nat) (x4 : Int32) (x5 : Int32), TL_X6_counters T 32 [some (.ref 168), none, some (.int x4), some (.int x5), none, none, none] [] (L_X6_counters_32  n x4 x5 ) := by
  intro n
  induction n with
  | zero => intros; exact tl_fail
  | succ n ih =>
    intro x4 x5
    rw [L_X6_counters_32]
    refine tl_iload_n (pc := 32) (i := 3) dX6_counters_32 rfl rfl ?_
    refine tl_iconst (pc := 33) (v := -1) dX6_counters_33 (by decide) ?_
    refine tl_icmp_eq (pc := 34) (tgt := 136) dX6_counters_34 rfl ?_ ?_
    · refine tl_iload_n (pc := 136) (i := 2) dX6_counters_136 rfl rfl ?_
      exact tl_iret (pc := 137) dX6_counters_137
    · refine tl_iload_n (pc := 37) (i := 3) dX6_counters_37 rfl rfl ?_
      refine tl_bipush (pc := 38) (v := 25) dX6_counters_38 (by decide) ?_
      refine tl_idiv (pc := 40) dX6_counters_40 (by decide) ?_
      refine tl_bI (fun x6 => ?_)
      refine tl_istore (pc := 41) (i := 4) (lo' := [some (.ref 168), none, some (.int x4), some (.int x5), some (.int x6), none, none]) dX6_counters_41 (by decide) rfl ?_
      refine tl_iconst (pc := 43) (v := 0) dX6_counters_43 (by decide) ?_
      refine tl_istore (pc := 44) (i := 5) (lo' := [some (.ref 168), none, some (.int x4), some (.int x5), some (.int x6), some (.int (0 : Int32)), none]) dX6_counters_44 (by decide) rfl ?_
      refine tl_sub (lp_X6_counters_46 T p0 x5 x6 hb  _ (fun x15 => ?_) FU _ _) (sub_s (sub_n (sub_s (sub_s (sub_s (sub_s (sub_n sub_e)))))))
      refine tl_iload (pc := 114) (i := 4) dX6_counters_114 rfl ?_
      refine tl_j (fun (k : Int32 → Dm Int32) => ∀ (x16 : Int32), TL_X6_counters T 132 [some (.ref 168), none, some (.int x15), none, none, none, none] [.int x16] (k x16)) (fun x16 => ?_) (fun k5 hk5 => ?_)
      · refine tl_istore_n (pc := 132) (i := 3) (lo' := [some (.ref 168), none, some (.int x15), some (.int x16), none, none, none]) dX6_counters_132 rfl (by decide) rfl ?_
        refine tl_goto (pc := 133) (tgt := 32) dX6_counters_133 rfl ?_
        exact tl_sub (ih _ _) (sub_s (sub_n (sub_s (sub_s (sub_n (sub_n (sub_n sub_e)))))))
      · refine tl_if_ne (pc := 116) (tgt := 123) dX6_counters_116 rfl ?_ ?_
        · refine tl_iconst (pc := 119) (v := -1) dX6_counters_119 (by decide) ?_
          refine tl_goto (pc := 120) (tgt := 132) dX6_counters_120 rfl ?_
          exact tl_sub (hk5 _) (sub_s (sub_n (sub_s (sub_n (sub_n (sub_n (sub_n sub_e)))))))
        · refine tl_aload_n (pc := 123) (i := 0) dX6_counters_123 rfl rfl ?_
          refine tl_getR (pc := 124) (r := 169) fl_X6_7 hb.1 rfl dX6_counters_124 ?_
          refine tl_iload (pc := 127) (i := 4) dX6_counters_127 rfl ?_
          refine tl_callSi (pc := 129) k_X6_around gw_1116 (c_X6_around T _ _ _ hb.2.1) rfl rfl (Nat.le_of_ble_eq_true rfl) (Nat.le_of_ble_eq_true rfl) dX6_counters_129 (fun x17 => ?_)
          exact tl_sub (hk5 _) (sub_s (sub_n (sub_s (sub_n (sub_n (sub_n (sub_n sub_e)))))))
set_option maxRecDepth 100000 in
theorem c_X6_counters (T : Tb) (p0 : Int32) (hb : isMod T) : CT (.code yX6_counters cX6_counters 7 (some .int)) yX6_counters 4 iI T [.ref 168, .int p0] (F_X6_counters p0) := by
  refine ct_of (lo := [some (.ref 168), some (.int p0), none, none, none, none, none]) (j := 5) k_X6_counters.1 rfl (fun _ => Nat.le_of_ble_eq_true rfl) ?_
  show TL_X6_counters T 0 _ _ _
  rw [F_X6_counters]
  refine tl_aload_n (pc := 0) (i := 0) dX6_counters_0 rfl rfl ?_
  refine tl_getR (pc := 1) (r := 169) fl_X6_7 hb.1 rfl dX6_counters_1 ?_
  refine tl_iload_n (pc := 4) (i := 1) dX6_counters_4 rfl rfl ?_
  refine tl_callSi (pc := 5) k_X6_isCell gw_940 (c_X6_isCell T _ _ _ hb.2.1) rfl rfl (Nat.le_of_ble_eq_true rfl) (Nat.le_of_ble_eq_true rfl) dX6_counters_5 (fun x1 => ?_)
  refine tl_if_ne (pc := 8) (tgt := 13) dX6_counters_8 rfl ?_ ?_
  · refine tl_iconst (pc := 11) (v := -1) dX6_counters_11 (by decide) ?_
    exact tl_iret (pc := 12) dX6_counters_12
  · refine tl_iconst (pc := 13) (v := 0) dX6_counters_13 (by decide) ?_
    refine tl_istore_n (pc := 14) (i := 2) (lo' := [some (.ref 168), some (.int p0), some (.int (0 : Int32)), none, none, none, none]) dX6_counters_14 rfl (by decide) rfl ?_
    refine tl_aload_n (pc := 15) (i := 0) dX6_counters_15 rfl rfl ?_
    refine tl_getR (pc := 16) (r := 169) fl_X6_7 hb.1 rfl dX6_counters_16 ?_
    refine tl_iload_n (pc := 19) (i := 1) dX6_counters_19 rfl rfl ?_
    refine tl_callSi (pc := 20) k_X6_isSum gw_1040 (c_X6_isSum T _ _ _ hb.2.1) rfl rfl (Nat.le_of_ble_eq_true rfl) (Nat.le_of_ble_eq_true rfl) dX6_counters_20 (fun x2 => ?_)
    refine tl_j (fun (k : Int32 → Dm Int32) => ∀ (x3 : Int32), TL_X6_counters T 31 [some (.ref 168), none, some (.int (0 : Int32)), none, none, none, none] [.int x3] (k x3)) (fun x3 => ?_) (fun k1 hk1 => ?_)
    · refine tl_istore_n (pc := 31) (i := 3) (lo' := [some (.ref 168), none, some (.int (0 : Int32)), some (.int x3), none, none, none]) dX6_counters_31 rfl (by decide) rfl ?_
      refine tl_sub (lp_X6_counters_32 T p0 hb    FU _ _) (sub_s (sub_n (sub_s (sub_s (sub_n (sub_n (sub_n sub_e)))))))
    · refine tl_if_eq (pc := 23) (tgt := 30) dX6_counters_23 rfl ?_ ?_
      · refine tl_iload_n (pc := 30) (i := 1) dX6_counters_30 rfl rfl ?_
        exact tl_sub (hk1 _) (sub_s (sub_n (sub_s (sub_n (sub_n (sub_n (sub_n sub_e)))))))
      · refine tl_iconst (pc := 26) (v := -1) dX6_counters_26 (by decide) ?_
        refine tl_goto (pc := 27) (tgt := 31) dX6_counters_27 rfl ?_
        exact tl_sub (hk1 _) (sub_s (sub_n (sub_s (sub_n (sub_n (sub_n (sub_n sub_e)))))))
abbrev TL_X6_countedBy (T : Tb) (pc : Nat) (lo : List (Option Value)) (st : List Value) (X : Dm Int32) : Prop := TL yX6_countedBy cX6_countedBy 4 (some .int) 5 iI T pc lo st X
set_option maxRecDepth 100000 in
theorem c_X6_countedBy (T : Tb) (p0 : Int32) (p1 : Int32) (p2 : Int32) (hb : isMod T) : CT (.code yX6_countedBy cX6_countedBy 4 (some .int)) yX6_countedBy 5 iI T [.ref 168, .int p0, .int p1, .int p2] (F_X6_countedBy p0 p1 p2) := by
  refine ct_of (lo := [some (.ref 168), some (.int p0), some (.int p1), some (.int p2)]) (j := 0) k_X6_countedBy.1 rfl (fun _ => Nat.le_of_ble_eq_true rfl) ?_
  show TL_X6_countedBy T 0 _ _ _
  rw [F_X6_countedBy]
  refine tl_aload_n (pc := 0) (i := 0) dX6_countedBy_0 rfl rfl ?_
  refine tl_iconst (pc := 1) (v := 0) dX6_countedBy_1 (by decide) ?_
  refine tl_putI (pc := 2) fw_X6_62 hb.1 rfl dX6_countedBy_2 ?_
  refine tl_aload_n (pc := 5) (i := 0) dX6_countedBy_5 rfl rfl ?_
  refine tl_iload_n (pc := 6) (i := 1) dX6_countedBy_6 rfl rfl ?_
  refine tl_iload_n (pc := 7) (i := 2) dX6_countedBy_7 rfl rfl ?_
  refine tl_iload_n (pc := 8) (i := 3) dX6_countedBy_8 rfl rfl ?_
  refine tl_callVi (pc := 9) k_X6_isSquare gw_930 hb.1 ⟨_, _, rfl⟩ (c_X6_isSquare T _ _ _ hb) rfl rfl (Nat.le_of_ble_eq_true rfl) (Nat.le_of_ble_eq_true rfl) dX6_countedBy_9 (fun x1 => ?_)
  refine tl_if_eq (pc := 12) (tgt := 28) dX6_countedBy_12 rfl ?_ ?_
  · refine tl_aload_n (pc := 28) (i := 0) dX6_countedBy_28 rfl rfl ?_
    refine tl_iconst (pc := 29) (v := 1) dX6_countedBy_29 (by decide) ?_
    refine tl_callVi (pc := 30) k_X6_fails gw_908 hb.1 ⟨_, _, rfl⟩ (c_X6_fails T _ hb) rfl rfl (Nat.le_of_ble_eq_true rfl) (Nat.le_of_ble_eq_true rfl) dX6_countedBy_30 (fun x2 => ?_)
    exact tl_iret (pc := 33) dX6_countedBy_33
  · refine tl_aload_n (pc := 15) (i := 0) dX6_countedBy_15 rfl rfl ?_
    refine tl_iload_n (pc := 16) (i := 1) dX6_countedBy_16 rfl rfl ?_
    refine tl_iload_n (pc := 17) (i := 2) dX6_countedBy_17 rfl rfl ?_
    refine tl_iload_n (pc := 18) (i := 3) dX6_countedBy_18 rfl rfl ?_
    refine tl_callSi (pc := 19) k_X6_square gw_937 (c_X6_square T _ _ _) rfl rfl (Nat.le_of_ble_eq_true rfl) (Nat.le_of_ble_eq_true rfl) dX6_countedBy_19 (fun x3 => ?_)
    refine tl_callVi (pc := 22) k_X6_counters gw_1166 hb.1 ⟨_, _, rfl⟩ (c_X6_counters T _ hb) rfl rfl (Nat.le_of_ble_eq_true rfl) (Nat.le_of_ble_eq_true rfl) dX6_countedBy_22 (fun x4 => ?_)
    refine tl_goto (pc := 25) (tgt := 33) dX6_countedBy_25 rfl ?_
    exact tl_iret (pc := 33) dX6_countedBy_33
abbrev TL_X6_leastFor (T : Tb) (pc : Nat) (lo : List (Option Value)) (st : List Value) (X : Dm Int32) : Prop := TL yX6_leastFor cX6_leastFor 3 (some .int) 2 iI T pc lo st X
set_option maxRecDepth 100000 in
theorem lp_X6_leastFor_2 (T : Tb) (p0 : Int32)  (hb : isMod T)  (k1 : Int32 → Dm Int32) (hk1 : ∀ (y2_0 : Int32), TL_X6_leastFor T 27 [none, none, some (.int y2_0)] [] (k1 y2_0)) : ∀ (n : Nat) (x1 : Int32), TL_X6_leastFor T 2 [some (.ref 168), some (.int p0), some (.int x1)] [] (L_X6_leastFor_2 p0 n x1 k1) := by
  intro n
  induction n with
  | zero => intros; exact tl_fail
  | succ n ih =>
    intro x1
    rw [L_X6_leastFor_2]
    refine tl_iload_n (pc := 2) (i := 2) dX6_leastFor_2 rfl rfl ?_
    refine tl_bipush (pc := 3) (v := 60) dX6_leastFor_3 (by decide) ?_
    refine tl_icmp_gt (pc := 5) (tgt := 27) dX6_leastFor_5 rfl ?_ ?_
    · exact tl_sub (hk1 _) (sub_n (sub_n (sub_s sub_e)))
    · refine tl_aload_n (pc := 8) (i := 0) dX6_leastFor_8 rfl rfl ?_
      refine tl_aload_n (pc := 9) (i := 0) dX6_leastFor_9 rfl rfl ?_
      refine tl_getR (pc := 10) (r := 169) fl_X6_7 hb.1 rfl dX6_leastFor_10 ?_
      refine tl_iload_n (pc := 13) (i := 2) dX6_leastFor_13 rfl rfl ?_
      refine tl_callVi (pc := 14) k_X6_laysPages gw_1127 hb.1 ⟨_, _, rfl⟩ (c_X6_laysPages T _ _ _ hb hb.2.1) rfl rfl (Nat.le_of_ble_eq_true rfl) (Nat.le_of_ble_eq_true rfl) dX6_leastFor_14 (fun x2 => ?_)
      refine tl_iload_n (pc := 17) (i := 1) dX6_leastFor_17 rfl rfl ?_
      refine tl_icmp_le (pc := 18) (tgt := 27) dX6_leastFor_18 rfl ?_ ?_
      · exact tl_sub (hk1 _) (sub_n (sub_n (sub_s sub_e)))
      · refine tl_iinc (pc := 21) (i := 2) (v := x1 + (1 : Int32)) (lo' := [some (.ref 168), some (.int p0), some (.int (x1 + (1 : Int32)))]) dX6_leastFor_21 rfl rfl (by decide) rfl ?_
        refine tl_goto (pc := 24) (tgt := 2) dX6_leastFor_24 rfl ?_
        exact tl_sub (ih _) (sub_s (sub_s (sub_s sub_e)))
set_option maxRecDepth 100000 in
theorem c_X6_leastFor (T : Tb) (p0 : Int32) (hb : isMod T) : CT (.code yX6_leastFor cX6_leastFor 3 (some .int)) yX6_leastFor 2 iI T [.ref 168, .int p0] (F_X6_leastFor p0) := by
  refine ct_of (lo := [some (.ref 168), some (.int p0), none]) (j := 1) k_X6_leastFor.1 rfl (fun _ => Nat.le_of_ble_eq_true rfl) ?_
  show TL_X6_leastFor T 0 _ _ _
  rw [F_X6_leastFor]
  refine tl_iconst (pc := 0) (v := 1) dX6_leastFor_0 (by decide) ?_
  refine tl_istore_n (pc := 1) (i := 2) (lo' := [some (.ref 168), some (.int p0), some (.int (1 : Int32))]) dX6_leastFor_1 rfl (by decide) rfl ?_
  refine tl_sub (lp_X6_leastFor_2 T p0 hb  _ (fun x3 => ?_) FU _) (sub_s (sub_s (sub_s sub_e)))
  refine tl_iload_n (pc := 27) (i := 2) dX6_leastFor_27 rfl rfl ?_
  refine tl_bipush (pc := 28) (v := 60) dX6_leastFor_28 (by decide) ?_
  refine tl_icmp_le (pc := 30) (tgt := 37) dX6_leastFor_30 rfl ?_ ?_
  · refine tl_iload_n (pc := 37) (i := 2) dX6_leastFor_37 rfl rfl ?_
    exact tl_iret (pc := 38) dX6_leastFor_38
  · refine tl_iconst (pc := 33) (v := -1) dX6_leastFor_33 (by decide) ?_
    refine tl_goto (pc := 34) (tgt := 38) dX6_leastFor_34 rfl ?_
    exact tl_iret (pc := 38) dX6_leastFor_38
abbrev TL_X6_heightFor (T : Tb) (pc : Nat) (lo : List (Option Value)) (st : List Value) (X : Dm Int32) : Prop := TL yX6_heightFor cX6_heightFor 2 (some .int) 8 iI T pc lo st X
set_option maxRecDepth 100000 in
theorem c_X6_heightFor (T : Tb) (p0 : Int32) (hb : isMod T) : CT (.code yX6_heightFor cX6_heightFor 2 (some .int)) yX6_heightFor 8 iI T [.ref 168, .int p0] (F_X6_heightFor p0) := by
  refine ct_of (lo := [some (.ref 168), some (.int p0)]) (j := 0) k_X6_heightFor.1 rfl (fun _ => Nat.le_of_ble_eq_true rfl) ?_
  show TL_X6_heightFor T 0 _ _ _
  rw [F_X6_heightFor]
  refine tl_aload_n (pc := 0) (i := 0) dX6_heightFor_0 rfl rfl ?_
  refine tl_iconst (pc := 1) (v := 0) dX6_heightFor_1 (by decide) ?_
  refine tl_putI (pc := 2) fw_X6_62 hb.1 rfl dX6_heightFor_2 ?_
  refine tl_iload_n (pc := 5) (i := 1) dX6_heightFor_5 rfl rfl ?_
  refine tl_iconst (pc := 6) (v := 1) dX6_heightFor_6 (by decide) ?_
  refine tl_iconst (pc := 7) (v := 5) dX6_heightFor_7 (by decide) ?_
  refine tl_callSi (pc := 8) k_X6_in gw_919 (c_X6_in T _ _ _) rfl rfl (Nat.le_of_ble_eq_true rfl) (Nat.le_of_ble_eq_true rfl) dX6_heightFor_8 (fun x1 => ?_)
  refine tl_if_ne (pc := 11) (tgt := 20) dX6_heightFor_11 rfl ?_ ?_
  · refine tl_aload_n (pc := 14) (i := 0) dX6_heightFor_14 rfl rfl ?_
    refine tl_iconst (pc := 15) (v := 1) dX6_heightFor_15 (by decide) ?_
    refine tl_callVi (pc := 16) k_X6_fails gw_908 hb.1 ⟨_, _, rfl⟩ (c_X6_fails T _ hb) rfl rfl (Nat.le_of_ble_eq_true rfl) (Nat.le_of_ble_eq_true rfl) dX6_heightFor_16 (fun x3 => ?_)
    exact tl_iret (pc := 19) dX6_heightFor_19
  · refine tl_aload_n (pc := 20) (i := 0) dX6_heightFor_20 rfl rfl ?_
    refine tl_callVv (pc := 21) k_X6_laysNow gw_1024 hb.1 ⟨_, _, rfl⟩ (c_X6_laysNow T hb) rfl rfl (Nat.le_of_ble_eq_true rfl) (Nat.le_of_ble_eq_true rfl) dX6_heightFor_21 (fun _ => ?_)
    refine tl_aload_n (pc := 24) (i := 0) dX6_heightFor_24 rfl rfl ?_
    refine tl_iload_n (pc := 25) (i := 1) dX6_heightFor_25 rfl rfl ?_
    refine tl_callVi (pc := 26) k_X6_leastFor gw_1174 hb.1 ⟨_, _, rfl⟩ (c_X6_leastFor T _ hb) rfl rfl (Nat.le_of_ble_eq_true rfl) (Nat.le_of_ble_eq_true rfl) dX6_heightFor_26 (fun x2 => ?_)
    exact tl_iret (pc := 29) dX6_heightFor_29
abbrev TL_X6_share (T : Tb) (pc : Nat) (lo : List (Option Value)) (st : List Value) (X : Dm UInt64) : Prop := TL yX6_share cX6_share 2 (some .double) 3 dI9 T pc lo st X
set_option maxRecDepth 100000 in
theorem c_X6_share (T : Tb)  (hb : isMod T) : CT (.code yX6_share cX6_share 2 (some .double)) yX6_share 3 dI9 T [.ref 168] (F_X6_share) := by
  refine ct_of (lo := [some (.ref 168), none]) (j := 1) k_X6_share.1 rfl (fun _ => Nat.le_of_ble_eq_true rfl) ?_
  show TL_X6_share T 0 _ _ _
  rw [F_X6_share]
  refine tl_aload_n (pc := 0) (i := 0) dX6_share_0 rfl rfl ?_
  refine tl_iconst (pc := 1) (v := -1) dX6_share_1 (by decide) ?_
  refine tl_callVi (pc := 2) k_X6_cells gw_1142 hb.1 ⟨_, _, rfl⟩ (c_X6_cells T _ hb) rfl rfl (Nat.le_of_ble_eq_true rfl) (Nat.le_of_ble_eq_true rfl) dX6_share_2 (fun x1 => ?_)
  refine tl_istore_n (pc := 5) (i := 1) (lo' := [some (.ref 168), some (.int x1)]) dX6_share_5 rfl (by decide) rfl ?_
  refine tl_iload_n (pc := 6) (i := 1) dX6_share_6 rfl rfl ?_
  refine tl_aload_n (pc := 7) (i := 0) dX6_share_7 rfl rfl ?_
  refine tl_iconst (pc := 8) (v := 0) dX6_share_8 (by decide) ?_
  refine tl_callVi (pc := 9) k_X6_cells gw_1142 hb.1 ⟨_, _, rfl⟩ (c_X6_cells T _ hb) rfl rfl (Nat.le_of_ble_eq_true rfl) (Nat.le_of_ble_eq_true rfl) dX6_share_9 (fun x2 => ?_)
  refine tl_isub (pc := 12) dX6_share_12 ?_
  refine tl_i2d (pc := 13) dX6_share_13 ?_
  refine tl_iload_n (pc := 14) (i := 1) dX6_share_14 rfl rfl ?_
  refine tl_i2d (pc := 15) dX6_share_15 ?_
  refine tl_ddiv (pc := 16) dX6_share_16 ?_
  exact tl_dret (pc := 17) dX6_share_17
abbrev TL_X6_filledShare (T : Tb) (pc : Nat) (lo : List (Option Value)) (st : List Value) (X : Dm UInt64) : Prop := TL yX6_filledShare cX6_filledShare 1 (some .double) 4 dI9 T pc lo st X
set_option maxRecDepth 100000 in
theorem c_X6_filledShare (T : Tb)  (hb : isMod T) : CT (.code yX6_filledShare cX6_filledShare 1 (some .double)) yX6_filledShare 4 dI9 T [.ref 168] (F_X6_filledShare) := by
  refine ct_of (lo := [some (.ref 168)]) (j := 0) k_X6_filledShare.1 rfl (fun _ => Nat.le_of_ble_eq_true rfl) ?_
  show TL_X6_filledShare T 0 _ _ _
  rw [F_X6_filledShare]
  refine tl_aload_n (pc := 0) (i := 0) dX6_filledShare_0 rfl rfl ?_
  refine tl_iconst (pc := 1) (v := 0) dX6_filledShare_1 (by decide) ?_
  refine tl_putI (pc := 2) fw_X6_62 hb.1 rfl dX6_filledShare_2 ?_
  refine tl_aload_n (pc := 5) (i := 0) dX6_filledShare_5 rfl rfl ?_
  refine tl_callVd (pc := 6) k_X6_share gw_1182 hb.1 ⟨_, _, rfl⟩ (c_X6_share T hb) rfl rfl (Nat.le_of_ble_eq_true rfl) (Nat.le_of_ble_eq_true rfl) dX6_filledShare_6 (fun x1 => ?_)
  exact tl_dret (pc := 9) dX6_filledShare_9
abbrev TL_X6_digest (T : Tb) (pc : Nat) (lo : List (Option Value)) (st : List Value) (X : Dm Int64) : Prop := TL yX6_digest cX6_digest 7 (some .long) 9 lI T pc lo st X
set_option maxRecDepth 100000 in
theorem lp_X6_digest_15 (T : Tb)   (hb : isMod T)  (k1 : Int64 → Dm Int64) (hk1 : ∀ (y15_0 : Int64), TL_X6_digest T 40 [some (.ref 168), some (.long y15_0), none, none, none, none, none] [] (k1 y15_0)) : ∀ (n : Nat) (x1 : Int64) (x2 : Int32), TL_X6_digest T 15 [some (.ref 168), some (.long x1), none, some (.int x2), none, none, none] [] (L_X6_digest_15  n x1 x2 k1) := by
  intro n
  induction n with
  | zero => intros; exact tl_fail
  | succ n ih =>
    intro x1 x2
    rw [L_X6_digest_15]
    refine tl_iload_n (pc := 15) (i := 3) dX6_digest_15 rfl rfl ?_
    refine tl_bipush (pc := 16) (v := 13) dX6_digest_16 (by decide) ?_
    refine tl_icmp_ge (pc := 18) (tgt := 40) dX6_digest_18 rfl ?_ ?_
    · exact tl_sub (hk1 _) (sub_s (sub_s (sub_n (sub_n (sub_n (sub_n (sub_n sub_e)))))))
    · refine tl_ldc2 (pc := 21) gw_1191 dX6_digest_21 ?_
      refine tl_lload_n (pc := 24) (i := 1) dX6_digest_24 rfl rfl ?_
      refine tl_lmul (pc := 25) dX6_digest_25 ?_
      refine tl_aload_n (pc := 26) (i := 0) dX6_digest_26 rfl rfl ?_
      refine tl_iload_n (pc := 27) (i := 3) dX6_digest_27 rfl rfl ?_
      refine tl_callVi (pc := 28) k_X6_counted gw_1138 hb.1 ⟨_, _, rfl⟩ (c_X6_counted T _ hb) rfl rfl (Nat.le_of_ble_eq_true rfl) (Nat.le_of_ble_eq_true rfl) dX6_digest_28 (fun x3 => ?_)
      refine tl_i2l (pc := 31) dX6_digest_31 ?_
      refine tl_ladd (pc := 32) dX6_digest_32 ?_
      refine tl_bL (fun x4 => ?_)
      refine tl_lstore_n (pc := 33) (i := 1) (lo' := [some (.ref 168), some (.long x4), none, some (.int x2), none, none, none]) dX6_digest_33 rfl (by decide) rfl ?_
      refine tl_iinc (pc := 34) (i := 3) (v := x2 + (1 : Int32)) (lo' := [some (.ref 168), some (.long x4), none, some (.int (x2 + (1 : Int32))), none, none, none]) dX6_digest_34 rfl rfl (by decide) rfl ?_
      refine tl_goto (pc := 37) (tgt := 15) dX6_digest_37 rfl ?_
      exact tl_sub (ih _ _) (sub_s (sub_s (sub_n (sub_s (sub_n (sub_n (sub_n sub_e)))))))
set_option maxRecDepth 100000 in
theorem lp_X6_digest_69 (T : Tb)  (x9 : Int32) (hb : isMod T)  (k3 : Int64 → Dm Int64) (hk3 : ∀ (y69_0 : Int64), TL_X6_digest T 97 [some (.ref 168), some (.long y69_0), none, some (.int x9), none, none, none] [] (k3 y69_0)) : ∀ (n : Nat) (x11 : Int64) (x12 : Int32), TL_X6_digest T 69 [some (.ref 168), some (.long x11), none, some (.int x9), some (.int x12), none, none] [] (L_X6_digest_69 x9 n x11 x12 k3) := by
  intro n
  induction n with
  | zero => intros; exact tl_fail
  | succ n ih =>
    intro x11 x12
    rw [L_X6_digest_69]
    refine tl_iload (pc := 69) (i := 4) dX6_digest_69 rfl ?_
    refine tl_bipush (pc := 71) (v := 8) dX6_digest_71 (by decide) ?_
    refine tl_icmp_ge (pc := 73) (tgt := 97) dX6_digest_73 rfl ?_ ?_
    · exact tl_sub (hk3 _) (sub_s (sub_s (sub_n (sub_s (sub_n (sub_n (sub_n sub_e)))))))
    · refine tl_ldc2 (pc := 76) gw_1191 dX6_digest_76 ?_
      refine tl_lload_n (pc := 79) (i := 1) dX6_digest_79 rfl rfl ?_
      refine tl_lmul (pc := 80) dX6_digest_80 ?_
      refine tl_aload_n (pc := 81) (i := 0) dX6_digest_81 rfl rfl ?_
      refine tl_iload_n (pc := 82) (i := 3) dX6_digest_82 rfl rfl ?_
      refine tl_iload (pc := 83) (i := 4) dX6_digest_83 rfl ?_
      refine tl_callVi (pc := 85) k_X6_ofTable gw_1112 hb.1 ⟨_, _, rfl⟩ (c_X6_ofTable T _ _ hb) rfl rfl (Nat.le_of_ble_eq_true rfl) (Nat.le_of_ble_eq_true rfl) dX6_digest_85 (fun x13 => ?_)
      refine tl_i2l (pc := 88) dX6_digest_88 ?_
      refine tl_ladd (pc := 89) dX6_digest_89 ?_
      refine tl_bL (fun x14 => ?_)
      refine tl_lstore_n (pc := 90) (i := 1) (lo' := [some (.ref 168), some (.long x14), none, some (.int x9), some (.int x12), none, none]) dX6_digest_90 rfl (by decide) rfl ?_
      refine tl_iinc (pc := 91) (i := 4) (v := x12 + (1 : Int32)) (lo' := [some (.ref 168), some (.long x14), none, some (.int x9), some (.int (x12 + (1 : Int32))), none, none]) dX6_digest_91 rfl rfl (by decide) rfl ?_
      refine tl_goto (pc := 94) (tgt := 69) dX6_digest_94 rfl ?_
      exact tl_sub (ih _ _) (sub_s (sub_s (sub_n (sub_s (sub_s (sub_n (sub_n sub_e)))))))
set_option maxRecDepth 100000 in
theorem lp_X6_digest_100 (T : Tb)  (x9 : Int32) (hb : isMod T)  (k4 : Int64 → Dm Int64) (hk4 : ∀ (y100_0 : Int64), TL_X6_digest T 139 [some (.ref 168), some (.long y100_0), none, some (.int x9), none, none, none] [] (k4 y100_0)) : ∀ (n : Nat) (x16 : Int64) (x17 : Int32), TL_X6_digest T 100 [some (.ref 168), some (.long x16), none, some (.int x9), some (.int x17), none, none] [] (L_X6_digest_100 x9 n x16 x17 k4) := by
  intro n
  induction n with
  | zero => intros; exact tl_fail
  | succ n ih =>
    intro x16 x17
    rw [L_X6_digest_100]
    refine tl_iload (pc := 100) (i := 4) dX6_digest_100 rfl ?_
    refine tl_aload_n (pc := 102) (i := 0) dX6_digest_102 rfl rfl ?_
    refine tl_getR (pc := 103) (r := 169) fl_X6_7 hb.1 rfl dX6_digest_103 ?_
    refine tl_bipush (pc := 106) (v := 7) dX6_digest_106 (by decide) ?_
    refine tl_iload_n (pc := 108) (i := 3) dX6_digest_108 rfl rfl ?_
    refine tl_iadd (pc := 109) dX6_digest_109 ?_
    refine tl_iald (pc := 110) hb.2.1 dX6_digest_110 (fun x18 => ?_)
    refine tl_icmp_ge (pc := 111) (tgt := 139) dX6_digest_111 rfl ?_ ?_
    · exact tl_sub (hk4 _) (sub_s (sub_s (sub_n (sub_s (sub_n (sub_n (sub_n sub_e)))))))
    · refine tl_ldc2 (pc := 114) gw_1191 dX6_digest_114 ?_
      refine tl_lload_n (pc := 117) (i := 1) dX6_digest_117 rfl rfl ?_
      refine tl_lmul (pc := 118) dX6_digest_118 ?_
      refine tl_aload_n (pc := 119) (i := 0) dX6_digest_119 rfl rfl ?_
      refine tl_getR (pc := 120) (r := 182) fl_X6_49 hb.1 rfl dX6_digest_120 ?_
      refine tl_iconst (pc := 123) (v := 5) dX6_digest_123 (by decide) ?_
      refine tl_iload_n (pc := 124) (i := 3) dX6_digest_124 rfl rfl ?_
      refine tl_imul (pc := 125) dX6_digest_125 ?_
      refine tl_iload (pc := 126) (i := 4) dX6_digest_126 rfl ?_
      refine tl_iadd (pc := 128) dX6_digest_128 ?_
      refine tl_iald (pc := 129) hb.2.2.2.2.2.2.2.2.2.2.2.2.2.2.1 dX6_digest_129 (fun x19 => ?_)
      refine tl_i2l (pc := 130) dX6_digest_130 ?_
      refine tl_ladd (pc := 131) dX6_digest_131 ?_
      refine tl_bL (fun x20 => ?_)
      refine tl_lstore_n (pc := 132) (i := 1) (lo' := [some (.ref 168), some (.long x20), none, some (.int x9), some (.int x17), none, none]) dX6_digest_132 rfl (by decide) rfl ?_
      refine tl_iinc (pc := 133) (i := 4) (v := x17 + (1 : Int32)) (lo' := [some (.ref 168), some (.long x20), none, some (.int x9), some (.int (x17 + (1 : Int32))), none, none]) dX6_digest_133 rfl rfl (by decide) rfl ?_
      refine tl_goto (pc := 136) (tgt := 100) dX6_digest_136 rfl ?_
      exact tl_sub (ih _ _) (sub_s (sub_s (sub_n (sub_s (sub_s (sub_n (sub_n sub_e)))))))
set_option maxRecDepth 100000 in
theorem lp_X6_digest_142 (T : Tb)  (x9 : Int32) (hb : isMod T)  (k5 : Int64 → Dm Int64) (hk5 : ∀ (y142_0 : Int64), TL_X6_digest T 180 [some (.ref 168), some (.long y142_0), none, some (.int x9), none, none, none] [] (k5 y142_0)) : ∀ (n : Nat) (x22 : Int64) (x23 : Int32), TL_X6_digest T 142 [some (.ref 168), some (.long x22), none, some (.int x9), some (.int x23), none, none] [] (L_X6_digest_142 x9 n x22 x23 k5) := by
  intro n
  induction n with
  | zero => intros; exact tl_fail
  | succ n ih =>
    intro x22 x23
    rw [L_X6_digest_142]
    refine tl_iload (pc := 142) (i := 4) dX6_digest_142 rfl ?_
    refine tl_aload_n (pc := 144) (i := 0) dX6_digest_144 rfl rfl ?_
    refine tl_getR (pc := 145) (r := 169) fl_X6_7 hb.1 rfl dX6_digest_145 ?_
    refine tl_iconst (pc := 148) (v := 2) dX6_digest_148 (by decide) ?_
    refine tl_iload_n (pc := 149) (i := 3) dX6_digest_149 rfl rfl ?_
    refine tl_iadd (pc := 150) dX6_digest_150 ?_
    refine tl_iald (pc := 151) hb.2.1 dX6_digest_151 (fun x24 => ?_)
    refine tl_icmp_ge (pc := 152) (tgt := 180) dX6_digest_152 rfl ?_ ?_
    · exact tl_sub (hk5 _) (sub_s (sub_s (sub_n (sub_s (sub_n (sub_n (sub_n sub_e)))))))
    · refine tl_ldc2 (pc := 155) gw_1191 dX6_digest_155 ?_
      refine tl_lload_n (pc := 158) (i := 1) dX6_digest_158 rfl rfl ?_
      refine tl_lmul (pc := 159) dX6_digest_159 ?_
      refine tl_aload_n (pc := 160) (i := 0) dX6_digest_160 rfl rfl ?_
      refine tl_getR (pc := 161) (r := 183) fl_X6_52 hb.1 rfl dX6_digest_161 ?_
      refine tl_iconst (pc := 164) (v := 5) dX6_digest_164 (by decide) ?_
      refine tl_iload_n (pc := 165) (i := 3) dX6_digest_165 rfl rfl ?_
      refine tl_imul (pc := 166) dX6_digest_166 ?_
      refine tl_iload (pc := 167) (i := 4) dX6_digest_167 rfl ?_
      refine tl_iadd (pc := 169) dX6_digest_169 ?_
      refine tl_iald (pc := 170) hb.2.2.2.2.2.2.2.2.2.2.2.2.2.2.2.1 dX6_digest_170 (fun x25 => ?_)
      refine tl_i2l (pc := 171) dX6_digest_171 ?_
      refine tl_ladd (pc := 172) dX6_digest_172 ?_
      refine tl_bL (fun x26 => ?_)
      refine tl_lstore_n (pc := 173) (i := 1) (lo' := [some (.ref 168), some (.long x26), none, some (.int x9), some (.int x23), none, none]) dX6_digest_173 rfl (by decide) rfl ?_
      refine tl_iinc (pc := 174) (i := 4) (v := x23 + (1 : Int32)) (lo' := [some (.ref 168), some (.long x26), none, some (.int x9), some (.int (x23 + (1 : Int32))), none, none]) dX6_digest_174 rfl rfl (by decide) rfl ?_
      refine tl_goto (pc := 177) (tgt := 142) dX6_digest_177 rfl ?_
      exact tl_sub (ih _ _) (sub_s (sub_s (sub_n (sub_s (sub_s (sub_n (sub_n sub_e)))))))
set_option maxRecDepth 100000 in
theorem lp_X6_digest_202 (T : Tb)  (x30 : Int32) (x9 : Int32) (x29 : Int32) (hb : isMod T)  (k7 : Int64 → Dm Int64) (hk7 : ∀ (y202_0 : Int64), TL_X6_digest T 243 [some (.ref 168), some (.long y202_0), none, some (.int x9), some (.int x29), some (.int x30), none] [] (k7 y202_0)) : ∀ (n : Nat) (x31 : Int64) (x32 : Int32), TL_X6_digest T 202 [some (.ref 168), some (.long x31), none, some (.int x9), some (.int x29), some (.int x30), some (.int x32)] [] (L_X6_digest_202 x30 n x31 x32 k7) := by
  intro n
  induction n with
  | zero => intros; exact tl_fail
  | succ n ih =>
    intro x31 x32
    rw [L_X6_digest_202]
    refine tl_iload (pc := 202) (i := 6) dX6_digest_202 rfl ?_
    refine tl_bipush (pc := 204) (v := 12) dX6_digest_204 (by decide) ?_
    refine tl_icmp_ge (pc := 206) (tgt := 243) dX6_digest_206 rfl ?_ ?_
    · exact tl_sub (hk7 _) (sub_s (sub_s (sub_n (sub_s (sub_s (sub_s (sub_n sub_e)))))))
    · refine tl_aload_n (pc := 209) (i := 0) dX6_digest_209 rfl rfl ?_
      refine tl_getR (pc := 210) (r := 169) fl_X6_7 hb.1 rfl dX6_digest_210 ?_
      refine tl_iload (pc := 213) (i := 5) dX6_digest_213 rfl ?_
      refine tl_callSi (pc := 215) k_X6_isOf gw_943 (c_X6_isOf T _ _ _ hb.2.1) rfl rfl (Nat.le_of_ble_eq_true rfl) (Nat.le_of_ble_eq_true rfl) dX6_digest_215 (fun x33 => ?_)
      refine tl_if_eq (pc := 218) (tgt := 243) dX6_digest_218 rfl ?_ ?_
      · exact tl_sub (hk7 _) (sub_s (sub_s (sub_n (sub_s (sub_s (sub_s (sub_n sub_e)))))))
      · refine tl_ldc2 (pc := 221) gw_1191 dX6_digest_221 ?_
        refine tl_lload_n (pc := 224) (i := 1) dX6_digest_224 rfl rfl ?_
        refine tl_lmul (pc := 225) dX6_digest_225 ?_
        refine tl_aload_n (pc := 226) (i := 0) dX6_digest_226 rfl rfl ?_
        refine tl_iload (pc := 227) (i := 5) dX6_digest_227 rfl ?_
        refine tl_iload (pc := 229) (i := 6) dX6_digest_229 rfl ?_
        refine tl_callVi (pc := 231) k_X6_ofCell gw_1100 hb.1 ⟨_, _, rfl⟩ (c_X6_ofCell T _ _ hb) rfl rfl (Nat.le_of_ble_eq_true rfl) (Nat.le_of_ble_eq_true rfl) dX6_digest_231 (fun x34 => ?_)
        refine tl_i2l (pc := 234) dX6_digest_234 ?_
        refine tl_ladd (pc := 235) dX6_digest_235 ?_
        refine tl_bL (fun x35 => ?_)
        refine tl_lstore_n (pc := 236) (i := 1) (lo' := [some (.ref 168), some (.long x35), none, some (.int x9), some (.int x29), some (.int x30), some (.int x32)]) dX6_digest_236 rfl (by decide) rfl ?_
        refine tl_iinc (pc := 237) (i := 6) (v := x32 + (1 : Int32)) (lo' := [some (.ref 168), some (.long x35), none, some (.int x9), some (.int x29), some (.int x30), some (.int (x32 + (1 : Int32)))]) dX6_digest_237 rfl rfl (by decide) rfl ?_
        refine tl_goto (pc := 240) (tgt := 202) dX6_digest_240 rfl ?_
        exact tl_sub (ih _ _) (sub_s (sub_s (sub_n (sub_s (sub_s (sub_s (sub_s sub_e)))))))
set_option maxRecDepth 100000 in
theorem lp_X6_digest_246 (T : Tb)  (x30 : Int32) (x9 : Int32) (x29 : Int32) (hb : isMod T)  (k8 : Int64 → Dm Int64) (hk8 : ∀ (y246_0 : Int64), TL_X6_digest T 290 [some (.ref 168), some (.long y246_0), none, some (.int x9), some (.int x29), some (.int x30), none] [] (k8 y246_0)) : ∀ (n : Nat) (x37 : Int64) (x38 : Int32), TL_X6_digest T 246 [some (.ref 168), some (.long x37), none, some (.int x9), some (.int x29), some (.int x30), some (.int x38)] [] (L_X6_digest_246 x30 n x37 x38 k8) := by
  intro n
  induction n with
  | zero => intros; exact tl_fail
  | succ n ih =>
    intro x37 x38
    rw [L_X6_digest_246]
    refine tl_iload (pc := 246) (i := 6) dX6_digest_246 rfl ?_
    refine tl_iconst (pc := 248) (v := 4) dX6_digest_248 (by decide) ?_
    refine tl_icmp_ge (pc := 249) (tgt := 290) dX6_digest_249 rfl ?_ ?_
    · exact tl_sub (hk8 _) (sub_s (sub_s (sub_n (sub_s (sub_s (sub_s (sub_n sub_e)))))))
    · refine tl_aload_n (pc := 252) (i := 0) dX6_digest_252 rfl rfl ?_
      refine tl_getR (pc := 253) (r := 169) fl_X6_7 hb.1 rfl dX6_digest_253 ?_
      refine tl_iload (pc := 256) (i := 5) dX6_digest_256 rfl ?_
      refine tl_callSi (pc := 258) k_X6_isOf gw_943 (c_X6_isOf T _ _ _ hb.2.1) rfl rfl (Nat.le_of_ble_eq_true rfl) (Nat.le_of_ble_eq_true rfl) dX6_digest_258 (fun x39 => ?_)
      refine tl_if_eq (pc := 261) (tgt := 290) dX6_digest_261 rfl ?_ ?_
      · exact tl_sub (hk8 _) (sub_s (sub_s (sub_n (sub_s (sub_s (sub_s (sub_n sub_e)))))))
      · refine tl_ldc2 (pc := 264) gw_1191 dX6_digest_264 ?_
        refine tl_lload_n (pc := 267) (i := 1) dX6_digest_267 rfl rfl ?_
        refine tl_lmul (pc := 268) dX6_digest_268 ?_
        refine tl_aload_n (pc := 269) (i := 0) dX6_digest_269 rfl rfl ?_
        refine tl_aload_n (pc := 270) (i := 0) dX6_digest_270 rfl rfl ?_
        refine tl_getR (pc := 271) (r := 169) fl_X6_7 hb.1 rfl dX6_digest_271 ?_
        refine tl_iload (pc := 274) (i := 5) dX6_digest_274 rfl ?_
        refine tl_iload (pc := 276) (i := 6) dX6_digest_276 rfl ?_
        refine tl_callVi (pc := 278) k_X6_edgeOf gw_1073 hb.1 ⟨_, _, rfl⟩ (c_X6_edgeOf T _ _ _ _ hb hb.2.1) rfl rfl (Nat.le_of_ble_eq_true rfl) (Nat.le_of_ble_eq_true rfl) dX6_digest_278 (fun x40 => ?_)
        refine tl_i2l (pc := 281) dX6_digest_281 ?_
        refine tl_ladd (pc := 282) dX6_digest_282 ?_
        refine tl_bL (fun x41 => ?_)
        refine tl_lstore_n (pc := 283) (i := 1) (lo' := [some (.ref 168), some (.long x41), none, some (.int x9), some (.int x29), some (.int x30), some (.int x38)]) dX6_digest_283 rfl (by decide) rfl ?_
        refine tl_iinc (pc := 284) (i := 6) (v := x38 + (1 : Int32)) (lo' := [some (.ref 168), some (.long x41), none, some (.int x9), some (.int x29), some (.int x30), some (.int (x38 + (1 : Int32)))]) dX6_digest_284 rfl rfl (by decide) rfl ?_
        refine tl_goto (pc := 287) (tgt := 246) dX6_digest_287 rfl ?_
        exact tl_sub (ih _ _) (sub_s (sub_s (sub_n (sub_s (sub_s (sub_s (sub_s sub_e)))))))
set_option maxRecDepth 100000 in
theorem lp_X6_digest_183 (T : Tb)  (x9 : Int32) (hb : isMod T)  (k6 : Int64 → Dm Int64) (hk6 : ∀ (y183_0 : Int64), TL_X6_digest T 326 [some (.ref 168), some (.long y183_0), none, some (.int x9), none, none, none] [] (k6 y183_0)) : ∀ (n : Nat) (x28 : Int64) (x29 : Int32), TL_X6_digest T 183 [some (.ref 168), some (.long x28), none, some (.int x9), some (.int x29), none, none] [] (L_X6_digest_183 x9 n x28 x29 k6) := by
  intro n
  induction n with
  | zero => intros; exact tl_fail
  | succ n ih =>
    intro x28 x29
    rw [L_X6_digest_183]
    refine tl_iload (pc := 183) (i := 4) dX6_digest_183 rfl ?_
    refine tl_bipush (pc := 185) (v := 25) dX6_digest_185 (by decide) ?_
    refine tl_icmp_ge (pc := 187) (tgt := 326) dX6_digest_187 rfl ?_ ?_
    · exact tl_sub (hk6 _) (sub_s (sub_s (sub_n (sub_s (sub_n (sub_n (sub_n sub_e)))))))
    · refine tl_bipush (pc := 190) (v := 25) dX6_digest_190 (by decide) ?_
      refine tl_iload_n (pc := 192) (i := 3) dX6_digest_192 rfl rfl ?_
      refine tl_imul (pc := 193) dX6_digest_193 ?_
      refine tl_iload (pc := 194) (i := 4) dX6_digest_194 rfl ?_
      refine tl_iadd (pc := 196) dX6_digest_196 ?_
      refine tl_bI (fun x30 => ?_)
      refine tl_istore (pc := 197) (i := 5) (lo' := [some (.ref 168), some (.long x28), none, some (.int x9), some (.int x29), some (.int x30), none]) dX6_digest_197 (by decide) rfl ?_
      refine tl_iconst (pc := 199) (v := 0) dX6_digest_199 (by decide) ?_
      refine tl_istore (pc := 200) (i := 6) (lo' := [some (.ref 168), some (.long x28), none, some (.int x9), some (.int x29), some (.int x30), some (.int (0 : Int32))]) dX6_digest_200 (by decide) rfl ?_
      refine tl_sub (lp_X6_digest_202 T x30 x9 x29 hb  _ (fun x36 => ?_) FU _ _) (sub_s (sub_s (sub_n (sub_s (sub_s (sub_s (sub_s sub_e)))))))
      refine tl_iconst (pc := 243) (v := 0) dX6_digest_243 (by decide) ?_
      refine tl_istore (pc := 244) (i := 6) (lo' := [some (.ref 168), some (.long x36), none, some (.int x9), some (.int x29), some (.int x30), some (.int (0 : Int32))]) dX6_digest_244 (by decide) rfl ?_
      refine tl_sub (lp_X6_digest_246 T x30 x9 x29 hb  _ (fun x42 => ?_) FU _ _) (sub_s (sub_s (sub_n (sub_s (sub_s (sub_s (sub_s sub_e)))))))
      refine tl_aload_n (pc := 290) (i := 0) dX6_digest_290 rfl rfl ?_
      refine tl_getR (pc := 291) (r := 169) fl_X6_7 hb.1 rfl dX6_digest_291 ?_
      refine tl_iload (pc := 294) (i := 5) dX6_digest_294 rfl ?_
      refine tl_callSi (pc := 296) k_X6_isOf gw_943 (c_X6_isOf T _ _ _ hb.2.1) rfl rfl (Nat.le_of_ble_eq_true rfl) (Nat.le_of_ble_eq_true rfl) dX6_digest_296 (fun x43 => ?_)
      refine tl_j (fun (k : Int64 → Dm Int64) => ∀ (x44 : Int64), TL_X6_digest T 319 [some (.ref 168), none, none, some (.int x9), some (.int x29), none, none] [.long x44] (k x44)) (fun x44 => ?_) (fun k9 hk9 => ?_)
      · refine tl_lstore_n (pc := 319) (i := 1) (lo' := [some (.ref 168), some (.long x44), none, some (.int x9), some (.int x29), none, none]) dX6_digest_319 rfl (by decide) rfl ?_
        refine tl_iinc (pc := 320) (i := 4) (v := x29 + (1 : Int32)) (lo' := [some (.ref 168), some (.long x44), none, some (.int x9), some (.int (x29 + (1 : Int32))), none, none]) dX6_digest_320 rfl rfl (by decide) rfl ?_
        refine tl_goto (pc := 323) (tgt := 183) dX6_digest_323 rfl ?_
        exact tl_sub (ih _ _) (sub_s (sub_s (sub_n (sub_s (sub_s (sub_n (sub_n sub_e)))))))
      · refine tl_if_eq (pc := 299) (tgt := 318) dX6_digest_299 rfl ?_ ?_
        · refine tl_lload_n (pc := 318) (i := 1) dX6_digest_318 rfl rfl ?_
          exact tl_sub (hk9 _) (sub_s (sub_n (sub_n (sub_s (sub_s (sub_n (sub_n sub_e)))))))
        · refine tl_ldc2 (pc := 302) gw_1191 dX6_digest_302 ?_
          refine tl_lload_n (pc := 305) (i := 1) dX6_digest_305 rfl rfl ?_
          refine tl_lmul (pc := 306) dX6_digest_306 ?_
          refine tl_aload_n (pc := 307) (i := 0) dX6_digest_307 rfl rfl ?_
          refine tl_iload (pc := 308) (i := 5) dX6_digest_308 rfl ?_
          refine tl_callVi (pc := 310) k_X6_counters gw_1166 hb.1 ⟨_, _, rfl⟩ (c_X6_counters T _ hb) rfl rfl (Nat.le_of_ble_eq_true rfl) (Nat.le_of_ble_eq_true rfl) dX6_digest_310 (fun x45 => ?_)
          refine tl_i2l (pc := 313) dX6_digest_313 ?_
          refine tl_ladd (pc := 314) dX6_digest_314 ?_
          refine tl_goto (pc := 315) (tgt := 319) dX6_digest_315 rfl ?_
          exact tl_sub (hk9 _) (sub_s (sub_n (sub_n (sub_s (sub_s (sub_n (sub_n sub_e)))))))
set_option maxRecDepth 100000 in
theorem lp_X6_digest_56 (T : Tb)   (hb : isMod T)  (k2 : Int64 → Dm Int64) (hk2 : ∀ (y56_0 : Int64), TL_X6_digest T 332 [some (.ref 168), some (.long y56_0), none, none, none, none, none] [] (k2 y56_0)) : ∀ (n : Nat) (x8 : Int64) (x9 : Int32), TL_X6_digest T 56 [some (.ref 168), some (.long x8), none, some (.int x9), none, none, none] [] (L_X6_digest_56  n x8 x9 k2) := by
  intro n
  induction n with
  | zero => intros; exact tl_fail
  | succ n ih =>
    intro x8 x9
    rw [L_X6_digest_56]
    refine tl_iload_n (pc := 56) (i := 3) dX6_digest_56 rfl rfl ?_
    refine tl_aload_n (pc := 57) (i := 0) dX6_digest_57 rfl rfl ?_
    refine tl_getR (pc := 58) (r := 169) fl_X6_7 hb.1 rfl dX6_digest_58 ?_
    refine tl_iconst (pc := 61) (v := 0) dX6_digest_61 (by decide) ?_
    refine tl_iald (pc := 62) hb.2.1 dX6_digest_62 (fun x10 => ?_)
    refine tl_icmp_ge (pc := 63) (tgt := 332) dX6_digest_63 rfl ?_ ?_
    · exact tl_sub (hk2 _) (sub_s (sub_s (sub_n (sub_n (sub_n (sub_n (sub_n sub_e)))))))
    · refine tl_iconst (pc := 66) (v := 0) dX6_digest_66 (by decide) ?_
      refine tl_istore (pc := 67) (i := 4) (lo' := [some (.ref 168), some (.long x8), none, some (.int x9), some (.int (0 : Int32)), none, none]) dX6_digest_67 (by decide) rfl ?_
      refine tl_sub (lp_X6_digest_69 T x9 hb  _ (fun x15 => ?_) FU _ _) (sub_s (sub_s (sub_n (sub_s (sub_s (sub_n (sub_n sub_e)))))))
      refine tl_iconst (pc := 97) (v := 0) dX6_digest_97 (by decide) ?_
      refine tl_istore (pc := 98) (i := 4) (lo' := [some (.ref 168), some (.long x15), none, some (.int x9), some (.int (0 : Int32)), none, none]) dX6_digest_98 (by decide) rfl ?_
      refine tl_sub (lp_X6_digest_100 T x9 hb  _ (fun x21 => ?_) FU _ _) (sub_s (sub_s (sub_n (sub_s (sub_s (sub_n (sub_n sub_e)))))))
      refine tl_iconst (pc := 139) (v := 0) dX6_digest_139 (by decide) ?_
      refine tl_istore (pc := 140) (i := 4) (lo' := [some (.ref 168), some (.long x21), none, some (.int x9), some (.int (0 : Int32)), none, none]) dX6_digest_140 (by decide) rfl ?_
      refine tl_sub (lp_X6_digest_142 T x9 hb  _ (fun x27 => ?_) FU _ _) (sub_s (sub_s (sub_n (sub_s (sub_s (sub_n (sub_n sub_e)))))))
      refine tl_iconst (pc := 180) (v := 0) dX6_digest_180 (by decide) ?_
      refine tl_istore (pc := 181) (i := 4) (lo' := [some (.ref 168), some (.long x27), none, some (.int x9), some (.int (0 : Int32)), none, none]) dX6_digest_181 (by decide) rfl ?_
      refine tl_sub (lp_X6_digest_183 T x9 hb  _ (fun x46 => ?_) FU _ _) (sub_s (sub_s (sub_n (sub_s (sub_s (sub_n (sub_n sub_e)))))))
      refine tl_iinc (pc := 326) (i := 3) (v := x9 + (1 : Int32)) (lo' := [some (.ref 168), some (.long x46), none, some (.int (x9 + (1 : Int32))), none, none, none]) dX6_digest_326 rfl rfl (by decide) rfl ?_
      refine tl_goto (pc := 329) (tgt := 56) dX6_digest_329 rfl ?_
      exact tl_sub (ih _ _) (sub_s (sub_s (sub_n (sub_s (sub_n (sub_n (sub_n sub_e)))))))
set_option maxRecDepth 100000 in
theorem lp_X6_digest_349 (T : Tb)   (hb : isMod T)  (k10 : Int64 → Dm Int64) (hk10 : ∀ (y349_0 : Int64), TL_X6_digest T 379 [some (.ref 168), some (.long y349_0), none, none, none, none, none] [] (k10 y349_0)) : ∀ (n : Nat) (x50 : Int64) (x51 : Int32), TL_X6_digest T 349 [some (.ref 168), some (.long x50), none, some (.int x51), none, none, none] [] (L_X6_digest_349  n x50 x51 k10) := by
  intro n
  induction n with
  | zero => intros; exact tl_fail
  | succ n ih =>
    intro x50 x51
    rw [L_X6_digest_349]
    refine tl_iload_n (pc := 349) (i := 3) dX6_digest_349 rfl rfl ?_
    refine tl_aload_n (pc := 350) (i := 0) dX6_digest_350 rfl rfl ?_
    refine tl_getR (pc := 351) (r := 169) fl_X6_7 hb.1 rfl dX6_digest_351 ?_
    refine tl_iconst (pc := 354) (v := 2) dX6_digest_354 (by decide) ?_
    refine tl_iald (pc := 355) hb.2.1 dX6_digest_355 (fun x52 => ?_)
    refine tl_icmp_ge (pc := 356) (tgt := 379) dX6_digest_356 rfl ?_ ?_
    · exact tl_sub (hk10 _) (sub_s (sub_s (sub_n (sub_n (sub_n (sub_n (sub_n sub_e)))))))
    · refine tl_ldc2 (pc := 359) gw_1191 dX6_digest_359 ?_
      refine tl_lload_n (pc := 362) (i := 1) dX6_digest_362 rfl rfl ?_
      refine tl_lmul (pc := 363) dX6_digest_363 ?_
      refine tl_aload_n (pc := 364) (i := 0) dX6_digest_364 rfl rfl ?_
      refine tl_getR (pc := 365) (r := 184) fl_X6_55 hb.1 rfl dX6_digest_365 ?_
      refine tl_iload_n (pc := 368) (i := 3) dX6_digest_368 rfl rfl ?_
      refine tl_iald (pc := 369) hb.2.2.2.2.2.2.2.2.2.2.2.2.2.2.2.2 dX6_digest_369 (fun x53 => ?_)
      refine tl_i2l (pc := 370) dX6_digest_370 ?_
      refine tl_ladd (pc := 371) dX6_digest_371 ?_
      refine tl_bL (fun x54 => ?_)
      refine tl_lstore_n (pc := 372) (i := 1) (lo' := [some (.ref 168), some (.long x54), none, some (.int x51), none, none, none]) dX6_digest_372 rfl (by decide) rfl ?_
      refine tl_iinc (pc := 373) (i := 3) (v := x51 + (1 : Int32)) (lo' := [some (.ref 168), some (.long x54), none, some (.int (x51 + (1 : Int32))), none, none, none]) dX6_digest_373 rfl rfl (by decide) rfl ?_
      refine tl_goto (pc := 376) (tgt := 349) dX6_digest_376 rfl ?_
      exact tl_sub (ih _ _) (sub_s (sub_s (sub_n (sub_s (sub_n (sub_n (sub_n sub_e)))))))
set_option maxRecDepth 100000 in
theorem lp_X6_digest_381 (T : Tb)   (hb : isMod T)  (k11 : Int64 → Dm Int64) (hk11 : ∀ (y381_0 : Int64), TL_X6_digest T 408 [some (.ref 168), some (.long y381_0), none, none, none, none, none] [] (k11 y381_0)) : ∀ (n : Nat) (x56 : Int64) (x57 : Int32), TL_X6_digest T 381 [some (.ref 168), some (.long x56), none, some (.int x57), none, none, none] [] (L_X6_digest_381  n x56 x57 k11) := by
  intro n
  induction n with
  | zero => intros; exact tl_fail
  | succ n ih =>
    intro x56 x57
    rw [L_X6_digest_381]
    refine tl_iload_n (pc := 381) (i := 3) dX6_digest_381 rfl rfl ?_
    refine tl_iconst (pc := 382) (v := 3) dX6_digest_382 (by decide) ?_
    refine tl_icmp_ge (pc := 383) (tgt := 408) dX6_digest_383 rfl ?_ ?_
    · exact tl_sub (hk11 _) (sub_s (sub_s (sub_n (sub_n (sub_n (sub_n (sub_n sub_e)))))))
    · refine tl_ldc2 (pc := 386) gw_1191 dX6_digest_386 ?_
      refine tl_lload_n (pc := 389) (i := 1) dX6_digest_389 rfl rfl ?_
      refine tl_lmul (pc := 390) dX6_digest_390 ?_
      refine tl_aload_n (pc := 391) (i := 0) dX6_digest_391 rfl rfl ?_
      refine tl_iconst (pc := 392) (v := 0) dX6_digest_392 (by decide) ?_
      refine tl_bipush (pc := 393) (v := 77) dX6_digest_393 (by decide) ?_
      refine tl_iload_n (pc := 395) (i := 3) dX6_digest_395 rfl rfl ?_
      refine tl_callVi (pc := 396) k_X6_byPutting gw_1158 hb.1 ⟨_, _, rfl⟩ (c_X6_byPutting T _ _ _ hb) rfl rfl (Nat.le_of_ble_eq_true rfl) (Nat.le_of_ble_eq_true rfl) dX6_digest_396 (fun x58 => ?_)
      refine tl_i2l (pc := 399) dX6_digest_399 ?_
      refine tl_ladd (pc := 400) dX6_digest_400 ?_
      refine tl_bL (fun x59 => ?_)
      refine tl_lstore_n (pc := 401) (i := 1) (lo' := [some (.ref 168), some (.long x59), none, some (.int x57), none, none, none]) dX6_digest_401 rfl (by decide) rfl ?_
      refine tl_iinc (pc := 402) (i := 3) (v := x57 + (1 : Int32)) (lo' := [some (.ref 168), some (.long x59), none, some (.int (x57 + (1 : Int32))), none, none, none]) dX6_digest_402 rfl rfl (by decide) rfl ?_
      refine tl_goto (pc := 405) (tgt := 381) dX6_digest_405 rfl ?_
      exact tl_sub (ih _ _) (sub_s (sub_s (sub_n (sub_s (sub_n (sub_n (sub_n sub_e)))))))
set_option maxRecDepth 100000 in
theorem lp_X6_digest_458 (T : Tb)   (hb : isMod T)    : ∀ (n : Nat) (x68 : Int64) (x69 : Int32), TL_X6_digest T 458 [some (.ref 168), some (.long x68), none, some (.int x69), none, none, none] [] (L_X6_digest_458  n x68 x69 ) := by
  intro n
  induction n with
  | zero => intros; exact tl_fail
  | succ n ih =>
    intro x68 x69
    rw [L_X6_digest_458]
    refine tl_iload_n (pc := 458) (i := 3) dX6_digest_458 rfl rfl ?_
    refine tl_aload_n (pc := 459) (i := 0) dX6_digest_459 rfl rfl ?_
    refine tl_getI (pc := 460) fl_X6_198 hb.1 rfl dX6_digest_460 (fun x70 => ?_)
    refine tl_icmp_ge (pc := 463) (tgt := 486) dX6_digest_463 rfl ?_ ?_
    · refine tl_lload_n (pc := 486) (i := 1) dX6_digest_486 rfl rfl ?_
      exact tl_lret (pc := 487) dX6_digest_487
    · refine tl_ldc2 (pc := 466) gw_1191 dX6_digest_466 ?_
      refine tl_lload_n (pc := 469) (i := 1) dX6_digest_469 rfl rfl ?_
      refine tl_lmul (pc := 470) dX6_digest_470 ?_
      refine tl_aload_n (pc := 471) (i := 0) dX6_digest_471 rfl rfl ?_
      refine tl_getR (pc := 472) (r := 172) fl_X6_19 hb.1 rfl dX6_digest_472 ?_
      refine tl_iload_n (pc := 475) (i := 3) dX6_digest_475 rfl rfl ?_
      refine tl_iald (pc := 476) hb.2.2.2.2.1 dX6_digest_476 (fun x71 => ?_)
      refine tl_i2l (pc := 477) dX6_digest_477 ?_
      refine tl_ladd (pc := 478) dX6_digest_478 ?_
      refine tl_bL (fun x72 => ?_)
      refine tl_lstore_n (pc := 479) (i := 1) (lo' := [some (.ref 168), some (.long x72), none, some (.int x69), none, none, none]) dX6_digest_479 rfl (by decide) rfl ?_
      refine tl_iinc (pc := 480) (i := 3) (v := x69 + (1 : Int32)) (lo' := [some (.ref 168), some (.long x72), none, some (.int (x69 + (1 : Int32))), none, none, none]) dX6_digest_480 rfl rfl (by decide) rfl ?_
      refine tl_goto (pc := 483) (tgt := 458) dX6_digest_483 rfl ?_
      exact tl_sub (ih _ _) (sub_s (sub_s (sub_n (sub_s (sub_n (sub_n (sub_n sub_e)))))))
set_option maxRecDepth 100000 in
theorem c_X6_digest (T : Tb)  (hb : isMod T) : CT (.code yX6_digest cX6_digest 7 (some .long)) yX6_digest 9 lI T [.ref 168] (F_X6_digest) := by
  refine ct_of (lo := [some (.ref 168), none, none, none, none, none, none]) (j := 6) k_X6_digest.1 rfl (fun _ => Nat.le_of_ble_eq_true rfl) ?_
  show TL_X6_digest T 0 _ _ _
  rw [F_X6_digest]
  refine tl_aload_n (pc := 0) (i := 0) dX6_digest_0 rfl rfl ?_
  refine tl_iconst (pc := 1) (v := 0) dX6_digest_1 (by decide) ?_
  refine tl_putI (pc := 2) fw_X6_62 hb.1 rfl dX6_digest_2 ?_
  refine tl_aload_n (pc := 5) (i := 0) dX6_digest_5 rfl rfl ?_
  refine tl_callVv (pc := 6) k_X6_laysNow gw_1024 hb.1 ⟨_, _, rfl⟩ (c_X6_laysNow T hb) rfl rfl (Nat.le_of_ble_eq_true rfl) (Nat.le_of_ble_eq_true rfl) dX6_digest_6 (fun _ => ?_)
  refine tl_ldc2 (pc := 9) gw_1190 dX6_digest_9 ?_
  refine tl_lstore_n (pc := 12) (i := 1) (lo' := [some (.ref 168), some (.long (2887 : Int64)), none, none, none, none, none]) dX6_digest_12 rfl (by decide) rfl ?_
  refine tl_iconst (pc := 13) (v := 0) dX6_digest_13 (by decide) ?_
  refine tl_istore_n (pc := 14) (i := 3) (lo' := [some (.ref 168), some (.long (2887 : Int64)), none, some (.int (0 : Int32)), none, none, none]) dX6_digest_14 rfl (by decide) rfl ?_
  refine tl_sub (lp_X6_digest_15 T  hb  _ (fun x5 => ?_) FU _ _) (sub_s (sub_s (sub_n (sub_s (sub_n (sub_n (sub_n sub_e)))))))
  refine tl_ldc2 (pc := 40) gw_1191 dX6_digest_40 ?_
  refine tl_lload_n (pc := 43) (i := 1) dX6_digest_43 rfl rfl ?_
  refine tl_lmul (pc := 44) dX6_digest_44 ?_
  refine tl_aload_n (pc := 45) (i := 0) dX6_digest_45 rfl rfl ?_
  refine tl_getR (pc := 46) (r := 169) fl_X6_7 hb.1 rfl dX6_digest_46 ?_
  refine tl_iconst (pc := 49) (v := 1) dX6_digest_49 (by decide) ?_
  refine tl_iald (pc := 50) hb.2.1 dX6_digest_50 (fun x6 => ?_)
  refine tl_i2l (pc := 51) dX6_digest_51 ?_
  refine tl_ladd (pc := 52) dX6_digest_52 ?_
  refine tl_bL (fun x7 => ?_)
  refine tl_lstore_n (pc := 53) (i := 1) (lo' := [some (.ref 168), some (.long x7), none, none, none, none, none]) dX6_digest_53 rfl (by decide) rfl ?_
  refine tl_iconst (pc := 54) (v := 0) dX6_digest_54 (by decide) ?_
  refine tl_istore_n (pc := 55) (i := 3) (lo' := [some (.ref 168), some (.long x7), none, some (.int (0 : Int32)), none, none, none]) dX6_digest_55 rfl (by decide) rfl ?_
  refine tl_sub (lp_X6_digest_56 T  hb  _ (fun x47 => ?_) FU _ _) (sub_s (sub_s (sub_n (sub_s (sub_n (sub_n (sub_n sub_e)))))))
  refine tl_aload_n (pc := 332) (i := 0) dX6_digest_332 rfl rfl ?_
  refine tl_aload_n (pc := 333) (i := 0) dX6_digest_333 rfl rfl ?_
  refine tl_getR (pc := 334) (r := 169) fl_X6_7 hb.1 rfl dX6_digest_334 ?_
  refine tl_aload_n (pc := 337) (i := 0) dX6_digest_337 rfl rfl ?_
  refine tl_getR (pc := 338) (r := 169) fl_X6_7 hb.1 rfl dX6_digest_338 ?_
  refine tl_iconst (pc := 341) (v := 1) dX6_digest_341 (by decide) ?_
  refine tl_iald (pc := 342) hb.2.1 dX6_digest_342 (fun x48 => ?_)
  refine tl_callVi (pc := 343) k_X6_laysPages gw_1127 hb.1 ⟨_, _, rfl⟩ (c_X6_laysPages T _ _ _ hb hb.2.1) rfl rfl (Nat.le_of_ble_eq_true rfl) (Nat.le_of_ble_eq_true rfl) dX6_digest_343 (fun x49 => ?_)
  refine tl_pop (pc := 346) dX6_digest_346 rfl ?_
  refine tl_iconst (pc := 347) (v := 0) dX6_digest_347 (by decide) ?_
  refine tl_istore_n (pc := 348) (i := 3) (lo' := [some (.ref 168), some (.long x47), none, some (.int (0 : Int32)), none, none, none]) dX6_digest_348 rfl (by decide) rfl ?_
  refine tl_sub (lp_X6_digest_349 T  hb  _ (fun x55 => ?_) FU _ _) (sub_s (sub_s (sub_n (sub_s (sub_n (sub_n (sub_n sub_e)))))))
  refine tl_iconst (pc := 379) (v := 0) dX6_digest_379 (by decide) ?_
  refine tl_istore_n (pc := 380) (i := 3) (lo' := [some (.ref 168), some (.long x55), none, some (.int (0 : Int32)), none, none, none]) dX6_digest_380 rfl (by decide) rfl ?_
  refine tl_sub (lp_X6_digest_381 T  hb  _ (fun x60 => ?_) FU _ _) (sub_s (sub_s (sub_n (sub_s (sub_n (sub_n (sub_n sub_e)))))))
  refine tl_ldc2 (pc := 408) gw_1191 dX6_digest_408 ?_
  refine tl_ldc2 (pc := 411) gw_1191 dX6_digest_411 ?_
  refine tl_lload_n (pc := 414) (i := 1) dX6_digest_414 rfl rfl ?_
  refine tl_lmul (pc := 415) dX6_digest_415 ?_
  refine tl_aload_n (pc := 416) (i := 0) dX6_digest_416 rfl rfl ?_
  refine tl_iconst (pc := 417) (v := 1) dX6_digest_417 (by decide) ?_
  refine tl_callVi (pc := 418) k_X6_leastFor gw_1174 hb.1 ⟨_, _, rfl⟩ (c_X6_leastFor T _ hb) rfl rfl (Nat.le_of_ble_eq_true rfl) (Nat.le_of_ble_eq_true rfl) dX6_digest_418 (fun x61 => ?_)
  refine tl_i2l (pc := 421) dX6_digest_421 ?_
  refine tl_ladd (pc := 422) dX6_digest_422 ?_
  refine tl_lmul (pc := 423) dX6_digest_423 ?_
  refine tl_aload_n (pc := 424) (i := 0) dX6_digest_424 rfl rfl ?_
  refine tl_iconst (pc := 425) (v := 2) dX6_digest_425 (by decide) ?_
  refine tl_callVi (pc := 426) k_X6_leastFor gw_1174 hb.1 ⟨_, _, rfl⟩ (c_X6_leastFor T _ hb) rfl rfl (Nat.le_of_ble_eq_true rfl) (Nat.le_of_ble_eq_true rfl) dX6_digest_426 (fun x62 => ?_)
  refine tl_i2l (pc := 429) dX6_digest_429 ?_
  refine tl_ladd (pc := 430) dX6_digest_430 ?_
  refine tl_bL (fun x63 => ?_)
  refine tl_lstore_n (pc := 431) (i := 1) (lo' := [some (.ref 168), some (.long x63), none, none, none, none, none]) dX6_digest_431 rfl (by decide) rfl ?_
  refine tl_ldc2 (pc := 432) gw_1191 dX6_digest_432 ?_
  refine tl_ldc2 (pc := 435) gw_1191 dX6_digest_435 ?_
  refine tl_lload_n (pc := 438) (i := 1) dX6_digest_438 rfl rfl ?_
  refine tl_lmul (pc := 439) dX6_digest_439 ?_
  refine tl_aload_n (pc := 440) (i := 0) dX6_digest_440 rfl rfl ?_
  refine tl_callVd (pc := 441) k_X6_share gw_1182 hb.1 ⟨_, _, rfl⟩ (c_X6_share T hb) rfl rfl (Nat.le_of_ble_eq_true rfl) (Nat.le_of_ble_eq_true rfl) dX6_digest_441 (fun x64 => ?_)
  refine tl_callSl (pc := 444) k_Jxe99ae_doubleToLongBits_ccdee gw_1192 (c_Jxe99ae_doubleToLongBits_ccdee T _) rfl rfl (Nat.le_of_ble_eq_true rfl) (Nat.le_of_ble_eq_true rfl) dX6_digest_444 (fun x65 => ?_)
  refine tl_ladd (pc := 447) dX6_digest_447 ?_
  refine tl_lmul (pc := 448) dX6_digest_448 ?_
  refine tl_aload_n (pc := 449) (i := 0) dX6_digest_449 rfl rfl ?_
  refine tl_getI (pc := 450) fl_X6_198 hb.1 rfl dX6_digest_450 (fun x66 => ?_)
  refine tl_i2l (pc := 453) dX6_digest_453 ?_
  refine tl_ladd (pc := 454) dX6_digest_454 ?_
  refine tl_bL (fun x67 => ?_)
  refine tl_lstore_n (pc := 455) (i := 1) (lo' := [some (.ref 168), some (.long x67), none, none, none, none, none]) dX6_digest_455 rfl (by decide) rfl ?_
  refine tl_iconst (pc := 456) (v := 0) dX6_digest_456 (by decide) ?_
  refine tl_istore_n (pc := 457) (i := 3) (lo' := [some (.ref 168), some (.long x67), none, some (.int (0 : Int32)), none, none, none]) dX6_digest_457 rfl (by decide) rfl ?_
  refine tl_sub (lp_X6_digest_458 T  hb    FU _ _) (sub_s (sub_s (sub_n (sub_s (sub_n (sub_n (sub_n sub_e)))))))
