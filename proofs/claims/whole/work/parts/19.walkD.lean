abbrev TL_X6_empties (T : Tb) (pc : Nat) (lo : List (Option Value)) (st : List Value) (X : Dm Unit) : Prop := TL yX6_empties cX6_empties 3 none 0 vI T pc lo st X
set_option maxRecDepth 100000 in
theorem lp_X6_empties_41 (T : Tb) (a0 na0 : Nat) (p1 : Int32)  (ha0 : T[a0]? = some (0, na0, []))    : ∀ (n : Nat) (x1 : Int32), TL_X6_empties T 41 [some (.ref a0), some (.int p1), some (.int x1)] [] (L_X6_empties_41 a0 na0 p1 n x1 ) := by
  intro n
  induction n with
  | zero => intros; exact tl_fail
  | succ n ih =>
    intro x1
    rw [L_X6_empties_41]
    refine tl_iload_n (pc := 41) (i := 2) dX6_empties_41 rfl rfl ?_
    refine tl_iconst (pc := 42) (v := 4) dX6_empties_42 (by decide) ?_
    refine tl_icmp_ge (pc := 43) (tgt := 64) dX6_empties_43 rfl ?_ ?_
    · exact tl_vret (pc := 64) dX6_empties_64
    · refine tl_aload_n (pc := 46) (i := 0) dX6_empties_46 rfl rfl ?_
      refine tl_sipush (pc := 47) (v := 637) dX6_empties_47 (by decide) ?_
      refine tl_iconst (pc := 50) (v := 4) dX6_empties_50 (by decide) ?_
      refine tl_iload_n (pc := 51) (i := 1) dX6_empties_51 rfl rfl ?_
      refine tl_imul (pc := 52) dX6_empties_52 ?_
      refine tl_iadd (pc := 53) dX6_empties_53 ?_
      refine tl_iload_n (pc := 54) (i := 2) dX6_empties_54 rfl rfl ?_
      refine tl_iadd (pc := 55) dX6_empties_55 ?_
      refine tl_iconst (pc := 56) (v := 0) dX6_empties_56 (by decide) ?_
      refine tl_iast (pc := 57) ha0 dX6_empties_57 ?_
      refine tl_iinc (pc := 58) (i := 2) (v := x1 + (1 : Int32)) (lo' := [some (.ref a0), some (.int p1), some (.int (x1 + (1 : Int32)))]) dX6_empties_58 rfl rfl (by decide) rfl ?_
      refine tl_goto (pc := 61) (tgt := 41) dX6_empties_61 rfl ?_
      exact tl_sub (ih _) (sub_s (sub_s (sub_s sub_e)))
set_option maxRecDepth 100000 in
theorem c_X6_empties (T : Tb) (a0 na0 : Nat) (p1 : Int32) (ha0 : T[a0]? = some (0, na0, [])) : CT (.code yX6_empties cX6_empties 3 none) yX6_empties 0 vI T [.ref a0, .int p1] (F_X6_empties a0 na0 p1) := by
  refine ct_of (lo := [some (.ref a0), some (.int p1), none]) (j := 1) k_X6_empties.1 rfl (fun _ => Nat.le_of_ble_eq_true rfl) ?_
  show TL_X6_empties T 0 _ _ _
  rw [F_X6_empties]
  refine tl_aload_n (pc := 0) (i := 0) dX6_empties_0 rfl rfl ?_
  refine tl_bipush (pc := 1) (v := 12) dX6_empties_1 (by decide) ?_
  refine tl_iload_n (pc := 3) (i := 1) dX6_empties_3 rfl rfl ?_
  refine tl_iadd (pc := 4) dX6_empties_4 ?_
  refine tl_iconst (pc := 5) (v := 0) dX6_empties_5 (by decide) ?_
  refine tl_iast (pc := 6) ha0 dX6_empties_6 ?_
  refine tl_aload_n (pc := 7) (i := 0) dX6_empties_7 rfl rfl ?_
  refine tl_sipush (pc := 8) (v := 137) dX6_empties_8 (by decide) ?_
  refine tl_iload_n (pc := 11) (i := 1) dX6_empties_11 rfl rfl ?_
  refine tl_iadd (pc := 12) dX6_empties_12 ?_
  refine tl_iconst (pc := 13) (v := 0) dX6_empties_13 (by decide) ?_
  refine tl_iast (pc := 14) ha0 dX6_empties_14 ?_
  refine tl_aload_n (pc := 15) (i := 0) dX6_empties_15 rfl rfl ?_
  refine tl_sipush (pc := 16) (v := 262) dX6_empties_16 (by decide) ?_
  refine tl_iload_n (pc := 19) (i := 1) dX6_empties_19 rfl rfl ?_
  refine tl_iadd (pc := 20) dX6_empties_20 ?_
  refine tl_iconst (pc := 21) (v := 1) dX6_empties_21 (by decide) ?_
  refine tl_iast (pc := 22) ha0 dX6_empties_22 ?_
  refine tl_aload_n (pc := 23) (i := 0) dX6_empties_23 rfl rfl ?_
  refine tl_sipush (pc := 24) (v := 387) dX6_empties_24 (by decide) ?_
  refine tl_iload_n (pc := 27) (i := 1) dX6_empties_27 rfl rfl ?_
  refine tl_iadd (pc := 28) dX6_empties_28 ?_
  refine tl_iconst (pc := 29) (v := 1) dX6_empties_29 (by decide) ?_
  refine tl_iast (pc := 30) ha0 dX6_empties_30 ?_
  refine tl_aload_n (pc := 31) (i := 0) dX6_empties_31 rfl rfl ?_
  refine tl_sipush (pc := 32) (v := 512) dX6_empties_32 (by decide) ?_
  refine tl_iload_n (pc := 35) (i := 1) dX6_empties_35 rfl rfl ?_
  refine tl_iadd (pc := 36) dX6_empties_36 ?_
  refine tl_iload_n (pc := 37) (i := 1) dX6_empties_37 rfl rfl ?_
  refine tl_iast (pc := 38) ha0 dX6_empties_38 ?_
  refine tl_iconst (pc := 39) (v := 0) dX6_empties_39 (by decide) ?_
  refine tl_istore_n (pc := 40) (i := 2) (lo' := [some (.ref a0), some (.int p1), some (.int (0 : Int32))]) dX6_empties_40 rfl (by decide) rfl ?_
  refine tl_sub (lp_X6_empties_41 T a0 na0 p1 ha0    FU _) (sub_s (sub_s (sub_s sub_e)))
abbrev TL_X6_comes (T : Tb) (pc : Nat) (lo : List (Option Value)) (st : List Value) (X : Dm Int32) : Prop := TL yX6_comes cX6_comes 5 (some .int) 1 iI T pc lo st X
set_option maxRecDepth 100000 in
theorem lp_X6_comes_29 (T : Tb) (p0 : Int32) (p1 : Int32) (x1 : Int32) (hb : isMod T)  (k1 : Unit → Dm Int32) (hk1 : ∀ (_ : Unit), TL_X6_comes T 56 [some (.ref 168), none, none, some (.int x1), none] [] (k1 ())) : ∀ (n : Nat) (x2 : Int32), TL_X6_comes T 29 [some (.ref 168), none, none, some (.int x1), some (.int x2)] [] (L_X6_comes_29 x1 n x2 k1) := by
  intro n
  induction n with
  | zero => intros; exact tl_fail
  | succ n ih =>
    intro x2
    rw [L_X6_comes_29]
    refine tl_iload (pc := 29) (i := 4) dX6_comes_29 rfl ?_
    refine tl_bipush (pc := 31) (v := 25) dX6_comes_31 (by decide) ?_
    refine tl_icmp_ge (pc := 33) (tgt := 56) dX6_comes_33 rfl ?_ ?_
    · exact tl_sub (hk1 ()) (sub_s (sub_n (sub_n (sub_s (sub_n sub_e)))))
    · refine tl_aload_n (pc := 36) (i := 0) dX6_comes_36 rfl rfl ?_
      refine tl_getR (pc := 37) (r := 169) fl_X6_7 hb.1 rfl dX6_comes_37 ?_
      refine tl_bipush (pc := 40) (v := 25) dX6_comes_40 (by decide) ?_
      refine tl_iload_n (pc := 42) (i := 3) dX6_comes_42 rfl rfl ?_
      refine tl_imul (pc := 43) dX6_comes_43 ?_
      refine tl_iload (pc := 44) (i := 4) dX6_comes_44 rfl ?_
      refine tl_iadd (pc := 46) dX6_comes_46 ?_
      refine tl_callSv (pc := 47) k_X6_empties gw_824 (c_X6_empties T _ _ _ hb.2.1) rfl rfl (Nat.le_of_ble_eq_true rfl) (Nat.le_of_ble_eq_true rfl) dX6_comes_47 (fun _ => ?_)
      refine tl_iinc (pc := 50) (i := 4) (v := x2 + (1 : Int32)) (lo' := [some (.ref 168), none, none, some (.int x1), some (.int (x2 + (1 : Int32)))]) dX6_comes_50 rfl rfl (by decide) rfl ?_
      refine tl_goto (pc := 53) (tgt := 29) dX6_comes_53 rfl ?_
      exact tl_sub (ih _) (sub_s (sub_n (sub_n (sub_s (sub_s sub_e)))))
set_option maxRecDepth 100000 in
theorem c_X6_comes (T : Tb) (p0 : Int32) (p1 : Int32) (hb : isMod T) : CT (.code yX6_comes cX6_comes 5 (some .int)) yX6_comes 1 iI T [.ref 168, .int p0, .int p1] (F_X6_comes p0 p1) := by
  refine ct_of (lo := [some (.ref 168), some (.int p0), some (.int p1), none, none]) (j := 2) k_X6_comes.1 rfl (fun _ => Nat.le_of_ble_eq_true rfl) ?_
  show TL_X6_comes T 0 _ _ _
  rw [F_X6_comes]
  refine tl_aload_n (pc := 0) (i := 0) dX6_comes_0 rfl rfl ?_
  refine tl_getR (pc := 1) (r := 169) fl_X6_7 hb.1 rfl dX6_comes_1 ?_
  refine tl_iconst (pc := 4) (v := 0) dX6_comes_4 (by decide) ?_
  refine tl_iald (pc := 5) hb.2.1 dX6_comes_5 (fun x1 => ?_)
  refine tl_istore_n (pc := 6) (i := 3) (lo' := [some (.ref 168), some (.int p0), some (.int p1), some (.int x1), none]) dX6_comes_6 rfl (by decide) rfl ?_
  refine tl_aload_n (pc := 7) (i := 0) dX6_comes_7 rfl rfl ?_
  refine tl_getR (pc := 8) (r := 169) fl_X6_7 hb.1 rfl dX6_comes_8 ?_
  refine tl_iconst (pc := 11) (v := 2) dX6_comes_11 (by decide) ?_
  refine tl_iload_n (pc := 12) (i := 3) dX6_comes_12 rfl rfl ?_
  refine tl_iadd (pc := 13) dX6_comes_13 ?_
  refine tl_iload_n (pc := 14) (i := 1) dX6_comes_14 rfl rfl ?_
  refine tl_iast (pc := 15) hb.2.1 dX6_comes_15 ?_
  refine tl_aload_n (pc := 16) (i := 0) dX6_comes_16 rfl rfl ?_
  refine tl_getR (pc := 17) (r := 169) fl_X6_7 hb.1 rfl dX6_comes_17 ?_
  refine tl_bipush (pc := 20) (v := 7) dX6_comes_20 (by decide) ?_
  refine tl_iload_n (pc := 22) (i := 3) dX6_comes_22 rfl rfl ?_
  refine tl_iadd (pc := 23) dX6_comes_23 ?_
  refine tl_iload_n (pc := 24) (i := 2) dX6_comes_24 rfl rfl ?_
  refine tl_iast (pc := 25) hb.2.1 dX6_comes_25 ?_
  refine tl_iconst (pc := 26) (v := 0) dX6_comes_26 (by decide) ?_
  refine tl_istore (pc := 27) (i := 4) (lo' := [some (.ref 168), some (.int p0), some (.int p1), some (.int x1), some (.int (0 : Int32))]) dX6_comes_27 (by decide) rfl ?_
  refine tl_sub (lp_X6_comes_29 T p0 p1 x1 hb  _ (fun _ => ?_) FU _) (sub_s (sub_n (sub_n (sub_s (sub_s sub_e)))))
  refine tl_aload_n (pc := 56) (i := 0) dX6_comes_56 rfl rfl ?_
  refine tl_getR (pc := 57) (r := 169) fl_X6_7 hb.1 rfl dX6_comes_57 ?_
  refine tl_iconst (pc := 60) (v := 0) dX6_comes_60 (by decide) ?_
  refine tl_dup2 (pc := 61) dX6_comes_61 rfl rfl ?_
  refine tl_iald (pc := 62) hb.2.1 dX6_comes_62 (fun x3 => ?_)
  refine tl_iconst (pc := 63) (v := 1) dX6_comes_63 (by decide) ?_
  refine tl_iadd (pc := 64) dX6_comes_64 ?_
  refine tl_iast (pc := 65) hb.2.1 dX6_comes_65 ?_
  refine tl_iload_n (pc := 66) (i := 3) dX6_comes_66 rfl rfl ?_
  exact tl_iret (pc := 67) dX6_comes_67
abbrev TL_X6_begins (T : Tb) (pc : Nat) (lo : List (Option Value)) (st : List Value) (X : Dm Unit) : Prop := TL yX6_begins cX6_begins 3 none 2 vI T pc lo st X
set_option maxRecDepth 100000 in
theorem c_X6_begins (T : Tb) (p0 : Int32) (p1 : Int32) (hb : isMod T) : CT (.code yX6_begins cX6_begins 3 none) yX6_begins 2 vI T [.ref 168, .int p0, .int p1] (F_X6_begins p0 p1) := by
  refine ct_of (lo := [some (.ref 168), some (.int p0), some (.int p1)]) (j := 0) k_X6_begins.1 rfl (fun _ => Nat.le_of_ble_eq_true rfl) ?_
  show TL_X6_begins T 0 _ _ _
  rw [F_X6_begins]
  refine tl_aload_n (pc := 0) (i := 0) dX6_begins_0 rfl rfl ?_
  refine tl_getR (pc := 1) (r := 169) fl_X6_7 hb.1 rfl dX6_begins_1 ?_
  refine tl_iconst (pc := 4) (v := 0) dX6_begins_4 (by decide) ?_
  refine tl_iconst (pc := 5) (v := 0) dX6_begins_5 (by decide) ?_
  refine tl_iast (pc := 6) hb.2.1 dX6_begins_6 ?_
  refine tl_aload_n (pc := 7) (i := 0) dX6_begins_7 rfl rfl ?_
  refine tl_iload_n (pc := 8) (i := 1) dX6_begins_8 rfl rfl ?_
  refine tl_iload_n (pc := 9) (i := 2) dX6_begins_9 rfl rfl ?_
  refine tl_callVi (pc := 10) k_X6_comes gw_820 hb.1 ⟨_, _, rfl⟩ (c_X6_comes T _ _ hb) rfl rfl (Nat.le_of_ble_eq_true rfl) (Nat.le_of_ble_eq_true rfl) dX6_begins_10 (fun x1 => ?_)
  refine tl_pop (pc := 13) dX6_begins_13 rfl ?_
  exact tl_vret (pc := 14) dX6_begins_14
abbrev TL_X6_thrown (T : Tb) (pc : Nat) (lo : List (Option Value)) (st : List Value) (X : Dm Int32) : Prop := TL yX6_thrown cX6_thrown 1 (some .int) 0 iI T pc lo st X
set_option maxRecDepth 100000 in
theorem c_X6_thrown (T : Tb)  (hb : isMod T) : CT (.code yX6_thrown cX6_thrown 1 (some .int)) yX6_thrown 0 iI T [.ref 168] (F_X6_thrown) := by
  refine ct_of (lo := [some (.ref 168)]) (j := 0) k_X6_thrown.1 rfl (fun _ => Nat.le_of_ble_eq_true rfl) ?_
  show TL_X6_thrown T 0 _ _ _
  rw [F_X6_thrown]
  refine tl_aload_n (pc := 0) (i := 0) dX6_thrown_0 rfl rfl ?_
  refine tl_getI (pc := 1) fl_X6_62 hb.1 rfl dX6_thrown_1 (fun x1 => ?_)
  exact tl_iret (pc := 4) dX6_thrown_4
abbrev TL_X6_fails (T : Tb) (pc : Nat) (lo : List (Option Value)) (st : List Value) (X : Dm Int32) : Prop := TL yX6_fails cX6_fails 2 (some .int) 0 iI T pc lo st X
set_option maxRecDepth 100000 in
theorem c_X6_fails (T : Tb) (p0 : Int32) (hb : isMod T) : CT (.code yX6_fails cX6_fails 2 (some .int)) yX6_fails 0 iI T [.ref 168, .int p0] (F_X6_fails p0) := by
  refine ct_of (lo := [some (.ref 168), some (.int p0)]) (j := 0) k_X6_fails.1 rfl (fun _ => Nat.le_of_ble_eq_true rfl) ?_
  show TL_X6_fails T 0 _ _ _
  rw [F_X6_fails]
  refine tl_aload_n (pc := 0) (i := 0) dX6_fails_0 rfl rfl ?_
  refine tl_iload_n (pc := 1) (i := 1) dX6_fails_1 rfl rfl ?_
  refine tl_putI (pc := 2) fw_X6_62 hb.1 rfl dX6_fails_2 ?_
  refine tl_iconst (pc := 5) (v := 0) dX6_fails_5 (by decide) ?_
  exact tl_iret (pc := 6) dX6_fails_6
abbrev TL_X6_in (T : Tb) (pc : Nat) (lo : List (Option Value)) (st : List Value) (X : Dm Int32) : Prop := TL yX6_in cX6_in 3 (some .boolean) 0 iI T pc lo st X
set_option maxRecDepth 100000 in
theorem c_X6_in (T : Tb) (p0 : Int32) (p1 : Int32) (p2 : Int32)  : CT (.code yX6_in cX6_in 3 (some .boolean)) yX6_in 0 iI T [.int p0, .int p1, .int p2] (F_X6_in p0 p1 p2) := by
  refine ct_of (lo := [some (.int p0), some (.int p1), some (.int p2)]) (j := 0) k_X6_in.1 rfl (fun _ => Nat.le_of_ble_eq_true rfl) ?_
  show TL_X6_in T 0 _ _ _
  rw [F_X6_in]
  refine tl_iload_n (pc := 0) (i := 0) dX6_in_0 rfl rfl ?_
  refine tl_iload_n (pc := 1) (i := 1) dX6_in_1 rfl rfl ?_
  refine tl_icmp_lt (pc := 2) (tgt := 14) dX6_in_2 rfl ?_ ?_
  · refine tl_iconst (pc := 14) (v := 0) dX6_in_14 (by decide) ?_
    exact tl_zret (pc := 15) dX6_in_15
  · refine tl_iload_n (pc := 5) (i := 0) dX6_in_5 rfl rfl ?_
    refine tl_iload_n (pc := 6) (i := 2) dX6_in_6 rfl rfl ?_
    refine tl_icmp_gt (pc := 7) (tgt := 14) dX6_in_7 rfl ?_ ?_
    · refine tl_iconst (pc := 14) (v := 0) dX6_in_14 (by decide) ?_
      exact tl_zret (pc := 15) dX6_in_15
    · refine tl_iconst (pc := 10) (v := 1) dX6_in_10 (by decide) ?_
      refine tl_goto (pc := 11) (tgt := 15) dX6_in_11 rfl ?_
      exact tl_zret (pc := 15) dX6_in_15
abbrev TL_X6_isTable (T : Tb) (pc : Nat) (lo : List (Option Value)) (st : List Value) (X : Dm Int32) : Prop := TL yX6_isTable cX6_isTable 2 (some .boolean) 1 iI T pc lo st X
set_option maxRecDepth 100000 in
theorem c_X6_isTable (T : Tb) (a0 na0 : Nat) (p1 : Int32) (ha0 : T[a0]? = some (0, na0, [])) : CT (.code yX6_isTable cX6_isTable 2 (some .boolean)) yX6_isTable 1 iI T [.ref a0, .int p1] (F_X6_isTable a0 na0 p1) := by
  refine ct_of (lo := [some (.ref a0), some (.int p1)]) (j := 0) k_X6_isTable.1 rfl (fun _ => Nat.le_of_ble_eq_true rfl) ?_
  show TL_X6_isTable T 0 _ _ _
  rw [F_X6_isTable]
  refine tl_iload_n (pc := 0) (i := 1) dX6_isTable_0 rfl rfl ?_
  refine tl_iconst (pc := 1) (v := 0) dX6_isTable_1 (by decide) ?_
  refine tl_aload_n (pc := 2) (i := 0) dX6_isTable_2 rfl rfl ?_
  refine tl_iconst (pc := 3) (v := 0) dX6_isTable_3 (by decide) ?_
  refine tl_iald (pc := 4) ha0 dX6_isTable_4 (fun x1 => ?_)
  refine tl_iconst (pc := 5) (v := 1) dX6_isTable_5 (by decide) ?_
  refine tl_isub (pc := 6) dX6_isTable_6 ?_
  refine tl_callSi (pc := 7) k_X6_in gw_919 (c_X6_in T _ _ _) rfl rfl (Nat.le_of_ble_eq_true rfl) (Nat.le_of_ble_eq_true rfl) dX6_isTable_7 (fun x2 => ?_)
  exact tl_zret (pc := 10) dX6_isTable_10
abbrev TL_X6_isSquare (T : Tb) (pc : Nat) (lo : List (Option Value)) (st : List Value) (X : Dm Int32) : Prop := TL yX6_isSquare cX6_isSquare 4 (some .boolean) 2 iI T pc lo st X
set_option maxRecDepth 100000 in
theorem c_X6_isSquare (T : Tb) (p0 : Int32) (p1 : Int32) (p2 : Int32) (hb : isMod T) : CT (.code yX6_isSquare cX6_isSquare 4 (some .boolean)) yX6_isSquare 2 iI T [.ref 168, .int p0, .int p1, .int p2] (F_X6_isSquare p0 p1 p2) := by
  refine ct_of (lo := [some (.ref 168), some (.int p0), some (.int p1), some (.int p2)]) (j := 0) k_X6_isSquare.1 rfl (fun _ => Nat.le_of_ble_eq_true rfl) ?_
  show TL_X6_isSquare T 0 _ _ _
  rw [F_X6_isSquare]
  refine tl_aload_n (pc := 0) (i := 0) dX6_isSquare_0 rfl rfl ?_
  refine tl_getR (pc := 1) (r := 169) fl_X6_7 hb.1 rfl dX6_isSquare_1 ?_
  refine tl_iload_n (pc := 4) (i := 1) dX6_isSquare_4 rfl rfl ?_
  refine tl_callSi (pc := 5) k_X6_isTable gw_934 (c_X6_isTable T _ _ _ hb.2.1) rfl rfl (Nat.le_of_ble_eq_true rfl) (Nat.le_of_ble_eq_true rfl) dX6_isSquare_5 (fun x1 => ?_)
  refine tl_if_eq (pc := 8) (tgt := 52) dX6_isSquare_8 rfl ?_ ?_
  · refine tl_iconst (pc := 52) (v := 0) dX6_isSquare_52 (by decide) ?_
    exact tl_zret (pc := 53) dX6_isSquare_53
  · refine tl_iload_n (pc := 11) (i := 2) dX6_isSquare_11 rfl rfl ?_
    refine tl_iconst (pc := 12) (v := 0) dX6_isSquare_12 (by decide) ?_
    refine tl_aload_n (pc := 13) (i := 0) dX6_isSquare_13 rfl rfl ?_
    refine tl_getR (pc := 14) (r := 169) fl_X6_7 hb.1 rfl dX6_isSquare_14 ?_
    refine tl_iconst (pc := 17) (v := 2) dX6_isSquare_17 (by decide) ?_
    refine tl_iload_n (pc := 18) (i := 1) dX6_isSquare_18 rfl rfl ?_
    refine tl_iadd (pc := 19) dX6_isSquare_19 ?_
    refine tl_iald (pc := 20) hb.2.1 dX6_isSquare_20 (fun x2 => ?_)
    refine tl_iconst (pc := 21) (v := 1) dX6_isSquare_21 (by decide) ?_
    refine tl_isub (pc := 22) dX6_isSquare_22 ?_
    refine tl_callSi (pc := 23) k_X6_in gw_919 (c_X6_in T _ _ _) rfl rfl (Nat.le_of_ble_eq_true rfl) (Nat.le_of_ble_eq_true rfl) dX6_isSquare_23 (fun x3 => ?_)
    refine tl_if_eq (pc := 26) (tgt := 52) dX6_isSquare_26 rfl ?_ ?_
    · refine tl_iconst (pc := 52) (v := 0) dX6_isSquare_52 (by decide) ?_
      exact tl_zret (pc := 53) dX6_isSquare_53
    · refine tl_iload_n (pc := 29) (i := 3) dX6_isSquare_29 rfl rfl ?_
      refine tl_iconst (pc := 30) (v := 0) dX6_isSquare_30 (by decide) ?_
      refine tl_aload_n (pc := 31) (i := 0) dX6_isSquare_31 rfl rfl ?_
      refine tl_getR (pc := 32) (r := 169) fl_X6_7 hb.1 rfl dX6_isSquare_32 ?_
      refine tl_bipush (pc := 35) (v := 7) dX6_isSquare_35 (by decide) ?_
      refine tl_iload_n (pc := 37) (i := 1) dX6_isSquare_37 rfl rfl ?_
      refine tl_iadd (pc := 38) dX6_isSquare_38 ?_
      refine tl_iald (pc := 39) hb.2.1 dX6_isSquare_39 (fun x4 => ?_)
      refine tl_iconst (pc := 40) (v := 1) dX6_isSquare_40 (by decide) ?_
      refine tl_isub (pc := 41) dX6_isSquare_41 ?_
      refine tl_callSi (pc := 42) k_X6_in gw_919 (c_X6_in T _ _ _) rfl rfl (Nat.le_of_ble_eq_true rfl) (Nat.le_of_ble_eq_true rfl) dX6_isSquare_42 (fun x5 => ?_)
      refine tl_if_eq (pc := 45) (tgt := 52) dX6_isSquare_45 rfl ?_ ?_
      · refine tl_iconst (pc := 52) (v := 0) dX6_isSquare_52 (by decide) ?_
        exact tl_zret (pc := 53) dX6_isSquare_53
      · refine tl_iconst (pc := 48) (v := 1) dX6_isSquare_48 (by decide) ?_
        refine tl_goto (pc := 49) (tgt := 53) dX6_isSquare_49 rfl ?_
        exact tl_zret (pc := 53) dX6_isSquare_53
abbrev TL_X6_square (T : Tb) (pc : Nat) (lo : List (Option Value)) (st : List Value) (X : Dm Int32) : Prop := TL yX6_square cX6_square 3 (some .int) 0 iI T pc lo st X
set_option maxRecDepth 100000 in
theorem c_X6_square (T : Tb) (p0 : Int32) (p1 : Int32) (p2 : Int32)  : CT (.code yX6_square cX6_square 3 (some .int)) yX6_square 0 iI T [.int p0, .int p1, .int p2] (F_X6_square p0 p1 p2) := by
  refine ct_of (lo := [some (.int p0), some (.int p1), some (.int p2)]) (j := 0) k_X6_square.1 rfl (fun _ => Nat.le_of_ble_eq_true rfl) ?_
  show TL_X6_square T 0 _ _ _
  rw [F_X6_square]
  refine tl_bipush (pc := 0) (v := 25) dX6_square_0 (by decide) ?_
  refine tl_iload_n (pc := 2) (i := 0) dX6_square_2 rfl rfl ?_
  refine tl_imul (pc := 3) dX6_square_3 ?_
  refine tl_iconst (pc := 4) (v := 5) dX6_square_4 (by decide) ?_
  refine tl_iload_n (pc := 5) (i := 1) dX6_square_5 rfl rfl ?_
  refine tl_imul (pc := 6) dX6_square_6 ?_
  refine tl_iadd (pc := 7) dX6_square_7 ?_
  refine tl_iload_n (pc := 8) (i := 2) dX6_square_8 rfl rfl ?_
  refine tl_iadd (pc := 9) dX6_square_9 ?_
  exact tl_iret (pc := 10) dX6_square_10
abbrev TL_X6_isOf (T : Tb) (pc : Nat) (lo : List (Option Value)) (st : List Value) (X : Dm Int32) : Prop := TL yX6_isOf cX6_isOf 2 (some .boolean) 0 iI T pc lo st X
set_option maxRecDepth 100000 in
theorem c_X6_isOf (T : Tb) (a0 na0 : Nat) (p1 : Int32) (ha0 : T[a0]? = some (0, na0, [])) : CT (.code yX6_isOf cX6_isOf 2 (some .boolean)) yX6_isOf 0 iI T [.ref a0, .int p1] (F_X6_isOf a0 na0 p1) := by
  refine ct_of (lo := [some (.ref a0), some (.int p1)]) (j := 0) k_X6_isOf.1 rfl (fun _ => Nat.le_of_ble_eq_true rfl) ?_
  show TL_X6_isOf T 0 _ _ _
  rw [F_X6_isOf]
  refine tl_iload_n (pc := 0) (i := 1) dX6_isOf_0 rfl rfl ?_
  refine tl_bipush (pc := 1) (v := 25) dX6_isOf_1 (by decide) ?_
  refine tl_idiv (pc := 3) dX6_isOf_3 (by decide) ?_
  refine tl_aload_n (pc := 4) (i := 0) dX6_isOf_4 rfl rfl ?_
  refine tl_iconst (pc := 5) (v := 0) dX6_isOf_5 (by decide) ?_
  refine tl_iald (pc := 6) ha0 dX6_isOf_6 (fun x1 => ?_)
  refine tl_icmp_ge (pc := 7) (tgt := 46) dX6_isOf_7 rfl ?_ ?_
  · refine tl_iconst (pc := 46) (v := 0) dX6_isOf_46 (by decide) ?_
    exact tl_zret (pc := 47) dX6_isOf_47
  · refine tl_iload_n (pc := 10) (i := 1) dX6_isOf_10 rfl rfl ?_
    refine tl_bipush (pc := 11) (v := 25) dX6_isOf_11 (by decide) ?_
    refine tl_irem (pc := 13) dX6_isOf_13 (by decide) ?_
    refine tl_iconst (pc := 14) (v := 5) dX6_isOf_14 (by decide) ?_
    refine tl_idiv (pc := 15) dX6_isOf_15 (by decide) ?_
    refine tl_aload_n (pc := 16) (i := 0) dX6_isOf_16 rfl rfl ?_
    refine tl_iconst (pc := 17) (v := 2) dX6_isOf_17 (by decide) ?_
    refine tl_iload_n (pc := 18) (i := 1) dX6_isOf_18 rfl rfl ?_
    refine tl_bipush (pc := 19) (v := 25) dX6_isOf_19 (by decide) ?_
    refine tl_idiv (pc := 21) dX6_isOf_21 (by decide) ?_
    refine tl_iadd (pc := 22) dX6_isOf_22 ?_
    refine tl_iald (pc := 23) ha0 dX6_isOf_23 (fun x2 => ?_)
    refine tl_icmp_ge (pc := 24) (tgt := 46) dX6_isOf_24 rfl ?_ ?_
    · refine tl_iconst (pc := 46) (v := 0) dX6_isOf_46 (by decide) ?_
      exact tl_zret (pc := 47) dX6_isOf_47
    · refine tl_iload_n (pc := 27) (i := 1) dX6_isOf_27 rfl rfl ?_
      refine tl_iconst (pc := 28) (v := 5) dX6_isOf_28 (by decide) ?_
      refine tl_irem (pc := 29) dX6_isOf_29 (by decide) ?_
      refine tl_aload_n (pc := 30) (i := 0) dX6_isOf_30 rfl rfl ?_
      refine tl_bipush (pc := 31) (v := 7) dX6_isOf_31 (by decide) ?_
      refine tl_iload_n (pc := 33) (i := 1) dX6_isOf_33 rfl rfl ?_
      refine tl_bipush (pc := 34) (v := 25) dX6_isOf_34 (by decide) ?_
      refine tl_idiv (pc := 36) dX6_isOf_36 (by decide) ?_
      refine tl_iadd (pc := 37) dX6_isOf_37 ?_
      refine tl_iald (pc := 38) ha0 dX6_isOf_38 (fun x3 => ?_)
      refine tl_icmp_ge (pc := 39) (tgt := 46) dX6_isOf_39 rfl ?_ ?_
      · refine tl_iconst (pc := 46) (v := 0) dX6_isOf_46 (by decide) ?_
        exact tl_zret (pc := 47) dX6_isOf_47
      · refine tl_iconst (pc := 42) (v := 1) dX6_isOf_42 (by decide) ?_
        refine tl_goto (pc := 43) (tgt := 47) dX6_isOf_43 rfl ?_
        exact tl_zret (pc := 47) dX6_isOf_47
abbrev TL_X6_isCell (T : Tb) (pc : Nat) (lo : List (Option Value)) (st : List Value) (X : Dm Int32) : Prop := TL yX6_isCell cX6_isCell 2 (some .boolean) 1 iI T pc lo st X
set_option maxRecDepth 100000 in
theorem c_X6_isCell (T : Tb) (a0 na0 : Nat) (p1 : Int32) (ha0 : T[a0]? = some (0, na0, [])) : CT (.code yX6_isCell cX6_isCell 2 (some .boolean)) yX6_isCell 1 iI T [.ref a0, .int p1] (F_X6_isCell a0 na0 p1) := by
  refine ct_of (lo := [some (.ref a0), some (.int p1)]) (j := 0) k_X6_isCell.1 rfl (fun _ => Nat.le_of_ble_eq_true rfl) ?_
  show TL_X6_isCell T 0 _ _ _
  rw [F_X6_isCell]
  refine tl_aload_n (pc := 0) (i := 0) dX6_isCell_0 rfl rfl ?_
  refine tl_iload_n (pc := 1) (i := 1) dX6_isCell_1 rfl rfl ?_
  refine tl_callSi (pc := 2) k_X6_isOf gw_943 (c_X6_isOf T _ _ _ ha0) rfl rfl (Nat.le_of_ble_eq_true rfl) (Nat.le_of_ble_eq_true rfl) dX6_isCell_2 (fun x1 => ?_)
  refine tl_if_eq (pc := 5) (tgt := 23) dX6_isCell_5 rfl ?_ ?_
  · refine tl_iconst (pc := 23) (v := 0) dX6_isCell_23 (by decide) ?_
    exact tl_zret (pc := 24) dX6_isCell_24
  · refine tl_aload_n (pc := 8) (i := 0) dX6_isCell_8 rfl rfl ?_
    refine tl_sipush (pc := 9) (v := 512) dX6_isCell_9 (by decide) ?_
    refine tl_iload_n (pc := 12) (i := 1) dX6_isCell_12 rfl rfl ?_
    refine tl_iadd (pc := 13) dX6_isCell_13 ?_
    refine tl_iald (pc := 14) ha0 dX6_isCell_14 (fun x2 => ?_)
    refine tl_iload_n (pc := 15) (i := 1) dX6_isCell_15 rfl rfl ?_
    refine tl_icmp_ne (pc := 16) (tgt := 23) dX6_isCell_16 rfl ?_ ?_
    · refine tl_iconst (pc := 19) (v := 1) dX6_isCell_19 (by decide) ?_
      refine tl_goto (pc := 20) (tgt := 24) dX6_isCell_20 rfl ?_
      exact tl_zret (pc := 24) dX6_isCell_24
    · refine tl_iconst (pc := 23) (v := 0) dX6_isCell_23 (by decide) ?_
      exact tl_zret (pc := 24) dX6_isCell_24
abbrev TL_X6_isSum (T : Tb) (pc : Nat) (lo : List (Option Value)) (st : List Value) (X : Dm Int32) : Prop := TL yX6_isSum cX6_isSum 2 (some .boolean) 0 iI T pc lo st X
set_option maxRecDepth 100000 in
theorem c_X6_isSum (T : Tb) (a0 na0 : Nat) (p1 : Int32) (ha0 : T[a0]? = some (0, na0, [])) : CT (.code yX6_isSum cX6_isSum 2 (some .boolean)) yX6_isSum 0 iI T [.ref a0, .int p1] (F_X6_isSum a0 na0 p1) := by
  refine ct_of (lo := [some (.ref a0), some (.int p1)]) (j := 0) k_X6_isSum.1 rfl (fun _ => Nat.le_of_ble_eq_true rfl) ?_
  show TL_X6_isSum T 0 _ _ _
  rw [F_X6_isSum]
  refine tl_aload_n (pc := 0) (i := 0) dX6_isSum_0 rfl rfl ?_
  refine tl_bipush (pc := 1) (v := 12) dX6_isSum_1 (by decide) ?_
  refine tl_iload_n (pc := 3) (i := 1) dX6_isSum_3 rfl rfl ?_
  refine tl_iadd (pc := 4) dX6_isSum_4 ?_
  refine tl_iald (pc := 5) ha0 dX6_isSum_5 (fun x1 => ?_)
  refine tl_iconst (pc := 6) (v := 4) dX6_isSum_6 (by decide) ?_
  refine tl_icmp_lt (pc := 7) (tgt := 14) dX6_isSum_7 rfl ?_ ?_
  · refine tl_iconst (pc := 14) (v := 0) dX6_isSum_14 (by decide) ?_
    exact tl_zret (pc := 15) dX6_isSum_15
  · refine tl_iconst (pc := 10) (v := 1) dX6_isSum_10 (by decide) ?_
    refine tl_goto (pc := 11) (tgt := 15) dX6_isSum_11 rfl ?_
    exact tl_zret (pc := 15) dX6_isSum_15
abbrev TL_X6_copies (T : Tb) (pc : Nat) (lo : List (Option Value)) (st : List Value) (X : Dm Unit) : Prop := TL yX6_copies cX6_copies 5 none 0 vI T pc lo st X
set_option maxRecDepth 100000 in
theorem lp_X6_copies_3 (T : Tb) (a0 na0 : Nat) (p1 : Int32) (a2 na2 : Nat) (p3 : Int32)  (ha0 : T[a0]? = some (0, na0, [])) (ha2 : T[a2]? = some (0, na2, []))    : ∀ (n : Nat) (x1 : Int32), TL_X6_copies T 3 [some (.ref a0), some (.int p1), some (.ref a2), some (.int p3), some (.int x1)] [] (L_X6_copies_3 a0 na0 p1 a2 na2 p3 n x1 ) := by
  intro n
  induction n with
  | zero => intros; exact tl_fail
  | succ n ih =>
    intro x1
    rw [L_X6_copies_3]
    refine tl_iload (pc := 3) (i := 4) dX6_copies_3 rfl ?_
    refine tl_sipush (pc := 5) (v := 1137) dX6_copies_5 (by decide) ?_
    refine tl_icmp_ge (pc := 8) (tgt := 29) dX6_copies_8 rfl ?_ ?_
    · exact tl_vret (pc := 29) dX6_copies_29
    · refine tl_aload_n (pc := 11) (i := 2) dX6_copies_11 rfl rfl ?_
      refine tl_iload_n (pc := 12) (i := 3) dX6_copies_12 rfl rfl ?_
      refine tl_iload (pc := 13) (i := 4) dX6_copies_13 rfl ?_
      refine tl_iadd (pc := 15) dX6_copies_15 ?_
      refine tl_aload_n (pc := 16) (i := 0) dX6_copies_16 rfl rfl ?_
      refine tl_iload_n (pc := 17) (i := 1) dX6_copies_17 rfl rfl ?_
      refine tl_iload (pc := 18) (i := 4) dX6_copies_18 rfl ?_
      refine tl_iadd (pc := 20) dX6_copies_20 ?_
      refine tl_iald (pc := 21) ha0 dX6_copies_21 (fun x2 => ?_)
      refine tl_iast (pc := 22) ha2 dX6_copies_22 ?_
      refine tl_iinc (pc := 23) (i := 4) (v := x1 + (1 : Int32)) (lo' := [some (.ref a0), some (.int p1), some (.ref a2), some (.int p3), some (.int (x1 + (1 : Int32)))]) dX6_copies_23 rfl rfl (by decide) rfl ?_
      refine tl_goto (pc := 26) (tgt := 3) dX6_copies_26 rfl ?_
      exact tl_sub (ih _) (sub_s (sub_s (sub_s (sub_s (sub_s sub_e)))))
set_option maxRecDepth 100000 in
theorem c_X6_copies (T : Tb) (a0 na0 : Nat) (p1 : Int32) (a2 na2 : Nat) (p3 : Int32) (ha0 : T[a0]? = some (0, na0, [])) (ha2 : T[a2]? = some (0, na2, [])) : CT (.code yX6_copies cX6_copies 5 none) yX6_copies 0 vI T [.ref a0, .int p1, .ref a2, .int p3] (F_X6_copies a0 na0 p1 a2 na2 p3) := by
  refine ct_of (lo := [some (.ref a0), some (.int p1), some (.ref a2), some (.int p3), none]) (j := 1) k_X6_copies.1 rfl (fun _ => Nat.le_of_ble_eq_true rfl) ?_
  show TL_X6_copies T 0 _ _ _
  rw [F_X6_copies]
  refine tl_iconst (pc := 0) (v := 0) dX6_copies_0 (by decide) ?_
  refine tl_istore (pc := 1) (i := 4) (lo' := [some (.ref a0), some (.int p1), some (.ref a2), some (.int p3), some (.int (0 : Int32))]) dX6_copies_1 (by decide) rfl ?_
  refine tl_sub (lp_X6_copies_3 T a0 na0 p1 a2 na2 p3 ha0 ha2    FU _) (sub_s (sub_s (sub_s (sub_s (sub_s sub_e)))))
abbrev TL_X6_saves (T : Tb) (pc : Nat) (lo : List (Option Value)) (st : List Value) (X : Dm Unit) : Prop := TL yX6_saves cX6_saves 2 none 1 vI T pc lo st X
set_option maxRecDepth 100000 in
theorem lp_X6_saves_16 (T : Tb)   (hb : isMod T)  (k2 : Unit → Dm Unit) (hk2 : ∀ (_ : Unit), TL_X6_saves T 45 [some (.ref 168), none] [] (k2 ())) : ∀ (n : Nat) (x4 : Int32), TL_X6_saves T 16 [some (.ref 168), some (.int x4)] [] (L_X6_saves_16  n x4 k2) := by
  intro n
  induction n with
  | zero => intros; exact tl_fail
  | succ n ih =>
    intro x4
    rw [L_X6_saves_16]
    refine tl_iload_n (pc := 16) (i := 1) dX6_saves_16 rfl rfl ?_
    refine tl_sipush (pc := 17) (v := 5685) dX6_saves_17 (by decide) ?_
    refine tl_icmp_ge (pc := 20) (tgt := 45) dX6_saves_20 rfl ?_ ?_
    · exact tl_sub (hk2 ()) (sub_s (sub_n sub_e))
    · refine tl_aload_n (pc := 23) (i := 0) dX6_saves_23 rfl rfl ?_
      refine tl_getR (pc := 24) (r := 171) fl_X6_16 hb.1 rfl dX6_saves_24 ?_
      refine tl_iload_n (pc := 27) (i := 1) dX6_saves_27 rfl rfl ?_
      refine tl_aload_n (pc := 28) (i := 0) dX6_saves_28 rfl rfl ?_
      refine tl_getR (pc := 29) (r := 171) fl_X6_16 hb.1 rfl dX6_saves_29 ?_
      refine tl_iload_n (pc := 32) (i := 1) dX6_saves_32 rfl rfl ?_
      refine tl_sipush (pc := 33) (v := 1137) dX6_saves_33 (by decide) ?_
      refine tl_iadd (pc := 36) dX6_saves_36 ?_
      refine tl_iald (pc := 37) hb.2.2.2.1 dX6_saves_37 (fun x5 => ?_)
      refine tl_iast (pc := 38) hb.2.2.2.1 dX6_saves_38 ?_
      refine tl_iinc (pc := 39) (i := 1) (v := x4 + (1 : Int32)) (lo' := [some (.ref 168), some (.int (x4 + (1 : Int32)))]) dX6_saves_39 rfl rfl (by decide) rfl ?_
      refine tl_goto (pc := 42) (tgt := 16) dX6_saves_42 rfl ?_
      exact tl_sub (ih _) (sub_s (sub_s sub_e))
set_option maxRecDepth 100000 in
theorem c_X6_saves (T : Tb)  (hb : isMod T) : CT (.code yX6_saves cX6_saves 2 none) yX6_saves 1 vI T [.ref 168] (F_X6_saves) := by
  refine ct_of (lo := [some (.ref 168), none]) (j := 1) k_X6_saves.1 rfl (fun _ => Nat.le_of_ble_eq_true rfl) ?_
  show TL_X6_saves T 0 _ _ _
  rw [F_X6_saves]
  refine tl_aload_n (pc := 0) (i := 0) dX6_saves_0 rfl rfl ?_
  refine tl_iconst (pc := 1) (v := 0) dX6_saves_1 (by decide) ?_
  refine tl_putZ (pc := 2) fw_X6_77 hb.1 rfl dX6_saves_2 ?_
  refine tl_aload_n (pc := 5) (i := 0) dX6_saves_5 rfl rfl ?_
  refine tl_getI (pc := 6) fl_X6_81 hb.1 rfl dX6_saves_6 (fun x1 => ?_)
  refine tl_bipush (pc := 9) (v := 6) dX6_saves_9 (by decide) ?_
  refine tl_j (fun (k : Unit → Dm Unit) => ∀ (_ : Unit), TL_X6_saves T 55 [some (.ref 168), none] [] (k ())) (fun _ => ?_) (fun k1 hk1 => ?_)
  · refine tl_aload_n (pc := 55) (i := 0) dX6_saves_55 rfl rfl ?_
    refine tl_getR (pc := 56) (r := 169) fl_X6_7 hb.1 rfl dX6_saves_56 ?_
    refine tl_iconst (pc := 59) (v := 0) dX6_saves_59 (by decide) ?_
    refine tl_aload_n (pc := 60) (i := 0) dX6_saves_60 rfl rfl ?_
    refine tl_getR (pc := 61) (r := 171) fl_X6_16 hb.1 rfl dX6_saves_61 ?_
    refine tl_sipush (pc := 64) (v := 1137) dX6_saves_64 (by decide) ?_
    refine tl_aload_n (pc := 67) (i := 0) dX6_saves_67 rfl rfl ?_
    refine tl_getI (pc := 68) fl_X6_81 hb.1 rfl dX6_saves_68 (fun x2 => ?_)
    refine tl_imul (pc := 71) dX6_saves_71 ?_
    refine tl_callSv (pc := 72) k_X6_copies gw_912 (c_X6_copies T _ _ _ _ _ _ hb.2.1 hb.2.2.2.1) rfl rfl (Nat.le_of_ble_eq_true rfl) (Nat.le_of_ble_eq_true rfl) dX6_saves_72 (fun _ => ?_)
    refine tl_aload_n (pc := 75) (i := 0) dX6_saves_75 rfl rfl ?_
    refine tl_dup (pc := 76) dX6_saves_76 rfl ?_
    refine tl_getI (pc := 77) fl_X6_81 hb.1 rfl dX6_saves_77 (fun x3 => ?_)
    refine tl_iconst (pc := 80) (v := 1) dX6_saves_80 (by decide) ?_
    refine tl_iadd (pc := 81) dX6_saves_81 ?_
    refine tl_putI (pc := 82) fw_X6_81 hb.1 rfl dX6_saves_82 ?_
    exact tl_vret (pc := 85) dX6_saves_85
  · refine tl_icmp_ne (pc := 11) (tgt := 55) dX6_saves_11 rfl ?_ ?_
    · refine tl_iconst (pc := 14) (v := 0) dX6_saves_14 (by decide) ?_
      refine tl_istore_n (pc := 15) (i := 1) (lo' := [some (.ref 168), some (.int (0 : Int32))]) dX6_saves_15 rfl (by decide) rfl ?_
      refine tl_sub (lp_X6_saves_16 T  hb  _ (fun _ => ?_) FU _) (sub_s (sub_s sub_e))
      refine tl_aload_n (pc := 45) (i := 0) dX6_saves_45 rfl rfl ?_
      refine tl_dup (pc := 46) dX6_saves_46 rfl ?_
      refine tl_getI (pc := 47) fl_X6_81 hb.1 rfl dX6_saves_47 (fun x6 => ?_)
      refine tl_iconst (pc := 50) (v := 1) dX6_saves_50 (by decide) ?_
      refine tl_isub (pc := 51) dX6_saves_51 ?_
      refine tl_putI (pc := 52) fw_X6_81 hb.1 rfl dX6_saves_52 ?_
      exact tl_sub (hk1 ()) (sub_s (sub_n sub_e))
    · exact tl_sub (hk1 ()) (sub_s (sub_n sub_e))
abbrev TL_X6_undo (T : Tb) (pc : Nat) (lo : List (Option Value)) (st : List Value) (X : Dm Int32) : Prop := TL yX6_undo cX6_undo 1 (some .int) 1 iI T pc lo st X
set_option maxRecDepth 100000 in
theorem c_X6_undo (T : Tb)  (hb : isMod T) : CT (.code yX6_undo cX6_undo 1 (some .int)) yX6_undo 1 iI T [.ref 168] (F_X6_undo) := by
  refine ct_of (lo := [some (.ref 168)]) (j := 0) k_X6_undo.1 rfl (fun _ => Nat.le_of_ble_eq_true rfl) ?_
  show TL_X6_undo T 0 _ _ _
  rw [F_X6_undo]
  refine tl_aload_n (pc := 0) (i := 0) dX6_undo_0 rfl rfl ?_
  refine tl_iconst (pc := 1) (v := 0) dX6_undo_1 (by decide) ?_
  refine tl_putI (pc := 2) fw_X6_62 hb.1 rfl dX6_undo_2 ?_
  refine tl_aload_n (pc := 5) (i := 0) dX6_undo_5 rfl rfl ?_
  refine tl_getI (pc := 6) fl_X6_81 hb.1 rfl dX6_undo_6 (fun x1 => ?_)
  refine tl_if_ne (pc := 9) (tgt := 18) dX6_undo_9 rfl ?_ ?_
  · refine tl_aload_n (pc := 12) (i := 0) dX6_undo_12 rfl rfl ?_
    refine tl_iconst (pc := 13) (v := 1) dX6_undo_13 (by decide) ?_
    refine tl_callVi (pc := 14) k_X6_fails gw_908 hb.1 ⟨_, _, rfl⟩ (c_X6_fails T _ hb) rfl rfl (Nat.le_of_ble_eq_true rfl) (Nat.le_of_ble_eq_true rfl) dX6_undo_14 (fun x5 => ?_)
    exact tl_iret (pc := 17) dX6_undo_17
  · refine tl_aload_n (pc := 18) (i := 0) dX6_undo_18 rfl rfl ?_
    refine tl_iconst (pc := 19) (v := 0) dX6_undo_19 (by decide) ?_
    refine tl_putZ (pc := 20) fw_X6_77 hb.1 rfl dX6_undo_20 ?_
    refine tl_aload_n (pc := 23) (i := 0) dX6_undo_23 rfl rfl ?_
    refine tl_dup (pc := 24) dX6_undo_24 rfl ?_
    refine tl_getI (pc := 25) fl_X6_81 hb.1 rfl dX6_undo_25 (fun x2 => ?_)
    refine tl_iconst (pc := 28) (v := 1) dX6_undo_28 (by decide) ?_
    refine tl_isub (pc := 29) dX6_undo_29 ?_
    refine tl_putI (pc := 30) fw_X6_81 hb.1 rfl dX6_undo_30 ?_
    refine tl_aload_n (pc := 33) (i := 0) dX6_undo_33 rfl rfl ?_
    refine tl_getR (pc := 34) (r := 171) fl_X6_16 hb.1 rfl dX6_undo_34 ?_
    refine tl_sipush (pc := 37) (v := 1137) dX6_undo_37 (by decide) ?_
    refine tl_aload_n (pc := 40) (i := 0) dX6_undo_40 rfl rfl ?_
    refine tl_getI (pc := 41) fl_X6_81 hb.1 rfl dX6_undo_41 (fun x3 => ?_)
    refine tl_imul (pc := 44) dX6_undo_44 ?_
    refine tl_aload_n (pc := 45) (i := 0) dX6_undo_45 rfl rfl ?_
    refine tl_getR (pc := 46) (r := 169) fl_X6_7 hb.1 rfl dX6_undo_46 ?_
    refine tl_iconst (pc := 49) (v := 0) dX6_undo_49 (by decide) ?_
    refine tl_callSv (pc := 50) k_X6_copies gw_912 (c_X6_copies T _ _ _ _ _ _ hb.2.2.2.1 hb.2.1) rfl rfl (Nat.le_of_ble_eq_true rfl) (Nat.le_of_ble_eq_true rfl) dX6_undo_50 (fun _ => ?_)
    refine tl_aload_n (pc := 53) (i := 0) dX6_undo_53 rfl rfl ?_
    refine tl_getI (pc := 54) fl_X6_81 hb.1 rfl dX6_undo_54 (fun x4 => ?_)
    exact tl_iret (pc := 57) dX6_undo_57
abbrev TL_X6_rowOf (T : Tb) (pc : Nat) (lo : List (Option Value)) (st : List Value) (X : Dm Int32) : Prop := TL yX6_rowOf cX6_rowOf 1 (some .int) 0 iI T pc lo st X
set_option maxRecDepth 100000 in
theorem c_X6_rowOf (T : Tb) (p0 : Int32)  : CT (.code yX6_rowOf cX6_rowOf 1 (some .int)) yX6_rowOf 0 iI T [.int p0] (F_X6_rowOf p0) := by
  refine ct_of (lo := [some (.int p0)]) (j := 0) k_X6_rowOf.1 rfl (fun _ => Nat.le_of_ble_eq_true rfl) ?_
  show TL_X6_rowOf T 0 _ _ _
  rw [F_X6_rowOf]
  refine tl_iload_n (pc := 0) (i := 0) dX6_rowOf_0 rfl rfl ?_
  refine tl_bipush (pc := 1) (v := 25) dX6_rowOf_1 (by decide) ?_
  refine tl_irem (pc := 3) dX6_rowOf_3 (by decide) ?_
  refine tl_iconst (pc := 4) (v := 5) dX6_rowOf_4 (by decide) ?_
  refine tl_idiv (pc := 5) dX6_rowOf_5 (by decide) ?_
  exact tl_iret (pc := 6) dX6_rowOf_6
abbrev TL_X6_meet (T : Tb) (pc : Nat) (lo : List (Option Value)) (st : List Value) (X : Dm Int32) : Prop := TL yX6_meet cX6_meet 8 (some .boolean) 1 iI T pc lo st X
set_option maxRecDepth 100000 in
theorem c_X6_meet (T : Tb) (a0 na0 : Nat) (p1 : Int32) (p2 : Int32) (p3 : Int32) (ha0 : T[a0]? = some (0, na0, [])) : CT (.code yX6_meet cX6_meet 8 (some .boolean)) yX6_meet 1 iI T [.ref a0, .int p1, .int p2, .int p3] (F_X6_meet a0 na0 p1 p2 p3) := by
  refine ct_of (lo := [some (.ref a0), some (.int p1), some (.int p2), some (.int p3), none, none, none, none]) (j := 4) k_X6_meet.1 rfl (fun _ => Nat.le_of_ble_eq_true rfl) ?_
  show TL_X6_meet T 0 _ _ _
  rw [F_X6_meet]
  refine tl_iload_n (pc := 0) (i := 3) dX6_meet_0 rfl rfl ?_
  refine tl_j (fun (k : Int32 → Dm Int32) => ∀ (x1 : Int32), TL_X6_meet T 14 [some (.ref a0), some (.int p1), some (.int p2), some (.int p3), none, none, none, none] [.int x1] (k x1)) (fun x1 => ?_) (fun k1 hk1 => ?_)
  · refine tl_istore (pc := 14) (i := 4) (lo' := [some (.ref a0), some (.int p1), some (.int p2), some (.int p3), some (.int x1), none, none, none]) dX6_meet_14 (by decide) rfl ?_
    refine tl_iload_n (pc := 16) (i := 3) dX6_meet_16 rfl rfl ?_
    refine tl_j (fun (k : Int32 → Dm Int32) => ∀ (x2 : Int32), TL_X6_meet T 30 [some (.ref a0), some (.int p1), some (.int p2), some (.int p3), some (.int x1), none, none, none] [.int x2] (k x2)) (fun x2 => ?_) (fun k2 hk2 => ?_)
    · refine tl_istore (pc := 30) (i := 5) (lo' := [some (.ref a0), some (.int p1), some (.int p2), some (.int p3), some (.int x1), some (.int x2), none, none]) dX6_meet_30 (by decide) rfl ?_
      refine tl_aload_n (pc := 32) (i := 0) dX6_meet_32 rfl rfl ?_
      refine tl_iload_n (pc := 33) (i := 3) dX6_meet_33 rfl rfl ?_
      refine tl_j (fun (k : Int32 → Dm Int32) => ∀ (x3 : Int32), TL_X6_meet T 46 [some (.ref a0), some (.int p1), some (.int p2), some (.int p3), some (.int x1), some (.int x2), none, none] [.int x3, .ref a0] (k x3)) (fun x3 => ?_) (fun k3 hk3 => ?_)
      · refine tl_iload_n (pc := 46) (i := 1) dX6_meet_46 rfl rfl ?_
        refine tl_iadd (pc := 47) dX6_meet_47 ?_
        refine tl_iald (pc := 48) ha0 dX6_meet_48 (fun x4 => ?_)
        refine tl_istore (pc := 49) (i := 6) (lo' := [some (.ref a0), some (.int p1), some (.int p2), some (.int p3), some (.int x1), some (.int x2), some (.int x4), none]) dX6_meet_49 (by decide) rfl ?_
        refine tl_aload_n (pc := 51) (i := 0) dX6_meet_51 rfl rfl ?_
        refine tl_iload_n (pc := 52) (i := 3) dX6_meet_52 rfl rfl ?_
        refine tl_j (fun (k : Int32 → Dm Int32) => ∀ (x5 : Int32), TL_X6_meet T 65 [none, none, some (.int p2), none, some (.int x1), some (.int x2), some (.int x4), none] [.int x5, .ref a0] (k x5)) (fun x5 => ?_) (fun k4 hk4 => ?_)
        · refine tl_iload_n (pc := 65) (i := 2) dX6_meet_65 rfl rfl ?_
          refine tl_iadd (pc := 66) dX6_meet_66 ?_
          refine tl_iald (pc := 67) ha0 dX6_meet_67 (fun x6 => ?_)
          refine tl_istore (pc := 68) (i := 7) (lo' := [none, none, some (.int p2), none, some (.int x1), some (.int x2), some (.int x4), some (.int x6)]) dX6_meet_68 (by decide) rfl ?_
          refine tl_iload (pc := 70) (i := 4) dX6_meet_70 rfl ?_
          refine tl_iload (pc := 72) (i := 5) dX6_meet_72 rfl ?_
          refine tl_iload (pc := 74) (i := 7) dX6_meet_74 rfl ?_
          refine tl_iadd (pc := 76) dX6_meet_76 ?_
          refine tl_icmp_ge (pc := 77) (tgt := 94) dX6_meet_77 rfl ?_ ?_
          · refine tl_iconst (pc := 94) (v := 0) dX6_meet_94 (by decide) ?_
            exact tl_zret (pc := 95) dX6_meet_95
          · refine tl_iload (pc := 80) (i := 5) dX6_meet_80 rfl ?_
            refine tl_iload (pc := 82) (i := 4) dX6_meet_82 rfl ?_
            refine tl_iload (pc := 84) (i := 6) dX6_meet_84 rfl ?_
            refine tl_iadd (pc := 86) dX6_meet_86 ?_
            refine tl_icmp_ge (pc := 87) (tgt := 94) dX6_meet_87 rfl ?_ ?_
            · refine tl_iconst (pc := 94) (v := 0) dX6_meet_94 (by decide) ?_
              exact tl_zret (pc := 95) dX6_meet_95
            · refine tl_iconst (pc := 90) (v := 1) dX6_meet_90 (by decide) ?_
              refine tl_goto (pc := 91) (tgt := 95) dX6_meet_91 rfl ?_
              exact tl_zret (pc := 95) dX6_meet_95
        · refine tl_if_eq (pc := 53) (tgt := 62) dX6_meet_53 rfl ?_ ?_
          · refine tl_sipush (pc := 62) (v := 262) dX6_meet_62 (by decide) ?_
            exact tl_sub (hk4 _) (sub_n (sub_n (sub_s (sub_n (sub_s (sub_s (sub_s (sub_n sub_e))))))))
          · refine tl_sipush (pc := 56) (v := 387) dX6_meet_56 (by decide) ?_
            refine tl_goto (pc := 59) (tgt := 65) dX6_meet_59 rfl ?_
            exact tl_sub (hk4 _) (sub_n (sub_n (sub_s (sub_n (sub_s (sub_s (sub_s (sub_n sub_e))))))))
      · refine tl_if_eq (pc := 34) (tgt := 43) dX6_meet_34 rfl ?_ ?_
        · refine tl_sipush (pc := 43) (v := 262) dX6_meet_43 (by decide) ?_
          exact tl_sub (hk3 _) (sub_s (sub_s (sub_s (sub_s (sub_s (sub_s (sub_n (sub_n sub_e))))))))
        · refine tl_sipush (pc := 37) (v := 387) dX6_meet_37 (by decide) ?_
          refine tl_goto (pc := 40) (tgt := 46) dX6_meet_40 rfl ?_
          exact tl_sub (hk3 _) (sub_s (sub_s (sub_s (sub_s (sub_s (sub_s (sub_n (sub_n sub_e))))))))
    · refine tl_if_eq (pc := 17) (tgt := 26) dX6_meet_17 rfl ?_ ?_
      · refine tl_iload_n (pc := 26) (i := 2) dX6_meet_26 rfl rfl ?_
        refine tl_callSi (pc := 27) k_X6_rowOf gw_1053 (c_X6_rowOf T _) rfl rfl (Nat.le_of_ble_eq_true rfl) (Nat.le_of_ble_eq_true rfl) dX6_meet_27 (fun x7 => ?_)
        exact tl_sub (hk2 _) (sub_s (sub_s (sub_s (sub_s (sub_s (sub_n (sub_n (sub_n sub_e))))))))
      · refine tl_iload_n (pc := 20) (i := 2) dX6_meet_20 rfl rfl ?_
        refine tl_iconst (pc := 21) (v := 5) dX6_meet_21 (by decide) ?_
        refine tl_irem (pc := 22) dX6_meet_22 (by decide) ?_
        refine tl_goto (pc := 23) (tgt := 30) dX6_meet_23 rfl ?_
        exact tl_sub (hk2 _) (sub_s (sub_s (sub_s (sub_s (sub_s (sub_n (sub_n (sub_n sub_e))))))))
  · refine tl_if_eq (pc := 1) (tgt := 10) dX6_meet_1 rfl ?_ ?_
    · refine tl_iload_n (pc := 10) (i := 1) dX6_meet_10 rfl rfl ?_
      refine tl_callSi (pc := 11) k_X6_rowOf gw_1053 (c_X6_rowOf T _) rfl rfl (Nat.le_of_ble_eq_true rfl) (Nat.le_of_ble_eq_true rfl) dX6_meet_11 (fun x8 => ?_)
      exact tl_sub (hk1 _) (sub_s (sub_s (sub_s (sub_s (sub_n (sub_n (sub_n (sub_n sub_e))))))))
    · refine tl_iload_n (pc := 4) (i := 1) dX6_meet_4 rfl rfl ?_
      refine tl_iconst (pc := 5) (v := 5) dX6_meet_5 (by decide) ?_
      refine tl_irem (pc := 6) dX6_meet_6 (by decide) ?_
      refine tl_goto (pc := 7) (tgt := 14) dX6_meet_7 rfl ?_
      exact tl_sub (hk1 _) (sub_s (sub_s (sub_s (sub_s (sub_n (sub_n (sub_n (sub_n sub_e))))))))
abbrev TL_X6_along (T : Tb) (pc : Nat) (lo : List (Option Value)) (st : List Value) (X : Dm Int32) : Prop := TL yX6_along cX6_along 2 (some .int) 1 iI T pc lo st X
set_option maxRecDepth 100000 in
theorem c_X6_along (T : Tb) (p0 : Int32) (p1 : Int32)  : CT (.code yX6_along cX6_along 2 (some .int)) yX6_along 1 iI T [.int p0, .int p1] (F_X6_along p0 p1) := by
  refine ct_of (lo := [some (.int p0), some (.int p1)]) (j := 0) k_X6_along.1 rfl (fun _ => Nat.le_of_ble_eq_true rfl) ?_
  show TL_X6_along T 0 _ _ _
  rw [F_X6_along]
  refine tl_iload_n (pc := 0) (i := 1) dX6_along_0 rfl rfl ?_
  refine tl_if_eq (pc := 1) (tgt := 11) dX6_along_1 rfl ?_ ?_
  · refine tl_iload_n (pc := 11) (i := 0) dX6_along_11 rfl rfl ?_
    refine tl_iconst (pc := 12) (v := 5) dX6_along_12 (by decide) ?_
    refine tl_irem (pc := 13) dX6_along_13 (by decide) ?_
    exact tl_iret (pc := 14) dX6_along_14
  · refine tl_iload_n (pc := 4) (i := 0) dX6_along_4 rfl rfl ?_
    refine tl_callSi (pc := 5) k_X6_rowOf gw_1053 (c_X6_rowOf T _) rfl rfl (Nat.le_of_ble_eq_true rfl) (Nat.le_of_ble_eq_true rfl) dX6_along_5 (fun x1 => ?_)
    refine tl_goto (pc := 8) (tgt := 14) dX6_along_8 rfl ?_
    exact tl_iret (pc := 14) dX6_along_14
abbrev TL_X6_from (T : Tb) (pc : Nat) (lo : List (Option Value)) (st : List Value) (X : Dm Int32) : Prop := TL yX6_from cX6_from 7 (some .int) 2 iI T pc lo st X
set_option maxRecDepth 100000 in
theorem lp_X6_from_21 (T : Tb) (a0 na0 : Nat) (p1 : Int32) (x2 : Int32) (ha0 : T[a0]? = some (0, na0, []))    : ∀ (n : Nat) (x3 : Int32) (x4 : Int32), TL_X6_from T 21 [some (.ref a0), some (.int p1), some (.int x2), some (.int x3), some (.int x4), none, none] [] (L_X6_from_21 a0 na0 p1 x2 n x3 x4 ) := by
  intro n
  induction n with
  | zero => intros; exact tl_fail
  | succ n ih =>
    intro x3 x4
    rw [L_X6_from_21]
    refine tl_iload (pc := 21) (i := 4) dX6_from_21 rfl ?_
    refine tl_bipush (pc := 23) (v := 25) dX6_from_23 (by decide) ?_
    refine tl_icmp_ge (pc := 25) (tgt := 128) dX6_from_25 rfl ?_ ?_
    · refine tl_iload_n (pc := 128) (i := 3) dX6_from_128 rfl rfl ?_
      exact tl_iret (pc := 129) dX6_from_129
    · refine tl_iload_n (pc := 28) (i := 1) dX6_from_28 rfl rfl ?_
      refine tl_iload_n (pc := 29) (i := 1) dX6_from_29 rfl rfl ?_
      refine tl_bipush (pc := 30) (v := 25) dX6_from_30 (by decide) ?_
      refine tl_irem (pc := 32) dX6_from_32 (by decide) ?_
      refine tl_isub (pc := 33) dX6_from_33 ?_
      refine tl_iload (pc := 34) (i := 4) dX6_from_34 rfl ?_
      refine tl_iadd (pc := 36) dX6_from_36 ?_
      refine tl_bI (fun x5 => ?_)
      refine tl_istore (pc := 37) (i := 5) (lo' := [some (.ref a0), some (.int p1), some (.int x2), some (.int x3), some (.int x4), some (.int x5), none]) dX6_from_37 (by decide) rfl ?_
      refine tl_aload_n (pc := 39) (i := 0) dX6_from_39 rfl rfl ?_
      refine tl_iload (pc := 40) (i := 5) dX6_from_40 rfl ?_
      refine tl_callSi (pc := 42) k_X6_isCell gw_940 (c_X6_isCell T _ _ _ ha0) rfl rfl (Nat.le_of_ble_eq_true rfl) (Nat.le_of_ble_eq_true rfl) dX6_from_42 (fun x6 => ?_)
      refine tl_j (fun (k : Int32 → Dm Int32) => ∀ (x7 : Int32), TL_X6_from T 94 [some (.ref a0), some (.int p1), some (.int x2), some (.int x3), some (.int x4), some (.int x5), none] [.int x7] (k x7)) (fun x7 => ?_) (fun k2 hk2 => ?_)
      · refine tl_istore (pc := 94) (i := 6) (lo' := [some (.ref a0), some (.int p1), some (.int x2), some (.int x3), some (.int x4), some (.int x5), some (.int x7)]) dX6_from_94 (by decide) rfl ?_
        refine tl_iload (pc := 96) (i := 6) dX6_from_96 rfl ?_
        refine tl_j (fun (k : Int32 → Dm Int32) => ∀ (x8 : Int32), TL_X6_from T 121 [some (.ref a0), some (.int p1), some (.int x2), none, some (.int x4), none, none] [.int x8] (k x8)) (fun x8 => ?_) (fun k3 hk3 => ?_)
        · refine tl_istore_n (pc := 121) (i := 3) (lo' := [some (.ref a0), some (.int p1), some (.int x2), some (.int x8), some (.int x4), none, none]) dX6_from_121 rfl (by decide) rfl ?_
          refine tl_iinc (pc := 122) (i := 4) (v := x4 + (1 : Int32)) (lo' := [some (.ref a0), some (.int p1), some (.int x2), some (.int x8), some (.int (x4 + (1 : Int32))), none, none]) dX6_from_122 rfl rfl (by decide) rfl ?_
          refine tl_goto (pc := 125) (tgt := 21) dX6_from_125 rfl ?_
          exact tl_sub (ih _ _) (sub_s (sub_s (sub_s (sub_s (sub_s (sub_n (sub_n sub_e)))))))
        · refine tl_j (fun (k : Unit → Dm Int32) => ∀ (_ : Unit), TL_X6_from T 120 [some (.ref a0), some (.int p1), some (.int x2), some (.int x3), some (.int x4), none, none] [] (k ())) (fun _ => ?_) (fun k4 hk4 => ?_)
          · refine tl_iload_n (pc := 120) (i := 3) dX6_from_120 rfl rfl ?_
            exact tl_sub (hk3 _) (sub_s (sub_s (sub_s (sub_n (sub_s (sub_n (sub_n sub_e)))))))
          · refine tl_if_eq (pc := 98) (tgt := 120) dX6_from_98 rfl ?_ ?_
            · exact tl_sub (hk4 ()) (sub_s (sub_s (sub_s (sub_s (sub_s (sub_n (sub_n sub_e)))))))
            · refine tl_iload (pc := 101) (i := 5) dX6_from_101 rfl ?_
              refine tl_iload_n (pc := 103) (i := 2) dX6_from_103 rfl rfl ?_
              refine tl_callSi (pc := 104) k_X6_along gw_1056 (c_X6_along T _ _) rfl rfl (Nat.le_of_ble_eq_true rfl) (Nat.le_of_ble_eq_true rfl) dX6_from_104 (fun x9 => ?_)
              refine tl_iload_n (pc := 107) (i := 3) dX6_from_107 rfl rfl ?_
              refine tl_icmp_le (pc := 108) (tgt := 120) dX6_from_108 rfl ?_ ?_
              · exact tl_sub (hk4 ()) (sub_s (sub_s (sub_s (sub_s (sub_s (sub_n (sub_n sub_e)))))))
              · refine tl_iload (pc := 111) (i := 5) dX6_from_111 rfl ?_
                refine tl_iload_n (pc := 113) (i := 2) dX6_from_113 rfl rfl ?_
                refine tl_callSi (pc := 114) k_X6_along gw_1056 (c_X6_along T _ _) rfl rfl (Nat.le_of_ble_eq_true rfl) (Nat.le_of_ble_eq_true rfl) dX6_from_114 (fun x10 => ?_)
                refine tl_goto (pc := 117) (tgt := 121) dX6_from_117 rfl ?_
                exact tl_sub (hk3 _) (sub_s (sub_s (sub_s (sub_n (sub_s (sub_n (sub_n sub_e)))))))
      · refine tl_j (fun (k : Unit → Dm Int32) => ∀ (_ : Unit), TL_X6_from T 93 [some (.ref a0), some (.int p1), some (.int x2), some (.int x3), some (.int x4), some (.int x5), none] [] (k ())) (fun _ => ?_) (fun k5 hk5 => ?_)
        · refine tl_iconst (pc := 93) (v := 0) dX6_from_93 (by decide) ?_
          exact tl_sub (hk2 _) (sub_s (sub_s (sub_s (sub_s (sub_s (sub_s (sub_n sub_e)))))))
        · refine tl_if_eq (pc := 45) (tgt := 93) dX6_from_45 rfl ?_ ?_
          · exact tl_sub (hk5 ()) (sub_s (sub_s (sub_s (sub_s (sub_s (sub_s (sub_n sub_e)))))))
          · refine tl_aload_n (pc := 48) (i := 0) dX6_from_48 rfl rfl ?_
            refine tl_bipush (pc := 49) (v := 12) dX6_from_49 (by decide) ?_
            refine tl_iload (pc := 51) (i := 5) dX6_from_51 rfl ?_
            refine tl_iadd (pc := 53) dX6_from_53 ?_
            refine tl_iald (pc := 54) ha0 dX6_from_54 (fun x11 => ?_)
            refine tl_aload_n (pc := 55) (i := 0) dX6_from_55 rfl rfl ?_
            refine tl_bipush (pc := 56) (v := 12) dX6_from_56 (by decide) ?_
            refine tl_iload_n (pc := 58) (i := 1) dX6_from_58 rfl rfl ?_
            refine tl_iadd (pc := 59) dX6_from_59 ?_
            refine tl_iald (pc := 60) ha0 dX6_from_60 (fun x12 => ?_)
            refine tl_icmp_ne (pc := 61) (tgt := 93) dX6_from_61 rfl ?_ ?_
            · refine tl_aload_n (pc := 64) (i := 0) dX6_from_64 rfl rfl ?_
              refine tl_iload (pc := 65) (i := 5) dX6_from_65 rfl ?_
              refine tl_iload_n (pc := 67) (i := 1) dX6_from_67 rfl rfl ?_
              refine tl_iload_n (pc := 68) (i := 2) dX6_from_68 rfl rfl ?_
              refine tl_callSi (pc := 69) k_X6_meet gw_1050 (c_X6_meet T _ _ _ _ _ ha0) rfl rfl (Nat.le_of_ble_eq_true rfl) (Nat.le_of_ble_eq_true rfl) dX6_from_69 (fun x13 => ?_)
              refine tl_if_eq (pc := 72) (tgt := 93) dX6_from_72 rfl ?_ ?_
              · exact tl_sub (hk5 ()) (sub_s (sub_s (sub_s (sub_s (sub_s (sub_s (sub_n sub_e)))))))
              · refine tl_iload (pc := 75) (i := 5) dX6_from_75 rfl ?_
                refine tl_iload_n (pc := 77) (i := 2) dX6_from_77 rfl rfl ?_
                refine tl_callSi (pc := 78) k_X6_along gw_1056 (c_X6_along T _ _) rfl rfl (Nat.le_of_ble_eq_true rfl) (Nat.le_of_ble_eq_true rfl) dX6_from_78 (fun x14 => ?_)
                refine tl_iload_n (pc := 81) (i := 1) dX6_from_81 rfl rfl ?_
                refine tl_iload_n (pc := 82) (i := 2) dX6_from_82 rfl rfl ?_
                refine tl_callSi (pc := 83) k_X6_along gw_1056 (c_X6_along T _ _) rfl rfl (Nat.le_of_ble_eq_true rfl) (Nat.le_of_ble_eq_true rfl) dX6_from_83 (fun x15 => ?_)
                refine tl_icmp_ge (pc := 86) (tgt := 93) dX6_from_86 rfl ?_ ?_
                · exact tl_sub (hk5 ()) (sub_s (sub_s (sub_s (sub_s (sub_s (sub_s (sub_n sub_e)))))))
                · refine tl_iconst (pc := 89) (v := 1) dX6_from_89 (by decide) ?_
                  refine tl_goto (pc := 90) (tgt := 94) dX6_from_90 rfl ?_
                  exact tl_sub (hk2 _) (sub_s (sub_s (sub_s (sub_s (sub_s (sub_s (sub_n sub_e)))))))
            · exact tl_sub (hk5 ()) (sub_s (sub_s (sub_s (sub_s (sub_s (sub_s (sub_n sub_e)))))))
set_option maxRecDepth 100000 in
theorem c_X6_from (T : Tb) (a0 na0 : Nat) (p1 : Int32) (ha0 : T[a0]? = some (0, na0, [])) : CT (.code yX6_from cX6_from 7 (some .int)) yX6_from 2 iI T [.ref a0, .int p1] (F_X6_from a0 na0 p1) := by
  refine ct_of (lo := [some (.ref a0), some (.int p1), none, none, none, none, none]) (j := 5) k_X6_from.1 rfl (fun _ => Nat.le_of_ble_eq_true rfl) ?_
  show TL_X6_from T 0 _ _ _
  rw [F_X6_from]
  refine tl_aload_n (pc := 0) (i := 0) dX6_from_0 rfl rfl ?_
  refine tl_bipush (pc := 1) (v := 12) dX6_from_1 (by decide) ?_
  refine tl_iload_n (pc := 3) (i := 1) dX6_from_3 rfl rfl ?_
  refine tl_iadd (pc := 4) dX6_from_4 ?_
  refine tl_iald (pc := 5) ha0 dX6_from_5 (fun x1 => ?_)
  refine tl_iconst (pc := 6) (v := 4) dX6_from_6 (by decide) ?_
  refine tl_j (fun (k : Int32 → Dm Int32) => ∀ (x2 : Int32), TL_X6_from T 15 [some (.ref a0), some (.int p1), none, none, none, none, none] [.int x2] (k x2)) (fun x2 => ?_) (fun k1 hk1 => ?_)
  · refine tl_istore_n (pc := 15) (i := 2) (lo' := [some (.ref a0), some (.int p1), some (.int x2), none, none, none, none]) dX6_from_15 rfl (by decide) rfl ?_
    refine tl_iconst (pc := 16) (v := 0) dX6_from_16 (by decide) ?_
    refine tl_istore_n (pc := 17) (i := 3) (lo' := [some (.ref a0), some (.int p1), some (.int x2), some (.int (0 : Int32)), none, none, none]) dX6_from_17 rfl (by decide) rfl ?_
    refine tl_iconst (pc := 18) (v := 0) dX6_from_18 (by decide) ?_
    refine tl_istore (pc := 19) (i := 4) (lo' := [some (.ref a0), some (.int p1), some (.int x2), some (.int (0 : Int32)), some (.int (0 : Int32)), none, none]) dX6_from_19 (by decide) rfl ?_
    refine tl_sub (lp_X6_from_21 T a0 na0 p1 x2 ha0    FU _ _) (sub_s (sub_s (sub_s (sub_s (sub_s (sub_n (sub_n sub_e)))))))
  · refine tl_icmp_ne (pc := 7) (tgt := 14) dX6_from_7 rfl ?_ ?_
    · refine tl_iconst (pc := 10) (v := 1) dX6_from_10 (by decide) ?_
      refine tl_goto (pc := 11) (tgt := 15) dX6_from_11 rfl ?_
      exact tl_sub (hk1 _) (sub_s (sub_s (sub_n (sub_n (sub_n (sub_n (sub_n sub_e)))))))
    · refine tl_iconst (pc := 14) (v := 0) dX6_from_14 (by decide) ?_
      exact tl_sub (hk1 _) (sub_s (sub_s (sub_n (sub_n (sub_n (sub_n (sub_n sub_e)))))))
abbrev TL_X6_counts (T : Tb) (pc : Nat) (lo : List (Option Value)) (st : List Value) (X : Dm Int32) : Prop := TL yX6_counts cX6_counts 4 (some .boolean) 3 iI T pc lo st X
set_option maxRecDepth 100000 in
theorem c_X6_counts (T : Tb) (a0 na0 : Nat) (p1 : Int32) (p2 : Int32) (ha0 : T[a0]? = some (0, na0, [])) : CT (.code yX6_counts cX6_counts 4 (some .boolean)) yX6_counts 3 iI T [.ref a0, .int p1, .int p2] (F_X6_counts a0 na0 p1 p2) := by
  refine ct_of (lo := [some (.ref a0), some (.int p1), some (.int p2), none]) (j := 1) k_X6_counts.1 rfl (fun _ => Nat.le_of_ble_eq_true rfl) ?_
  show TL_X6_counts T 0 _ _ _
  rw [F_X6_counts]
  refine tl_aload_n (pc := 0) (i := 0) dX6_counts_0 rfl rfl ?_
  refine tl_bipush (pc := 1) (v := 12) dX6_counts_1 (by decide) ?_
  refine tl_iload_n (pc := 3) (i := 1) dX6_counts_3 rfl rfl ?_
  refine tl_iadd (pc := 4) dX6_counts_4 ?_
  refine tl_iald (pc := 5) ha0 dX6_counts_5 (fun x1 => ?_)
  refine tl_bipush (pc := 6) (v := 6) dX6_counts_6 (by decide) ?_
  refine tl_icmp_ne (pc := 8) (tgt := 13) dX6_counts_8 rfl ?_ ?_
  · refine tl_iconst (pc := 11) (v := 1) dX6_counts_11 (by decide) ?_
    exact tl_zret (pc := 12) dX6_counts_12
  · refine tl_aload_n (pc := 13) (i := 0) dX6_counts_13 rfl rfl ?_
    refine tl_bipush (pc := 14) (v := 12) dX6_counts_14 (by decide) ?_
    refine tl_iload_n (pc := 16) (i := 1) dX6_counts_16 rfl rfl ?_
    refine tl_iadd (pc := 17) dX6_counts_17 ?_
    refine tl_iald (pc := 18) ha0 dX6_counts_18 (fun x2 => ?_)
    refine tl_iconst (pc := 19) (v := 4) dX6_counts_19 (by decide) ?_
    refine tl_j (fun (k : Int32 → Dm Int32) => ∀ (x3 : Int32), TL_X6_counts T 28 [some (.ref a0), some (.int p1), some (.int p2), none] [.int x3] (k x3)) (fun x3 => ?_) (fun k1 hk1 => ?_)
    · refine tl_istore_n (pc := 28) (i := 3) (lo' := [some (.ref a0), some (.int p1), some (.int p2), some (.int x3)]) dX6_counts_28 rfl (by decide) rfl ?_
      refine tl_aload_n (pc := 29) (i := 0) dX6_counts_29 rfl rfl ?_
      refine tl_iload_n (pc := 30) (i := 2) dX6_counts_30 rfl rfl ?_
      refine tl_iload_n (pc := 31) (i := 1) dX6_counts_31 rfl rfl ?_
      refine tl_iload_n (pc := 32) (i := 3) dX6_counts_32 rfl rfl ?_
      refine tl_callSi (pc := 33) k_X6_meet gw_1050 (c_X6_meet T _ _ _ _ _ ha0) rfl rfl (Nat.le_of_ble_eq_true rfl) (Nat.le_of_ble_eq_true rfl) dX6_counts_33 (fun x4 => ?_)
      refine tl_if_eq (pc := 36) (tgt := 66) dX6_counts_36 rfl ?_ ?_
      · refine tl_iconst (pc := 66) (v := 0) dX6_counts_66 (by decide) ?_
        exact tl_zret (pc := 67) dX6_counts_67
      · refine tl_iload_n (pc := 39) (i := 2) dX6_counts_39 rfl rfl ?_
        refine tl_iload_n (pc := 40) (i := 3) dX6_counts_40 rfl rfl ?_
        refine tl_callSi (pc := 41) k_X6_along gw_1056 (c_X6_along T _ _) rfl rfl (Nat.le_of_ble_eq_true rfl) (Nat.le_of_ble_eq_true rfl) dX6_counts_41 (fun x5 => ?_)
        refine tl_aload_n (pc := 44) (i := 0) dX6_counts_44 rfl rfl ?_
        refine tl_iload_n (pc := 45) (i := 1) dX6_counts_45 rfl rfl ?_
        refine tl_callSi (pc := 46) k_X6_from gw_1059 (c_X6_from T _ _ _ ha0) rfl rfl (Nat.le_of_ble_eq_true rfl) (Nat.le_of_ble_eq_true rfl) dX6_counts_46 (fun x6 => ?_)
        refine tl_iload_n (pc := 49) (i := 1) dX6_counts_49 rfl rfl ?_
        refine tl_iload_n (pc := 50) (i := 3) dX6_counts_50 rfl rfl ?_
        refine tl_callSi (pc := 51) k_X6_along gw_1056 (c_X6_along T _ _) rfl rfl (Nat.le_of_ble_eq_true rfl) (Nat.le_of_ble_eq_true rfl) dX6_counts_51 (fun x7 => ?_)
        refine tl_iconst (pc := 54) (v := 1) dX6_counts_54 (by decide) ?_
        refine tl_isub (pc := 55) dX6_counts_55 ?_
        refine tl_callSi (pc := 56) k_X6_in gw_919 (c_X6_in T _ _ _) rfl rfl (Nat.le_of_ble_eq_true rfl) (Nat.le_of_ble_eq_true rfl) dX6_counts_56 (fun x8 => ?_)
        refine tl_if_eq (pc := 59) (tgt := 66) dX6_counts_59 rfl ?_ ?_
        · refine tl_iconst (pc := 66) (v := 0) dX6_counts_66 (by decide) ?_
          exact tl_zret (pc := 67) dX6_counts_67
        · refine tl_iconst (pc := 62) (v := 1) dX6_counts_62 (by decide) ?_
          refine tl_goto (pc := 63) (tgt := 67) dX6_counts_63 rfl ?_
          exact tl_zret (pc := 67) dX6_counts_67
    · refine tl_icmp_ne (pc := 20) (tgt := 27) dX6_counts_20 rfl ?_ ?_
      · refine tl_iconst (pc := 23) (v := 1) dX6_counts_23 (by decide) ?_
        refine tl_goto (pc := 24) (tgt := 28) dX6_counts_24 rfl ?_
        exact tl_sub (hk1 _) (sub_s (sub_s (sub_s (sub_n sub_e))))
      · refine tl_iconst (pc := 27) (v := 0) dX6_counts_27 (by decide) ?_
        exact tl_sub (hk1 _) (sub_s (sub_s (sub_s (sub_n sub_e))))
abbrev TL_X6_valueOf (T : Tb) (pc : Nat) (lo : List (Option Value)) (st : List Value) (X : Dm Int32) : Prop := TL yX6_valueOf cX6_valueOf 3 (some .int) 0 iI T pc lo st X
set_option maxRecDepth 100000 in
theorem c_X6_valueOf (T : Tb) (a0 na0 : Nat) (p1 : Int32) (hb : isMod T) (ha0 : T[a0]? = some (0, na0, [])) : CT (.code yX6_valueOf cX6_valueOf 3 (some .int)) yX6_valueOf 0 iI T [.ref 168, .ref a0, .int p1] (F_X6_valueOf a0 na0 p1) := by
  refine ct_of (lo := [some (.ref 168), some (.ref a0), some (.int p1)]) (j := 0) k_X6_valueOf.1 rfl (fun _ => Nat.le_of_ble_eq_true rfl) ?_
  show TL_X6_valueOf T 0 _ _ _
  rw [F_X6_valueOf]
  refine tl_aload_n (pc := 0) (i := 1) dX6_valueOf_0 rfl rfl ?_
  refine tl_bipush (pc := 1) (v := 12) dX6_valueOf_1 (by decide) ?_
  refine tl_iload_n (pc := 3) (i := 2) dX6_valueOf_3 rfl rfl ?_
  refine tl_iadd (pc := 4) dX6_valueOf_4 ?_
  refine tl_iald (pc := 5) ha0 dX6_valueOf_5 (fun x1 => ?_)
  refine tl_iconst (pc := 6) (v := 1) dX6_valueOf_6 (by decide) ?_
  refine tl_icmp_ne (pc := 7) (tgt := 20) dX6_valueOf_7 rfl ?_ ?_
  · refine tl_aload_n (pc := 10) (i := 1) dX6_valueOf_10 rfl rfl ?_
    refine tl_sipush (pc := 11) (v := 137) dX6_valueOf_11 (by decide) ?_
    refine tl_iload_n (pc := 14) (i := 2) dX6_valueOf_14 rfl rfl ?_
    refine tl_iadd (pc := 15) dX6_valueOf_15 ?_
    refine tl_iald (pc := 16) ha0 dX6_valueOf_16 (fun x5 => ?_)
    refine tl_goto (pc := 17) (tgt := 46) dX6_valueOf_17 rfl ?_
    exact tl_iret (pc := 46) dX6_valueOf_46
  · refine tl_aload_n (pc := 20) (i := 1) dX6_valueOf_20 rfl rfl ?_
    refine tl_bipush (pc := 21) (v := 12) dX6_valueOf_21 (by decide) ?_
    refine tl_iload_n (pc := 23) (i := 2) dX6_valueOf_23 rfl rfl ?_
    refine tl_iadd (pc := 24) dX6_valueOf_24 ?_
    refine tl_iald (pc := 25) ha0 dX6_valueOf_25 (fun x2 => ?_)
    refine tl_iconst (pc := 26) (v := 3) dX6_valueOf_26 (by decide) ?_
    refine tl_icmp_ne (pc := 27) (tgt := 45) dX6_valueOf_27 rfl ?_ ?_
    · refine tl_aload_n (pc := 30) (i := 0) dX6_valueOf_30 rfl rfl ?_
      refine tl_getR (pc := 31) (r := 174) fl_X6_25 hb.1 rfl dX6_valueOf_31 ?_
      refine tl_aload_n (pc := 34) (i := 1) dX6_valueOf_34 rfl rfl ?_
      refine tl_sipush (pc := 35) (v := 137) dX6_valueOf_35 (by decide) ?_
      refine tl_iload_n (pc := 38) (i := 2) dX6_valueOf_38 rfl rfl ?_
      refine tl_iadd (pc := 39) dX6_valueOf_39 ?_
      refine tl_iald (pc := 40) ha0 dX6_valueOf_40 (fun x3 => ?_)
      refine tl_iald (pc := 41) hb.2.2.2.2.2.2.1 dX6_valueOf_41 (fun x4 => ?_)
      refine tl_goto (pc := 42) (tgt := 46) dX6_valueOf_42 rfl ?_
      exact tl_iret (pc := 46) dX6_valueOf_46
    · refine tl_iconst (pc := 45) (v := 0) dX6_valueOf_45 (by decide) ?_
      exact tl_iret (pc := 46) dX6_valueOf_46
abbrev TL_X6_summed (T : Tb) (pc : Nat) (lo : List (Option Value)) (st : List Value) (X : Dm Int32) : Prop := TL yX6_summed cX6_summed 6 (some .int) 4 iI T pc lo st X
set_option maxRecDepth 100000 in
theorem lp_X6_summed_5 (T : Tb) (a0 na0 : Nat) (p1 : Int32)  (hb : isMod T) (ha0 : T[a0]? = some (0, na0, []))    : ∀ (n : Nat) (x1 : Int32) (x2 : Int32), TL_X6_summed T 5 [some (.ref 168), some (.ref a0), some (.int p1), some (.int x1), some (.int x2), none] [] (L_X6_summed_5 a0 na0 p1 n x1 x2 ) := by
  intro n
  induction n with
  | zero => intros; exact tl_fail
  | succ n ih =>
    intro x1 x2
    rw [L_X6_summed_5]
    refine tl_iload (pc := 5) (i := 4) dX6_summed_5 rfl ?_
    refine tl_bipush (pc := 7) (v := 25) dX6_summed_7 (by decide) ?_
    refine tl_icmp_ge (pc := 9) (tgt := 62) dX6_summed_9 rfl ?_ ?_
    · refine tl_iload_n (pc := 62) (i := 3) dX6_summed_62 rfl rfl ?_
      exact tl_iret (pc := 63) dX6_summed_63
    · refine tl_iload_n (pc := 12) (i := 2) dX6_summed_12 rfl rfl ?_
      refine tl_iload_n (pc := 13) (i := 2) dX6_summed_13 rfl rfl ?_
      refine tl_bipush (pc := 14) (v := 25) dX6_summed_14 (by decide) ?_
      refine tl_irem (pc := 16) dX6_summed_16 (by decide) ?_
      refine tl_isub (pc := 17) dX6_summed_17 ?_
      refine tl_iload (pc := 18) (i := 4) dX6_summed_18 rfl ?_
      refine tl_iadd (pc := 20) dX6_summed_20 ?_
      refine tl_bI (fun x3 => ?_)
      refine tl_istore (pc := 21) (i := 5) (lo' := [some (.ref 168), some (.ref a0), some (.int p1), some (.int x1), some (.int x2), some (.int x3)]) dX6_summed_21 (by decide) rfl ?_
      refine tl_iload_n (pc := 23) (i := 3) dX6_summed_23 rfl rfl ?_
      refine tl_aload_n (pc := 24) (i := 1) dX6_summed_24 rfl rfl ?_
      refine tl_iload (pc := 25) (i := 5) dX6_summed_25 rfl ?_
      refine tl_callSi (pc := 27) k_X6_isCell gw_940 (c_X6_isCell T _ _ _ ha0) rfl rfl (Nat.le_of_ble_eq_true rfl) (Nat.le_of_ble_eq_true rfl) dX6_summed_27 (fun x4 => ?_)
      refine tl_j (fun (k : Int32 → Dm Int32) => ∀ (x5 : Int32), TL_X6_summed T 54 [some (.ref 168), some (.ref a0), some (.int p1), none, some (.int x2), none] [.int x5, .int x1] (k x5)) (fun x5 => ?_) (fun k1 hk1 => ?_)
      · refine tl_iadd (pc := 54) dX6_summed_54 ?_
        refine tl_bI (fun x6 => ?_)
        refine tl_istore_n (pc := 55) (i := 3) (lo' := [some (.ref 168), some (.ref a0), some (.int p1), some (.int x6), some (.int x2), none]) dX6_summed_55 rfl (by decide) rfl ?_
        refine tl_iinc (pc := 56) (i := 4) (v := x2 + (1 : Int32)) (lo' := [some (.ref 168), some (.ref a0), some (.int p1), some (.int x6), some (.int (x2 + (1 : Int32))), none]) dX6_summed_56 rfl rfl (by decide) rfl ?_
        refine tl_goto (pc := 59) (tgt := 5) dX6_summed_59 rfl ?_
        exact tl_sub (ih _ _) (sub_s (sub_s (sub_s (sub_s (sub_s (sub_n sub_e))))))
      · refine tl_j (fun (k : Unit → Dm Int32) => ∀ (_ : Unit), TL_X6_summed T 53 [some (.ref 168), some (.ref a0), some (.int p1), none, some (.int x2), none] [.int x1] (k ())) (fun _ => ?_) (fun k2 hk2 => ?_)
        · refine tl_iconst (pc := 53) (v := 0) dX6_summed_53 (by decide) ?_
          exact tl_sub (hk1 _) (sub_s (sub_s (sub_s (sub_n (sub_s (sub_n sub_e))))))
        · refine tl_if_eq (pc := 30) (tgt := 53) dX6_summed_30 rfl ?_ ?_
          · exact tl_sub (hk2 ()) (sub_s (sub_s (sub_s (sub_n (sub_s (sub_n sub_e))))))
          · refine tl_aload_n (pc := 33) (i := 1) dX6_summed_33 rfl rfl ?_
            refine tl_iload_n (pc := 34) (i := 2) dX6_summed_34 rfl rfl ?_
            refine tl_iload (pc := 35) (i := 5) dX6_summed_35 rfl ?_
            refine tl_callSi (pc := 37) k_X6_counts gw_1047 (c_X6_counts T _ _ _ _ ha0) rfl rfl (Nat.le_of_ble_eq_true rfl) (Nat.le_of_ble_eq_true rfl) dX6_summed_37 (fun x7 => ?_)
            refine tl_if_eq (pc := 40) (tgt := 53) dX6_summed_40 rfl ?_ ?_
            · exact tl_sub (hk2 ()) (sub_s (sub_s (sub_s (sub_n (sub_s (sub_n sub_e))))))
            · refine tl_aload_n (pc := 43) (i := 0) dX6_summed_43 rfl rfl ?_
              refine tl_aload_n (pc := 44) (i := 1) dX6_summed_44 rfl rfl ?_
              refine tl_iload (pc := 45) (i := 5) dX6_summed_45 rfl ?_
              refine tl_callVi (pc := 47) k_X6_valueOf gw_1036 hb.1 ⟨_, _, rfl⟩ (c_X6_valueOf T _ _ _ hb ha0) rfl rfl (Nat.le_of_ble_eq_true rfl) (Nat.le_of_ble_eq_true rfl) dX6_summed_47 (fun x8 => ?_)
              refine tl_goto (pc := 50) (tgt := 54) dX6_summed_50 rfl ?_
              exact tl_sub (hk1 _) (sub_s (sub_s (sub_s (sub_n (sub_s (sub_n sub_e))))))
set_option maxRecDepth 100000 in
theorem c_X6_summed (T : Tb) (a0 na0 : Nat) (p1 : Int32) (hb : isMod T) (ha0 : T[a0]? = some (0, na0, [])) : CT (.code yX6_summed cX6_summed 6 (some .int)) yX6_summed 4 iI T [.ref 168, .ref a0, .int p1] (F_X6_summed a0 na0 p1) := by
  refine ct_of (lo := [some (.ref 168), some (.ref a0), some (.int p1), none, none, none]) (j := 3) k_X6_summed.1 rfl (fun _ => Nat.le_of_ble_eq_true rfl) ?_
  show TL_X6_summed T 0 _ _ _
  rw [F_X6_summed]
  refine tl_iconst (pc := 0) (v := 0) dX6_summed_0 (by decide) ?_
  refine tl_istore_n (pc := 1) (i := 3) (lo' := [some (.ref 168), some (.ref a0), some (.int p1), some (.int (0 : Int32)), none, none]) dX6_summed_1 rfl (by decide) rfl ?_
  refine tl_iconst (pc := 2) (v := 0) dX6_summed_2 (by decide) ?_
  refine tl_istore (pc := 3) (i := 4) (lo' := [some (.ref 168), some (.ref a0), some (.int p1), some (.int (0 : Int32)), some (.int (0 : Int32)), none]) dX6_summed_3 (by decide) rfl ?_
  refine tl_sub (lp_X6_summed_5 T a0 na0 p1 hb ha0    FU _ _) (sub_s (sub_s (sub_s (sub_s (sub_s (sub_n sub_e))))))
abbrev TL_X6_beside (T : Tb) (pc : Nat) (lo : List (Option Value)) (st : List Value) (X : Dm Int32) : Prop := TL yX6_beside cX6_beside 6 (some .int) 1 iI T pc lo st X
set_option maxRecDepth 100000 in
theorem c_X6_beside (T : Tb) (a0 na0 : Nat) (p1 : Int32) (p2 : Int32) (ha0 : T[a0]? = some (0, na0, [])) : CT (.code yX6_beside cX6_beside 6 (some .int)) yX6_beside 1 iI T [.ref a0, .int p1, .int p2] (F_X6_beside a0 na0 p1 p2) := by
  refine ct_of (lo := [some (.ref a0), some (.int p1), some (.int p2), none, none, none]) (j := 3) k_X6_beside.1 rfl (fun _ => Nat.le_of_ble_eq_true rfl) ?_
  show TL_X6_beside T 0 _ _ _
  rw [F_X6_beside]
  refine tl_iload_n (pc := 0) (i := 1) dX6_beside_0 rfl rfl ?_
  refine tl_bipush (pc := 1) (v := 25) dX6_beside_1 (by decide) ?_
  refine tl_idiv (pc := 3) dX6_beside_3 (by decide) ?_
  refine tl_bI (fun x1 => ?_)
  refine tl_istore_n (pc := 4) (i := 3) (lo' := [some (.ref a0), some (.int p1), some (.int p2), some (.int x1), none, none]) dX6_beside_4 rfl (by decide) rfl ?_
  refine tl_iload_n (pc := 5) (i := 1) dX6_beside_5 rfl rfl ?_
  refine tl_callSi (pc := 6) k_X6_rowOf gw_1053 (c_X6_rowOf T _) rfl rfl (Nat.le_of_ble_eq_true rfl) (Nat.le_of_ble_eq_true rfl) dX6_beside_6 (fun x2 => ?_)
  refine tl_iload_n (pc := 9) (i := 2) dX6_beside_9 rfl rfl ?_
  refine tl_j (fun (k : Int32 → Dm Int32) => ∀ (x3 : Int32), TL_X6_beside T 27 [some (.ref a0), some (.int p1), some (.int p2), some (.int x1), none, none] [.int x3, .int x2] (k x3)) (fun x3 => ?_) (fun k1 hk1 => ?_)
  · refine tl_iadd (pc := 27) dX6_beside_27 ?_
    refine tl_bI (fun x4 => ?_)
    refine tl_istore (pc := 28) (i := 4) (lo' := [some (.ref a0), some (.int p1), some (.int p2), some (.int x1), some (.int x4), none]) dX6_beside_28 (by decide) rfl ?_
    refine tl_iload_n (pc := 30) (i := 1) dX6_beside_30 rfl rfl ?_
    refine tl_iconst (pc := 31) (v := 5) dX6_beside_31 (by decide) ?_
    refine tl_irem (pc := 32) dX6_beside_32 (by decide) ?_
    refine tl_iload_n (pc := 33) (i := 2) dX6_beside_33 rfl rfl ?_
    refine tl_iconst (pc := 34) (v := 1) dX6_beside_34 (by decide) ?_
    refine tl_j (fun (k : Int32 → Dm Int32) => ∀ (x5 : Int32), TL_X6_beside T 52 [some (.ref a0), none, none, some (.int x1), some (.int x4), none] [.int x5, .int (iR p1 (5 : Int32))] (k x5)) (fun x5 => ?_) (fun k2 hk2 => ?_)
    · refine tl_iadd (pc := 52) dX6_beside_52 ?_
      refine tl_bI (fun x6 => ?_)
      refine tl_istore (pc := 53) (i := 5) (lo' := [some (.ref a0), none, none, some (.int x1), some (.int x4), some (.int x6)]) dX6_beside_53 (by decide) rfl ?_
      refine tl_iload (pc := 55) (i := 4) dX6_beside_55 rfl ?_
      refine tl_iconst (pc := 57) (v := 0) dX6_beside_57 (by decide) ?_
      refine tl_aload_n (pc := 58) (i := 0) dX6_beside_58 rfl rfl ?_
      refine tl_iconst (pc := 59) (v := 2) dX6_beside_59 (by decide) ?_
      refine tl_iload_n (pc := 60) (i := 3) dX6_beside_60 rfl rfl ?_
      refine tl_iadd (pc := 61) dX6_beside_61 ?_
      refine tl_iald (pc := 62) ha0 dX6_beside_62 (fun x7 => ?_)
      refine tl_iconst (pc := 63) (v := 1) dX6_beside_63 (by decide) ?_
      refine tl_isub (pc := 64) dX6_beside_64 ?_
      refine tl_callSi (pc := 65) k_X6_in gw_919 (c_X6_in T _ _ _) rfl rfl (Nat.le_of_ble_eq_true rfl) (Nat.le_of_ble_eq_true rfl) dX6_beside_65 (fun x8 => ?_)
      refine tl_if_eq (pc := 68) (tgt := 99) dX6_beside_68 rfl ?_ ?_
      · refine tl_iconst (pc := 99) (v := -1) dX6_beside_99 (by decide) ?_
        exact tl_iret (pc := 100) dX6_beside_100
      · refine tl_iload (pc := 71) (i := 5) dX6_beside_71 rfl ?_
        refine tl_iconst (pc := 73) (v := 0) dX6_beside_73 (by decide) ?_
        refine tl_aload_n (pc := 74) (i := 0) dX6_beside_74 rfl rfl ?_
        refine tl_bipush (pc := 75) (v := 7) dX6_beside_75 (by decide) ?_
        refine tl_iload_n (pc := 77) (i := 3) dX6_beside_77 rfl rfl ?_
        refine tl_iadd (pc := 78) dX6_beside_78 ?_
        refine tl_iald (pc := 79) ha0 dX6_beside_79 (fun x9 => ?_)
        refine tl_iconst (pc := 80) (v := 1) dX6_beside_80 (by decide) ?_
        refine tl_isub (pc := 81) dX6_beside_81 ?_
        refine tl_callSi (pc := 82) k_X6_in gw_919 (c_X6_in T _ _ _) rfl rfl (Nat.le_of_ble_eq_true rfl) (Nat.le_of_ble_eq_true rfl) dX6_beside_82 (fun x10 => ?_)
        refine tl_if_eq (pc := 85) (tgt := 99) dX6_beside_85 rfl ?_ ?_
        · refine tl_iconst (pc := 99) (v := -1) dX6_beside_99 (by decide) ?_
          exact tl_iret (pc := 100) dX6_beside_100
        · refine tl_iload_n (pc := 88) (i := 3) dX6_beside_88 rfl rfl ?_
          refine tl_iload (pc := 89) (i := 4) dX6_beside_89 rfl ?_
          refine tl_iload (pc := 91) (i := 5) dX6_beside_91 rfl ?_
          refine tl_callSi (pc := 93) k_X6_square gw_937 (c_X6_square T _ _ _) rfl rfl (Nat.le_of_ble_eq_true rfl) (Nat.le_of_ble_eq_true rfl) dX6_beside_93 (fun x11 => ?_)
          refine tl_goto (pc := 96) (tgt := 100) dX6_beside_96 rfl ?_
          exact tl_iret (pc := 100) dX6_beside_100
    · refine tl_icmp_ne (pc := 35) (tgt := 42) dX6_beside_35 rfl ?_ ?_
      · refine tl_iconst (pc := 38) (v := 1) dX6_beside_38 (by decide) ?_
        refine tl_goto (pc := 39) (tgt := 52) dX6_beside_39 rfl ?_
        exact tl_sub (hk2 _) (sub_s (sub_n (sub_n (sub_s (sub_s (sub_n sub_e))))))
      · refine tl_iload_n (pc := 42) (i := 2) dX6_beside_42 rfl rfl ?_
        refine tl_iconst (pc := 43) (v := 3) dX6_beside_43 (by decide) ?_
        refine tl_icmp_ne (pc := 44) (tgt := 51) dX6_beside_44 rfl ?_ ?_
        · refine tl_iconst (pc := 47) (v := -1) dX6_beside_47 (by decide) ?_
          refine tl_goto (pc := 48) (tgt := 52) dX6_beside_48 rfl ?_
          exact tl_sub (hk2 _) (sub_s (sub_n (sub_n (sub_s (sub_s (sub_n sub_e))))))
        · refine tl_iconst (pc := 51) (v := 0) dX6_beside_51 (by decide) ?_
          exact tl_sub (hk2 _) (sub_s (sub_n (sub_n (sub_s (sub_s (sub_n sub_e))))))
  · refine tl_if_ne (pc := 10) (tgt := 17) dX6_beside_10 rfl ?_ ?_
    · refine tl_iconst (pc := 13) (v := -1) dX6_beside_13 (by decide) ?_
      refine tl_goto (pc := 14) (tgt := 27) dX6_beside_14 rfl ?_
      exact tl_sub (hk1 _) (sub_s (sub_s (sub_s (sub_s (sub_n (sub_n sub_e))))))
    · refine tl_iload_n (pc := 17) (i := 2) dX6_beside_17 rfl rfl ?_
      refine tl_iconst (pc := 18) (v := 2) dX6_beside_18 (by decide) ?_
      refine tl_icmp_ne (pc := 19) (tgt := 26) dX6_beside_19 rfl ?_ ?_
      · refine tl_iconst (pc := 22) (v := 1) dX6_beside_22 (by decide) ?_
        refine tl_goto (pc := 23) (tgt := 27) dX6_beside_23 rfl ?_
        exact tl_sub (hk1 _) (sub_s (sub_s (sub_s (sub_s (sub_n (sub_n sub_e))))))
      · refine tl_iconst (pc := 26) (v := 0) dX6_beside_26 (by decide) ?_
        exact tl_sub (hk1 _) (sub_s (sub_s (sub_s (sub_s (sub_n (sub_n sub_e))))))
abbrev TL_X6_edgeOf (T : Tb) (pc : Nat) (lo : List (Option Value)) (st : List Value) (X : Dm Int32) : Prop := TL yX6_edgeOf cX6_edgeOf 7 (some .int) 2 iI T pc lo st X
set_option maxRecDepth 100000 in
theorem c_X6_edgeOf (T : Tb) (a0 na0 : Nat) (p1 : Int32) (p2 : Int32) (hb : isMod T) (ha0 : T[a0]? = some (0, na0, [])) : CT (.code yX6_edgeOf cX6_edgeOf 7 (some .int)) yX6_edgeOf 2 iI T [.ref 168, .ref a0, .int p1, .int p2] (F_X6_edgeOf a0 na0 p1 p2) := by
  refine ct_of (lo := [some (.ref 168), some (.ref a0), some (.int p1), some (.int p2), none, none, none]) (j := 3) k_X6_edgeOf.1 rfl (fun _ => Nat.le_of_ble_eq_true rfl) ?_
  show TL_X6_edgeOf T 0 _ _ _
  rw [F_X6_edgeOf]
  refine tl_aload_n (pc := 0) (i := 1) dX6_edgeOf_0 rfl rfl ?_
  refine tl_iload_n (pc := 1) (i := 2) dX6_edgeOf_1 rfl rfl ?_
  refine tl_iload_n (pc := 2) (i := 3) dX6_edgeOf_2 rfl rfl ?_
  refine tl_callSi (pc := 3) k_X6_beside gw_1070 (c_X6_beside T _ _ _ _ ha0) rfl rfl (Nat.le_of_ble_eq_true rfl) (Nat.le_of_ble_eq_true rfl) dX6_edgeOf_3 (fun x1 => ?_)
  refine tl_istore (pc := 6) (i := 4) (lo' := [some (.ref 168), some (.ref a0), some (.int p1), some (.int p2), some (.int x1), none, none]) dX6_edgeOf_6 (by decide) rfl ?_
  refine tl_aload_n (pc := 8) (i := 0) dX6_edgeOf_8 rfl rfl ?_
  refine tl_getR (pc := 9) (r := 181) fl_X6_46 hb.1 rfl dX6_edgeOf_9 ?_
  refine tl_iconst (pc := 12) (v := 4) dX6_edgeOf_12 (by decide) ?_
  refine tl_aload_n (pc := 13) (i := 1) dX6_edgeOf_13 rfl rfl ?_
  refine tl_sipush (pc := 14) (v := 512) dX6_edgeOf_14 (by decide) ?_
  refine tl_iload_n (pc := 17) (i := 2) dX6_edgeOf_17 rfl rfl ?_
  refine tl_iadd (pc := 18) dX6_edgeOf_18 ?_
  refine tl_iald (pc := 19) ha0 dX6_edgeOf_19 (fun x2 => ?_)
  refine tl_imul (pc := 20) dX6_edgeOf_20 ?_
  refine tl_iload_n (pc := 21) (i := 3) dX6_edgeOf_21 rfl rfl ?_
  refine tl_iadd (pc := 22) dX6_edgeOf_22 ?_
  refine tl_iald (pc := 23) hb.2.2.2.2.2.2.2.2.2.2.2.2.2.1 dX6_edgeOf_23 (fun x3 => ?_)
  refine tl_istore (pc := 24) (i := 5) (lo' := [some (.ref 168), some (.ref a0), some (.int p1), some (.int p2), some (.int x1), some (.int x3), none]) dX6_edgeOf_24 (by decide) rfl ?_
  refine tl_iload (pc := 26) (i := 4) dX6_edgeOf_26 rfl ?_
  refine tl_iconst (pc := 28) (v := -1) dX6_edgeOf_28 (by decide) ?_
  refine tl_icmp_ne (pc := 29) (tgt := 35) dX6_edgeOf_29 rfl ?_ ?_
  · refine tl_iload (pc := 32) (i := 5) dX6_edgeOf_32 rfl ?_
    exact tl_iret (pc := 34) dX6_edgeOf_34
  · refine tl_aload_n (pc := 35) (i := 0) dX6_edgeOf_35 rfl rfl ?_
    refine tl_getR (pc := 36) (r := 181) fl_X6_46 hb.1 rfl dX6_edgeOf_36 ?_
    refine tl_iconst (pc := 39) (v := 4) dX6_edgeOf_39 (by decide) ?_
    refine tl_aload_n (pc := 40) (i := 1) dX6_edgeOf_40 rfl rfl ?_
    refine tl_sipush (pc := 41) (v := 512) dX6_edgeOf_41 (by decide) ?_
    refine tl_iload (pc := 44) (i := 4) dX6_edgeOf_44 rfl ?_
    refine tl_iadd (pc := 46) dX6_edgeOf_46 ?_
    refine tl_iald (pc := 47) ha0 dX6_edgeOf_47 (fun x4 => ?_)
    refine tl_imul (pc := 48) dX6_edgeOf_48 ?_
    refine tl_iload_n (pc := 49) (i := 3) dX6_edgeOf_49 rfl rfl ?_
    refine tl_iconst (pc := 50) (v := 2) dX6_edgeOf_50 (by decide) ?_
    refine tl_iadd (pc := 51) dX6_edgeOf_51 ?_
    refine tl_iconst (pc := 52) (v := 4) dX6_edgeOf_52 (by decide) ?_
    refine tl_irem (pc := 53) dX6_edgeOf_53 (by decide) ?_
    refine tl_iadd (pc := 54) dX6_edgeOf_54 ?_
    refine tl_iald (pc := 55) hb.2.2.2.2.2.2.2.2.2.2.2.2.2.1 dX6_edgeOf_55 (fun x5 => ?_)
    refine tl_istore (pc := 56) (i := 6) (lo' := [some (.ref 168), some (.ref a0), some (.int p1), some (.int p2), some (.int x1), some (.int x3), some (.int x5)]) dX6_edgeOf_56 (by decide) rfl ?_
    refine tl_aload_n (pc := 58) (i := 1) dX6_edgeOf_58 rfl rfl ?_
    refine tl_sipush (pc := 59) (v := 512) dX6_edgeOf_59 (by decide) ?_
    refine tl_iload (pc := 62) (i := 4) dX6_edgeOf_62 rfl ?_
    refine tl_iadd (pc := 64) dX6_edgeOf_64 ?_
    refine tl_iald (pc := 65) ha0 dX6_edgeOf_65 (fun x6 => ?_)
    refine tl_aload_n (pc := 66) (i := 1) dX6_edgeOf_66 rfl rfl ?_
    refine tl_sipush (pc := 67) (v := 512) dX6_edgeOf_67 (by decide) ?_
    refine tl_iload_n (pc := 70) (i := 2) dX6_edgeOf_70 rfl rfl ?_
    refine tl_iadd (pc := 71) dX6_edgeOf_71 ?_
    refine tl_iald (pc := 72) ha0 dX6_edgeOf_72 (fun x7 => ?_)
    refine tl_icmp_ne (pc := 73) (tgt := 80) dX6_edgeOf_73 rfl ?_ ?_
    · refine tl_iconst (pc := 76) (v := 0) dX6_edgeOf_76 (by decide) ?_
      refine tl_goto (pc := 77) (tgt := 94) dX6_edgeOf_77 rfl ?_
      exact tl_iret (pc := 94) dX6_edgeOf_94
    · refine tl_iload (pc := 80) (i := 6) dX6_edgeOf_80 rfl ?_
      refine tl_iload (pc := 82) (i := 5) dX6_edgeOf_82 rfl ?_
      refine tl_icmp_le (pc := 84) (tgt := 92) dX6_edgeOf_84 rfl ?_ ?_
      · refine tl_iload (pc := 92) (i := 5) dX6_edgeOf_92 rfl ?_
        exact tl_iret (pc := 94) dX6_edgeOf_94
      · refine tl_iload (pc := 87) (i := 6) dX6_edgeOf_87 rfl ?_
        refine tl_goto (pc := 89) (tgt := 94) dX6_edgeOf_89 rfl ?_
        exact tl_iret (pc := 94) dX6_edgeOf_94
abbrev TL_X6_border (T : Tb) (pc : Nat) (lo : List (Option Value)) (st : List Value) (X : Dm Int32) : Prop := TL yX6_border cX6_border 7 (some .int) 3 iI T pc lo st X
set_option maxRecDepth 100000 in
theorem lp_X6_border_6 (T : Tb) (a0 na0 : Nat) (p1 : Int32) (p2 : Int32)  (hb : isMod T) (ha0 : T[a0]? = some (0, na0, []))    : ∀ (n : Nat) (x1 : Int32) (x2 : Int32), TL_X6_border T 6 [some (.ref 168), some (.ref a0), some (.int p1), some (.int p2), some (.int x1), some (.int x2), none] [] (L_X6_border_6 a0 na0 p1 p2 n x1 x2 ) := by
  intro n
  induction n with
  | zero => intros; exact tl_fail
  | succ n ih =>
    intro x1 x2
    rw [L_X6_border_6]
    refine tl_iload (pc := 6) (i := 5) dX6_border_6 rfl ?_
    refine tl_bipush (pc := 8) (v := 25) dX6_border_8 (by decide) ?_
    refine tl_icmp_ge (pc := 10) (tgt := 76) dX6_border_10 rfl ?_ ?_
    · refine tl_iload (pc := 76) (i := 4) dX6_border_76 rfl ?_
      exact tl_iret (pc := 78) dX6_border_78
    · refine tl_bipush (pc := 13) (v := 25) dX6_border_13 (by decide) ?_
      refine tl_iload_n (pc := 15) (i := 2) dX6_border_15 rfl rfl ?_
      refine tl_imul (pc := 16) dX6_border_16 ?_
      refine tl_iload (pc := 17) (i := 5) dX6_border_17 rfl ?_
      refine tl_iadd (pc := 19) dX6_border_19 ?_
      refine tl_bI (fun x3 => ?_)
      refine tl_istore (pc := 20) (i := 6) (lo' := [some (.ref 168), some (.ref a0), some (.int p1), some (.int p2), some (.int x1), some (.int x2), some (.int x3)]) dX6_border_20 (by decide) rfl ?_
      refine tl_aload_n (pc := 22) (i := 1) dX6_border_22 rfl rfl ?_
      refine tl_iload (pc := 23) (i := 6) dX6_border_23 rfl ?_
      refine tl_callSi (pc := 25) k_X6_isOf gw_943 (c_X6_isOf T _ _ _ ha0) rfl rfl (Nat.le_of_ble_eq_true rfl) (Nat.le_of_ble_eq_true rfl) dX6_border_25 (fun x4 => ?_)
      refine tl_j (fun (k : Int32 → Dm Int32) => ∀ (x5 : Int32), TL_X6_border T 70 [some (.ref 168), some (.ref a0), some (.int p1), some (.int p2), some (.int x5), some (.int x2), none] [] (k x5)) (fun x5 => ?_) (fun k1 hk1 => ?_)
      · refine tl_iinc (pc := 70) (i := 5) (v := x2 + (1 : Int32)) (lo' := [some (.ref 168), some (.ref a0), some (.int p1), some (.int p2), some (.int x5), some (.int (x2 + (1 : Int32))), none]) dX6_border_70 rfl rfl (by decide) rfl ?_
        refine tl_goto (pc := 73) (tgt := 6) dX6_border_73 rfl ?_
        exact tl_sub (ih _ _) (sub_s (sub_s (sub_s (sub_s (sub_s (sub_s (sub_n sub_e)))))))
      · refine tl_if_eq (pc := 28) (tgt := 70) dX6_border_28 rfl ?_ ?_
        · exact tl_sub (hk1 _) (sub_s (sub_s (sub_s (sub_s (sub_s (sub_s (sub_n sub_e)))))))
        · refine tl_aload_n (pc := 31) (i := 1) dX6_border_31 rfl rfl ?_
          refine tl_iload (pc := 32) (i := 6) dX6_border_32 rfl ?_
          refine tl_iload_n (pc := 34) (i := 3) dX6_border_34 rfl rfl ?_
          refine tl_callSi (pc := 35) k_X6_beside gw_1070 (c_X6_beside T _ _ _ _ ha0) rfl rfl (Nat.le_of_ble_eq_true rfl) (Nat.le_of_ble_eq_true rfl) dX6_border_35 (fun x6 => ?_)
          refine tl_iconst (pc := 38) (v := -1) dX6_border_38 (by decide) ?_
          refine tl_icmp_ne (pc := 39) (tgt := 70) dX6_border_39 rfl ?_ ?_
          · refine tl_aload_n (pc := 42) (i := 0) dX6_border_42 rfl rfl ?_
            refine tl_aload_n (pc := 43) (i := 1) dX6_border_43 rfl rfl ?_
            refine tl_iload (pc := 44) (i := 6) dX6_border_44 rfl ?_
            refine tl_iload_n (pc := 46) (i := 3) dX6_border_46 rfl rfl ?_
            refine tl_callVi (pc := 47) k_X6_edgeOf gw_1073 hb.1 ⟨_, _, rfl⟩ (c_X6_edgeOf T _ _ _ _ hb ha0) rfl rfl (Nat.le_of_ble_eq_true rfl) (Nat.le_of_ble_eq_true rfl) dX6_border_47 (fun x7 => ?_)
            refine tl_iload (pc := 50) (i := 4) dX6_border_50 rfl ?_
            refine tl_j (fun (k : Int32 → Dm Int32) => ∀ (x8 : Int32), TL_X6_border T 68 [some (.ref 168), some (.ref a0), some (.int p1), some (.int p2), none, some (.int x2), none] [.int x8] (k x8)) (fun x8 => ?_) (fun k2 hk2 => ?_)
            · refine tl_istore (pc := 68) (i := 4) (lo' := [some (.ref 168), some (.ref a0), some (.int p1), some (.int p2), some (.int x8), some (.int x2), none]) dX6_border_68 (by decide) rfl ?_
              exact tl_sub (hk1 _) (sub_s (sub_s (sub_s (sub_s (sub_s (sub_s (sub_n sub_e)))))))
            · refine tl_icmp_le (pc := 52) (tgt := 66) dX6_border_52 rfl ?_ ?_
              · refine tl_iload (pc := 66) (i := 4) dX6_border_66 rfl ?_
                exact tl_sub (hk2 _) (sub_s (sub_s (sub_s (sub_s (sub_n (sub_s (sub_n sub_e)))))))
              · refine tl_aload_n (pc := 55) (i := 0) dX6_border_55 rfl rfl ?_
                refine tl_aload_n (pc := 56) (i := 1) dX6_border_56 rfl rfl ?_
                refine tl_iload (pc := 57) (i := 6) dX6_border_57 rfl ?_
                refine tl_iload_n (pc := 59) (i := 3) dX6_border_59 rfl rfl ?_
                refine tl_callVi (pc := 60) k_X6_edgeOf gw_1073 hb.1 ⟨_, _, rfl⟩ (c_X6_edgeOf T _ _ _ _ hb ha0) rfl rfl (Nat.le_of_ble_eq_true rfl) (Nat.le_of_ble_eq_true rfl) dX6_border_60 (fun x9 => ?_)
                refine tl_goto (pc := 63) (tgt := 68) dX6_border_63 rfl ?_
                exact tl_sub (hk2 _) (sub_s (sub_s (sub_s (sub_s (sub_n (sub_s (sub_n sub_e)))))))
          · exact tl_sub (hk1 _) (sub_s (sub_s (sub_s (sub_s (sub_s (sub_s (sub_n sub_e)))))))
set_option maxRecDepth 100000 in
theorem c_X6_border (T : Tb) (a0 na0 : Nat) (p1 : Int32) (p2 : Int32) (hb : isMod T) (ha0 : T[a0]? = some (0, na0, [])) : CT (.code yX6_border cX6_border 7 (some .int)) yX6_border 3 iI T [.ref 168, .ref a0, .int p1, .int p2] (F_X6_border a0 na0 p1 p2) := by
  refine ct_of (lo := [some (.ref 168), some (.ref a0), some (.int p1), some (.int p2), none, none, none]) (j := 3) k_X6_border.1 rfl (fun _ => Nat.le_of_ble_eq_true rfl) ?_
  show TL_X6_border T 0 _ _ _
  rw [F_X6_border]
  refine tl_iconst (pc := 0) (v := 0) dX6_border_0 (by decide) ?_
  refine tl_istore (pc := 1) (i := 4) (lo' := [some (.ref 168), some (.ref a0), some (.int p1), some (.int p2), some (.int (0 : Int32)), none, none]) dX6_border_1 (by decide) rfl ?_
  refine tl_iconst (pc := 3) (v := 0) dX6_border_3 (by decide) ?_
  refine tl_istore (pc := 4) (i := 5) (lo' := [some (.ref 168), some (.ref a0), some (.int p1), some (.int p2), some (.int (0 : Int32)), some (.int (0 : Int32)), none]) dX6_border_4 (by decide) rfl ?_
  refine tl_sub (lp_X6_border_6 T a0 na0 p1 p2 hb ha0    FU _ _) (sub_s (sub_s (sub_s (sub_s (sub_s (sub_s (sub_n sub_e)))))))
abbrev TL_X6_laysRules (T : Tb) (pc : Nat) (lo : List (Option Value)) (st : List Value) (X : Dm Unit) : Prop := TL yX6_laysRules cX6_laysRules 7 none 4 vI T pc lo st X
set_option maxRecDepth 100000 in
theorem lp_X6_laysRules_2 (T : Tb) (a0 na0 : Nat) (p1 : Int32)  (hb : isMod T) (ha0 : T[a0]? = some (0, na0, []))    : ∀ (n : Nat) (x1 : Int32), TL_X6_laysRules T 2 [some (.ref 168), some (.ref a0), some (.int p1), some (.int x1), none, none, none] [] (L_X6_laysRules_2 a0 na0 p1 n x1 ) := by
  intro n
  induction n with
  | zero => intros; exact tl_fail
  | succ n ih =>
    intro x1
    rw [L_X6_laysRules_2]
    refine tl_iload_n (pc := 2) (i := 3) dX6_laysRules_2 rfl rfl ?_
    refine tl_bipush (pc := 3) (v := 100) dX6_laysRules_3 (by decide) ?_
    refine tl_icmp_ge (pc := 5) (tgt := 109) dX6_laysRules_5 rfl ?_ ?_
    · exact tl_vret (pc := 109) dX6_laysRules_109
    · refine tl_bipush (pc := 8) (v := 25) dX6_laysRules_8 (by decide) ?_
      refine tl_iload_n (pc := 10) (i := 2) dX6_laysRules_10 rfl rfl ?_
      refine tl_imul (pc := 11) dX6_laysRules_11 ?_
      refine tl_iload_n (pc := 12) (i := 3) dX6_laysRules_12 rfl rfl ?_
      refine tl_iconst (pc := 13) (v := 4) dX6_laysRules_13 (by decide) ?_
      refine tl_idiv (pc := 14) dX6_laysRules_14 (by decide) ?_
      refine tl_iadd (pc := 15) dX6_laysRules_15 ?_
      refine tl_bI (fun x2 => ?_)
      refine tl_istore (pc := 16) (i := 4) (lo' := [some (.ref 168), some (.ref a0), some (.int p1), some (.int x1), some (.int x2), none, none]) dX6_laysRules_16 (by decide) rfl ?_
      refine tl_aload_n (pc := 18) (i := 1) dX6_laysRules_18 rfl rfl ?_
      refine tl_sipush (pc := 19) (v := 637) dX6_laysRules_19 (by decide) ?_
      refine tl_iconst (pc := 22) (v := 4) dX6_laysRules_22 (by decide) ?_
      refine tl_iload (pc := 23) (i := 4) dX6_laysRules_23 rfl ?_
      refine tl_imul (pc := 25) dX6_laysRules_25 ?_
      refine tl_iadd (pc := 26) dX6_laysRules_26 ?_
      refine tl_iload_n (pc := 27) (i := 3) dX6_laysRules_27 rfl rfl ?_
      refine tl_iconst (pc := 28) (v := 4) dX6_laysRules_28 (by decide) ?_
      refine tl_irem (pc := 29) dX6_laysRules_29 (by decide) ?_
      refine tl_iadd (pc := 30) dX6_laysRules_30 ?_
      refine tl_iald (pc := 31) ha0 dX6_laysRules_31 (fun x3 => ?_)
      refine tl_istore (pc := 32) (i := 5) (lo' := [some (.ref 168), some (.ref a0), some (.int p1), some (.int x1), some (.int x2), some (.int x3), none]) dX6_laysRules_32 (by decide) rfl ?_
      refine tl_aload_n (pc := 34) (i := 1) dX6_laysRules_34 rfl rfl ?_
      refine tl_iload (pc := 35) (i := 4) dX6_laysRules_35 rfl ?_
      refine tl_callSi (pc := 37) k_X6_isCell gw_940 (c_X6_isCell T _ _ _ ha0) rfl rfl (Nat.le_of_ble_eq_true rfl) (Nat.le_of_ble_eq_true rfl) dX6_laysRules_37 (fun x4 => ?_)
      refine tl_j (fun (k : Int32 → Dm Unit) => ∀ (x5 : Int32), TL_X6_laysRules T 74 [some (.ref 168), some (.ref a0), some (.int p1), some (.int x1), some (.int x2), some (.int x3), none] [.int x5] (k x5)) (fun x5 => ?_) (fun k1 hk1 => ?_)
      · refine tl_istore (pc := 74) (i := 6) (lo' := [some (.ref 168), some (.ref a0), some (.int p1), some (.int x1), some (.int x2), some (.int x3), some (.int x5)]) dX6_laysRules_74 (by decide) rfl ?_
        refine tl_aload_n (pc := 76) (i := 0) dX6_laysRules_76 rfl rfl ?_
        refine tl_getR (pc := 77) (r := 181) fl_X6_46 hb.1 rfl dX6_laysRules_77 ?_
        refine tl_iconst (pc := 80) (v := 4) dX6_laysRules_80 (by decide) ?_
        refine tl_iload (pc := 81) (i := 4) dX6_laysRules_81 rfl ?_
        refine tl_imul (pc := 83) dX6_laysRules_83 ?_
        refine tl_iload_n (pc := 84) (i := 3) dX6_laysRules_84 rfl rfl ?_
        refine tl_iconst (pc := 85) (v := 4) dX6_laysRules_85 (by decide) ?_
        refine tl_irem (pc := 86) dX6_laysRules_86 (by decide) ?_
        refine tl_iadd (pc := 87) dX6_laysRules_87 ?_
        refine tl_iload (pc := 88) (i := 6) dX6_laysRules_88 rfl ?_
        refine tl_iload (pc := 90) (i := 5) dX6_laysRules_90 rfl ?_
        refine tl_j (fun (k : Int32 → Dm Unit) => ∀ (x6 : Int32), TL_X6_laysRules T 102 [some (.ref 168), some (.ref a0), some (.int p1), some (.int x1), none, none, none] [.int x6, .int (((4 : Int32) * x2) + (iR x1 (4 : Int32))), .ref 181] (k x6)) (fun x6 => ?_) (fun k2 hk2 => ?_)
        · refine tl_iast (pc := 102) hb.2.2.2.2.2.2.2.2.2.2.2.2.2.1 dX6_laysRules_102 ?_
          refine tl_iinc (pc := 103) (i := 3) (v := x1 + (1 : Int32)) (lo' := [some (.ref 168), some (.ref a0), some (.int p1), some (.int (x1 + (1 : Int32))), none, none, none]) dX6_laysRules_103 rfl rfl (by decide) rfl ?_
          refine tl_goto (pc := 106) (tgt := 2) dX6_laysRules_106 rfl ?_
          exact tl_sub (ih _) (sub_s (sub_s (sub_s (sub_s (sub_n (sub_n (sub_n sub_e)))))))
        · refine tl_icmp_le (pc := 92) (tgt := 100) dX6_laysRules_92 rfl ?_ ?_
          · refine tl_iload (pc := 100) (i := 5) dX6_laysRules_100 rfl ?_
            exact tl_sub (hk2 _) (sub_s (sub_s (sub_s (sub_s (sub_n (sub_n (sub_n sub_e)))))))
          · refine tl_iload (pc := 95) (i := 6) dX6_laysRules_95 rfl ?_
            refine tl_goto (pc := 97) (tgt := 102) dX6_laysRules_97 rfl ?_
            exact tl_sub (hk2 _) (sub_s (sub_s (sub_s (sub_s (sub_n (sub_n (sub_n sub_e)))))))
      · refine tl_j (fun (k : Unit → Dm Unit) => ∀ (_ : Unit), TL_X6_laysRules T 73 [some (.ref 168), some (.ref a0), some (.int p1), some (.int x1), some (.int x2), some (.int x3), none] [] (k ())) (fun _ => ?_) (fun k3 hk3 => ?_)
        · refine tl_iconst (pc := 73) (v := 0) dX6_laysRules_73 (by decide) ?_
          exact tl_sub (hk1 _) (sub_s (sub_s (sub_s (sub_s (sub_s (sub_s (sub_n sub_e)))))))
        · refine tl_if_eq (pc := 40) (tgt := 73) dX6_laysRules_40 rfl ?_ ?_
          · exact tl_sub (hk3 ()) (sub_s (sub_s (sub_s (sub_s (sub_s (sub_s (sub_n sub_e)))))))
          · refine tl_aload_n (pc := 43) (i := 1) dX6_laysRules_43 rfl rfl ?_
            refine tl_bipush (pc := 44) (v := 12) dX6_laysRules_44 (by decide) ?_
            refine tl_iload (pc := 46) (i := 4) dX6_laysRules_46 rfl ?_
            refine tl_iadd (pc := 48) dX6_laysRules_48 ?_
            refine tl_iald (pc := 49) ha0 dX6_laysRules_49 (fun x7 => ?_)
            refine tl_iconst (pc := 50) (v := 3) dX6_laysRules_50 (by decide) ?_
            refine tl_icmp_ne (pc := 51) (tgt := 73) dX6_laysRules_51 rfl ?_ ?_
            · refine tl_aload_n (pc := 54) (i := 0) dX6_laysRules_54 rfl rfl ?_
              refine tl_aload_n (pc := 55) (i := 1) dX6_laysRules_55 rfl rfl ?_
              refine tl_aload_n (pc := 56) (i := 1) dX6_laysRules_56 rfl rfl ?_
              refine tl_sipush (pc := 57) (v := 137) dX6_laysRules_57 (by decide) ?_
              refine tl_iload (pc := 60) (i := 4) dX6_laysRules_60 rfl ?_
              refine tl_iadd (pc := 62) dX6_laysRules_62 ?_
              refine tl_iald (pc := 63) ha0 dX6_laysRules_63 (fun x8 => ?_)
              refine tl_iload_n (pc := 64) (i := 3) dX6_laysRules_64 rfl rfl ?_
              refine tl_iconst (pc := 65) (v := 4) dX6_laysRules_65 (by decide) ?_
              refine tl_irem (pc := 66) dX6_laysRules_66 (by decide) ?_
              refine tl_callVi (pc := 67) k_X6_border gw_1066 hb.1 ⟨_, _, rfl⟩ (c_X6_border T _ _ _ _ hb ha0) rfl rfl (Nat.le_of_ble_eq_true rfl) (Nat.le_of_ble_eq_true rfl) dX6_laysRules_67 (fun x9 => ?_)
              refine tl_goto (pc := 70) (tgt := 74) dX6_laysRules_70 rfl ?_
              exact tl_sub (hk1 _) (sub_s (sub_s (sub_s (sub_s (sub_s (sub_s (sub_n sub_e)))))))
            · exact tl_sub (hk3 ()) (sub_s (sub_s (sub_s (sub_s (sub_s (sub_s (sub_n sub_e)))))))
set_option maxRecDepth 100000 in
theorem c_X6_laysRules (T : Tb) (a0 na0 : Nat) (p1 : Int32) (hb : isMod T) (ha0 : T[a0]? = some (0, na0, [])) : CT (.code yX6_laysRules cX6_laysRules 7 none) yX6_laysRules 4 vI T [.ref 168, .ref a0, .int p1] (F_X6_laysRules a0 na0 p1) := by
  refine ct_of (lo := [some (.ref 168), some (.ref a0), some (.int p1), none, none, none, none]) (j := 4) k_X6_laysRules.1 rfl (fun _ => Nat.le_of_ble_eq_true rfl) ?_
  show TL_X6_laysRules T 0 _ _ _
  rw [F_X6_laysRules]
  refine tl_iconst (pc := 0) (v := 0) dX6_laysRules_0 (by decide) ?_
  refine tl_istore_n (pc := 1) (i := 3) (lo' := [some (.ref 168), some (.ref a0), some (.int p1), some (.int (0 : Int32)), none, none, none]) dX6_laysRules_1 rfl (by decide) rfl ?_
  refine tl_sub (lp_X6_laysRules_2 T a0 na0 p1 hb ha0    FU _) (sub_s (sub_s (sub_s (sub_s (sub_n (sub_n (sub_n sub_e)))))))
abbrev TL_X6_lines (T : Tb) (pc : Nat) (lo : List (Option Value)) (st : List Value) (X : Dm Int32) : Prop := TL yX6_lines cX6_lines 13 (some .int) 3 iI T pc lo st X
set_option maxRecDepth 100000 in
theorem lp_X6_lines_69 (T : Tb) (a0 na0 : Nat) (p1 : Int32) (p2 : Int32) (x2 : Int32) (x4 : Int32) (x6 : Int32) (x7 : Int32) (x5 : Int32) (hb : isMod T) (ha0 : T[a0]? = some (0, na0, []))  (k4 : Int32 → Dm Int32) (hk4 : ∀ (y69_0 : Int32), TL_X6_lines T 161 [some (.ref 168), some (.ref a0), some (.int p1), some (.int p2), some (.int x5), some (.int x2), some (.int x4), some (.int x6), some (.int y69_0), none, none, none, none] [] (k4 y69_0)) : ∀ (n : Nat) (x8 : Int32) (x9 : Int32), TL_X6_lines T 69 [some (.ref 168), some (.ref a0), some (.int p1), some (.int p2), some (.int x5), some (.int x2), some (.int x4), some (.int x6), some (.int x8), some (.int x7), some (.int x9), none, none] [] (L_X6_lines_69 a0 na0 p1 p2 x2 x4 x6 x7 n x8 x9 k4) := by
  intro n
  induction n with
  | zero => intros; exact tl_fail
  | succ n ih =>
    intro x8 x9
    rw [L_X6_lines_69]
    refine tl_iload (pc := 69) (i := 10) dX6_lines_69 rfl ?_
    refine tl_iload (pc := 71) (i := 6) dX6_lines_71 rfl ?_
    refine tl_icmp_ge (pc := 73) (tgt := 161) dX6_lines_73 rfl ?_ ?_
    · exact tl_sub (hk4 _) (sub_s (sub_s (sub_s (sub_s (sub_s (sub_s (sub_s (sub_s (sub_s (sub_n (sub_n (sub_n (sub_n sub_e)))))))))))))
    · refine tl_iload_n (pc := 76) (i := 3) dX6_lines_76 rfl rfl ?_
      refine tl_j (fun (k : Int32 → Dm Int32) => ∀ (x10 : Int32), TL_X6_lines T 99 [some (.ref 168), some (.ref a0), some (.int p1), some (.int p2), some (.int x5), some (.int x2), some (.int x4), some (.int x6), some (.int x8), some (.int x7), some (.int x9), none, none] [.int x10] (k x10)) (fun x10 => ?_) (fun k5 hk5 => ?_)
      · refine tl_istore (pc := 99) (i := 11) (lo' := [some (.ref 168), some (.ref a0), some (.int p1), some (.int p2), some (.int x5), some (.int x2), some (.int x4), some (.int x6), some (.int x8), some (.int x7), some (.int x9), some (.int x10), none]) dX6_lines_99 (by decide) rfl ?_
        refine tl_iload (pc := 101) (i := 7) dX6_lines_101 rfl ?_
        refine tl_iload (pc := 103) (i := 5) dX6_lines_103 rfl ?_
        refine tl_j (fun (k : Int32 → Dm Int32) => ∀ (x11 : Int32), TL_X6_lines T 129 [some (.ref 168), some (.ref a0), some (.int p1), some (.int p2), some (.int x5), some (.int x2), some (.int x4), some (.int x6), some (.int x8), some (.int x7), some (.int x9), some (.int x10), none] [.int x11] (k x11)) (fun x11 => ?_) (fun k6 hk6 => ?_)
        · refine tl_istore (pc := 129) (i := 12) (lo' := [some (.ref 168), some (.ref a0), some (.int p1), some (.int p2), some (.int x5), some (.int x2), some (.int x4), some (.int x6), some (.int x8), some (.int x7), some (.int x9), some (.int x10), some (.int x11)]) dX6_lines_129 (by decide) rfl ?_
          refine tl_iload (pc := 131) (i := 8) dX6_lines_131 rfl ?_
          refine tl_j (fun (k : Int32 → Dm Int32) => ∀ (x12 : Int32), TL_X6_lines T 153 [some (.ref 168), some (.ref a0), some (.int p1), some (.int p2), some (.int x5), some (.int x2), some (.int x4), some (.int x6), none, some (.int x7), some (.int x9), none, none] [.int x12] (k x12)) (fun x12 => ?_) (fun k7 hk7 => ?_)
          · refine tl_istore (pc := 153) (i := 8) (lo' := [some (.ref 168), some (.ref a0), some (.int p1), some (.int p2), some (.int x5), some (.int x2), some (.int x4), some (.int x6), some (.int x12), some (.int x7), some (.int x9), none, none]) dX6_lines_153 (by decide) rfl ?_
            refine tl_iinc (pc := 155) (i := 10) (v := x9 + (1 : Int32)) (lo' := [some (.ref 168), some (.ref a0), some (.int p1), some (.int p2), some (.int x5), some (.int x2), some (.int x4), some (.int x6), some (.int x12), some (.int x7), some (.int (x9 + (1 : Int32))), none, none]) dX6_lines_155 rfl rfl (by decide) rfl ?_
            refine tl_goto (pc := 158) (tgt := 69) dX6_lines_158 rfl ?_
            exact tl_sub (ih _ _) (sub_s (sub_s (sub_s (sub_s (sub_s (sub_s (sub_s (sub_s (sub_s (sub_s (sub_s (sub_n (sub_n sub_e)))))))))))))
          · refine tl_j (fun (k : Unit → Dm Int32) => ∀ (_ : Unit), TL_X6_lines T 148 [some (.ref 168), some (.ref a0), some (.int p1), some (.int p2), some (.int x5), some (.int x2), some (.int x4), some (.int x6), none, some (.int x7), some (.int x9), none, none] [] (k ())) (fun _ => ?_) (fun k8 hk8 => ?_)
            · refine tl_iconst (pc := 148) (v := 1) dX6_lines_148 (by decide) ?_
              refine tl_goto (pc := 149) (tgt := 153) dX6_lines_149 rfl ?_
              exact tl_sub (hk7 _) (sub_s (sub_s (sub_s (sub_s (sub_s (sub_s (sub_s (sub_s (sub_n (sub_s (sub_s (sub_n (sub_n sub_e)))))))))))))
            · refine tl_if_ne (pc := 133) (tgt := 148) dX6_lines_133 rfl ?_ ?_
              · refine tl_aload_n (pc := 136) (i := 0) dX6_lines_136 rfl rfl ?_
                refine tl_aload_n (pc := 137) (i := 1) dX6_lines_137 rfl rfl ?_
                refine tl_iload (pc := 138) (i := 11) dX6_lines_138 rfl ?_
                refine tl_iload (pc := 140) (i := 12) dX6_lines_140 rfl ?_
                refine tl_callVi (pc := 142) k_X6_edgeOf gw_1073 hb.1 ⟨_, _, rfl⟩ (c_X6_edgeOf T _ _ _ _ hb ha0) rfl rfl (Nat.le_of_ble_eq_true rfl) (Nat.le_of_ble_eq_true rfl) dX6_lines_142 (fun x13 => ?_)
                refine tl_if_le (pc := 145) (tgt := 152) dX6_lines_145 rfl ?_ ?_
                · refine tl_iconst (pc := 152) (v := 0) dX6_lines_152 (by decide) ?_
                  exact tl_sub (hk7 _) (sub_s (sub_s (sub_s (sub_s (sub_s (sub_s (sub_s (sub_s (sub_n (sub_s (sub_s (sub_n (sub_n sub_e)))))))))))))
                · exact tl_sub (hk8 ()) (sub_s (sub_s (sub_s (sub_s (sub_s (sub_s (sub_s (sub_s (sub_n (sub_s (sub_s (sub_n (sub_n sub_e)))))))))))))
              · exact tl_sub (hk8 ()) (sub_s (sub_s (sub_s (sub_s (sub_s (sub_s (sub_s (sub_s (sub_n (sub_s (sub_s (sub_n (sub_n sub_e)))))))))))))
        · refine tl_icmp_ge (pc := 105) (tgt := 120) dX6_lines_105 rfl ?_ ?_
          · refine tl_iload_n (pc := 120) (i := 3) dX6_lines_120 rfl rfl ?_
            refine tl_if_eq (pc := 121) (tgt := 128) dX6_lines_121 rfl ?_ ?_
            · refine tl_iconst (pc := 128) (v := 2) dX6_lines_128 (by decide) ?_
              exact tl_sub (hk6 _) (sub_s (sub_s (sub_s (sub_s (sub_s (sub_s (sub_s (sub_s (sub_s (sub_s (sub_s (sub_s (sub_n sub_e)))))))))))))
            · refine tl_iconst (pc := 124) (v := 1) dX6_lines_124 (by decide) ?_
              refine tl_goto (pc := 125) (tgt := 129) dX6_lines_125 rfl ?_
              exact tl_sub (hk6 _) (sub_s (sub_s (sub_s (sub_s (sub_s (sub_s (sub_s (sub_s (sub_s (sub_s (sub_s (sub_s (sub_n sub_e)))))))))))))
          · refine tl_iload_n (pc := 108) (i := 3) dX6_lines_108 rfl rfl ?_
            refine tl_if_eq (pc := 109) (tgt := 116) dX6_lines_109 rfl ?_ ?_
            · refine tl_iconst (pc := 116) (v := 0) dX6_lines_116 (by decide) ?_
              refine tl_goto (pc := 117) (tgt := 129) dX6_lines_117 rfl ?_
              exact tl_sub (hk6 _) (sub_s (sub_s (sub_s (sub_s (sub_s (sub_s (sub_s (sub_s (sub_s (sub_s (sub_s (sub_s (sub_n sub_e)))))))))))))
            · refine tl_iconst (pc := 112) (v := 3) dX6_lines_112 (by decide) ?_
              refine tl_goto (pc := 113) (tgt := 129) dX6_lines_113 rfl ?_
              exact tl_sub (hk6 _) (sub_s (sub_s (sub_s (sub_s (sub_s (sub_s (sub_s (sub_s (sub_s (sub_s (sub_s (sub_s (sub_n sub_e)))))))))))))
      · refine tl_if_eq (pc := 77) (tgt := 91) dX6_lines_77 rfl ?_ ?_
        · refine tl_iload_n (pc := 91) (i := 2) dX6_lines_91 rfl rfl ?_
          refine tl_iload (pc := 92) (i := 9) dX6_lines_92 rfl ?_
          refine tl_iload (pc := 94) (i := 10) dX6_lines_94 rfl ?_
          refine tl_callSi (pc := 96) k_X6_square gw_937 (c_X6_square T _ _ _) rfl rfl (Nat.le_of_ble_eq_true rfl) (Nat.le_of_ble_eq_true rfl) dX6_lines_96 (fun x14 => ?_)
          exact tl_sub (hk5 _) (sub_s (sub_s (sub_s (sub_s (sub_s (sub_s (sub_s (sub_s (sub_s (sub_s (sub_s (sub_n (sub_n sub_e)))))))))))))
        · refine tl_iload_n (pc := 80) (i := 2) dX6_lines_80 rfl rfl ?_
          refine tl_iload (pc := 81) (i := 10) dX6_lines_81 rfl ?_
          refine tl_iload (pc := 83) (i := 9) dX6_lines_83 rfl ?_
          refine tl_callSi (pc := 85) k_X6_square gw_937 (c_X6_square T _ _ _) rfl rfl (Nat.le_of_ble_eq_true rfl) (Nat.le_of_ble_eq_true rfl) dX6_lines_85 (fun x15 => ?_)
          refine tl_goto (pc := 88) (tgt := 99) dX6_lines_88 rfl ?_
          exact tl_sub (hk5 _) (sub_s (sub_s (sub_s (sub_s (sub_s (sub_s (sub_s (sub_s (sub_s (sub_s (sub_s (sub_n (sub_n sub_e)))))))))))))
set_option maxRecDepth 100000 in
theorem lp_X6_lines_38 (T : Tb) (a0 na0 : Nat) (p1 : Int32) (p2 : Int32) (x2 : Int32) (x4 : Int32) (hb : isMod T) (ha0 : T[a0]? = some (0, na0, []))    : ∀ (n : Nat) (x5 : Int32) (x6 : Int32), TL_X6_lines T 38 [some (.ref 168), some (.ref a0), some (.int p1), some (.int p2), some (.int x5), some (.int x2), some (.int x4), some (.int x6), none, none, none, none, none] [] (L_X6_lines_38 a0 na0 p1 p2 x2 x4 n x5 x6 ) := by
  intro n
  induction n with
  | zero => intros; exact tl_fail
  | succ n ih =>
    intro x5 x6
    rw [L_X6_lines_38]
    refine tl_iload (pc := 38) (i := 7) dX6_lines_38 rfl ?_
    refine tl_iload (pc := 40) (i := 5) dX6_lines_40 rfl ?_
    refine tl_icmp_gt (pc := 42) (tgt := 182) dX6_lines_42 rfl ?_ ?_
    · refine tl_iload (pc := 182) (i := 4) dX6_lines_182 rfl ?_
      exact tl_iret (pc := 184) dX6_lines_184
    · refine tl_iconst (pc := 45) (v := 0) dX6_lines_45 (by decide) ?_
      refine tl_istore (pc := 46) (i := 8) (lo' := [some (.ref 168), some (.ref a0), some (.int p1), some (.int p2), some (.int x5), some (.int x2), some (.int x4), some (.int x6), some (.int (0 : Int32)), none, none, none, none]) dX6_lines_46 (by decide) rfl ?_
      refine tl_iload (pc := 48) (i := 7) dX6_lines_48 rfl ?_
      refine tl_iload (pc := 50) (i := 5) dX6_lines_50 rfl ?_
      refine tl_j (fun (k : Int32 → Dm Int32) => ∀ (x7 : Int32), TL_X6_lines T 64 [some (.ref 168), some (.ref a0), some (.int p1), some (.int p2), some (.int x5), some (.int x2), some (.int x4), some (.int x6), some (.int (0 : Int32)), none, none, none, none] [.int x7] (k x7)) (fun x7 => ?_) (fun k3 hk3 => ?_)
      · refine tl_istore (pc := 64) (i := 9) (lo' := [some (.ref 168), some (.ref a0), some (.int p1), some (.int p2), some (.int x5), some (.int x2), some (.int x4), some (.int x6), some (.int (0 : Int32)), some (.int x7), none, none, none]) dX6_lines_64 (by decide) rfl ?_
        refine tl_iconst (pc := 66) (v := 0) dX6_lines_66 (by decide) ?_
        refine tl_istore (pc := 67) (i := 10) (lo' := [some (.ref 168), some (.ref a0), some (.int p1), some (.int p2), some (.int x5), some (.int x2), some (.int x4), some (.int x6), some (.int (0 : Int32)), some (.int x7), some (.int (0 : Int32)), none, none]) dX6_lines_67 (by decide) rfl ?_
        refine tl_sub (lp_X6_lines_69 T a0 na0 p1 p2 x2 x4 x6 x7 x5 hb ha0  _ (fun x16 => ?_) FU _ _) (sub_s (sub_s (sub_s (sub_s (sub_s (sub_s (sub_s (sub_s (sub_s (sub_s (sub_s (sub_n (sub_n sub_e)))))))))))))
        refine tl_iload (pc := 161) (i := 4) dX6_lines_161 rfl ?_
        refine tl_iload (pc := 163) (i := 8) dX6_lines_163 rfl ?_
        refine tl_j (fun (k : Int32 → Dm Int32) => ∀ (x17 : Int32), TL_X6_lines T 173 [some (.ref 168), some (.ref a0), some (.int p1), some (.int p2), none, some (.int x2), some (.int x4), some (.int x6), none, none, none, none, none] [.int x17, .int x5] (k x17)) (fun x17 => ?_) (fun k9 hk9 => ?_)
        · refine tl_iadd (pc := 173) dX6_lines_173 ?_
          refine tl_bI (fun x18 => ?_)
          refine tl_istore (pc := 174) (i := 4) (lo' := [some (.ref 168), some (.ref a0), some (.int p1), some (.int p2), some (.int x18), some (.int x2), some (.int x4), some (.int x6), none, none, none, none, none]) dX6_lines_174 (by decide) rfl ?_
          refine tl_iinc (pc := 176) (i := 7) (v := x6 + (1 : Int32)) (lo' := [some (.ref 168), some (.ref a0), some (.int p1), some (.int p2), some (.int x18), some (.int x2), some (.int x4), some (.int (x6 + (1 : Int32))), none, none, none, none, none]) dX6_lines_176 rfl rfl (by decide) rfl ?_
          refine tl_goto (pc := 179) (tgt := 38) dX6_lines_179 rfl ?_
          exact tl_sub (ih _ _) (sub_s (sub_s (sub_s (sub_s (sub_s (sub_s (sub_s (sub_s (sub_n (sub_n (sub_n (sub_n (sub_n sub_e)))))))))))))
        · refine tl_if_eq (pc := 165) (tgt := 172) dX6_lines_165 rfl ?_ ?_
          · refine tl_iconst (pc := 172) (v := 0) dX6_lines_172 (by decide) ?_
            exact tl_sub (hk9 _) (sub_s (sub_s (sub_s (sub_s (sub_n (sub_s (sub_s (sub_s (sub_n (sub_n (sub_n (sub_n (sub_n sub_e)))))))))))))
          · refine tl_iconst (pc := 168) (v := 1) dX6_lines_168 (by decide) ?_
            refine tl_goto (pc := 169) (tgt := 173) dX6_lines_169 rfl ?_
            exact tl_sub (hk9 _) (sub_s (sub_s (sub_s (sub_s (sub_n (sub_s (sub_s (sub_s (sub_n (sub_n (sub_n (sub_n (sub_n sub_e)))))))))))))
      · refine tl_icmp_ge (pc := 52) (tgt := 60) dX6_lines_52 rfl ?_ ?_
        · refine tl_iload (pc := 60) (i := 5) dX6_lines_60 rfl ?_
          refine tl_iconst (pc := 62) (v := 1) dX6_lines_62 (by decide) ?_
          refine tl_isub (pc := 63) dX6_lines_63 ?_
          exact tl_sub (hk3 _) (sub_s (sub_s (sub_s (sub_s (sub_s (sub_s (sub_s (sub_s (sub_s (sub_n (sub_n (sub_n (sub_n sub_e)))))))))))))
        · refine tl_iload (pc := 55) (i := 7) dX6_lines_55 rfl ?_
          refine tl_goto (pc := 57) (tgt := 64) dX6_lines_57 rfl ?_
          exact tl_sub (hk3 _) (sub_s (sub_s (sub_s (sub_s (sub_s (sub_s (sub_s (sub_s (sub_s (sub_n (sub_n (sub_n (sub_n sub_e)))))))))))))
set_option maxRecDepth 100000 in
theorem c_X6_lines (T : Tb) (a0 na0 : Nat) (p1 : Int32) (p2 : Int32) (hb : isMod T) (ha0 : T[a0]? = some (0, na0, [])) : CT (.code yX6_lines cX6_lines 13 (some .int)) yX6_lines 3 iI T [.ref 168, .ref a0, .int p1, .int p2] (F_X6_lines a0 na0 p1 p2) := by
  refine ct_of (lo := [some (.ref 168), some (.ref a0), some (.int p1), some (.int p2), none, none, none, none, none, none, none, none, none]) (j := 9) k_X6_lines.1 rfl (fun _ => Nat.le_of_ble_eq_true rfl) ?_
  show TL_X6_lines T 0 _ _ _
  rw [F_X6_lines]
  refine tl_iconst (pc := 0) (v := 0) dX6_lines_0 (by decide) ?_
  refine tl_istore (pc := 1) (i := 4) (lo' := [some (.ref 168), some (.ref a0), some (.int p1), some (.int p2), some (.int (0 : Int32)), none, none, none, none, none, none, none, none]) dX6_lines_1 (by decide) rfl ?_
  refine tl_aload_n (pc := 3) (i := 1) dX6_lines_3 rfl rfl ?_
  refine tl_iload_n (pc := 4) (i := 3) dX6_lines_4 rfl rfl ?_
  refine tl_j (fun (k : Int32 → Dm Int32) => ∀ (x1 : Int32), TL_X6_lines T 14 [some (.ref 168), some (.ref a0), some (.int p1), some (.int p2), some (.int (0 : Int32)), none, none, none, none, none, none, none, none] [.int x1, .ref a0] (k x1)) (fun x1 => ?_) (fun k1 hk1 => ?_)
  · refine tl_iload_n (pc := 14) (i := 2) dX6_lines_14 rfl rfl ?_
    refine tl_iadd (pc := 15) dX6_lines_15 ?_
    refine tl_iald (pc := 16) ha0 dX6_lines_16 (fun x2 => ?_)
    refine tl_istore (pc := 17) (i := 5) (lo' := [some (.ref 168), some (.ref a0), some (.int p1), some (.int p2), some (.int (0 : Int32)), some (.int x2), none, none, none, none, none, none, none]) dX6_lines_17 (by decide) rfl ?_
    refine tl_aload_n (pc := 19) (i := 1) dX6_lines_19 rfl rfl ?_
    refine tl_iload_n (pc := 20) (i := 3) dX6_lines_20 rfl rfl ?_
    refine tl_j (fun (k : Int32 → Dm Int32) => ∀ (x3 : Int32), TL_X6_lines T 30 [some (.ref 168), some (.ref a0), some (.int p1), some (.int p2), some (.int (0 : Int32)), some (.int x2), none, none, none, none, none, none, none] [.int x3, .ref a0] (k x3)) (fun x3 => ?_) (fun k2 hk2 => ?_)
    · refine tl_iload_n (pc := 30) (i := 2) dX6_lines_30 rfl rfl ?_
      refine tl_iadd (pc := 31) dX6_lines_31 ?_
      refine tl_iald (pc := 32) ha0 dX6_lines_32 (fun x4 => ?_)
      refine tl_istore (pc := 33) (i := 6) (lo' := [some (.ref 168), some (.ref a0), some (.int p1), some (.int p2), some (.int (0 : Int32)), some (.int x2), some (.int x4), none, none, none, none, none, none]) dX6_lines_33 (by decide) rfl ?_
      refine tl_iconst (pc := 35) (v := 0) dX6_lines_35 (by decide) ?_
      refine tl_istore (pc := 36) (i := 7) (lo' := [some (.ref 168), some (.ref a0), some (.int p1), some (.int p2), some (.int (0 : Int32)), some (.int x2), some (.int x4), some (.int (0 : Int32)), none, none, none, none, none]) dX6_lines_36 (by decide) rfl ?_
      refine tl_sub (lp_X6_lines_38 T a0 na0 p1 p2 x2 x4 hb ha0    FU _ _) (sub_s (sub_s (sub_s (sub_s (sub_s (sub_s (sub_s (sub_s (sub_n (sub_n (sub_n (sub_n (sub_n sub_e)))))))))))))
    · refine tl_if_eq (pc := 21) (tgt := 28) dX6_lines_21 rfl ?_ ?_
      · refine tl_bipush (pc := 28) (v := 7) dX6_lines_28 (by decide) ?_
        exact tl_sub (hk2 _) (sub_s (sub_s (sub_s (sub_s (sub_s (sub_s (sub_n (sub_n (sub_n (sub_n (sub_n (sub_n (sub_n sub_e)))))))))))))
      · refine tl_iconst (pc := 24) (v := 2) dX6_lines_24 (by decide) ?_
        refine tl_goto (pc := 25) (tgt := 30) dX6_lines_25 rfl ?_
        exact tl_sub (hk2 _) (sub_s (sub_s (sub_s (sub_s (sub_s (sub_s (sub_n (sub_n (sub_n (sub_n (sub_n (sub_n (sub_n sub_e)))))))))))))
  · refine tl_if_eq (pc := 5) (tgt := 13) dX6_lines_5 rfl ?_ ?_
    · refine tl_iconst (pc := 13) (v := 2) dX6_lines_13 (by decide) ?_
      exact tl_sub (hk1 _) (sub_s (sub_s (sub_s (sub_s (sub_s (sub_n (sub_n (sub_n (sub_n (sub_n (sub_n (sub_n (sub_n sub_e)))))))))))))
    · refine tl_bipush (pc := 8) (v := 7) dX6_lines_8 (by decide) ?_
      refine tl_goto (pc := 10) (tgt := 14) dX6_lines_10 rfl ?_
      exact tl_sub (hk1 _) (sub_s (sub_s (sub_s (sub_s (sub_s (sub_n (sub_n (sub_n (sub_n (sub_n (sub_n (sub_n (sub_n sub_e)))))))))))))
abbrev TL_X6_signs (T : Tb) (pc : Nat) (lo : List (Option Value)) (st : List Value) (X : Dm Int32) : Prop := TL yX6_signs cX6_signs 3 (some .int) 0 iI T pc lo st X
set_option maxRecDepth 100000 in
theorem lp_X6_signs_21 (T : Tb) (p0 : Int32)      : ∀ (n : Nat) (x3 : Int32) (x4 : Int32), TL_X6_signs T 21 [none, some (.int x3), some (.int x4)] [] (L_X6_signs_21  n x3 x4 ) := by
  intro n
  induction n with
  | zero => intros; exact tl_fail
  | succ n ih =>
    intro x3 x4
    rw [L_X6_signs_21]
    refine tl_iload_n (pc := 21) (i := 2) dX6_signs_21 rfl rfl ?_
    refine tl_bipush (pc := 22) (v := 9) dX6_signs_22 (by decide) ?_
    refine tl_icmp_le (pc := 24) (tgt := 38) dX6_signs_24 rfl ?_ ?_
    · refine tl_iload_n (pc := 38) (i := 1) dX6_signs_38 rfl rfl ?_
      exact tl_iret (pc := 39) dX6_signs_39
    · refine tl_iload_n (pc := 27) (i := 2) dX6_signs_27 rfl rfl ?_
      refine tl_bipush (pc := 28) (v := 10) dX6_signs_28 (by decide) ?_
      refine tl_idiv (pc := 30) dX6_signs_30 (by decide) ?_
      refine tl_bI (fun x5 => ?_)
      refine tl_istore_n (pc := 31) (i := 2) (lo' := [none, some (.int x3), some (.int x5)]) dX6_signs_31 rfl (by decide) rfl ?_
      refine tl_iinc (pc := 32) (i := 1) (v := x3 + (1 : Int32)) (lo' := [none, some (.int (x3 + (1 : Int32))), some (.int x5)]) dX6_signs_32 rfl rfl (by decide) rfl ?_
      refine tl_goto (pc := 35) (tgt := 21) dX6_signs_35 rfl ?_
      exact tl_sub (ih _ _) (sub_n (sub_s (sub_s sub_e)))
set_option maxRecDepth 100000 in
theorem c_X6_signs (T : Tb) (p0 : Int32)  : CT (.code yX6_signs cX6_signs 3 (some .int)) yX6_signs 0 iI T [.int p0] (F_X6_signs p0) := by
  refine ct_of (lo := [some (.int p0), none, none]) (j := 2) k_X6_signs.1 rfl (fun _ => Nat.le_of_ble_eq_true rfl) ?_
  show TL_X6_signs T 0 _ _ _
  rw [F_X6_signs]
  refine tl_iload_n (pc := 0) (i := 0) dX6_signs_0 rfl rfl ?_
  refine tl_j (fun (k : Int32 → Dm Int32) => ∀ (x1 : Int32), TL_X6_signs T 9 [some (.int p0), none, none] [.int x1] (k x1)) (fun x1 => ?_) (fun k1 hk1 => ?_)
  · refine tl_istore_n (pc := 9) (i := 1) (lo' := [some (.int p0), some (.int x1), none]) dX6_signs_9 rfl (by decide) rfl ?_
    refine tl_iload_n (pc := 10) (i := 0) dX6_signs_10 rfl rfl ?_
    refine tl_j (fun (k : Int32 → Dm Int32) => ∀ (x2 : Int32), TL_X6_signs T 20 [none, some (.int x1), none] [.int x2] (k x2)) (fun x2 => ?_) (fun k2 hk2 => ?_)
    · refine tl_istore_n (pc := 20) (i := 2) (lo' := [none, some (.int x1), some (.int x2)]) dX6_signs_20 rfl (by decide) rfl ?_
      refine tl_sub (lp_X6_signs_21 T p0     FU _ _) (sub_n (sub_s (sub_s sub_e)))
    · refine tl_if_ge (pc := 11) (tgt := 19) dX6_signs_11 rfl ?_ ?_
      · refine tl_iload_n (pc := 19) (i := 0) dX6_signs_19 rfl rfl ?_
        exact tl_sub (hk2 _) (sub_n (sub_s (sub_n sub_e)))
      · refine tl_iload_n (pc := 14) (i := 0) dX6_signs_14 rfl rfl ?_
        refine tl_ineg (pc := 15) dX6_signs_15 ?_
        refine tl_goto (pc := 16) (tgt := 20) dX6_signs_16 rfl ?_
        exact tl_sub (hk2 _) (sub_n (sub_s (sub_n sub_e)))
  · refine tl_if_ge (pc := 1) (tgt := 8) dX6_signs_1 rfl ?_ ?_
    · refine tl_iconst (pc := 8) (v := 1) dX6_signs_8 (by decide) ?_
      exact tl_sub (hk1 _) (sub_s (sub_n (sub_n sub_e)))
    · refine tl_iconst (pc := 4) (v := 2) dX6_signs_4 (by decide) ?_
      refine tl_goto (pc := 5) (tgt := 9) dX6_signs_5 rfl ?_
      exact tl_sub (hk1 _) (sub_s (sub_n (sub_n sub_e)))
abbrev TL_X6_widthOf (T : Tb) (pc : Nat) (lo : List (Option Value)) (st : List Value) (X : Dm Int32) : Prop := TL yX6_widthOf cX6_widthOf 3 (some .int) 1 iI T pc lo st X
set_option maxRecDepth 100000 in
theorem c_X6_widthOf (T : Tb) (a0 na0 : Nat) (p1 : Int32) (hb : isMod T) (ha0 : T[a0]? = some (0, na0, [])) : CT (.code yX6_widthOf cX6_widthOf 3 (some .int)) yX6_widthOf 1 iI T [.ref 168, .ref a0, .int p1] (F_X6_widthOf a0 na0 p1) := by
  refine ct_of (lo := [some (.ref 168), some (.ref a0), some (.int p1)]) (j := 0) k_X6_widthOf.1 rfl (fun _ => Nat.le_of_ble_eq_true rfl) ?_
  show TL_X6_widthOf T 0 _ _ _
  rw [F_X6_widthOf]
  refine tl_aload_n (pc := 0) (i := 1) dX6_widthOf_0 rfl rfl ?_
  refine tl_bipush (pc := 1) (v := 12) dX6_widthOf_1 (by decide) ?_
  refine tl_iload_n (pc := 3) (i := 2) dX6_widthOf_3 rfl rfl ?_
  refine tl_iadd (pc := 4) dX6_widthOf_4 ?_
  refine tl_iald (pc := 5) ha0 dX6_widthOf_5 (fun x1 => ?_)
  refine tl_if (fun cs6_0 => ?_) (fun cs6_0 => ?_)
  · refine tl_tableIn (pc := 6) (tgt := 36) (off := 30) (0 : Int32) cs6_0 dX6_widthOf_6 (by decide) (by decide) (by decide) rfl ?_
    refine tl_iconst (pc := 36) (v := 0) dX6_widthOf_36 (by decide) ?_
    exact tl_iret (pc := 37) dX6_widthOf_37
  · refine tl_if (fun cs6_1 => ?_) (fun cs6_1 => ?_)
    · refine tl_tableIn (pc := 6) (tgt := 38) (off := 32) (1 : Int32) cs6_1 dX6_widthOf_6 (by decide) (by decide) (by decide) rfl ?_
      refine tl_aload_n (pc := 38) (i := 1) dX6_widthOf_38 rfl rfl ?_
      refine tl_sipush (pc := 39) (v := 137) dX6_widthOf_39 (by decide) ?_
      refine tl_iload_n (pc := 42) (i := 2) dX6_widthOf_42 rfl rfl ?_
      refine tl_iadd (pc := 43) dX6_widthOf_43 ?_
      refine tl_iald (pc := 44) ha0 dX6_widthOf_44 (fun x2 => ?_)
      refine tl_callSi (pc := 45) k_X6_signs gw_1089 (c_X6_signs T _) rfl rfl (Nat.le_of_ble_eq_true rfl) (Nat.le_of_ble_eq_true rfl) dX6_widthOf_45 (fun x3 => ?_)
      exact tl_iret (pc := 48) dX6_widthOf_48
    · refine tl_if (fun cs6_2 => ?_) (fun cs6_2 => ?_)
      · refine tl_tableIn (pc := 6) (tgt := 49) (off := 43) (2 : Int32) cs6_2 dX6_widthOf_6 (by decide) (by decide) (by decide) rfl ?_
        refine tl_aload_n (pc := 49) (i := 1) dX6_widthOf_49 rfl rfl ?_
        refine tl_sipush (pc := 50) (v := 137) dX6_widthOf_50 (by decide) ?_
        refine tl_iload_n (pc := 53) (i := 2) dX6_widthOf_53 rfl rfl ?_
        refine tl_iadd (pc := 54) dX6_widthOf_54 ?_
        refine tl_iald (pc := 55) ha0 dX6_widthOf_55 (fun x4 => ?_)
        exact tl_iret (pc := 56) dX6_widthOf_56
      · refine tl_if (fun cs6_3 => ?_) (fun cs6_3 => ?_)
        · refine tl_tableIn (pc := 6) (tgt := 57) (off := 51) (3 : Int32) cs6_3 dX6_widthOf_6 (by decide) (by decide) (by decide) rfl ?_
          refine tl_aload_n (pc := 57) (i := 0) dX6_widthOf_57 rfl rfl ?_
          refine tl_getR (pc := 58) (r := 175) fl_X6_28 hb.1 rfl dX6_widthOf_58 ?_
          refine tl_aload_n (pc := 61) (i := 1) dX6_widthOf_61 rfl rfl ?_
          refine tl_sipush (pc := 62) (v := 137) dX6_widthOf_62 (by decide) ?_
          refine tl_iload_n (pc := 65) (i := 2) dX6_widthOf_65 rfl rfl ?_
          refine tl_iadd (pc := 66) dX6_widthOf_66 ?_
          refine tl_iald (pc := 67) ha0 dX6_widthOf_67 (fun x5 => ?_)
          refine tl_iald (pc := 68) hb.2.2.2.2.2.2.2.1 dX6_widthOf_68 (fun x6 => ?_)
          exact tl_iret (pc := 69) dX6_widthOf_69
        · refine tl_tableOut (pc := 6) (tgt := 70) dX6_widthOf_6 (by have n0 := lv_neT cs6_0 (a := 0) (by decide); have n1 := lv_neT cs6_1 (a := 1) (by decide); have n2 := lv_neT cs6_2 (a := 2) (by decide); have n3 := lv_neT cs6_3 (a := 3) (by decide); omega) rfl ?_
          refine tl_aload_n (pc := 70) (i := 0) dX6_widthOf_70 rfl rfl ?_
          refine tl_getR (pc := 71) (r := 179) fl_X6_40 hb.1 rfl dX6_widthOf_71 ?_
          refine tl_iload_n (pc := 74) (i := 2) dX6_widthOf_74 rfl rfl ?_
          refine tl_iald (pc := 75) hb.2.2.2.2.2.2.2.2.2.2.2.1 dX6_widthOf_75 (fun x7 => ?_)
          refine tl_callSi (pc := 76) k_X6_signs gw_1089 (c_X6_signs T _) rfl rfl (Nat.le_of_ble_eq_true rfl) (Nat.le_of_ble_eq_true rfl) dX6_widthOf_76 (fun x8 => ?_)
          exact tl_iret (pc := 79) dX6_widthOf_79
abbrev TL_X6_heightOf (T : Tb) (pc : Nat) (lo : List (Option Value)) (st : List Value) (X : Dm Int32) : Prop := TL yX6_heightOf cX6_heightOf 3 (some .int) 0 iI T pc lo st X
set_option maxRecDepth 100000 in
theorem c_X6_heightOf (T : Tb) (a0 na0 : Nat) (p1 : Int32) (hb : isMod T) (ha0 : T[a0]? = some (0, na0, [])) : CT (.code yX6_heightOf cX6_heightOf 3 (some .int)) yX6_heightOf 0 iI T [.ref 168, .ref a0, .int p1] (F_X6_heightOf a0 na0 p1) := by
  refine ct_of (lo := [some (.ref 168), some (.ref a0), some (.int p1)]) (j := 0) k_X6_heightOf.1 rfl (fun _ => Nat.le_of_ble_eq_true rfl) ?_
  show TL_X6_heightOf T 0 _ _ _
  rw [F_X6_heightOf]
  refine tl_aload_n (pc := 0) (i := 1) dX6_heightOf_0 rfl rfl ?_
  refine tl_bipush (pc := 1) (v := 12) dX6_heightOf_1 (by decide) ?_
  refine tl_iload_n (pc := 3) (i := 2) dX6_heightOf_3 rfl rfl ?_
  refine tl_iadd (pc := 4) dX6_heightOf_4 ?_
  refine tl_iald (pc := 5) ha0 dX6_heightOf_5 (fun x1 => ?_)
  refine tl_if_ne (pc := 6) (tgt := 13) dX6_heightOf_6 rfl ?_ ?_
  · refine tl_iconst (pc := 9) (v := 0) dX6_heightOf_9 (by decide) ?_
    refine tl_goto (pc := 10) (tgt := 39) dX6_heightOf_10 rfl ?_
    exact tl_iret (pc := 39) dX6_heightOf_39
  · refine tl_aload_n (pc := 13) (i := 1) dX6_heightOf_13 rfl rfl ?_
    refine tl_bipush (pc := 14) (v := 12) dX6_heightOf_14 (by decide) ?_
    refine tl_iload_n (pc := 16) (i := 2) dX6_heightOf_16 rfl rfl ?_
    refine tl_iadd (pc := 17) dX6_heightOf_17 ?_
    refine tl_iald (pc := 18) ha0 dX6_heightOf_18 (fun x2 => ?_)
    refine tl_iconst (pc := 19) (v := 3) dX6_heightOf_19 (by decide) ?_
    refine tl_icmp_ne (pc := 20) (tgt := 38) dX6_heightOf_20 rfl ?_ ?_
    · refine tl_aload_n (pc := 23) (i := 0) dX6_heightOf_23 rfl rfl ?_
      refine tl_getR (pc := 24) (r := 176) fl_X6_31 hb.1 rfl dX6_heightOf_24 ?_
      refine tl_aload_n (pc := 27) (i := 1) dX6_heightOf_27 rfl rfl ?_
      refine tl_sipush (pc := 28) (v := 137) dX6_heightOf_28 (by decide) ?_
      refine tl_iload_n (pc := 31) (i := 2) dX6_heightOf_31 rfl rfl ?_
      refine tl_iadd (pc := 32) dX6_heightOf_32 ?_
      refine tl_iald (pc := 33) ha0 dX6_heightOf_33 (fun x3 => ?_)
      refine tl_iald (pc := 34) hb.2.2.2.2.2.2.2.2.1 dX6_heightOf_34 (fun x4 => ?_)
      refine tl_goto (pc := 35) (tgt := 39) dX6_heightOf_35 rfl ?_
      exact tl_iret (pc := 39) dX6_heightOf_39
    · refine tl_iconst (pc := 38) (v := 1) dX6_heightOf_38 (by decide) ?_
      exact tl_iret (pc := 39) dX6_heightOf_39
abbrev TL_X6_laysColumns (T : Tb) (pc : Nat) (lo : List (Option Value)) (st : List Value) (X : Dm Unit) : Prop := TL yX6_laysColumns cX6_laysColumns 9 none 2 vI T pc lo st X
set_option maxRecDepth 100000 in
theorem lp_X6_laysColumns_2 (T : Tb) (a0 na0 : Nat) (p1 : Int32)  (hb : isMod T) (ha0 : T[a0]? = some (0, na0, []))  (k1 : Unit → Dm Unit) (hk1 : ∀ (_ : Unit), TL_X6_laysColumns T 24 [some (.ref 168), some (.ref a0), some (.int p1), none, none, none, none, none, none] [] (k1 ())) : ∀ (n : Nat) (x1 : Int32), TL_X6_laysColumns T 2 [some (.ref 168), some (.ref a0), some (.int p1), some (.int x1), none, none, none, none, none] [] (L_X6_laysColumns_2 p1 n x1 k1) := by
  intro n
  induction n with
  | zero => intros; exact tl_fail
  | succ n ih =>
    intro x1
    rw [L_X6_laysColumns_2]
    refine tl_iload_n (pc := 2) (i := 3) dX6_laysColumns_2 rfl rfl ?_
    refine tl_iconst (pc := 3) (v := 5) dX6_laysColumns_3 (by decide) ?_
    refine tl_icmp_ge (pc := 4) (tgt := 24) dX6_laysColumns_4 rfl ?_ ?_
    · exact tl_sub (hk1 ()) (sub_s (sub_s (sub_s (sub_n (sub_n (sub_n (sub_n (sub_n (sub_n sub_e)))))))))
    · refine tl_aload_n (pc := 7) (i := 0) dX6_laysColumns_7 rfl rfl ?_
      refine tl_getR (pc := 8) (r := 182) fl_X6_49 hb.1 rfl dX6_laysColumns_8 ?_
      refine tl_iconst (pc := 11) (v := 5) dX6_laysColumns_11 (by decide) ?_
      refine tl_iload_n (pc := 12) (i := 2) dX6_laysColumns_12 rfl rfl ?_
      refine tl_imul (pc := 13) dX6_laysColumns_13 ?_
      refine tl_iload_n (pc := 14) (i := 3) dX6_laysColumns_14 rfl rfl ?_
      refine tl_iadd (pc := 15) dX6_laysColumns_15 ?_
      refine tl_iconst (pc := 16) (v := 0) dX6_laysColumns_16 (by decide) ?_
      refine tl_iast (pc := 17) hb.2.2.2.2.2.2.2.2.2.2.2.2.2.2.1 dX6_laysColumns_17 ?_
      refine tl_iinc (pc := 18) (i := 3) (v := x1 + (1 : Int32)) (lo' := [some (.ref 168), some (.ref a0), some (.int p1), some (.int (x1 + (1 : Int32))), none, none, none, none, none]) dX6_laysColumns_18 rfl rfl (by decide) rfl ?_
      refine tl_goto (pc := 21) (tgt := 2) dX6_laysColumns_21 rfl ?_
      exact tl_sub (ih _) (sub_s (sub_s (sub_s (sub_s (sub_n (sub_n (sub_n (sub_n (sub_n sub_e)))))))))
set_option maxRecDepth 100000 in
theorem lp_X6_laysColumns_115 (T : Tb) (a0 na0 : Nat) (p1 : Int32) (x10 : Int32) (x2 : Int32) (x3 : Int32) (hb : isMod T) (ha0 : T[a0]? = some (0, na0, []))  (k5 : Int32 → Dm Unit) (hk5 : ∀ (y115_0 : Int32), TL_X6_laysColumns T 140 [some (.ref 168), some (.ref a0), some (.int p1), some (.int x2), some (.int x3), none, some (.int x10), some (.int y115_0), none] [] (k5 y115_0)) : ∀ (n : Nat) (x11 : Int32) (x12 : Int32), TL_X6_laysColumns T 115 [some (.ref 168), some (.ref a0), some (.int p1), some (.int x2), some (.int x3), none, some (.int x10), some (.int x11), some (.int x12)] [] (L_X6_laysColumns_115 x10 n x11 x12 k5) := by
  intro n
  induction n with
  | zero => intros; exact tl_fail
  | succ n ih =>
    intro x11 x12
    rw [L_X6_laysColumns_115]
    refine tl_iload (pc := 115) (i := 8) dX6_laysColumns_115 rfl ?_
    refine tl_iload (pc := 117) (i := 6) dX6_laysColumns_117 rfl ?_
    refine tl_icmp_gt (pc := 119) (tgt := 140) dX6_laysColumns_119 rfl ?_ ?_
    · exact tl_sub (hk5 _) (sub_s (sub_s (sub_s (sub_s (sub_s (sub_n (sub_s (sub_s (sub_n sub_e)))))))))
    · refine tl_iload (pc := 122) (i := 7) dX6_laysColumns_122 rfl ?_
      refine tl_aload_n (pc := 124) (i := 0) dX6_laysColumns_124 rfl rfl ?_
      refine tl_getR (pc := 125) (r := 182) fl_X6_49 hb.1 rfl dX6_laysColumns_125 ?_
      refine tl_iload (pc := 128) (i := 8) dX6_laysColumns_128 rfl ?_
      refine tl_iald (pc := 130) hb.2.2.2.2.2.2.2.2.2.2.2.2.2.2.1 dX6_laysColumns_130 (fun x13 => ?_)
      refine tl_iadd (pc := 131) dX6_laysColumns_131 ?_
      refine tl_bI (fun x14 => ?_)
      refine tl_istore (pc := 132) (i := 7) (lo' := [some (.ref 168), some (.ref a0), some (.int p1), some (.int x2), some (.int x3), none, some (.int x10), some (.int x14), some (.int x12)]) dX6_laysColumns_132 (by decide) rfl ?_
      refine tl_iinc (pc := 134) (i := 8) (v := x12 + (1 : Int32)) (lo' := [some (.ref 168), some (.ref a0), some (.int p1), some (.int x2), some (.int x3), none, some (.int x10), some (.int x14), some (.int (x12 + (1 : Int32)))]) dX6_laysColumns_134 rfl rfl (by decide) rfl ?_
      refine tl_goto (pc := 137) (tgt := 115) dX6_laysColumns_137 rfl ?_
      exact tl_sub (ih _ _) (sub_s (sub_s (sub_s (sub_s (sub_s (sub_n (sub_s (sub_s (sub_s sub_e)))))))))
set_option maxRecDepth 100000 in
theorem lp_X6_laysColumns_26 (T : Tb) (a0 na0 : Nat) (p1 : Int32)  (hb : isMod T) (ha0 : T[a0]? = some (0, na0, []))    : ∀ (n : Nat) (x2 : Int32), TL_X6_laysColumns T 26 [some (.ref 168), some (.ref a0), some (.int p1), some (.int x2), none, none, none, none, none] [] (L_X6_laysColumns_26 a0 na0 p1 n x2 ) := by
  intro n
  induction n with
  | zero => intros; exact tl_fail
  | succ n ih =>
    intro x2
    rw [L_X6_laysColumns_26]
    refine tl_iload_n (pc := 26) (i := 3) dX6_laysColumns_26 rfl rfl ?_
    refine tl_bipush (pc := 27) (v := 50) dX6_laysColumns_27 (by decide) ?_
    refine tl_icmp_ge (pc := 29) (tgt := 182) dX6_laysColumns_29 rfl ?_ ?_
    · exact tl_vret (pc := 182) dX6_laysColumns_182
    · refine tl_bipush (pc := 32) (v := 25) dX6_laysColumns_32 (by decide) ?_
      refine tl_iload_n (pc := 34) (i := 2) dX6_laysColumns_34 rfl rfl ?_
      refine tl_imul (pc := 35) dX6_laysColumns_35 ?_
      refine tl_iload_n (pc := 36) (i := 3) dX6_laysColumns_36 rfl rfl ?_
      refine tl_bipush (pc := 37) (v := 25) dX6_laysColumns_37 (by decide) ?_
      refine tl_irem (pc := 39) dX6_laysColumns_39 (by decide) ?_
      refine tl_iadd (pc := 40) dX6_laysColumns_40 ?_
      refine tl_bI (fun x3 => ?_)
      refine tl_istore (pc := 41) (i := 4) (lo' := [some (.ref 168), some (.ref a0), some (.int p1), some (.int x2), some (.int x3), none, none, none, none]) dX6_laysColumns_41 (by decide) rfl ?_
      refine tl_aload_n (pc := 43) (i := 1) dX6_laysColumns_43 rfl rfl ?_
      refine tl_iload (pc := 44) (i := 4) dX6_laysColumns_44 rfl ?_
      refine tl_callSi (pc := 46) k_X6_isCell gw_940 (c_X6_isCell T _ _ _ ha0) rfl rfl (Nat.le_of_ble_eq_true rfl) (Nat.le_of_ble_eq_true rfl) dX6_laysColumns_46 (fun x4 => ?_)
      refine tl_j (fun (k : Unit → Dm Unit) => ∀ (_ : Unit), TL_X6_laysColumns T 176 [some (.ref 168), some (.ref a0), some (.int p1), some (.int x2), none, none, none, none, none] [] (k ())) (fun _ => ?_) (fun k2 hk2 => ?_)
      · refine tl_iinc (pc := 176) (i := 3) (v := x2 + (1 : Int32)) (lo' := [some (.ref 168), some (.ref a0), some (.int p1), some (.int (x2 + (1 : Int32))), none, none, none, none, none]) dX6_laysColumns_176 rfl rfl (by decide) rfl ?_
        refine tl_goto (pc := 179) (tgt := 26) dX6_laysColumns_179 rfl ?_
        exact tl_sub (ih _) (sub_s (sub_s (sub_s (sub_s (sub_n (sub_n (sub_n (sub_n (sub_n sub_e)))))))))
      · refine tl_if_eq (pc := 49) (tgt := 176) dX6_laysColumns_49 rfl ?_ ?_
        · exact tl_sub (hk2 ()) (sub_s (sub_s (sub_s (sub_s (sub_n (sub_n (sub_n (sub_n (sub_n sub_e)))))))))
        · refine tl_aload_n (pc := 52) (i := 1) dX6_laysColumns_52 rfl rfl ?_
          refine tl_sipush (pc := 53) (v := 387) dX6_laysColumns_53 (by decide) ?_
          refine tl_iload (pc := 56) (i := 4) dX6_laysColumns_56 rfl ?_
          refine tl_iadd (pc := 58) dX6_laysColumns_58 ?_
          refine tl_iald (pc := 59) ha0 dX6_laysColumns_59 (fun x5 => ?_)
          refine tl_iconst (pc := 60) (v := 1) dX6_laysColumns_60 (by decide) ?_
          refine tl_j (fun (k : Int32 → Dm Unit) => ∀ (x6 : Int32), TL_X6_laysColumns T 69 [some (.ref 168), some (.ref a0), some (.int p1), some (.int x2), some (.int x3), none, none, none, none] [.int x6] (k x6)) (fun x6 => ?_) (fun k3 hk3 => ?_)
          · refine tl_iload_n (pc := 69) (i := 3) dX6_laysColumns_69 rfl rfl ?_
            refine tl_bipush (pc := 70) (v := 25) dX6_laysColumns_70 (by decide) ?_
            refine tl_j (fun (k : Int32 → Dm Unit) => ∀ (x7 : Int32), TL_X6_laysColumns T 80 [some (.ref 168), some (.ref a0), some (.int p1), some (.int x2), some (.int x3), none, none, none, none] [.int x7, .int x6] (k x7)) (fun x7 => ?_) (fun k4 hk4 => ?_)
            · refine tl_icmp_ne (pc := 80) (tgt := 176) dX6_laysColumns_80 rfl ?_ ?_
              · refine tl_iconst (pc := 83) (v := 5) dX6_laysColumns_83 (by decide) ?_
                refine tl_iload_n (pc := 84) (i := 2) dX6_laysColumns_84 rfl rfl ?_
                refine tl_imul (pc := 85) dX6_laysColumns_85 ?_
                refine tl_iload (pc := 86) (i := 4) dX6_laysColumns_86 rfl ?_
                refine tl_iconst (pc := 88) (v := 5) dX6_laysColumns_88 (by decide) ?_
                refine tl_irem (pc := 89) dX6_laysColumns_89 (by decide) ?_
                refine tl_iadd (pc := 90) dX6_laysColumns_90 ?_
                refine tl_bI (fun x8 => ?_)
                refine tl_istore (pc := 91) (i := 5) (lo' := [some (.ref 168), some (.ref a0), some (.int p1), some (.int x2), some (.int x3), some (.int x8), none, none, none]) dX6_laysColumns_91 (by decide) rfl ?_
                refine tl_iload (pc := 93) (i := 5) dX6_laysColumns_93 rfl ?_
                refine tl_aload_n (pc := 95) (i := 1) dX6_laysColumns_95 rfl rfl ?_
                refine tl_sipush (pc := 96) (v := 387) dX6_laysColumns_96 (by decide) ?_
                refine tl_iload (pc := 99) (i := 4) dX6_laysColumns_99 rfl ?_
                refine tl_iadd (pc := 101) dX6_laysColumns_101 ?_
                refine tl_iald (pc := 102) ha0 dX6_laysColumns_102 (fun x9 => ?_)
                refine tl_iadd (pc := 103) dX6_laysColumns_103 ?_
                refine tl_iconst (pc := 104) (v := 1) dX6_laysColumns_104 (by decide) ?_
                refine tl_isub (pc := 105) dX6_laysColumns_105 ?_
                refine tl_bI (fun x10 => ?_)
                refine tl_istore (pc := 106) (i := 6) (lo' := [some (.ref 168), some (.ref a0), some (.int p1), some (.int x2), some (.int x3), some (.int x8), some (.int x10), none, none]) dX6_laysColumns_106 (by decide) rfl ?_
                refine tl_iconst (pc := 108) (v := 0) dX6_laysColumns_108 (by decide) ?_
                refine tl_istore (pc := 109) (i := 7) (lo' := [some (.ref 168), some (.ref a0), some (.int p1), some (.int x2), some (.int x3), some (.int x8), some (.int x10), some (.int (0 : Int32)), none]) dX6_laysColumns_109 (by decide) rfl ?_
                refine tl_iload (pc := 111) (i := 5) dX6_laysColumns_111 rfl ?_
                refine tl_istore (pc := 113) (i := 8) (lo' := [some (.ref 168), some (.ref a0), some (.int p1), some (.int x2), some (.int x3), some (.int x8), some (.int x10), some (.int (0 : Int32)), some (.int x8)]) dX6_laysColumns_113 (by decide) rfl ?_
                refine tl_sub (lp_X6_laysColumns_115 T a0 na0 p1 x10 x2 x3 hb ha0  _ (fun x15 => ?_) FU _ _) (sub_s (sub_s (sub_s (sub_s (sub_s (sub_n (sub_s (sub_s (sub_s sub_e)))))))))
                refine tl_aload_n (pc := 140) (i := 0) dX6_laysColumns_140 rfl rfl ?_
                refine tl_getR (pc := 141) (r := 182) fl_X6_49 hb.1 rfl dX6_laysColumns_141 ?_
                refine tl_iload (pc := 144) (i := 6) dX6_laysColumns_144 rfl ?_
                refine tl_dup2 (pc := 146) dX6_laysColumns_146 rfl rfl ?_
                refine tl_iald (pc := 147) hb.2.2.2.2.2.2.2.2.2.2.2.2.2.2.1 dX6_laysColumns_147 (fun x16 => ?_)
                refine tl_aload_n (pc := 148) (i := 0) dX6_laysColumns_148 rfl rfl ?_
                refine tl_aload_n (pc := 149) (i := 1) dX6_laysColumns_149 rfl rfl ?_
                refine tl_iload (pc := 150) (i := 4) dX6_laysColumns_150 rfl ?_
                refine tl_callVi (pc := 152) k_X6_widthOf gw_1085 hb.1 ⟨_, _, rfl⟩ (c_X6_widthOf T _ _ _ hb ha0) rfl rfl (Nat.le_of_ble_eq_true rfl) (Nat.le_of_ble_eq_true rfl) dX6_laysColumns_152 (fun x17 => ?_)
                refine tl_iload (pc := 155) (i := 7) dX6_laysColumns_155 rfl ?_
                refine tl_j (fun (k : Int32 → Dm Unit) => ∀ (x18 : Int32), TL_X6_laysColumns T 174 [some (.ref 168), some (.ref a0), some (.int p1), some (.int x2), none, none, none, none, none] [.int x18, .int x16, .int x10, .ref 182] (k x18)) (fun x18 => ?_) (fun k6 hk6 => ?_)
                · refine tl_iadd (pc := 174) dX6_laysColumns_174 ?_
                  refine tl_iast (pc := 175) hb.2.2.2.2.2.2.2.2.2.2.2.2.2.2.1 dX6_laysColumns_175 ?_
                  exact tl_sub (hk2 ()) (sub_s (sub_s (sub_s (sub_s (sub_n (sub_n (sub_n (sub_n (sub_n sub_e)))))))))
                · refine tl_icmp_le (pc := 157) (tgt := 173) dX6_laysColumns_157 rfl ?_ ?_
                  · refine tl_iconst (pc := 173) (v := 0) dX6_laysColumns_173 (by decide) ?_
                    exact tl_sub (hk6 _) (sub_s (sub_s (sub_s (sub_s (sub_n (sub_n (sub_n (sub_n (sub_n sub_e)))))))))
                  · refine tl_aload_n (pc := 160) (i := 0) dX6_laysColumns_160 rfl rfl ?_
                    refine tl_aload_n (pc := 161) (i := 1) dX6_laysColumns_161 rfl rfl ?_
                    refine tl_iload (pc := 162) (i := 4) dX6_laysColumns_162 rfl ?_
                    refine tl_callVi (pc := 164) k_X6_widthOf gw_1085 hb.1 ⟨_, _, rfl⟩ (c_X6_widthOf T _ _ _ hb ha0) rfl rfl (Nat.le_of_ble_eq_true rfl) (Nat.le_of_ble_eq_true rfl) dX6_laysColumns_164 (fun x19 => ?_)
                    refine tl_iload (pc := 167) (i := 7) dX6_laysColumns_167 rfl ?_
                    refine tl_isub (pc := 169) dX6_laysColumns_169 ?_
                    refine tl_goto (pc := 170) (tgt := 174) dX6_laysColumns_170 rfl ?_
                    exact tl_sub (hk6 _) (sub_s (sub_s (sub_s (sub_s (sub_n (sub_n (sub_n (sub_n (sub_n sub_e)))))))))
              · exact tl_sub (hk2 ()) (sub_s (sub_s (sub_s (sub_s (sub_n (sub_n (sub_n (sub_n (sub_n sub_e)))))))))
            · refine tl_icmp_ge (pc := 72) (tgt := 79) dX6_laysColumns_72 rfl ?_ ?_
              · refine tl_iconst (pc := 79) (v := 0) dX6_laysColumns_79 (by decide) ?_
                exact tl_sub (hk4 _) (sub_s (sub_s (sub_s (sub_s (sub_s (sub_n (sub_n (sub_n (sub_n sub_e)))))))))
              · refine tl_iconst (pc := 75) (v := 1) dX6_laysColumns_75 (by decide) ?_
                refine tl_goto (pc := 76) (tgt := 80) dX6_laysColumns_76 rfl ?_
                exact tl_sub (hk4 _) (sub_s (sub_s (sub_s (sub_s (sub_s (sub_n (sub_n (sub_n (sub_n sub_e)))))))))
          · refine tl_icmp_ne (pc := 61) (tgt := 68) dX6_laysColumns_61 rfl ?_ ?_
            · refine tl_iconst (pc := 64) (v := 1) dX6_laysColumns_64 (by decide) ?_
              refine tl_goto (pc := 65) (tgt := 69) dX6_laysColumns_65 rfl ?_
              exact tl_sub (hk3 _) (sub_s (sub_s (sub_s (sub_s (sub_s (sub_n (sub_n (sub_n (sub_n sub_e)))))))))
            · refine tl_iconst (pc := 68) (v := 0) dX6_laysColumns_68 (by decide) ?_
              exact tl_sub (hk3 _) (sub_s (sub_s (sub_s (sub_s (sub_s (sub_n (sub_n (sub_n (sub_n sub_e)))))))))
set_option maxRecDepth 100000 in
theorem c_X6_laysColumns (T : Tb) (a0 na0 : Nat) (p1 : Int32) (hb : isMod T) (ha0 : T[a0]? = some (0, na0, [])) : CT (.code yX6_laysColumns cX6_laysColumns 9 none) yX6_laysColumns 2 vI T [.ref 168, .ref a0, .int p1] (F_X6_laysColumns a0 na0 p1) := by
  refine ct_of (lo := [some (.ref 168), some (.ref a0), some (.int p1), none, none, none, none, none, none]) (j := 6) k_X6_laysColumns.1 rfl (fun _ => Nat.le_of_ble_eq_true rfl) ?_
  show TL_X6_laysColumns T 0 _ _ _
  rw [F_X6_laysColumns]
  refine tl_iconst (pc := 0) (v := 0) dX6_laysColumns_0 (by decide) ?_
  refine tl_istore_n (pc := 1) (i := 3) (lo' := [some (.ref 168), some (.ref a0), some (.int p1), some (.int (0 : Int32)), none, none, none, none, none]) dX6_laysColumns_1 rfl (by decide) rfl ?_
  refine tl_sub (lp_X6_laysColumns_2 T a0 na0 p1 hb ha0  _ (fun _ => ?_) FU _) (sub_s (sub_s (sub_s (sub_s (sub_n (sub_n (sub_n (sub_n (sub_n sub_e)))))))))
  refine tl_iconst (pc := 24) (v := 0) dX6_laysColumns_24 (by decide) ?_
  refine tl_istore_n (pc := 25) (i := 3) (lo' := [some (.ref 168), some (.ref a0), some (.int p1), some (.int (0 : Int32)), none, none, none, none, none]) dX6_laysColumns_25 rfl (by decide) rfl ?_
  refine tl_sub (lp_X6_laysColumns_26 T a0 na0 p1 hb ha0    FU _) (sub_s (sub_s (sub_s (sub_s (sub_n (sub_n (sub_n (sub_n (sub_n sub_e)))))))))
abbrev TL_X6_laysRows (T : Tb) (pc : Nat) (lo : List (Option Value)) (st : List Value) (X : Dm Unit) : Prop := TL yX6_laysRows cX6_laysRows 9 none 2 vI T pc lo st X
set_option maxRecDepth 100000 in
theorem lp_X6_laysRows_2 (T : Tb) (a0 na0 : Nat) (p1 : Int32)  (hb : isMod T) (ha0 : T[a0]? = some (0, na0, []))  (k1 : Unit → Dm Unit) (hk1 : ∀ (_ : Unit), TL_X6_laysRows T 24 [some (.ref 168), some (.ref a0), some (.int p1), none, none, none, none, none, none] [] (k1 ())) : ∀ (n : Nat) (x1 : Int32), TL_X6_laysRows T 2 [some (.ref 168), some (.ref a0), some (.int p1), some (.int x1), none, none, none, none, none] [] (L_X6_laysRows_2 p1 n x1 k1) := by
  intro n
  induction n with
  | zero => intros; exact tl_fail
  | succ n ih =>
    intro x1
    rw [L_X6_laysRows_2]
    refine tl_iload_n (pc := 2) (i := 3) dX6_laysRows_2 rfl rfl ?_
    refine tl_iconst (pc := 3) (v := 5) dX6_laysRows_3 (by decide) ?_
    refine tl_icmp_ge (pc := 4) (tgt := 24) dX6_laysRows_4 rfl ?_ ?_
    · exact tl_sub (hk1 ()) (sub_s (sub_s (sub_s (sub_n (sub_n (sub_n (sub_n (sub_n (sub_n sub_e)))))))))
    · refine tl_aload_n (pc := 7) (i := 0) dX6_laysRows_7 rfl rfl ?_
      refine tl_getR (pc := 8) (r := 183) fl_X6_52 hb.1 rfl dX6_laysRows_8 ?_
      refine tl_iconst (pc := 11) (v := 5) dX6_laysRows_11 (by decide) ?_
      refine tl_iload_n (pc := 12) (i := 2) dX6_laysRows_12 rfl rfl ?_
      refine tl_imul (pc := 13) dX6_laysRows_13 ?_
      refine tl_iload_n (pc := 14) (i := 3) dX6_laysRows_14 rfl rfl ?_
      refine tl_iadd (pc := 15) dX6_laysRows_15 ?_
      refine tl_iconst (pc := 16) (v := 0) dX6_laysRows_16 (by decide) ?_
      refine tl_iast (pc := 17) hb.2.2.2.2.2.2.2.2.2.2.2.2.2.2.2.1 dX6_laysRows_17 ?_
      refine tl_iinc (pc := 18) (i := 3) (v := x1 + (1 : Int32)) (lo' := [some (.ref 168), some (.ref a0), some (.int p1), some (.int (x1 + (1 : Int32))), none, none, none, none, none]) dX6_laysRows_18 rfl rfl (by decide) rfl ?_
      refine tl_goto (pc := 21) (tgt := 2) dX6_laysRows_21 rfl ?_
      exact tl_sub (ih _) (sub_s (sub_s (sub_s (sub_s (sub_n (sub_n (sub_n (sub_n (sub_n sub_e)))))))))
set_option maxRecDepth 100000 in
theorem lp_X6_laysRows_116 (T : Tb) (a0 na0 : Nat) (p1 : Int32) (x11 : Int32) (x2 : Int32) (x3 : Int32) (hb : isMod T) (ha0 : T[a0]? = some (0, na0, []))  (k5 : Int32 → Dm Unit) (hk5 : ∀ (y116_0 : Int32), TL_X6_laysRows T 141 [some (.ref 168), some (.ref a0), some (.int p1), some (.int x2), some (.int x3), none, some (.int x11), some (.int y116_0), none] [] (k5 y116_0)) : ∀ (n : Nat) (x12 : Int32) (x13 : Int32), TL_X6_laysRows T 116 [some (.ref 168), some (.ref a0), some (.int p1), some (.int x2), some (.int x3), none, some (.int x11), some (.int x12), some (.int x13)] [] (L_X6_laysRows_116 x11 n x12 x13 k5) := by
  intro n
  induction n with
  | zero => intros; exact tl_fail
  | succ n ih =>
    intro x12 x13
    rw [L_X6_laysRows_116]
    refine tl_iload (pc := 116) (i := 8) dX6_laysRows_116 rfl ?_
    refine tl_iload (pc := 118) (i := 6) dX6_laysRows_118 rfl ?_
    refine tl_icmp_gt (pc := 120) (tgt := 141) dX6_laysRows_120 rfl ?_ ?_
    · exact tl_sub (hk5 _) (sub_s (sub_s (sub_s (sub_s (sub_s (sub_n (sub_s (sub_s (sub_n sub_e)))))))))
    · refine tl_iload (pc := 123) (i := 7) dX6_laysRows_123 rfl ?_
      refine tl_aload_n (pc := 125) (i := 0) dX6_laysRows_125 rfl rfl ?_
      refine tl_getR (pc := 126) (r := 183) fl_X6_52 hb.1 rfl dX6_laysRows_126 ?_
      refine tl_iload (pc := 129) (i := 8) dX6_laysRows_129 rfl ?_
      refine tl_iald (pc := 131) hb.2.2.2.2.2.2.2.2.2.2.2.2.2.2.2.1 dX6_laysRows_131 (fun x14 => ?_)
      refine tl_iadd (pc := 132) dX6_laysRows_132 ?_
      refine tl_bI (fun x15 => ?_)
      refine tl_istore (pc := 133) (i := 7) (lo' := [some (.ref 168), some (.ref a0), some (.int p1), some (.int x2), some (.int x3), none, some (.int x11), some (.int x15), some (.int x13)]) dX6_laysRows_133 (by decide) rfl ?_
      refine tl_iinc (pc := 135) (i := 8) (v := x13 + (1 : Int32)) (lo' := [some (.ref 168), some (.ref a0), some (.int p1), some (.int x2), some (.int x3), none, some (.int x11), some (.int x15), some (.int (x13 + (1 : Int32)))]) dX6_laysRows_135 rfl rfl (by decide) rfl ?_
      refine tl_goto (pc := 138) (tgt := 116) dX6_laysRows_138 rfl ?_
      exact tl_sub (ih _ _) (sub_s (sub_s (sub_s (sub_s (sub_s (sub_n (sub_s (sub_s (sub_s sub_e)))))))))
set_option maxRecDepth 100000 in
theorem lp_X6_laysRows_26 (T : Tb) (a0 na0 : Nat) (p1 : Int32)  (hb : isMod T) (ha0 : T[a0]? = some (0, na0, []))    : ∀ (n : Nat) (x2 : Int32), TL_X6_laysRows T 26 [some (.ref 168), some (.ref a0), some (.int p1), some (.int x2), none, none, none, none, none] [] (L_X6_laysRows_26 a0 na0 p1 n x2 ) := by
  intro n
  induction n with
  | zero => intros; exact tl_fail
  | succ n ih =>
    intro x2
    rw [L_X6_laysRows_26]
    refine tl_iload_n (pc := 26) (i := 3) dX6_laysRows_26 rfl rfl ?_
    refine tl_bipush (pc := 27) (v := 50) dX6_laysRows_27 (by decide) ?_
    refine tl_icmp_ge (pc := 29) (tgt := 183) dX6_laysRows_29 rfl ?_ ?_
    · exact tl_vret (pc := 183) dX6_laysRows_183
    · refine tl_bipush (pc := 32) (v := 25) dX6_laysRows_32 (by decide) ?_
      refine tl_iload_n (pc := 34) (i := 2) dX6_laysRows_34 rfl rfl ?_
      refine tl_imul (pc := 35) dX6_laysRows_35 ?_
      refine tl_iload_n (pc := 36) (i := 3) dX6_laysRows_36 rfl rfl ?_
      refine tl_bipush (pc := 37) (v := 25) dX6_laysRows_37 (by decide) ?_
      refine tl_irem (pc := 39) dX6_laysRows_39 (by decide) ?_
      refine tl_iadd (pc := 40) dX6_laysRows_40 ?_
      refine tl_bI (fun x3 => ?_)
      refine tl_istore (pc := 41) (i := 4) (lo' := [some (.ref 168), some (.ref a0), some (.int p1), some (.int x2), some (.int x3), none, none, none, none]) dX6_laysRows_41 (by decide) rfl ?_
      refine tl_aload_n (pc := 43) (i := 1) dX6_laysRows_43 rfl rfl ?_
      refine tl_iload (pc := 44) (i := 4) dX6_laysRows_44 rfl ?_
      refine tl_callSi (pc := 46) k_X6_isCell gw_940 (c_X6_isCell T _ _ _ ha0) rfl rfl (Nat.le_of_ble_eq_true rfl) (Nat.le_of_ble_eq_true rfl) dX6_laysRows_46 (fun x4 => ?_)
      refine tl_j (fun (k : Unit → Dm Unit) => ∀ (_ : Unit), TL_X6_laysRows T 177 [some (.ref 168), some (.ref a0), some (.int p1), some (.int x2), none, none, none, none, none] [] (k ())) (fun _ => ?_) (fun k2 hk2 => ?_)
      · refine tl_iinc (pc := 177) (i := 3) (v := x2 + (1 : Int32)) (lo' := [some (.ref 168), some (.ref a0), some (.int p1), some (.int (x2 + (1 : Int32))), none, none, none, none, none]) dX6_laysRows_177 rfl rfl (by decide) rfl ?_
        refine tl_goto (pc := 180) (tgt := 26) dX6_laysRows_180 rfl ?_
        exact tl_sub (ih _) (sub_s (sub_s (sub_s (sub_s (sub_n (sub_n (sub_n (sub_n (sub_n sub_e)))))))))
      · refine tl_if_eq (pc := 49) (tgt := 177) dX6_laysRows_49 rfl ?_ ?_
        · exact tl_sub (hk2 ()) (sub_s (sub_s (sub_s (sub_s (sub_n (sub_n (sub_n (sub_n (sub_n sub_e)))))))))
        · refine tl_aload_n (pc := 52) (i := 1) dX6_laysRows_52 rfl rfl ?_
          refine tl_sipush (pc := 53) (v := 262) dX6_laysRows_53 (by decide) ?_
          refine tl_iload (pc := 56) (i := 4) dX6_laysRows_56 rfl ?_
          refine tl_iadd (pc := 58) dX6_laysRows_58 ?_
          refine tl_iald (pc := 59) ha0 dX6_laysRows_59 (fun x5 => ?_)
          refine tl_iconst (pc := 60) (v := 1) dX6_laysRows_60 (by decide) ?_
          refine tl_j (fun (k : Int32 → Dm Unit) => ∀ (x6 : Int32), TL_X6_laysRows T 69 [some (.ref 168), some (.ref a0), some (.int p1), some (.int x2), some (.int x3), none, none, none, none] [.int x6] (k x6)) (fun x6 => ?_) (fun k3 hk3 => ?_)
          · refine tl_iload_n (pc := 69) (i := 3) dX6_laysRows_69 rfl rfl ?_
            refine tl_bipush (pc := 70) (v := 25) dX6_laysRows_70 (by decide) ?_
            refine tl_j (fun (k : Int32 → Dm Unit) => ∀ (x7 : Int32), TL_X6_laysRows T 80 [some (.ref 168), some (.ref a0), some (.int p1), some (.int x2), some (.int x3), none, none, none, none] [.int x7, .int x6] (k x7)) (fun x7 => ?_) (fun k4 hk4 => ?_)
            · refine tl_icmp_ne (pc := 80) (tgt := 177) dX6_laysRows_80 rfl ?_ ?_
              · refine tl_iconst (pc := 83) (v := 5) dX6_laysRows_83 (by decide) ?_
                refine tl_iload_n (pc := 84) (i := 2) dX6_laysRows_84 rfl rfl ?_
                refine tl_imul (pc := 85) dX6_laysRows_85 ?_
                refine tl_iload (pc := 86) (i := 4) dX6_laysRows_86 rfl ?_
                refine tl_callSi (pc := 88) k_X6_rowOf gw_1053 (c_X6_rowOf T _) rfl rfl (Nat.le_of_ble_eq_true rfl) (Nat.le_of_ble_eq_true rfl) dX6_laysRows_88 (fun x8 => ?_)
                refine tl_iadd (pc := 91) dX6_laysRows_91 ?_
                refine tl_bI (fun x9 => ?_)
                refine tl_istore (pc := 92) (i := 5) (lo' := [some (.ref 168), some (.ref a0), some (.int p1), some (.int x2), some (.int x3), some (.int x9), none, none, none]) dX6_laysRows_92 (by decide) rfl ?_
                refine tl_iload (pc := 94) (i := 5) dX6_laysRows_94 rfl ?_
                refine tl_aload_n (pc := 96) (i := 1) dX6_laysRows_96 rfl rfl ?_
                refine tl_sipush (pc := 97) (v := 262) dX6_laysRows_97 (by decide) ?_
                refine tl_iload (pc := 100) (i := 4) dX6_laysRows_100 rfl ?_
                refine tl_iadd (pc := 102) dX6_laysRows_102 ?_
                refine tl_iald (pc := 103) ha0 dX6_laysRows_103 (fun x10 => ?_)
                refine tl_iadd (pc := 104) dX6_laysRows_104 ?_
                refine tl_iconst (pc := 105) (v := 1) dX6_laysRows_105 (by decide) ?_
                refine tl_isub (pc := 106) dX6_laysRows_106 ?_
                refine tl_bI (fun x11 => ?_)
                refine tl_istore (pc := 107) (i := 6) (lo' := [some (.ref 168), some (.ref a0), some (.int p1), some (.int x2), some (.int x3), some (.int x9), some (.int x11), none, none]) dX6_laysRows_107 (by decide) rfl ?_
                refine tl_iconst (pc := 109) (v := 0) dX6_laysRows_109 (by decide) ?_
                refine tl_istore (pc := 110) (i := 7) (lo' := [some (.ref 168), some (.ref a0), some (.int p1), some (.int x2), some (.int x3), some (.int x9), some (.int x11), some (.int (0 : Int32)), none]) dX6_laysRows_110 (by decide) rfl ?_
                refine tl_iload (pc := 112) (i := 5) dX6_laysRows_112 rfl ?_
                refine tl_istore (pc := 114) (i := 8) (lo' := [some (.ref 168), some (.ref a0), some (.int p1), some (.int x2), some (.int x3), some (.int x9), some (.int x11), some (.int (0 : Int32)), some (.int x9)]) dX6_laysRows_114 (by decide) rfl ?_
                refine tl_sub (lp_X6_laysRows_116 T a0 na0 p1 x11 x2 x3 hb ha0  _ (fun x16 => ?_) FU _ _) (sub_s (sub_s (sub_s (sub_s (sub_s (sub_n (sub_s (sub_s (sub_s sub_e)))))))))
                refine tl_aload_n (pc := 141) (i := 0) dX6_laysRows_141 rfl rfl ?_
                refine tl_getR (pc := 142) (r := 183) fl_X6_52 hb.1 rfl dX6_laysRows_142 ?_
                refine tl_iload (pc := 145) (i := 6) dX6_laysRows_145 rfl ?_
                refine tl_dup2 (pc := 147) dX6_laysRows_147 rfl rfl ?_
                refine tl_iald (pc := 148) hb.2.2.2.2.2.2.2.2.2.2.2.2.2.2.2.1 dX6_laysRows_148 (fun x17 => ?_)
                refine tl_aload_n (pc := 149) (i := 0) dX6_laysRows_149 rfl rfl ?_
                refine tl_aload_n (pc := 150) (i := 1) dX6_laysRows_150 rfl rfl ?_
                refine tl_iload (pc := 151) (i := 4) dX6_laysRows_151 rfl ?_
                refine tl_callVi (pc := 153) k_X6_heightOf gw_1096 hb.1 ⟨_, _, rfl⟩ (c_X6_heightOf T _ _ _ hb ha0) rfl rfl (Nat.le_of_ble_eq_true rfl) (Nat.le_of_ble_eq_true rfl) dX6_laysRows_153 (fun x18 => ?_)
                refine tl_iload (pc := 156) (i := 7) dX6_laysRows_156 rfl ?_
                refine tl_j (fun (k : Int32 → Dm Unit) => ∀ (x19 : Int32), TL_X6_laysRows T 175 [some (.ref 168), some (.ref a0), some (.int p1), some (.int x2), none, none, none, none, none] [.int x19, .int x17, .int x11, .ref 183] (k x19)) (fun x19 => ?_) (fun k6 hk6 => ?_)
                · refine tl_iadd (pc := 175) dX6_laysRows_175 ?_
                  refine tl_iast (pc := 176) hb.2.2.2.2.2.2.2.2.2.2.2.2.2.2.2.1 dX6_laysRows_176 ?_
                  exact tl_sub (hk2 ()) (sub_s (sub_s (sub_s (sub_s (sub_n (sub_n (sub_n (sub_n (sub_n sub_e)))))))))
                · refine tl_icmp_le (pc := 158) (tgt := 174) dX6_laysRows_158 rfl ?_ ?_
                  · refine tl_iconst (pc := 174) (v := 0) dX6_laysRows_174 (by decide) ?_
                    exact tl_sub (hk6 _) (sub_s (sub_s (sub_s (sub_s (sub_n (sub_n (sub_n (sub_n (sub_n sub_e)))))))))
                  · refine tl_aload_n (pc := 161) (i := 0) dX6_laysRows_161 rfl rfl ?_
                    refine tl_aload_n (pc := 162) (i := 1) dX6_laysRows_162 rfl rfl ?_
                    refine tl_iload (pc := 163) (i := 4) dX6_laysRows_163 rfl ?_
                    refine tl_callVi (pc := 165) k_X6_heightOf gw_1096 hb.1 ⟨_, _, rfl⟩ (c_X6_heightOf T _ _ _ hb ha0) rfl rfl (Nat.le_of_ble_eq_true rfl) (Nat.le_of_ble_eq_true rfl) dX6_laysRows_165 (fun x20 => ?_)
                    refine tl_iload (pc := 168) (i := 7) dX6_laysRows_168 rfl ?_
                    refine tl_isub (pc := 170) dX6_laysRows_170 ?_
                    refine tl_goto (pc := 171) (tgt := 175) dX6_laysRows_171 rfl ?_
                    exact tl_sub (hk6 _) (sub_s (sub_s (sub_s (sub_s (sub_n (sub_n (sub_n (sub_n (sub_n sub_e)))))))))
              · exact tl_sub (hk2 ()) (sub_s (sub_s (sub_s (sub_s (sub_n (sub_n (sub_n (sub_n (sub_n sub_e)))))))))
            · refine tl_icmp_ge (pc := 72) (tgt := 79) dX6_laysRows_72 rfl ?_ ?_
              · refine tl_iconst (pc := 79) (v := 0) dX6_laysRows_79 (by decide) ?_
                exact tl_sub (hk4 _) (sub_s (sub_s (sub_s (sub_s (sub_s (sub_n (sub_n (sub_n (sub_n sub_e)))))))))
              · refine tl_iconst (pc := 75) (v := 1) dX6_laysRows_75 (by decide) ?_
                refine tl_goto (pc := 76) (tgt := 80) dX6_laysRows_76 rfl ?_
                exact tl_sub (hk4 _) (sub_s (sub_s (sub_s (sub_s (sub_s (sub_n (sub_n (sub_n (sub_n sub_e)))))))))
          · refine tl_icmp_ne (pc := 61) (tgt := 68) dX6_laysRows_61 rfl ?_ ?_
            · refine tl_iconst (pc := 64) (v := 1) dX6_laysRows_64 (by decide) ?_
              refine tl_goto (pc := 65) (tgt := 69) dX6_laysRows_65 rfl ?_
              exact tl_sub (hk3 _) (sub_s (sub_s (sub_s (sub_s (sub_s (sub_n (sub_n (sub_n (sub_n sub_e)))))))))
            · refine tl_iconst (pc := 68) (v := 0) dX6_laysRows_68 (by decide) ?_
              exact tl_sub (hk3 _) (sub_s (sub_s (sub_s (sub_s (sub_s (sub_n (sub_n (sub_n (sub_n sub_e)))))))))
set_option maxRecDepth 100000 in
theorem c_X6_laysRows (T : Tb) (a0 na0 : Nat) (p1 : Int32) (hb : isMod T) (ha0 : T[a0]? = some (0, na0, [])) : CT (.code yX6_laysRows cX6_laysRows 9 none) yX6_laysRows 2 vI T [.ref 168, .ref a0, .int p1] (F_X6_laysRows a0 na0 p1) := by
  refine ct_of (lo := [some (.ref 168), some (.ref a0), some (.int p1), none, none, none, none, none, none]) (j := 6) k_X6_laysRows.1 rfl (fun _ => Nat.le_of_ble_eq_true rfl) ?_
  show TL_X6_laysRows T 0 _ _ _
  rw [F_X6_laysRows]
  refine tl_iconst (pc := 0) (v := 0) dX6_laysRows_0 (by decide) ?_
  refine tl_istore_n (pc := 1) (i := 3) (lo' := [some (.ref 168), some (.ref a0), some (.int p1), some (.int (0 : Int32)), none, none, none, none, none]) dX6_laysRows_1 rfl (by decide) rfl ?_
  refine tl_sub (lp_X6_laysRows_2 T a0 na0 p1 hb ha0  _ (fun _ => ?_) FU _) (sub_s (sub_s (sub_s (sub_s (sub_n (sub_n (sub_n (sub_n (sub_n sub_e)))))))))
  refine tl_iconst (pc := 24) (v := 0) dX6_laysRows_24 (by decide) ?_
  refine tl_istore_n (pc := 25) (i := 3) (lo' := [some (.ref 168), some (.ref a0), some (.int p1), some (.int (0 : Int32)), none, none, none, none, none]) dX6_laysRows_25 rfl (by decide) rfl ?_
  refine tl_sub (lp_X6_laysRows_26 T a0 na0 p1 hb ha0    FU _) (sub_s (sub_s (sub_s (sub_s (sub_n (sub_n (sub_n (sub_n (sub_n sub_e)))))))))
abbrev TL_X6_laysTable (T : Tb) (pc : Nat) (lo : List (Option Value)) (st : List Value) (X : Dm Unit) : Prop := TL yX6_laysTable cX6_laysTable 5 none 5 vI T pc lo st X
set_option maxRecDepth 100000 in
theorem lp_X6_laysTable_9 (T : Tb) (a0 na0 : Nat) (p1 : Int32)  (hb : isMod T) (ha0 : T[a0]? = some (0, na0, []))  (k1 : Unit → Dm Unit) (hk1 : ∀ (_ : Unit), TL_X6_laysTable T 58 [some (.ref 168), some (.ref a0), some (.int p1), none, none] [] (k1 ())) : ∀ (n : Nat) (x1 : Int32), TL_X6_laysTable T 9 [some (.ref 168), some (.ref a0), some (.int p1), some (.int x1), none] [] (L_X6_laysTable_9 a0 na0 p1 n x1 k1) := by
  intro n
  induction n with
  | zero => intros; exact tl_fail
  | succ n ih =>
    intro x1
    rw [L_X6_laysTable_9]
    refine tl_iload_n (pc := 9) (i := 3) dX6_laysTable_9 rfl rfl ?_
    refine tl_bipush (pc := 10) (v := 25) dX6_laysTable_10 (by decide) ?_
    refine tl_icmp_ge (pc := 12) (tgt := 58) dX6_laysTable_12 rfl ?_ ?_
    · exact tl_sub (hk1 ()) (sub_s (sub_s (sub_s (sub_n (sub_n sub_e)))))
    · refine tl_bipush (pc := 15) (v := 25) dX6_laysTable_15 (by decide) ?_
      refine tl_iload_n (pc := 17) (i := 2) dX6_laysTable_17 rfl rfl ?_
      refine tl_imul (pc := 18) dX6_laysTable_18 ?_
      refine tl_iload_n (pc := 19) (i := 3) dX6_laysTable_19 rfl rfl ?_
      refine tl_iadd (pc := 20) dX6_laysTable_20 ?_
      refine tl_bI (fun x2 => ?_)
      refine tl_istore (pc := 21) (i := 4) (lo' := [some (.ref 168), some (.ref a0), some (.int p1), some (.int x1), some (.int x2)]) dX6_laysTable_21 (by decide) rfl ?_
      refine tl_aload_n (pc := 23) (i := 0) dX6_laysTable_23 rfl rfl ?_
      refine tl_getR (pc := 24) (r := 174) fl_X6_25 hb.1 rfl dX6_laysTable_24 ?_
      refine tl_iload_n (pc := 27) (i := 2) dX6_laysTable_27 rfl rfl ?_
      refine tl_dup2 (pc := 28) dX6_laysTable_28 rfl rfl ?_
      refine tl_iald (pc := 29) hb.2.2.2.2.2.2.1 dX6_laysTable_29 (fun x3 => ?_)
      refine tl_aload_n (pc := 30) (i := 1) dX6_laysTable_30 rfl rfl ?_
      refine tl_iload (pc := 31) (i := 4) dX6_laysTable_31 rfl ?_
      refine tl_callSi (pc := 33) k_X6_isCell gw_940 (c_X6_isCell T _ _ _ ha0) rfl rfl (Nat.le_of_ble_eq_true rfl) (Nat.le_of_ble_eq_true rfl) dX6_laysTable_33 (fun x4 => ?_)
      refine tl_j (fun (k : Int32 → Dm Unit) => ∀ (x5 : Int32), TL_X6_laysTable T 50 [some (.ref 168), some (.ref a0), some (.int p1), some (.int x1), none] [.int x5, .int x3, .int p1, .ref 174] (k x5)) (fun x5 => ?_) (fun k2 hk2 => ?_)
      · refine tl_iadd (pc := 50) dX6_laysTable_50 ?_
        refine tl_iast (pc := 51) hb.2.2.2.2.2.2.1 dX6_laysTable_51 ?_
        refine tl_iinc (pc := 52) (i := 3) (v := x1 + (1 : Int32)) (lo' := [some (.ref 168), some (.ref a0), some (.int p1), some (.int (x1 + (1 : Int32))), none]) dX6_laysTable_52 rfl rfl (by decide) rfl ?_
        refine tl_goto (pc := 55) (tgt := 9) dX6_laysTable_55 rfl ?_
        exact tl_sub (ih _) (sub_s (sub_s (sub_s (sub_s (sub_n sub_e)))))
      · refine tl_if_eq (pc := 36) (tgt := 49) dX6_laysTable_36 rfl ?_ ?_
        · refine tl_iconst (pc := 49) (v := 0) dX6_laysTable_49 (by decide) ?_
          exact tl_sub (hk2 _) (sub_s (sub_s (sub_s (sub_s (sub_n sub_e)))))
        · refine tl_aload_n (pc := 39) (i := 0) dX6_laysTable_39 rfl rfl ?_
          refine tl_aload_n (pc := 40) (i := 1) dX6_laysTable_40 rfl rfl ?_
          refine tl_iload (pc := 41) (i := 4) dX6_laysTable_41 rfl ?_
          refine tl_callVi (pc := 43) k_X6_valueOf gw_1036 hb.1 ⟨_, _, rfl⟩ (c_X6_valueOf T _ _ _ hb ha0) rfl rfl (Nat.le_of_ble_eq_true rfl) (Nat.le_of_ble_eq_true rfl) dX6_laysTable_43 (fun x6 => ?_)
          refine tl_goto (pc := 46) (tgt := 50) dX6_laysTable_46 rfl ?_
          exact tl_sub (hk2 _) (sub_s (sub_s (sub_s (sub_s (sub_n sub_e)))))
set_option maxRecDepth 100000 in
theorem lp_X6_laysTable_60 (T : Tb) (a0 na0 : Nat) (p1 : Int32)  (hb : isMod T) (ha0 : T[a0]? = some (0, na0, []))  (k3 : Unit → Dm Unit) (hk3 : ∀ (_ : Unit), TL_X6_laysTable T 126 [some (.ref 168), some (.ref a0), some (.int p1), none, none] [] (k3 ())) : ∀ (n : Nat) (x7 : Int32), TL_X6_laysTable T 60 [some (.ref 168), some (.ref a0), some (.int p1), some (.int x7), none] [] (L_X6_laysTable_60 a0 na0 p1 n x7 k3) := by
  intro n
  induction n with
  | zero => intros; exact tl_fail
  | succ n ih =>
    intro x7
    rw [L_X6_laysTable_60]
    refine tl_iload_n (pc := 60) (i := 3) dX6_laysTable_60 rfl rfl ?_
    refine tl_bipush (pc := 61) (v := 25) dX6_laysTable_61 (by decide) ?_
    refine tl_icmp_ge (pc := 63) (tgt := 126) dX6_laysTable_63 rfl ?_ ?_
    · exact tl_sub (hk3 ()) (sub_s (sub_s (sub_s (sub_n (sub_n sub_e)))))
    · refine tl_bipush (pc := 66) (v := 25) dX6_laysTable_66 (by decide) ?_
      refine tl_iload_n (pc := 68) (i := 2) dX6_laysTable_68 rfl rfl ?_
      refine tl_imul (pc := 69) dX6_laysTable_69 ?_
      refine tl_iload_n (pc := 70) (i := 3) dX6_laysTable_70 rfl rfl ?_
      refine tl_iadd (pc := 71) dX6_laysTable_71 ?_
      refine tl_bI (fun x8 => ?_)
      refine tl_istore (pc := 72) (i := 4) (lo' := [some (.ref 168), some (.ref a0), some (.int p1), some (.int x7), some (.int x8)]) dX6_laysTable_72 (by decide) rfl ?_
      refine tl_aload_n (pc := 74) (i := 0) dX6_laysTable_74 rfl rfl ?_
      refine tl_getR (pc := 75) (r := 179) fl_X6_40 hb.1 rfl dX6_laysTable_75 ?_
      refine tl_iload (pc := 78) (i := 4) dX6_laysTable_78 rfl ?_
      refine tl_aload_n (pc := 80) (i := 1) dX6_laysTable_80 rfl rfl ?_
      refine tl_iload (pc := 81) (i := 4) dX6_laysTable_81 rfl ?_
      refine tl_callSi (pc := 83) k_X6_isCell gw_940 (c_X6_isCell T _ _ _ ha0) rfl rfl (Nat.le_of_ble_eq_true rfl) (Nat.le_of_ble_eq_true rfl) dX6_laysTable_83 (fun x9 => ?_)
      refine tl_j (fun (k : Int32 → Dm Unit) => ∀ (x10 : Int32), TL_X6_laysTable T 119 [some (.ref 168), some (.ref a0), some (.int p1), some (.int x7), none] [.int x10, .int x8, .ref 179] (k x10)) (fun x10 => ?_) (fun k4 hk4 => ?_)
      · refine tl_iast (pc := 119) hb.2.2.2.2.2.2.2.2.2.2.2.1 dX6_laysTable_119 ?_
        refine tl_iinc (pc := 120) (i := 3) (v := x7 + (1 : Int32)) (lo' := [some (.ref 168), some (.ref a0), some (.int p1), some (.int (x7 + (1 : Int32))), none]) dX6_laysTable_120 rfl rfl (by decide) rfl ?_
        refine tl_goto (pc := 123) (tgt := 60) dX6_laysTable_123 rfl ?_
        exact tl_sub (ih _) (sub_s (sub_s (sub_s (sub_s (sub_n sub_e)))))
      · refine tl_if_ne (pc := 86) (tgt := 93) dX6_laysTable_86 rfl ?_ ?_
        · refine tl_iconst (pc := 89) (v := 0) dX6_laysTable_89 (by decide) ?_
          refine tl_goto (pc := 90) (tgt := 119) dX6_laysTable_90 rfl ?_
          exact tl_sub (hk4 _) (sub_s (sub_s (sub_s (sub_s (sub_n sub_e)))))
        · refine tl_aload_n (pc := 93) (i := 1) dX6_laysTable_93 rfl rfl ?_
          refine tl_iload (pc := 94) (i := 4) dX6_laysTable_94 rfl ?_
          refine tl_callSi (pc := 96) k_X6_isSum gw_1040 (c_X6_isSum T _ _ _ ha0) rfl rfl (Nat.le_of_ble_eq_true rfl) (Nat.le_of_ble_eq_true rfl) dX6_laysTable_96 (fun x11 => ?_)
          refine tl_if_eq (pc := 99) (tgt := 112) dX6_laysTable_99 rfl ?_ ?_
          · refine tl_aload_n (pc := 112) (i := 0) dX6_laysTable_112 rfl rfl ?_
            refine tl_aload_n (pc := 113) (i := 1) dX6_laysTable_113 rfl rfl ?_
            refine tl_iload (pc := 114) (i := 4) dX6_laysTable_114 rfl ?_
            refine tl_callVi (pc := 116) k_X6_valueOf gw_1036 hb.1 ⟨_, _, rfl⟩ (c_X6_valueOf T _ _ _ hb ha0) rfl rfl (Nat.le_of_ble_eq_true rfl) (Nat.le_of_ble_eq_true rfl) dX6_laysTable_116 (fun x12 => ?_)
            exact tl_sub (hk4 _) (sub_s (sub_s (sub_s (sub_s (sub_n sub_e)))))
          · refine tl_aload_n (pc := 102) (i := 0) dX6_laysTable_102 rfl rfl ?_
            refine tl_aload_n (pc := 103) (i := 1) dX6_laysTable_103 rfl rfl ?_
            refine tl_iload (pc := 104) (i := 4) dX6_laysTable_104 rfl ?_
            refine tl_callVi (pc := 106) k_X6_summed gw_1043 hb.1 ⟨_, _, rfl⟩ (c_X6_summed T _ _ _ hb ha0) rfl rfl (Nat.le_of_ble_eq_true rfl) (Nat.le_of_ble_eq_true rfl) dX6_laysTable_106 (fun x13 => ?_)
            refine tl_goto (pc := 109) (tgt := 119) dX6_laysTable_109 rfl ?_
            exact tl_sub (hk4 _) (sub_s (sub_s (sub_s (sub_s (sub_n sub_e)))))
set_option maxRecDepth 100000 in
theorem lp_X6_laysTable_196 (T : Tb) (a0 na0 : Nat) (p1 : Int32)  (hb : isMod T) (ha0 : T[a0]? = some (0, na0, []))    : ∀ (n : Nat) (x18 : Int32), TL_X6_laysTable T 196 [some (.ref 168), none, some (.int p1), some (.int x18), none] [] (L_X6_laysTable_196 p1 n x18 ) := by
  intro n
  induction n with
  | zero => intros; exact tl_fail
  | succ n ih =>
    intro x18
    rw [L_X6_laysTable_196]
    refine tl_iload_n (pc := 196) (i := 3) dX6_laysTable_196 rfl rfl ?_
    refine tl_iconst (pc := 197) (v := 5) dX6_laysTable_197 (by decide) ?_
    refine tl_icmp_ge (pc := 198) (tgt := 245) dX6_laysTable_198 rfl ?_ ?_
    · exact tl_vret (pc := 245) dX6_laysTable_245
    · refine tl_aload_n (pc := 201) (i := 0) dX6_laysTable_201 rfl rfl ?_
      refine tl_getR (pc := 202) (r := 175) fl_X6_28 hb.1 rfl dX6_laysTable_202 ?_
      refine tl_iload_n (pc := 205) (i := 2) dX6_laysTable_205 rfl rfl ?_
      refine tl_dup2 (pc := 206) dX6_laysTable_206 rfl rfl ?_
      refine tl_iald (pc := 207) hb.2.2.2.2.2.2.2.1 dX6_laysTable_207 (fun x19 => ?_)
      refine tl_aload_n (pc := 208) (i := 0) dX6_laysTable_208 rfl rfl ?_
      refine tl_getR (pc := 209) (r := 182) fl_X6_49 hb.1 rfl dX6_laysTable_209 ?_
      refine tl_iconst (pc := 212) (v := 5) dX6_laysTable_212 (by decide) ?_
      refine tl_iload_n (pc := 213) (i := 2) dX6_laysTable_213 rfl rfl ?_
      refine tl_imul (pc := 214) dX6_laysTable_214 ?_
      refine tl_iload_n (pc := 215) (i := 3) dX6_laysTable_215 rfl rfl ?_
      refine tl_iadd (pc := 216) dX6_laysTable_216 ?_
      refine tl_iald (pc := 217) hb.2.2.2.2.2.2.2.2.2.2.2.2.2.2.1 dX6_laysTable_217 (fun x20 => ?_)
      refine tl_iadd (pc := 218) dX6_laysTable_218 ?_
      refine tl_iast (pc := 219) hb.2.2.2.2.2.2.2.1 dX6_laysTable_219 ?_
      refine tl_aload_n (pc := 220) (i := 0) dX6_laysTable_220 rfl rfl ?_
      refine tl_getR (pc := 221) (r := 176) fl_X6_31 hb.1 rfl dX6_laysTable_221 ?_
      refine tl_iload_n (pc := 224) (i := 2) dX6_laysTable_224 rfl rfl ?_
      refine tl_dup2 (pc := 225) dX6_laysTable_225 rfl rfl ?_
      refine tl_iald (pc := 226) hb.2.2.2.2.2.2.2.2.1 dX6_laysTable_226 (fun x21 => ?_)
      refine tl_aload_n (pc := 227) (i := 0) dX6_laysTable_227 rfl rfl ?_
      refine tl_getR (pc := 228) (r := 183) fl_X6_52 hb.1 rfl dX6_laysTable_228 ?_
      refine tl_iconst (pc := 231) (v := 5) dX6_laysTable_231 (by decide) ?_
      refine tl_iload_n (pc := 232) (i := 2) dX6_laysTable_232 rfl rfl ?_
      refine tl_imul (pc := 233) dX6_laysTable_233 ?_
      refine tl_iload_n (pc := 234) (i := 3) dX6_laysTable_234 rfl rfl ?_
      refine tl_iadd (pc := 235) dX6_laysTable_235 ?_
      refine tl_iald (pc := 236) hb.2.2.2.2.2.2.2.2.2.2.2.2.2.2.2.1 dX6_laysTable_236 (fun x22 => ?_)
      refine tl_iadd (pc := 237) dX6_laysTable_237 ?_
      refine tl_iast (pc := 238) hb.2.2.2.2.2.2.2.2.1 dX6_laysTable_238 ?_
      refine tl_iinc (pc := 239) (i := 3) (v := x18 + (1 : Int32)) (lo' := [some (.ref 168), none, some (.int p1), some (.int (x18 + (1 : Int32))), none]) dX6_laysTable_239 rfl rfl (by decide) rfl ?_
      refine tl_goto (pc := 242) (tgt := 196) dX6_laysTable_242 rfl ?_
      exact tl_sub (ih _) (sub_s (sub_n (sub_s (sub_s (sub_n sub_e)))))
set_option maxRecDepth 100000 in
theorem c_X6_laysTable (T : Tb) (a0 na0 : Nat) (p1 : Int32) (hb : isMod T) (ha0 : T[a0]? = some (0, na0, [])) : CT (.code yX6_laysTable cX6_laysTable 5 none) yX6_laysTable 5 vI T [.ref 168, .ref a0, .int p1] (F_X6_laysTable a0 na0 p1) := by
  refine ct_of (lo := [some (.ref 168), some (.ref a0), some (.int p1), none, none]) (j := 2) k_X6_laysTable.1 rfl (fun _ => Nat.le_of_ble_eq_true rfl) ?_
  show TL_X6_laysTable T 0 _ _ _
  rw [F_X6_laysTable]
  refine tl_aload_n (pc := 0) (i := 0) dX6_laysTable_0 rfl rfl ?_
  refine tl_getR (pc := 1) (r := 174) fl_X6_25 hb.1 rfl dX6_laysTable_1 ?_
  refine tl_iload_n (pc := 4) (i := 2) dX6_laysTable_4 rfl rfl ?_
  refine tl_iconst (pc := 5) (v := 0) dX6_laysTable_5 (by decide) ?_
  refine tl_iast (pc := 6) hb.2.2.2.2.2.2.1 dX6_laysTable_6 ?_
  refine tl_iconst (pc := 7) (v := 0) dX6_laysTable_7 (by decide) ?_
  refine tl_istore_n (pc := 8) (i := 3) (lo' := [some (.ref 168), some (.ref a0), some (.int p1), some (.int (0 : Int32)), none]) dX6_laysTable_8 rfl (by decide) rfl ?_
  refine tl_sub (lp_X6_laysTable_9 T a0 na0 p1 hb ha0  _ (fun _ => ?_) FU _) (sub_s (sub_s (sub_s (sub_s (sub_n sub_e)))))
  refine tl_iconst (pc := 58) (v := 0) dX6_laysTable_58 (by decide) ?_
  refine tl_istore_n (pc := 59) (i := 3) (lo' := [some (.ref 168), some (.ref a0), some (.int p1), some (.int (0 : Int32)), none]) dX6_laysTable_59 rfl (by decide) rfl ?_
  refine tl_sub (lp_X6_laysTable_60 T a0 na0 p1 hb ha0  _ (fun _ => ?_) FU _) (sub_s (sub_s (sub_s (sub_s (sub_n sub_e)))))
  refine tl_aload_n (pc := 126) (i := 0) dX6_laysTable_126 rfl rfl ?_
  refine tl_aload_n (pc := 127) (i := 1) dX6_laysTable_127 rfl rfl ?_
  refine tl_iload_n (pc := 128) (i := 2) dX6_laysTable_128 rfl rfl ?_
  refine tl_callVv (pc := 129) k_X6_laysRules gw_1062 hb.1 ⟨_, _, rfl⟩ (c_X6_laysRules T _ _ _ hb ha0) rfl rfl (Nat.le_of_ble_eq_true rfl) (Nat.le_of_ble_eq_true rfl) dX6_laysTable_129 (fun _ => ?_)
  refine tl_aload_n (pc := 132) (i := 0) dX6_laysTable_132 rfl rfl ?_
  refine tl_getR (pc := 133) (r := 177) fl_X6_34 hb.1 rfl dX6_laysTable_133 ?_
  refine tl_iload_n (pc := 136) (i := 2) dX6_laysTable_136 rfl rfl ?_
  refine tl_aload_n (pc := 137) (i := 0) dX6_laysTable_137 rfl rfl ?_
  refine tl_aload_n (pc := 138) (i := 1) dX6_laysTable_138 rfl rfl ?_
  refine tl_iload_n (pc := 139) (i := 2) dX6_laysTable_139 rfl rfl ?_
  refine tl_iconst (pc := 140) (v := 1) dX6_laysTable_140 (by decide) ?_
  refine tl_callVi (pc := 141) k_X6_lines gw_1077 hb.1 ⟨_, _, rfl⟩ (c_X6_lines T _ _ _ _ hb ha0) rfl rfl (Nat.le_of_ble_eq_true rfl) (Nat.le_of_ble_eq_true rfl) dX6_laysTable_141 (fun x14 => ?_)
  refine tl_iast (pc := 144) hb.2.2.2.2.2.2.2.2.2.1 dX6_laysTable_144 ?_
  refine tl_aload_n (pc := 145) (i := 0) dX6_laysTable_145 rfl rfl ?_
  refine tl_getR (pc := 146) (r := 178) fl_X6_37 hb.1 rfl dX6_laysTable_146 ?_
  refine tl_iload_n (pc := 149) (i := 2) dX6_laysTable_149 rfl rfl ?_
  refine tl_aload_n (pc := 150) (i := 0) dX6_laysTable_150 rfl rfl ?_
  refine tl_aload_n (pc := 151) (i := 1) dX6_laysTable_151 rfl rfl ?_
  refine tl_iload_n (pc := 152) (i := 2) dX6_laysTable_152 rfl rfl ?_
  refine tl_iconst (pc := 153) (v := 0) dX6_laysTable_153 (by decide) ?_
  refine tl_callVi (pc := 154) k_X6_lines gw_1077 hb.1 ⟨_, _, rfl⟩ (c_X6_lines T _ _ _ _ hb ha0) rfl rfl (Nat.le_of_ble_eq_true rfl) (Nat.le_of_ble_eq_true rfl) dX6_laysTable_154 (fun x15 => ?_)
  refine tl_iast (pc := 157) hb.2.2.2.2.2.2.2.2.2.2.1 dX6_laysTable_157 ?_
  refine tl_aload_n (pc := 158) (i := 0) dX6_laysTable_158 rfl rfl ?_
  refine tl_aload_n (pc := 159) (i := 1) dX6_laysTable_159 rfl rfl ?_
  refine tl_iload_n (pc := 160) (i := 2) dX6_laysTable_160 rfl rfl ?_
  refine tl_callVv (pc := 161) k_X6_laysColumns gw_1081 hb.1 ⟨_, _, rfl⟩ (c_X6_laysColumns T _ _ _ hb ha0) rfl rfl (Nat.le_of_ble_eq_true rfl) (Nat.le_of_ble_eq_true rfl) dX6_laysTable_161 (fun _ => ?_)
  refine tl_aload_n (pc := 164) (i := 0) dX6_laysTable_164 rfl rfl ?_
  refine tl_aload_n (pc := 165) (i := 1) dX6_laysTable_165 rfl rfl ?_
  refine tl_iload_n (pc := 166) (i := 2) dX6_laysTable_166 rfl rfl ?_
  refine tl_callVv (pc := 167) k_X6_laysRows gw_1092 hb.1 ⟨_, _, rfl⟩ (c_X6_laysRows T _ _ _ hb ha0) rfl rfl (Nat.le_of_ble_eq_true rfl) (Nat.le_of_ble_eq_true rfl) dX6_laysTable_167 (fun _ => ?_)
  refine tl_aload_n (pc := 170) (i := 0) dX6_laysTable_170 rfl rfl ?_
  refine tl_getR (pc := 171) (r := 175) fl_X6_28 hb.1 rfl dX6_laysTable_171 ?_
  refine tl_iload_n (pc := 174) (i := 2) dX6_laysTable_174 rfl rfl ?_
  refine tl_aload_n (pc := 175) (i := 0) dX6_laysTable_175 rfl rfl ?_
  refine tl_getR (pc := 176) (r := 177) fl_X6_34 hb.1 rfl dX6_laysTable_176 ?_
  refine tl_iload_n (pc := 179) (i := 2) dX6_laysTable_179 rfl rfl ?_
  refine tl_iald (pc := 180) hb.2.2.2.2.2.2.2.2.2.1 dX6_laysTable_180 (fun x16 => ?_)
  refine tl_iast (pc := 181) hb.2.2.2.2.2.2.2.1 dX6_laysTable_181 ?_
  refine tl_aload_n (pc := 182) (i := 0) dX6_laysTable_182 rfl rfl ?_
  refine tl_getR (pc := 183) (r := 176) fl_X6_31 hb.1 rfl dX6_laysTable_183 ?_
  refine tl_iload_n (pc := 186) (i := 2) dX6_laysTable_186 rfl rfl ?_
  refine tl_aload_n (pc := 187) (i := 0) dX6_laysTable_187 rfl rfl ?_
  refine tl_getR (pc := 188) (r := 178) fl_X6_37 hb.1 rfl dX6_laysTable_188 ?_
  refine tl_iload_n (pc := 191) (i := 2) dX6_laysTable_191 rfl rfl ?_
  refine tl_iald (pc := 192) hb.2.2.2.2.2.2.2.2.2.2.1 dX6_laysTable_192 (fun x17 => ?_)
  refine tl_iast (pc := 193) hb.2.2.2.2.2.2.2.2.1 dX6_laysTable_193 ?_
  refine tl_iconst (pc := 194) (v := 0) dX6_laysTable_194 (by decide) ?_
  refine tl_istore_n (pc := 195) (i := 3) (lo' := [some (.ref 168), some (.ref a0), some (.int p1), some (.int (0 : Int32)), none]) dX6_laysTable_195 rfl (by decide) rfl ?_
  refine tl_sub (lp_X6_laysTable_196 T a0 na0 p1 hb ha0    FU _) (sub_s (sub_n (sub_s (sub_s (sub_n sub_e)))))
abbrev TL_X6_lays (T : Tb) (pc : Nat) (lo : List (Option Value)) (st : List Value) (X : Dm Unit) : Prop := TL yX6_lays cX6_lays 3 none 6 vI T pc lo st X
set_option maxRecDepth 100000 in
theorem lp_X6_lays_6 (T : Tb) (a0 na0 : Nat)  (hb : isMod T) (ha0 : T[a0]? = some (0, na0, []))    : ∀ (n : Nat) (x3 : Int32), TL_X6_lays T 6 [some (.ref 168), some (.ref a0), some (.int x3)] [] (L_X6_lays_6 a0 na0 n x3 ) := by
  intro n
  induction n with
  | zero => intros; exact tl_fail
  | succ n ih =>
    intro x3
    rw [L_X6_lays_6]
    refine tl_iload_n (pc := 6) (i := 2) dX6_lays_6 rfl rfl ?_
    refine tl_if_lt (pc := 7) (tgt := 22) dX6_lays_7 rfl ?_ ?_
    · exact tl_vret (pc := 22) dX6_lays_22
    · refine tl_aload_n (pc := 10) (i := 0) dX6_lays_10 rfl rfl ?_
      refine tl_aload_n (pc := 11) (i := 1) dX6_lays_11 rfl rfl ?_
      refine tl_iload_n (pc := 12) (i := 2) dX6_lays_12 rfl rfl ?_
      refine tl_callVv (pc := 13) k_X6_laysTable gw_1032 hb.1 ⟨_, _, rfl⟩ (c_X6_laysTable T _ _ _ hb ha0) rfl rfl (Nat.le_of_ble_eq_true rfl) (Nat.le_of_ble_eq_true rfl) dX6_lays_13 (fun _ => ?_)
      refine tl_iinc (pc := 16) (i := 2) (v := x3 + (-1 : Int32)) (lo' := [some (.ref 168), some (.ref a0), some (.int (x3 + (-1 : Int32)))]) dX6_lays_16 rfl rfl (by decide) rfl ?_
      refine tl_goto (pc := 19) (tgt := 6) dX6_lays_19 rfl ?_
      exact tl_sub (ih _) (sub_s (sub_s (sub_s sub_e)))
set_option maxRecDepth 100000 in
theorem c_X6_lays (T : Tb) (a0 na0 : Nat) (hb : isMod T) (ha0 : T[a0]? = some (0, na0, [])) : CT (.code yX6_lays cX6_lays 3 none) yX6_lays 6 vI T [.ref 168, .ref a0] (F_X6_lays a0 na0) := by
  refine ct_of (lo := [some (.ref 168), some (.ref a0), none]) (j := 1) k_X6_lays.1 rfl (fun _ => Nat.le_of_ble_eq_true rfl) ?_
  show TL_X6_lays T 0 _ _ _
  rw [F_X6_lays]
  refine tl_aload_n (pc := 0) (i := 1) dX6_lays_0 rfl rfl ?_
  refine tl_iconst (pc := 1) (v := 0) dX6_lays_1 (by decide) ?_
  refine tl_iald (pc := 2) ha0 dX6_lays_2 (fun x1 => ?_)
  refine tl_iconst (pc := 3) (v := 1) dX6_lays_3 (by decide) ?_
  refine tl_isub (pc := 4) dX6_lays_4 ?_
  refine tl_bI (fun x2 => ?_)
  refine tl_istore_n (pc := 5) (i := 2) (lo' := [some (.ref 168), some (.ref a0), some (.int x2)]) dX6_lays_5 rfl (by decide) rfl ?_
  refine tl_sub (lp_X6_lays_6 T a0 na0 hb ha0    FU _) (sub_s (sub_s (sub_s sub_e)))
abbrev TL_X6_laysNow (T : Tb) (pc : Nat) (lo : List (Option Value)) (st : List Value) (X : Dm Unit) : Prop := TL yX6_laysNow cX6_laysNow 1 none 7 vI T pc lo st X
set_option maxRecDepth 100000 in
theorem c_X6_laysNow (T : Tb)  (hb : isMod T) : CT (.code yX6_laysNow cX6_laysNow 1 none) yX6_laysNow 7 vI T [.ref 168] (F_X6_laysNow) := by
  refine ct_of (lo := [some (.ref 168)]) (j := 0) k_X6_laysNow.1 rfl (fun _ => Nat.le_of_ble_eq_true rfl) ?_
  show TL_X6_laysNow T 0 _ _ _
  rw [F_X6_laysNow]
  refine tl_aload_n (pc := 0) (i := 0) dX6_laysNow_0 rfl rfl ?_
  refine tl_getI (pc := 1) fl_X6_77 hb.1 rfl dX6_laysNow_1 (fun x1 => ?_)
  refine tl_if_ne (pc := 4) (tgt := 20) dX6_laysNow_4 rfl ?_ ?_
  · refine tl_aload_n (pc := 7) (i := 0) dX6_laysNow_7 rfl rfl ?_
    refine tl_aload_n (pc := 8) (i := 0) dX6_laysNow_8 rfl rfl ?_
    refine tl_getR (pc := 9) (r := 169) fl_X6_7 hb.1 rfl dX6_laysNow_9 ?_
    refine tl_callVv (pc := 12) k_X6_lays gw_1028 hb.1 ⟨_, _, rfl⟩ (c_X6_lays T _ _ hb hb.2.1) rfl rfl (Nat.le_of_ble_eq_true rfl) (Nat.le_of_ble_eq_true rfl) dX6_laysNow_12 (fun _ => ?_)
    refine tl_aload_n (pc := 15) (i := 0) dX6_laysNow_15 rfl rfl ?_
    refine tl_iconst (pc := 16) (v := 1) dX6_laysNow_16 (by decide) ?_
    refine tl_putZ (pc := 17) fw_X6_77 hb.1 rfl dX6_laysNow_17 ?_
    exact tl_vret (pc := 20) dX6_laysNow_20
  · exact tl_vret (pc := 20) dX6_laysNow_20
abbrev TL_X6_isParted (T : Tb) (pc : Nat) (lo : List (Option Value)) (st : List Value) (X : Dm Int32) : Prop := TL yX6_isParted cX6_isParted 4 (some .boolean) 0 iI T pc lo st X
set_option maxRecDepth 100000 in
theorem lp_X6_isParted_4 (T : Tb) (a0 na0 : Nat) (p1 : Int32)  (ha0 : T[a0]? = some (0, na0, []))    : ∀ (n : Nat) (x1 : Int32) (x2 : Int32), TL_X6_isParted T 4 [some (.ref a0), some (.int p1), some (.int x1), some (.int x2)] [] (L_X6_isParted_4 a0 na0 p1 n x1 x2 ) := by
  intro n
  induction n with
  | zero => intros; exact tl_fail
  | succ n ih =>
    intro x1 x2
    rw [L_X6_isParted_4]
    refine tl_iload_n (pc := 4) (i := 3) dX6_isParted_4 rfl rfl ?_
    refine tl_aload_n (pc := 5) (i := 0) dX6_isParted_5 rfl rfl ?_
    refine tl_bipush (pc := 6) (v := 7) dX6_isParted_6 (by decide) ?_
    refine tl_iald (pc := 8) ha0 dX6_isParted_8 (fun x3 => ?_)
    refine tl_icmp_ge (pc := 9) (tgt := 55) dX6_isParted_9 rfl ?_ ?_
    · refine tl_iload_n (pc := 55) (i := 2) dX6_isParted_55 rfl rfl ?_
      exact tl_zret (pc := 56) dX6_isParted_56
    · refine tl_iload_n (pc := 12) (i := 2) dX6_isParted_12 rfl rfl ?_
      refine tl_j (fun (k : Int32 → Dm Int32) => ∀ (x4 : Int32), TL_X6_isParted T 48 [some (.ref a0), some (.int p1), none, some (.int x2)] [.int x4] (k x4)) (fun x4 => ?_) (fun k1 hk1 => ?_)
      · refine tl_istore_n (pc := 48) (i := 2) (lo' := [some (.ref a0), some (.int p1), some (.int x4), some (.int x2)]) dX6_isParted_48 rfl (by decide) rfl ?_
        refine tl_iinc (pc := 49) (i := 3) (v := x2 + (1 : Int32)) (lo' := [some (.ref a0), some (.int p1), some (.int x4), some (.int (x2 + (1 : Int32)))]) dX6_isParted_49 rfl rfl (by decide) rfl ?_
        refine tl_goto (pc := 52) (tgt := 4) dX6_isParted_52 rfl ?_
        exact tl_sub (ih _ _) (sub_s (sub_s (sub_s (sub_s sub_e))))
      · refine tl_j (fun (k : Unit → Dm Int32) => ∀ (_ : Unit), TL_X6_isParted T 47 [some (.ref a0), some (.int p1), none, some (.int x2)] [] (k ())) (fun _ => ?_) (fun k2 hk2 => ?_)
        · refine tl_iconst (pc := 47) (v := 0) dX6_isParted_47 (by decide) ?_
          exact tl_sub (hk1 _) (sub_s (sub_s (sub_n (sub_s sub_e))))
        · refine tl_if_eq (pc := 13) (tgt := 47) dX6_isParted_13 rfl ?_ ?_
          · exact tl_sub (hk2 ()) (sub_s (sub_s (sub_n (sub_s sub_e))))
          · refine tl_aload_n (pc := 16) (i := 0) dX6_isParted_16 rfl rfl ?_
            refine tl_sipush (pc := 17) (v := 512) dX6_isParted_17 (by decide) ?_
            refine tl_iconst (pc := 20) (v := 5) dX6_isParted_20 (by decide) ?_
            refine tl_iload_n (pc := 21) (i := 1) dX6_isParted_21 rfl rfl ?_
            refine tl_imul (pc := 22) dX6_isParted_22 ?_
            refine tl_iadd (pc := 23) dX6_isParted_23 ?_
            refine tl_iload_n (pc := 24) (i := 3) dX6_isParted_24 rfl rfl ?_
            refine tl_iadd (pc := 25) dX6_isParted_25 ?_
            refine tl_iald (pc := 26) ha0 dX6_isParted_26 (fun x5 => ?_)
            refine tl_aload_n (pc := 27) (i := 0) dX6_isParted_27 rfl rfl ?_
            refine tl_sipush (pc := 28) (v := 512) dX6_isParted_28 (by decide) ?_
            refine tl_iconst (pc := 31) (v := 5) dX6_isParted_31 (by decide) ?_
            refine tl_iload_n (pc := 32) (i := 1) dX6_isParted_32 rfl rfl ?_
            refine tl_iconst (pc := 33) (v := 1) dX6_isParted_33 (by decide) ?_
            refine tl_iadd (pc := 34) dX6_isParted_34 ?_
            refine tl_imul (pc := 35) dX6_isParted_35 ?_
            refine tl_iadd (pc := 36) dX6_isParted_36 ?_
            refine tl_iload_n (pc := 37) (i := 3) dX6_isParted_37 rfl rfl ?_
            refine tl_iadd (pc := 38) dX6_isParted_38 ?_
            refine tl_iald (pc := 39) ha0 dX6_isParted_39 (fun x6 => ?_)
            refine tl_icmp_eq (pc := 40) (tgt := 47) dX6_isParted_40 rfl ?_ ?_
            · exact tl_sub (hk2 ()) (sub_s (sub_s (sub_n (sub_s sub_e))))
            · refine tl_iconst (pc := 43) (v := 1) dX6_isParted_43 (by decide) ?_
              refine tl_goto (pc := 44) (tgt := 48) dX6_isParted_44 rfl ?_
              exact tl_sub (hk1 _) (sub_s (sub_s (sub_n (sub_s sub_e))))
set_option maxRecDepth 100000 in
theorem c_X6_isParted (T : Tb) (a0 na0 : Nat) (p1 : Int32) (ha0 : T[a0]? = some (0, na0, [])) : CT (.code yX6_isParted cX6_isParted 4 (some .boolean)) yX6_isParted 0 iI T [.ref a0, .int p1] (F_X6_isParted a0 na0 p1) := by
  refine ct_of (lo := [some (.ref a0), some (.int p1), none, none]) (j := 2) k_X6_isParted.1 rfl (fun _ => Nat.le_of_ble_eq_true rfl) ?_
  show TL_X6_isParted T 0 _ _ _
  rw [F_X6_isParted]
  refine tl_iconst (pc := 0) (v := 1) dX6_isParted_0 (by decide) ?_
  refine tl_istore_n (pc := 1) (i := 2) (lo' := [some (.ref a0), some (.int p1), some (.int (1 : Int32)), none]) dX6_isParted_1 rfl (by decide) rfl ?_
  refine tl_iconst (pc := 2) (v := 0) dX6_isParted_2 (by decide) ?_
  refine tl_istore_n (pc := 3) (i := 3) (lo' := [some (.ref a0), some (.int p1), some (.int (1 : Int32)), some (.int (0 : Int32))]) dX6_isParted_3 rfl (by decide) rfl ?_
  refine tl_sub (lp_X6_isParted_4 T a0 na0 p1 ha0    FU _ _) (sub_s (sub_s (sub_s (sub_s sub_e))))
abbrev TL_X6_laysPages (T : Tb) (pc : Nat) (lo : List (Option Value)) (st : List Value) (X : Dm Int32) : Prop := TL yX6_laysPages cX6_laysPages 10 (some .int) 1 iI T pc lo st X
set_option maxRecDepth 100000 in
theorem lp_X6_laysPages_20 (T : Tb) (a0 na0 : Nat) (p1 : Int32) (x1 : Int32) (x2 : Int32) (x3 : Int32) (hb : isMod T) (ha0 : T[a0]? = some (0, na0, []))  (k1 : Int32 → Dm Int32) (hk1 : ∀ (y20_0 : Int32), TL_X6_laysPages T 45 [some (.ref 168), some (.ref a0), some (.int p1), some (.int x1), some (.int x2), some (.int x3), some (.int y20_0), none, none, none] [] (k1 y20_0)) : ∀ (n : Nat) (x5 : Int32), TL_X6_laysPages T 20 [some (.ref 168), some (.ref a0), some (.int p1), some (.int x1), some (.int x2), some (.int x3), some (.int x5), none, none, none] [] (L_X6_laysPages_20 a0 na0 n x5 k1) := by
  intro n
  induction n with
  | zero => intros; exact tl_fail
  | succ n ih =>
    intro x5
    rw [L_X6_laysPages_20]
    refine tl_iload (pc := 20) (i := 6) dX6_laysPages_20 rfl ?_
    refine tl_iconst (pc := 22) (v := 1) dX6_laysPages_22 (by decide) ?_
    refine tl_iadd (pc := 23) dX6_laysPages_23 ?_
    refine tl_aload_n (pc := 24) (i := 1) dX6_laysPages_24 rfl rfl ?_
    refine tl_iconst (pc := 25) (v := 2) dX6_laysPages_25 (by decide) ?_
    refine tl_iald (pc := 26) ha0 dX6_laysPages_26 (fun x6 => ?_)
    refine tl_icmp_ge (pc := 27) (tgt := 45) dX6_laysPages_27 rfl ?_ ?_
    · exact tl_sub (hk1 _) (sub_s (sub_s (sub_s (sub_s (sub_s (sub_s (sub_s (sub_n (sub_n (sub_n sub_e))))))))))
    · refine tl_aload_n (pc := 30) (i := 1) dX6_laysPages_30 rfl rfl ?_
      refine tl_iload (pc := 31) (i := 6) dX6_laysPages_31 rfl ?_
      refine tl_callSi (pc := 33) k_X6_isParted gw_1131 (c_X6_isParted T _ _ _ ha0) rfl rfl (Nat.le_of_ble_eq_true rfl) (Nat.le_of_ble_eq_true rfl) dX6_laysPages_33 (fun x7 => ?_)
      refine tl_if_ne (pc := 36) (tgt := 45) dX6_laysPages_36 rfl ?_ ?_
      · refine tl_iinc (pc := 39) (i := 6) (v := x5 + (1 : Int32)) (lo' := [some (.ref 168), some (.ref a0), some (.int p1), some (.int x1), some (.int x2), some (.int x3), some (.int (x5 + (1 : Int32))), none, none, none]) dX6_laysPages_39 rfl rfl (by decide) rfl ?_
        refine tl_goto (pc := 42) (tgt := 20) dX6_laysPages_42 rfl ?_
        exact tl_sub (ih _) (sub_s (sub_s (sub_s (sub_s (sub_s (sub_s (sub_s (sub_n (sub_n (sub_n sub_e))))))))))
      · exact tl_sub (hk1 _) (sub_s (sub_s (sub_s (sub_s (sub_s (sub_s (sub_s (sub_n (sub_n (sub_n sub_e))))))))))
set_option maxRecDepth 100000 in
theorem lp_X6_laysPages_52 (T : Tb) (a0 na0 : Nat) (p1 : Int32) (x8 : Int32) (x1 : Int32) (x2 : Int32) (x3 : Int32) (hb : isMod T) (ha0 : T[a0]? = some (0, na0, []))  (k2 : Int32 → Dm Int32) (hk2 : ∀ (y52_0 : Int32), TL_X6_laysPages T 77 [some (.ref 168), some (.ref a0), some (.int p1), some (.int x1), some (.int x2), some (.int x3), some (.int x8), some (.int y52_0), none, none] [] (k2 y52_0)) : ∀ (n : Nat) (x9 : Int32) (x10 : Int32), TL_X6_laysPages T 52 [some (.ref 168), some (.ref a0), some (.int p1), some (.int x1), some (.int x2), some (.int x3), some (.int x8), some (.int x9), some (.int x10), none] [] (L_X6_laysPages_52 x8 n x9 x10 k2) := by
  intro n
  induction n with
  | zero => intros; exact tl_fail
  | succ n ih =>
    intro x9 x10
    rw [L_X6_laysPages_52]
    refine tl_iload (pc := 52) (i := 8) dX6_laysPages_52 rfl ?_
    refine tl_iload (pc := 54) (i := 6) dX6_laysPages_54 rfl ?_
    refine tl_icmp_gt (pc := 56) (tgt := 77) dX6_laysPages_56 rfl ?_ ?_
    · exact tl_sub (hk2 _) (sub_s (sub_s (sub_s (sub_s (sub_s (sub_s (sub_s (sub_s (sub_n (sub_n sub_e))))))))))
    · refine tl_iload (pc := 59) (i := 7) dX6_laysPages_59 rfl ?_
      refine tl_aload_n (pc := 61) (i := 0) dX6_laysPages_61 rfl rfl ?_
      refine tl_getR (pc := 62) (r := 183) fl_X6_52 hb.1 rfl dX6_laysPages_62 ?_
      refine tl_iload (pc := 65) (i := 8) dX6_laysPages_65 rfl ?_
      refine tl_iald (pc := 67) hb.2.2.2.2.2.2.2.2.2.2.2.2.2.2.2.1 dX6_laysPages_67 (fun x11 => ?_)
      refine tl_iadd (pc := 68) dX6_laysPages_68 ?_
      refine tl_bI (fun x12 => ?_)
      refine tl_istore (pc := 69) (i := 7) (lo' := [some (.ref 168), some (.ref a0), some (.int p1), some (.int x1), some (.int x2), some (.int x3), some (.int x8), some (.int x12), some (.int x10), none]) dX6_laysPages_69 (by decide) rfl ?_
      refine tl_iinc (pc := 71) (i := 8) (v := x10 + (1 : Int32)) (lo' := [some (.ref 168), some (.ref a0), some (.int p1), some (.int x1), some (.int x2), some (.int x3), some (.int x8), some (.int x12), some (.int (x10 + (1 : Int32))), none]) dX6_laysPages_71 rfl rfl (by decide) rfl ?_
      refine tl_goto (pc := 74) (tgt := 52) dX6_laysPages_74 rfl ?_
      exact tl_sub (ih _ _) (sub_s (sub_s (sub_s (sub_s (sub_s (sub_s (sub_s (sub_s (sub_s (sub_n sub_e))))))))))
set_option maxRecDepth 100000 in
theorem lp_X6_laysPages_132 (T : Tb) (a0 na0 : Nat) (p1 : Int32) (x8 : Int32) (x16 : Int32) (x17 : Int32) (hb : isMod T) (ha0 : T[a0]? = some (0, na0, []))  (k6 : Unit → Dm Int32) (hk6 : ∀ (_ : Unit), TL_X6_laysPages T 153 [some (.ref 168), some (.ref a0), some (.int p1), some (.int x16), some (.int x17), none, some (.int x8), none, none, none] [] (k6 ())) : ∀ (n : Nat) (x18 : Int32), TL_X6_laysPages T 132 [some (.ref 168), some (.ref a0), some (.int p1), some (.int x16), some (.int x17), none, some (.int x8), none, none, some (.int x18)] [] (L_X6_laysPages_132 x8 x16 n x18 k6) := by
  intro n
  induction n with
  | zero => intros; exact tl_fail
  | succ n ih =>
    intro x18
    rw [L_X6_laysPages_132]
    refine tl_iload (pc := 132) (i := 9) dX6_laysPages_132 rfl ?_
    refine tl_iload (pc := 134) (i := 6) dX6_laysPages_134 rfl ?_
    refine tl_icmp_gt (pc := 136) (tgt := 153) dX6_laysPages_136 rfl ?_ ?_
    · exact tl_sub (hk6 ()) (sub_s (sub_s (sub_s (sub_s (sub_s (sub_n (sub_s (sub_n (sub_n (sub_n sub_e))))))))))
    · refine tl_aload_n (pc := 139) (i := 0) dX6_laysPages_139 rfl rfl ?_
      refine tl_getR (pc := 140) (r := 184) fl_X6_55 hb.1 rfl dX6_laysPages_140 ?_
      refine tl_iload (pc := 143) (i := 9) dX6_laysPages_143 rfl ?_
      refine tl_iload_n (pc := 145) (i := 3) dX6_laysPages_145 rfl rfl ?_
      refine tl_iast (pc := 146) hb.2.2.2.2.2.2.2.2.2.2.2.2.2.2.2.2 dX6_laysPages_146 ?_
      refine tl_iinc (pc := 147) (i := 9) (v := x18 + (1 : Int32)) (lo' := [some (.ref 168), some (.ref a0), some (.int p1), some (.int x16), some (.int x17), none, some (.int x8), none, none, some (.int (x18 + (1 : Int32)))]) dX6_laysPages_147 rfl rfl (by decide) rfl ?_
      refine tl_goto (pc := 150) (tgt := 132) dX6_laysPages_150 rfl ?_
      exact tl_sub (ih _) (sub_s (sub_s (sub_s (sub_s (sub_s (sub_n (sub_s (sub_n (sub_n (sub_s sub_e))))))))))
set_option maxRecDepth 100000 in
theorem lp_X6_laysPages_8 (T : Tb) (a0 na0 : Nat) (p1 : Int32)  (hb : isMod T) (ha0 : T[a0]? = some (0, na0, []))    : ∀ (n : Nat) (x1 : Int32) (x2 : Int32) (x3 : Int32), TL_X6_laysPages T 8 [some (.ref 168), some (.ref a0), some (.int p1), some (.int x1), some (.int x2), some (.int x3), none, none, none, none] [] (L_X6_laysPages_8 a0 na0 p1 n x1 x2 x3 ) := by
  intro n
  induction n with
  | zero => intros; exact tl_fail
  | succ n ih =>
    intro x1 x2 x3
    rw [L_X6_laysPages_8]
    refine tl_iload (pc := 8) (i := 5) dX6_laysPages_8 rfl ?_
    refine tl_aload_n (pc := 10) (i := 1) dX6_laysPages_10 rfl rfl ?_
    refine tl_iconst (pc := 11) (v := 2) dX6_laysPages_11 (by decide) ?_
    refine tl_iald (pc := 12) ha0 dX6_laysPages_12 (fun x4 => ?_)
    refine tl_icmp_ge (pc := 13) (tgt := 162) dX6_laysPages_13 rfl ?_ ?_
    · refine tl_iload_n (pc := 162) (i := 3) dX6_laysPages_162 rfl rfl ?_
      refine tl_iconst (pc := 163) (v := 1) dX6_laysPages_163 (by decide) ?_
      refine tl_iadd (pc := 164) dX6_laysPages_164 ?_
      exact tl_iret (pc := 165) dX6_laysPages_165
    · refine tl_iload (pc := 16) (i := 5) dX6_laysPages_16 rfl ?_
      refine tl_istore (pc := 18) (i := 6) (lo' := [some (.ref 168), some (.ref a0), some (.int p1), some (.int x1), some (.int x2), some (.int x3), some (.int x3), none, none, none]) dX6_laysPages_18 (by decide) rfl ?_
      refine tl_sub (lp_X6_laysPages_20 T a0 na0 p1 x1 x2 x3 hb ha0  _ (fun x8 => ?_) FU _) (sub_s (sub_s (sub_s (sub_s (sub_s (sub_s (sub_s (sub_n (sub_n (sub_n sub_e))))))))))
      refine tl_iconst (pc := 45) (v := 0) dX6_laysPages_45 (by decide) ?_
      refine tl_istore (pc := 46) (i := 7) (lo' := [some (.ref 168), some (.ref a0), some (.int p1), some (.int x1), some (.int x2), some (.int x3), some (.int x8), some (.int (0 : Int32)), none, none]) dX6_laysPages_46 (by decide) rfl ?_
      refine tl_iload (pc := 48) (i := 5) dX6_laysPages_48 rfl ?_
      refine tl_istore (pc := 50) (i := 8) (lo' := [some (.ref 168), some (.ref a0), some (.int p1), some (.int x1), some (.int x2), some (.int x3), some (.int x8), some (.int (0 : Int32)), some (.int x3), none]) dX6_laysPages_50 (by decide) rfl ?_
      refine tl_sub (lp_X6_laysPages_52 T a0 na0 p1 x8 x1 x2 x3 hb ha0  _ (fun x13 => ?_) FU _ _) (sub_s (sub_s (sub_s (sub_s (sub_s (sub_s (sub_s (sub_s (sub_s (sub_n sub_e))))))))))
      refine tl_iload (pc := 77) (i := 5) dX6_laysPages_77 rfl ?_
      refine tl_j (fun (k : Int32 → Dm Int32) => ∀ (x14 : Int32), TL_X6_laysPages T 96 [some (.ref 168), some (.ref a0), some (.int p1), some (.int x1), some (.int x2), some (.int x3), some (.int x8), some (.int x13), none, none] [.int x14] (k x14)) (fun x14 => ?_) (fun k3 hk3 => ?_)
      · refine tl_istore (pc := 96) (i := 8) (lo' := [some (.ref 168), some (.ref a0), some (.int p1), some (.int x1), some (.int x2), some (.int x3), some (.int x8), some (.int x13), some (.int x14), none]) dX6_laysPages_96 (by decide) rfl ?_
        refine tl_iload_n (pc := 98) (i := 3) dX6_laysPages_98 rfl rfl ?_
        refine tl_iload (pc := 99) (i := 8) dX6_laysPages_99 rfl ?_
        refine tl_j (fun (k : Int32 → Dm Int32) => ∀ (x15 : Int32), TL_X6_laysPages T 109 [some (.ref 168), some (.ref a0), some (.int p1), none, some (.int x2), some (.int x3), some (.int x8), some (.int x13), some (.int x14), none] [.int x15, .int x1] (k x15)) (fun x15 => ?_) (fun k4 hk4 => ?_)
        · refine tl_iadd (pc := 109) dX6_laysPages_109 ?_
          refine tl_bI (fun x16 => ?_)
          refine tl_istore_n (pc := 110) (i := 3) (lo' := [some (.ref 168), some (.ref a0), some (.int p1), some (.int x16), some (.int x2), some (.int x3), some (.int x8), some (.int x13), some (.int x14), none]) dX6_laysPages_110 rfl (by decide) rfl ?_
          refine tl_iload (pc := 111) (i := 8) dX6_laysPages_111 rfl ?_
          refine tl_j (fun (k : Int32 → Dm Int32) => ∀ (x17 : Int32), TL_X6_laysPages T 126 [some (.ref 168), some (.ref a0), some (.int p1), some (.int x16), none, some (.int x3), some (.int x8), none, none, none] [.int x17] (k x17)) (fun x17 => ?_) (fun k5 hk5 => ?_)
          · refine tl_istore (pc := 126) (i := 4) (lo' := [some (.ref 168), some (.ref a0), some (.int p1), some (.int x16), some (.int x17), some (.int x3), some (.int x8), none, none, none]) dX6_laysPages_126 (by decide) rfl ?_
            refine tl_iload (pc := 128) (i := 5) dX6_laysPages_128 rfl ?_
            refine tl_istore (pc := 130) (i := 9) (lo' := [some (.ref 168), some (.ref a0), some (.int p1), some (.int x16), some (.int x17), some (.int x3), some (.int x8), none, none, some (.int x3)]) dX6_laysPages_130 (by decide) rfl ?_
            refine tl_sub (lp_X6_laysPages_132 T a0 na0 p1 x8 x16 x17 hb ha0  _ (fun _ => ?_) FU _) (sub_s (sub_s (sub_s (sub_s (sub_s (sub_n (sub_s (sub_n (sub_n (sub_s sub_e))))))))))
            refine tl_iload (pc := 153) (i := 6) dX6_laysPages_153 rfl ?_
            refine tl_iconst (pc := 155) (v := 1) dX6_laysPages_155 (by decide) ?_
            refine tl_iadd (pc := 156) dX6_laysPages_156 ?_
            refine tl_bI (fun x19 => ?_)
            refine tl_istore (pc := 157) (i := 5) (lo' := [some (.ref 168), some (.ref a0), some (.int p1), some (.int x16), some (.int x17), some (.int x19), some (.int x8), none, none, none]) dX6_laysPages_157 (by decide) rfl ?_
            refine tl_goto (pc := 159) (tgt := 8) dX6_laysPages_159 rfl ?_
            exact tl_sub (ih _ _ _) (sub_s (sub_s (sub_s (sub_s (sub_s (sub_s (sub_n (sub_n (sub_n (sub_n sub_e))))))))))
          · refine tl_if_eq (pc := 113) (tgt := 124) dX6_laysPages_113 rfl ?_ ?_
            · refine tl_iload (pc := 124) (i := 7) dX6_laysPages_124 rfl ?_
              exact tl_sub (hk5 _) (sub_s (sub_s (sub_s (sub_s (sub_n (sub_s (sub_s (sub_n (sub_n (sub_n sub_e))))))))))
            · refine tl_iload (pc := 116) (i := 4) dX6_laysPages_116 rfl ?_
              refine tl_iload (pc := 118) (i := 7) dX6_laysPages_118 rfl ?_
              refine tl_iadd (pc := 120) dX6_laysPages_120 ?_
              refine tl_goto (pc := 121) (tgt := 126) dX6_laysPages_121 rfl ?_
              exact tl_sub (hk5 _) (sub_s (sub_s (sub_s (sub_s (sub_n (sub_s (sub_s (sub_n (sub_n (sub_n sub_e))))))))))
        · refine tl_if_eq (pc := 101) (tgt := 108) dX6_laysPages_101 rfl ?_ ?_
          · refine tl_iconst (pc := 108) (v := 1) dX6_laysPages_108 (by decide) ?_
            exact tl_sub (hk4 _) (sub_s (sub_s (sub_s (sub_n (sub_s (sub_s (sub_s (sub_s (sub_s (sub_n sub_e))))))))))
          · refine tl_iconst (pc := 104) (v := 0) dX6_laysPages_104 (by decide) ?_
            refine tl_goto (pc := 105) (tgt := 109) dX6_laysPages_105 rfl ?_
            exact tl_sub (hk4 _) (sub_s (sub_s (sub_s (sub_n (sub_s (sub_s (sub_s (sub_s (sub_s (sub_n sub_e))))))))))
      · refine tl_j (fun (k : Unit → Dm Int32) => ∀ (_ : Unit), TL_X6_laysPages T 91 [some (.ref 168), some (.ref a0), some (.int p1), some (.int x1), some (.int x2), some (.int x3), some (.int x8), some (.int x13), none, none] [] (k ())) (fun _ => ?_) (fun k7 hk7 => ?_)
        · refine tl_iconst (pc := 91) (v := 1) dX6_laysPages_91 (by decide) ?_
          refine tl_goto (pc := 92) (tgt := 96) dX6_laysPages_92 rfl ?_
          exact tl_sub (hk3 _) (sub_s (sub_s (sub_s (sub_s (sub_s (sub_s (sub_s (sub_s (sub_n (sub_n sub_e))))))))))
        · refine tl_if_eq (pc := 79) (tgt := 91) dX6_laysPages_79 rfl ?_ ?_
          · exact tl_sub (hk7 ()) (sub_s (sub_s (sub_s (sub_s (sub_s (sub_s (sub_s (sub_s (sub_n (sub_n sub_e))))))))))
          · refine tl_iload (pc := 82) (i := 4) dX6_laysPages_82 rfl ?_
            refine tl_iload (pc := 84) (i := 7) dX6_laysPages_84 rfl ?_
            refine tl_iadd (pc := 86) dX6_laysPages_86 ?_
            refine tl_iload_n (pc := 87) (i := 2) dX6_laysPages_87 rfl rfl ?_
            refine tl_icmp_gt (pc := 88) (tgt := 95) dX6_laysPages_88 rfl ?_ ?_
            · refine tl_iconst (pc := 95) (v := 0) dX6_laysPages_95 (by decide) ?_
              exact tl_sub (hk3 _) (sub_s (sub_s (sub_s (sub_s (sub_s (sub_s (sub_s (sub_s (sub_n (sub_n sub_e))))))))))
            · exact tl_sub (hk7 ()) (sub_s (sub_s (sub_s (sub_s (sub_s (sub_s (sub_s (sub_s (sub_n (sub_n sub_e))))))))))
set_option maxRecDepth 100000 in
theorem c_X6_laysPages (T : Tb) (a0 na0 : Nat) (p1 : Int32) (hb : isMod T) (ha0 : T[a0]? = some (0, na0, [])) : CT (.code yX6_laysPages cX6_laysPages 10 (some .int)) yX6_laysPages 1 iI T [.ref 168, .ref a0, .int p1] (F_X6_laysPages a0 na0 p1) := by
  refine ct_of (lo := [some (.ref 168), some (.ref a0), some (.int p1), none, none, none, none, none, none, none]) (j := 7) k_X6_laysPages.1 rfl (fun _ => Nat.le_of_ble_eq_true rfl) ?_
  show TL_X6_laysPages T 0 _ _ _
  rw [F_X6_laysPages]
  refine tl_iconst (pc := 0) (v := 0) dX6_laysPages_0 (by decide) ?_
  refine tl_istore_n (pc := 1) (i := 3) (lo' := [some (.ref 168), some (.ref a0), some (.int p1), some (.int (0 : Int32)), none, none, none, none, none, none]) dX6_laysPages_1 rfl (by decide) rfl ?_
  refine tl_iconst (pc := 2) (v := 0) dX6_laysPages_2 (by decide) ?_
  refine tl_istore (pc := 3) (i := 4) (lo' := [some (.ref 168), some (.ref a0), some (.int p1), some (.int (0 : Int32)), some (.int (0 : Int32)), none, none, none, none, none]) dX6_laysPages_3 (by decide) rfl ?_
  refine tl_iconst (pc := 5) (v := 0) dX6_laysPages_5 (by decide) ?_
  refine tl_istore (pc := 6) (i := 5) (lo' := [some (.ref 168), some (.ref a0), some (.int p1), some (.int (0 : Int32)), some (.int (0 : Int32)), some (.int (0 : Int32)), none, none, none, none]) dX6_laysPages_6 (by decide) rfl ?_
  refine tl_sub (lp_X6_laysPages_8 T a0 na0 p1 hb ha0    FU _ _ _) (sub_s (sub_s (sub_s (sub_s (sub_s (sub_s (sub_n (sub_n (sub_n (sub_n sub_e))))))))))
abbrev TL_X6_begin (T : Tb) (pc : Nat) (lo : List (Option Value)) (st : List Value) (X : Dm Int32) : Prop := TL yX6_begin cX6_begin 3 (some .int) 3 iI T pc lo st X
set_option maxRecDepth 100000 in
theorem c_X6_begin (T : Tb) (p0 : Int32) (p1 : Int32) (hb : isMod T) : CT (.code yX6_begin cX6_begin 3 (some .int)) yX6_begin 3 iI T [.ref 168, .int p0, .int p1] (F_X6_begin p0 p1) := by
  refine ct_of (lo := [some (.ref 168), some (.int p0), some (.int p1)]) (j := 0) k_X6_begin.1 rfl (fun _ => Nat.le_of_ble_eq_true rfl) ?_
  show TL_X6_begin T 0 _ _ _
  rw [F_X6_begin]
  refine tl_aload_n (pc := 0) (i := 0) dX6_begin_0 rfl rfl ?_
  refine tl_iconst (pc := 1) (v := 0) dX6_begin_1 (by decide) ?_
  refine tl_putI (pc := 2) fw_X6_62 hb.1 rfl dX6_begin_2 ?_
  refine tl_iload_n (pc := 5) (i := 1) dX6_begin_5 rfl rfl ?_
  refine tl_iconst (pc := 6) (v := 1) dX6_begin_6 (by decide) ?_
  refine tl_iconst (pc := 7) (v := 5) dX6_begin_7 (by decide) ?_
  refine tl_callSi (pc := 8) k_X6_in gw_919 (c_X6_in T _ _ _) rfl rfl (Nat.le_of_ble_eq_true rfl) (Nat.le_of_ble_eq_true rfl) dX6_begin_8 (fun x1 => ?_)
  refine tl_if_eq (pc := 11) (tgt := 23) dX6_begin_11 rfl ?_ ?_
  · refine tl_aload_n (pc := 23) (i := 0) dX6_begin_23 rfl rfl ?_
    refine tl_iconst (pc := 24) (v := 1) dX6_begin_24 (by decide) ?_
    refine tl_callVi (pc := 25) k_X6_fails gw_908 hb.1 ⟨_, _, rfl⟩ (c_X6_fails T _ hb) rfl rfl (Nat.le_of_ble_eq_true rfl) (Nat.le_of_ble_eq_true rfl) dX6_begin_25 (fun x2 => ?_)
    exact tl_iret (pc := 28) dX6_begin_28
  · refine tl_iload_n (pc := 14) (i := 2) dX6_begin_14 rfl rfl ?_
    refine tl_iconst (pc := 15) (v := 1) dX6_begin_15 (by decide) ?_
    refine tl_iconst (pc := 16) (v := 5) dX6_begin_16 (by decide) ?_
    refine tl_callSi (pc := 17) k_X6_in gw_919 (c_X6_in T _ _ _) rfl rfl (Nat.le_of_ble_eq_true rfl) (Nat.le_of_ble_eq_true rfl) dX6_begin_17 (fun x3 => ?_)
    refine tl_if_ne (pc := 20) (tgt := 29) dX6_begin_20 rfl ?_ ?_
    · refine tl_aload_n (pc := 23) (i := 0) dX6_begin_23 rfl rfl ?_
      refine tl_iconst (pc := 24) (v := 1) dX6_begin_24 (by decide) ?_
      refine tl_callVi (pc := 25) k_X6_fails gw_908 hb.1 ⟨_, _, rfl⟩ (c_X6_fails T _ hb) rfl rfl (Nat.le_of_ble_eq_true rfl) (Nat.le_of_ble_eq_true rfl) dX6_begin_25 (fun x4 => ?_)
      exact tl_iret (pc := 28) dX6_begin_28
    · refine tl_aload_n (pc := 29) (i := 0) dX6_begin_29 rfl rfl ?_
      refine tl_callVv (pc := 30) k_X6_saves gw_922 hb.1 ⟨_, _, rfl⟩ (c_X6_saves T hb) rfl rfl (Nat.le_of_ble_eq_true rfl) (Nat.le_of_ble_eq_true rfl) dX6_begin_30 (fun _ => ?_)
      refine tl_aload_n (pc := 33) (i := 0) dX6_begin_33 rfl rfl ?_
      refine tl_iload_n (pc := 34) (i := 1) dX6_begin_34 rfl rfl ?_
      refine tl_iload_n (pc := 35) (i := 2) dX6_begin_35 rfl rfl ?_
      refine tl_callVv (pc := 36) k_X6_begins gw_816 hb.1 ⟨_, _, rfl⟩ (c_X6_begins T _ _ hb) rfl rfl (Nat.le_of_ble_eq_true rfl) (Nat.le_of_ble_eq_true rfl) dX6_begin_36 (fun _ => ?_)
      refine tl_iload_n (pc := 39) (i := 1) dX6_begin_39 rfl rfl ?_
      refine tl_iload_n (pc := 40) (i := 2) dX6_begin_40 rfl rfl ?_
      refine tl_imul (pc := 41) dX6_begin_41 ?_
      exact tl_iret (pc := 42) dX6_begin_42
abbrev TL_X6_nest (T : Tb) (pc : Nat) (lo : List (Option Value)) (st : List Value) (X : Dm Int32) : Prop := TL yX6_nest cX6_nest 7 (some .int) 3 iI T pc lo st X
set_option maxRecDepth 100000 in
theorem c_X6_nest (T : Tb) (p0 : Int32) (p1 : Int32) (p2 : Int32) (p3 : Int32) (p4 : Int32) (hb : isMod T) : CT (.code yX6_nest cX6_nest 7 (some .int)) yX6_nest 3 iI T [.ref 168, .int p0, .int p1, .int p2, .int p3, .int p4] (F_X6_nest p0 p1 p2 p3 p4) := by
  refine ct_of (lo := [some (.ref 168), some (.int p0), some (.int p1), some (.int p2), some (.int p3), some (.int p4), none]) (j := 1) k_X6_nest.1 rfl (fun _ => Nat.le_of_ble_eq_true rfl) ?_
  show TL_X6_nest T 0 _ _ _
  rw [F_X6_nest]
  refine tl_aload_n (pc := 0) (i := 0) dX6_nest_0 rfl rfl ?_
  refine tl_iconst (pc := 1) (v := 0) dX6_nest_1 (by decide) ?_
  refine tl_putI (pc := 2) fw_X6_62 hb.1 rfl dX6_nest_2 ?_
  refine tl_aload_n (pc := 5) (i := 0) dX6_nest_5 rfl rfl ?_
  refine tl_iload_n (pc := 6) (i := 1) dX6_nest_6 rfl rfl ?_
  refine tl_iload_n (pc := 7) (i := 2) dX6_nest_7 rfl rfl ?_
  refine tl_iload_n (pc := 8) (i := 3) dX6_nest_8 rfl rfl ?_
  refine tl_callVi (pc := 9) k_X6_isSquare gw_930 hb.1 ⟨_, _, rfl⟩ (c_X6_isSquare T _ _ _ hb) rfl rfl (Nat.le_of_ble_eq_true rfl) (Nat.le_of_ble_eq_true rfl) dX6_nest_9 (fun x1 => ?_)
  refine tl_if_ne (pc := 12) (tgt := 21) dX6_nest_12 rfl ?_ ?_
  · refine tl_aload_n (pc := 15) (i := 0) dX6_nest_15 rfl rfl ?_
    refine tl_iconst (pc := 16) (v := 1) dX6_nest_16 (by decide) ?_
    refine tl_callVi (pc := 17) k_X6_fails gw_908 hb.1 ⟨_, _, rfl⟩ (c_X6_fails T _ hb) rfl rfl (Nat.le_of_ble_eq_true rfl) (Nat.le_of_ble_eq_true rfl) dX6_nest_17 (fun x15 => ?_)
    exact tl_iret (pc := 20) dX6_nest_20
  · refine tl_iload (pc := 21) (i := 4) dX6_nest_21 rfl ?_
    refine tl_iconst (pc := 23) (v := 1) dX6_nest_23 (by decide) ?_
    refine tl_iconst (pc := 24) (v := 5) dX6_nest_24 (by decide) ?_
    refine tl_callSi (pc := 25) k_X6_in gw_919 (c_X6_in T _ _ _) rfl rfl (Nat.le_of_ble_eq_true rfl) (Nat.le_of_ble_eq_true rfl) dX6_nest_25 (fun x2 => ?_)
    refine tl_if_eq (pc := 28) (tgt := 41) dX6_nest_28 rfl ?_ ?_
    · refine tl_aload_n (pc := 41) (i := 0) dX6_nest_41 rfl rfl ?_
      refine tl_iconst (pc := 42) (v := 2) dX6_nest_42 (by decide) ?_
      refine tl_callVi (pc := 43) k_X6_fails gw_908 hb.1 ⟨_, _, rfl⟩ (c_X6_fails T _ hb) rfl rfl (Nat.le_of_ble_eq_true rfl) (Nat.le_of_ble_eq_true rfl) dX6_nest_43 (fun x3 => ?_)
      exact tl_iret (pc := 46) dX6_nest_46
    · refine tl_iload (pc := 31) (i := 5) dX6_nest_31 rfl ?_
      refine tl_iconst (pc := 33) (v := 1) dX6_nest_33 (by decide) ?_
      refine tl_iconst (pc := 34) (v := 5) dX6_nest_34 (by decide) ?_
      refine tl_callSi (pc := 35) k_X6_in gw_919 (c_X6_in T _ _ _) rfl rfl (Nat.le_of_ble_eq_true rfl) (Nat.le_of_ble_eq_true rfl) dX6_nest_35 (fun x4 => ?_)
      refine tl_if_ne (pc := 38) (tgt := 47) dX6_nest_38 rfl ?_ ?_
      · refine tl_aload_n (pc := 41) (i := 0) dX6_nest_41 rfl rfl ?_
        refine tl_iconst (pc := 42) (v := 2) dX6_nest_42 (by decide) ?_
        refine tl_callVi (pc := 43) k_X6_fails gw_908 hb.1 ⟨_, _, rfl⟩ (c_X6_fails T _ hb) rfl rfl (Nat.le_of_ble_eq_true rfl) (Nat.le_of_ble_eq_true rfl) dX6_nest_43 (fun x14 => ?_)
        exact tl_iret (pc := 46) dX6_nest_46
      · refine tl_iload_n (pc := 47) (i := 1) dX6_nest_47 rfl rfl ?_
        refine tl_iload_n (pc := 48) (i := 2) dX6_nest_48 rfl rfl ?_
        refine tl_iload_n (pc := 49) (i := 3) dX6_nest_49 rfl rfl ?_
        refine tl_callSi (pc := 50) k_X6_square gw_937 (c_X6_square T _ _ _) rfl rfl (Nat.le_of_ble_eq_true rfl) (Nat.le_of_ble_eq_true rfl) dX6_nest_50 (fun x5 => ?_)
        refine tl_istore (pc := 53) (i := 6) (lo' := [some (.ref 168), some (.int p0), some (.int p1), some (.int p2), some (.int p3), some (.int p4), some (.int x5)]) dX6_nest_53 (by decide) rfl ?_
        refine tl_aload_n (pc := 55) (i := 0) dX6_nest_55 rfl rfl ?_
        refine tl_getR (pc := 56) (r := 169) fl_X6_7 hb.1 rfl dX6_nest_56 ?_
        refine tl_iload (pc := 59) (i := 6) dX6_nest_59 rfl ?_
        refine tl_callSi (pc := 61) k_X6_isCell gw_940 (c_X6_isCell T _ _ _ hb.2.1) rfl rfl (Nat.le_of_ble_eq_true rfl) (Nat.le_of_ble_eq_true rfl) dX6_nest_61 (fun x6 => ?_)
        refine tl_if_eq (pc := 64) (tgt := 90) dX6_nest_64 rfl ?_ ?_
        · refine tl_aload_n (pc := 90) (i := 0) dX6_nest_90 rfl rfl ?_
          refine tl_iconst (pc := 91) (v := 3) dX6_nest_91 (by decide) ?_
          refine tl_callVi (pc := 92) k_X6_fails gw_908 hb.1 ⟨_, _, rfl⟩ (c_X6_fails T _ hb) rfl rfl (Nat.le_of_ble_eq_true rfl) (Nat.le_of_ble_eq_true rfl) dX6_nest_92 (fun x7 => ?_)
          exact tl_iret (pc := 95) dX6_nest_95
        · refine tl_aload_n (pc := 67) (i := 0) dX6_nest_67 rfl rfl ?_
          refine tl_getR (pc := 68) (r := 169) fl_X6_7 hb.1 rfl dX6_nest_68 ?_
          refine tl_bipush (pc := 71) (v := 12) dX6_nest_71 (by decide) ?_
          refine tl_iload (pc := 73) (i := 6) dX6_nest_73 rfl ?_
          refine tl_iadd (pc := 75) dX6_nest_75 ?_
          refine tl_iald (pc := 76) hb.2.1 dX6_nest_76 (fun x8 => ?_)
          refine tl_if_ne (pc := 77) (tgt := 90) dX6_nest_77 rfl ?_ ?_
          · refine tl_aload_n (pc := 80) (i := 0) dX6_nest_80 rfl rfl ?_
            refine tl_getR (pc := 81) (r := 169) fl_X6_7 hb.1 rfl dX6_nest_81 ?_
            refine tl_iconst (pc := 84) (v := 0) dX6_nest_84 (by decide) ?_
            refine tl_iald (pc := 85) hb.2.1 dX6_nest_85 (fun x10 => ?_)
            refine tl_iconst (pc := 86) (v := 5) dX6_nest_86 (by decide) ?_
            refine tl_icmp_ne (pc := 87) (tgt := 96) dX6_nest_87 rfl ?_ ?_
            · refine tl_aload_n (pc := 90) (i := 0) dX6_nest_90 rfl rfl ?_
              refine tl_iconst (pc := 91) (v := 3) dX6_nest_91 (by decide) ?_
              refine tl_callVi (pc := 92) k_X6_fails gw_908 hb.1 ⟨_, _, rfl⟩ (c_X6_fails T _ hb) rfl rfl (Nat.le_of_ble_eq_true rfl) (Nat.le_of_ble_eq_true rfl) dX6_nest_92 (fun x13 => ?_)
              exact tl_iret (pc := 95) dX6_nest_95
            · refine tl_aload_n (pc := 96) (i := 0) dX6_nest_96 rfl rfl ?_
              refine tl_callVv (pc := 97) k_X6_saves gw_922 hb.1 ⟨_, _, rfl⟩ (c_X6_saves T hb) rfl rfl (Nat.le_of_ble_eq_true rfl) (Nat.le_of_ble_eq_true rfl) dX6_nest_97 (fun _ => ?_)
              refine tl_aload_n (pc := 100) (i := 0) dX6_nest_100 rfl rfl ?_
              refine tl_getR (pc := 101) (r := 169) fl_X6_7 hb.1 rfl dX6_nest_101 ?_
              refine tl_bipush (pc := 104) (v := 12) dX6_nest_104 (by decide) ?_
              refine tl_iload (pc := 106) (i := 6) dX6_nest_106 rfl ?_
              refine tl_iadd (pc := 108) dX6_nest_108 ?_
              refine tl_iconst (pc := 109) (v := 3) dX6_nest_109 (by decide) ?_
              refine tl_iast (pc := 110) hb.2.1 dX6_nest_110 ?_
              refine tl_aload_n (pc := 111) (i := 0) dX6_nest_111 rfl rfl ?_
              refine tl_getR (pc := 112) (r := 169) fl_X6_7 hb.1 rfl dX6_nest_112 ?_
              refine tl_sipush (pc := 115) (v := 137) dX6_nest_115 (by decide) ?_
              refine tl_iload (pc := 118) (i := 6) dX6_nest_118 rfl ?_
              refine tl_iadd (pc := 120) dX6_nest_120 ?_
              refine tl_aload_n (pc := 121) (i := 0) dX6_nest_121 rfl rfl ?_
              refine tl_getR (pc := 122) (r := 169) fl_X6_7 hb.1 rfl dX6_nest_122 ?_
              refine tl_iconst (pc := 125) (v := 0) dX6_nest_125 (by decide) ?_
              refine tl_iald (pc := 126) hb.2.1 dX6_nest_126 (fun x11 => ?_)
              refine tl_iast (pc := 127) hb.2.1 dX6_nest_127 ?_
              refine tl_aload_n (pc := 128) (i := 0) dX6_nest_128 rfl rfl ?_
              refine tl_iload (pc := 129) (i := 4) dX6_nest_129 rfl ?_
              refine tl_iload (pc := 131) (i := 5) dX6_nest_131 rfl ?_
              refine tl_callVi (pc := 133) k_X6_comes gw_820 hb.1 ⟨_, _, rfl⟩ (c_X6_comes T _ _ hb) rfl rfl (Nat.le_of_ble_eq_true rfl) (Nat.le_of_ble_eq_true rfl) dX6_nest_133 (fun x12 => ?_)
              exact tl_iret (pc := 136) dX6_nest_136
          · refine tl_aload_n (pc := 90) (i := 0) dX6_nest_90 rfl rfl ?_
            refine tl_iconst (pc := 91) (v := 3) dX6_nest_91 (by decide) ?_
            refine tl_callVi (pc := 92) k_X6_fails gw_908 hb.1 ⟨_, _, rfl⟩ (c_X6_fails T _ hb) rfl rfl (Nat.le_of_ble_eq_true rfl) (Nat.le_of_ble_eq_true rfl) dX6_nest_92 (fun x9 => ?_)
            exact tl_iret (pc := 95) dX6_nest_95
abbrev TL_X6_isKind (T : Tb) (pc : Nat) (lo : List (Option Value)) (st : List Value) (X : Dm Int32) : Prop := TL yX6_isKind cX6_isKind 2 (some .boolean) 1 iI T pc lo st X
set_option maxRecDepth 100000 in
theorem c_X6_isKind (T : Tb) (p0 : Int32) (p1 : Int32)  : CT (.code yX6_isKind cX6_isKind 2 (some .boolean)) yX6_isKind 1 iI T [.int p0, .int p1] (F_X6_isKind p0 p1) := by
  refine ct_of (lo := [some (.int p0), some (.int p1)]) (j := 0) k_X6_isKind.1 rfl (fun _ => Nat.le_of_ble_eq_true rfl) ?_
  show TL_X6_isKind T 0 _ _ _
  rw [F_X6_isKind]
  refine tl_iload_n (pc := 0) (i := 0) dX6_isKind_0 rfl rfl ?_
  refine tl_iconst (pc := 1) (v := 1) dX6_isKind_1 (by decide) ?_
  refine tl_icmp_ne (pc := 2) (tgt := 18) dX6_isKind_2 rfl ?_ ?_
  · refine tl_iload_n (pc := 5) (i := 1) dX6_isKind_5 rfl rfl ?_
    refine tl_sipush (pc := 6) (v := -999) dX6_isKind_6 (by decide) ?_
    refine tl_sipush (pc := 9) (v := 999) dX6_isKind_9 (by decide) ?_
    refine tl_callSi (pc := 12) k_X6_in gw_919 (c_X6_in T _ _ _) rfl rfl (Nat.le_of_ble_eq_true rfl) (Nat.le_of_ble_eq_true rfl) dX6_isKind_12 (fun x3 => ?_)
    refine tl_goto (pc := 15) (tgt := 53) dX6_isKind_15 rfl ?_
    exact tl_zret (pc := 53) dX6_isKind_53
  · refine tl_iload_n (pc := 18) (i := 0) dX6_isKind_18 rfl rfl ?_
    refine tl_iconst (pc := 19) (v := 2) dX6_isKind_19 (by decide) ?_
    refine tl_icmp_ne (pc := 20) (tgt := 33) dX6_isKind_20 rfl ?_ ?_
    · refine tl_iload_n (pc := 23) (i := 1) dX6_isKind_23 rfl rfl ?_
      refine tl_iconst (pc := 24) (v := 1) dX6_isKind_24 (by decide) ?_
      refine tl_bipush (pc := 25) (v := 12) dX6_isKind_25 (by decide) ?_
      refine tl_callSi (pc := 27) k_X6_in gw_919 (c_X6_in T _ _ _) rfl rfl (Nat.le_of_ble_eq_true rfl) (Nat.le_of_ble_eq_true rfl) dX6_isKind_27 (fun x2 => ?_)
      refine tl_goto (pc := 30) (tgt := 53) dX6_isKind_30 rfl ?_
      exact tl_zret (pc := 53) dX6_isKind_53
    · refine tl_iload_n (pc := 33) (i := 0) dX6_isKind_33 rfl rfl ?_
      refine tl_iconst (pc := 34) (v := 0) dX6_isKind_34 (by decide) ?_
      refine tl_bipush (pc := 35) (v := 6) dX6_isKind_35 (by decide) ?_
      refine tl_callSi (pc := 37) k_X6_in gw_919 (c_X6_in T _ _ _) rfl rfl (Nat.le_of_ble_eq_true rfl) (Nat.le_of_ble_eq_true rfl) dX6_isKind_37 (fun x1 => ?_)
      refine tl_if_eq (pc := 40) (tgt := 52) dX6_isKind_40 rfl ?_ ?_
      · refine tl_iconst (pc := 52) (v := 0) dX6_isKind_52 (by decide) ?_
        exact tl_zret (pc := 53) dX6_isKind_53
      · refine tl_iload_n (pc := 43) (i := 0) dX6_isKind_43 rfl rfl ?_
        refine tl_iconst (pc := 44) (v := 3) dX6_isKind_44 (by decide) ?_
        refine tl_icmp_eq (pc := 45) (tgt := 52) dX6_isKind_45 rfl ?_ ?_
        · refine tl_iconst (pc := 52) (v := 0) dX6_isKind_52 (by decide) ?_
          exact tl_zret (pc := 53) dX6_isKind_53
        · refine tl_iconst (pc := 48) (v := 1) dX6_isKind_48 (by decide) ?_
          refine tl_goto (pc := 49) (tgt := 53) dX6_isKind_49 rfl ?_
          exact tl_zret (pc := 53) dX6_isKind_53
