abbrev TL_L_low (T : Tb) (pc : Nat) (lo : List (Option Value)) (st : List Value) (X : Dm Int32) : Prop := TL yL_low cL_low 2 (some .int) 0 iI T pc lo st X
set_option maxRecDepth 100000 in
theorem c_L_low (T : Tb) (p0 : Int32) (p1 : Int32)  : CT (.code yL_low cL_low 2 (some .int)) yL_low 0 iI T [.int p0, .int p1] (F_L_low p0 p1) := by
  refine ct_of (lo := [some (.int p0), some (.int p1)]) (j := 0) k_L_low.1 rfl (fun _ => Nat.le_of_ble_eq_true rfl) ?_
  show TL_L_low T 0 _ _ _
  rw [F_L_low]
  refine tl_iload_n (pc := 0) (i := 0) dL_low_0 rfl rfl ?_
  refine tl_ldc (pc := 1) gw_509 dL_low_1 ?_
  refine tl_iand (pc := 3) dL_low_3 ?_
  refine tl_iload_n (pc := 4) (i := 1) dL_low_4 rfl rfl ?_
  refine tl_ck (fun hc5 => ?_)
  refine tl_irem (pc := 5) dL_low_5 hc5 ?_
  exact tl_iret (pc := 6) dL_low_6
abbrev TL_L_wide (T : Tb) (pc : Nat) (lo : List (Option Value)) (st : List Value) (X : Dm Int32) : Prop := TL yL_wide cL_wide 8 (some .boolean) 8 iI T pc lo st X
set_option maxRecDepth 100000 in
theorem lp_L_wide_17 (T : Tb) (p1 : Int32) (p2 : Int32) (p3 : Int32) (x1 : Int32) (ho0 : isNS T)  (k1 : Int32 → Dm Int32) (hk1 : ∀ (y17_0 : Int32), TL_L_wide T 51 [some (.ref 0), some (.int p1), some (.int p2), some (.int p3), some (.int x1), some (.int y17_0), none, none] [] (k1 y17_0)) : ∀ (n : Nat) (x2 : Int32) (x3 : Int32), TL_L_wide T 17 [some (.ref 0), some (.int p1), some (.int p2), some (.int p3), some (.int x1), some (.int x2), some (.int x3), none] [] (L_L_wide_17 p1 p2 p3 n x2 x3 k1) := by
  intro n
  induction n with
  | zero => intros; exact tl_fail
  | succ n ih =>
    intro x2 x3
    rw [L_L_wide_17]
    refine tl_iload (pc := 17) (i := 6) dL_wide_17 rfl ?_
    refine tl_iload_n (pc := 19) (i := 3) dL_wide_19 rfl rfl ?_
    refine tl_aload_n (pc := 20) (i := 0) dL_wide_20 rfl rfl ?_
    refine tl_iload_n (pc := 21) (i := 1) dL_wide_21 rfl rfl ?_
    refine tl_iload_n (pc := 22) (i := 2) dL_wide_22 rfl rfl ?_
    refine tl_iload_n (pc := 23) (i := 3) dL_wide_23 rfl rfl ?_
    refine tl_iconst (pc := 24) (v := 4) dL_wide_24 (by decide) ?_
    refine tl_callVi (pc := 25) k_X5_cell gw_620 ho0.1 ⟨_, _, rfl⟩ (c_X5_cell T _ _ _ _ ho0) rfl rfl (Nat.le_of_ble_eq_true rfl) (Nat.le_of_ble_eq_true rfl) dL_wide_25 (fun x4 => ?_)
    refine tl_iadd (pc := 28) dL_wide_28 ?_
    refine tl_icmp_ge (pc := 29) (tgt := 51) dL_wide_29 rfl ?_ ?_
    · exact tl_sub (hk1 _) (sub_s (sub_s (sub_s (sub_s (sub_s (sub_s (sub_n (sub_n sub_e))))))))
    · refine tl_iload (pc := 32) (i := 5) dL_wide_32 rfl ?_
      refine tl_aload_n (pc := 34) (i := 0) dL_wide_34 rfl rfl ?_
      refine tl_iload_n (pc := 35) (i := 1) dL_wide_35 rfl rfl ?_
      refine tl_iconst (pc := 36) (v := 0) dL_wide_36 (by decide) ?_
      refine tl_iload (pc := 37) (i := 6) dL_wide_37 rfl ?_
      refine tl_callVi (pc := 39) k_X5_size gw_645 ho0.1 ⟨_, _, rfl⟩ (c_X5_size T _ _ _ ho0) rfl rfl (Nat.le_of_ble_eq_true rfl) (Nat.le_of_ble_eq_true rfl) dL_wide_39 (fun x5 => ?_)
      refine tl_iadd (pc := 42) dL_wide_42 ?_
      refine tl_bI (fun x6 => ?_)
      refine tl_istore (pc := 43) (i := 5) (lo' := [some (.ref 0), some (.int p1), some (.int p2), some (.int p3), some (.int x1), some (.int x6), some (.int x3), none]) dL_wide_43 (by decide) rfl ?_
      refine tl_iinc (pc := 45) (i := 6) (v := x3 + (1 : Int32)) (lo' := [some (.ref 0), some (.int p1), some (.int p2), some (.int p3), some (.int x1), some (.int x6), some (.int (x3 + (1 : Int32))), none]) dL_wide_45 rfl rfl (by decide) rfl ?_
      refine tl_goto (pc := 48) (tgt := 17) dL_wide_48 rfl ?_
      exact tl_sub (ih _ _) (sub_s (sub_s (sub_s (sub_s (sub_s (sub_s (sub_s (sub_n sub_e))))))))
set_option maxRecDepth 100000 in
theorem lp_L_wide_74 (T : Tb) (p1 : Int32) (p2 : Int32) (p3 : Int32) (x1 : Int32) (ho0 : isNS T)    : ∀ (n : Nat) (x10 : Int32) (x11 : Int32), TL_L_wide T 74 [some (.ref 0), some (.int p1), some (.int p2), some (.int p3), some (.int x1), none, some (.int x10), some (.int x11)] [] (L_L_wide_74 p1 p2 p3 x1 n x10 x11 ) := by
  intro n
  induction n with
  | zero => intros; exact tl_fail
  | succ n ih =>
    intro x10 x11
    rw [L_L_wide_74]
    refine tl_iload (pc := 74) (i := 7) dL_wide_74 rfl ?_
    refine tl_bipush (pc := 76) (v := 25) dL_wide_76 (by decide) ?_
    refine tl_icmp_ge (pc := 78) (tgt := 194) dL_wide_78 rfl ?_ ?_
    · refine tl_iload (pc := 194) (i := 6) dL_wide_194 rfl ?_
      exact tl_zret (pc := 196) dL_wide_196
    · refine tl_iload (pc := 81) (i := 6) dL_wide_81 rfl ?_
      refine tl_if_eq (pc := 83) (tgt := 194) dL_wide_83 rfl ?_ ?_
      · refine tl_iload (pc := 194) (i := 6) dL_wide_194 rfl ?_
        exact tl_zret (pc := 196) dL_wide_196
      · refine tl_iload (pc := 86) (i := 4) dL_wide_86 rfl ?_
        refine tl_if_lt (pc := 88) (tgt := 194) dL_wide_88 rfl ?_ ?_
        · refine tl_iload (pc := 194) (i := 6) dL_wide_194 rfl ?_
          exact tl_zret (pc := 196) dL_wide_196
        · refine tl_iload (pc := 91) (i := 7) dL_wide_91 rfl ?_
          refine tl_iconst (pc := 93) (v := 5) dL_wide_93 (by decide) ?_
          refine tl_idiv (pc := 94) dL_wide_94 (by decide) ?_
          refine tl_aload_n (pc := 95) (i := 0) dL_wide_95 rfl rfl ?_
          refine tl_iload (pc := 96) (i := 4) dL_wide_96 rfl ?_
          refine tl_iconst (pc := 98) (v := 0) dL_wide_98 (by decide) ?_
          refine tl_callVi (pc := 99) k_X5_table gw_437 ho0.1 ⟨_, _, rfl⟩ (c_X5_table T _ _ ho0) rfl rfl (Nat.le_of_ble_eq_true rfl) (Nat.le_of_ble_eq_true rfl) dL_wide_99 (fun x12 => ?_)
          refine tl_j (fun (k : Int32 → Dm Int32) => ∀ (x13 : Int32), TL_L_wide T 188 [some (.ref 0), some (.int p1), some (.int p2), some (.int p3), some (.int x1), none, some (.int x13), some (.int x11)] [] (k x13)) (fun x13 => ?_) (fun k3 hk3 => ?_)
          · refine tl_iinc (pc := 188) (i := 7) (v := x11 + (1 : Int32)) (lo' := [some (.ref 0), some (.int p1), some (.int p2), some (.int p3), some (.int x1), none, some (.int x13), some (.int (x11 + (1 : Int32)))]) dL_wide_188 rfl rfl (by decide) rfl ?_
            refine tl_goto (pc := 191) (tgt := 74) dL_wide_191 rfl ?_
            exact tl_sub (ih _ _) (sub_s (sub_s (sub_s (sub_s (sub_s (sub_n (sub_s (sub_s sub_e))))))))
          · refine tl_icmp_ge (pc := 102) (tgt := 188) dL_wide_102 rfl ?_ ?_
            · exact tl_sub (hk3 _) (sub_s (sub_s (sub_s (sub_s (sub_s (sub_n (sub_s (sub_s sub_e))))))))
            · refine tl_iload (pc := 105) (i := 7) dL_wide_105 rfl ?_
              refine tl_iconst (pc := 107) (v := 5) dL_wide_107 (by decide) ?_
              refine tl_irem (pc := 108) dL_wide_108 (by decide) ?_
              refine tl_aload_n (pc := 109) (i := 0) dL_wide_109 rfl rfl ?_
              refine tl_iload (pc := 110) (i := 4) dL_wide_110 rfl ?_
              refine tl_iconst (pc := 112) (v := 1) dL_wide_112 (by decide) ?_
              refine tl_callVi (pc := 113) k_X5_table gw_437 ho0.1 ⟨_, _, rfl⟩ (c_X5_table T _ _ ho0) rfl rfl (Nat.le_of_ble_eq_true rfl) (Nat.le_of_ble_eq_true rfl) dL_wide_113 (fun x14 => ?_)
              refine tl_icmp_ge (pc := 116) (tgt := 188) dL_wide_116 rfl ?_ ?_
              · exact tl_sub (hk3 _) (sub_s (sub_s (sub_s (sub_s (sub_s (sub_n (sub_s (sub_s sub_e))))))))
              · refine tl_iload (pc := 119) (i := 7) dL_wide_119 rfl ?_
                refine tl_iconst (pc := 121) (v := 5) dL_wide_121 (by decide) ?_
                refine tl_idiv (pc := 122) dL_wide_122 (by decide) ?_
                refine tl_j (fun (k : Int32 → Dm Int32) => ∀ (x15 : Int32), TL_L_wide T 186 [some (.ref 0), some (.int p1), some (.int p2), some (.int p3), some (.int x1), none, none, some (.int x11)] [.int x15] (k x15)) (fun x15 => ?_) (fun k4 hk4 => ?_)
                · refine tl_istore (pc := 186) (i := 6) (lo' := [some (.ref 0), some (.int p1), some (.int p2), some (.int p3), some (.int x1), none, some (.int x15), some (.int x11)]) dL_wide_186 (by decide) rfl ?_
                  exact tl_sub (hk3 _) (sub_s (sub_s (sub_s (sub_s (sub_s (sub_n (sub_s (sub_s sub_e))))))))
                · refine tl_j (fun (k : Unit → Dm Int32) => ∀ (_ : Unit), TL_L_wide T 185 [some (.ref 0), some (.int p1), some (.int p2), some (.int p3), some (.int x1), none, none, some (.int x11)] [] (k ())) (fun _ => ?_) (fun k5 hk5 => ?_)
                  · refine tl_iconst (pc := 185) (v := 0) dL_wide_185 (by decide) ?_
                    exact tl_sub (hk4 _) (sub_s (sub_s (sub_s (sub_s (sub_s (sub_n (sub_n (sub_s sub_e))))))))
                  · refine tl_j (fun (k : Unit → Dm Int32) => ∀ (_ : Unit), TL_L_wide T 150 [some (.ref 0), some (.int p1), some (.int p2), some (.int p3), some (.int x1), none, none, some (.int x11)] [] (k ())) (fun _ => ?_) (fun k6 hk6 => ?_)
                    · refine tl_iload (pc := 150) (i := 7) dL_wide_150 rfl ?_
                      refine tl_iconst (pc := 152) (v := 5) dL_wide_152 (by decide) ?_
                      refine tl_irem (pc := 153) dL_wide_153 (by decide) ?_
                      refine tl_j (fun (k : Unit → Dm Int32) => ∀ (_ : Unit), TL_L_wide T 181 [some (.ref 0), some (.int p1), some (.int p2), some (.int p3), some (.int x1), none, none, some (.int x11)] [] (k ())) (fun _ => ?_) (fun k7 hk7 => ?_)
                      · refine tl_iconst (pc := 181) (v := 1) dL_wide_181 (by decide) ?_
                        refine tl_goto (pc := 182) (tgt := 186) dL_wide_182 rfl ?_
                        exact tl_sub (hk4 _) (sub_s (sub_s (sub_s (sub_s (sub_s (sub_n (sub_n (sub_s sub_e))))))))
                      · refine tl_if_gt (pc := 154) (tgt := 181) dL_wide_154 rfl ?_ ?_
                        · exact tl_sub (hk7 ()) (sub_s (sub_s (sub_s (sub_s (sub_s (sub_n (sub_n (sub_s sub_e))))))))
                        · refine tl_aload_n (pc := 157) (i := 0) dL_wide_157 rfl rfl ?_
                          refine tl_iload (pc := 158) (i := 4) dL_wide_158 rfl ?_
                          refine tl_iload (pc := 160) (i := 7) dL_wide_160 rfl ?_
                          refine tl_iconst (pc := 162) (v := 5) dL_wide_162 (by decide) ?_
                          refine tl_idiv (pc := 163) dL_wide_163 (by decide) ?_
                          refine tl_iconst (pc := 164) (v := 0) dL_wide_164 (by decide) ?_
                          refine tl_iconst (pc := 165) (v := 3) dL_wide_165 (by decide) ?_
                          refine tl_callVi (pc := 166) k_X5_edge gw_650 ho0.1 ⟨_, _, rfl⟩ (c_X5_edge T _ _ _ _ ho0) rfl rfl (Nat.le_of_ble_eq_true rfl) (Nat.le_of_ble_eq_true rfl) dL_wide_166 (fun x16 => ?_)
                          refine tl_aload_n (pc := 169) (i := 0) dL_wide_169 rfl rfl ?_
                          refine tl_iload_n (pc := 170) (i := 1) dL_wide_170 rfl rfl ?_
                          refine tl_iload_n (pc := 171) (i := 2) dL_wide_171 rfl rfl ?_
                          refine tl_iload_n (pc := 172) (i := 3) dL_wide_172 rfl rfl ?_
                          refine tl_bipush (pc := 173) (v := 11) dL_wide_173 (by decide) ?_
                          refine tl_callVi (pc := 175) k_X5_cell gw_620 ho0.1 ⟨_, _, rfl⟩ (c_X5_cell T _ _ _ _ ho0) rfl rfl (Nat.le_of_ble_eq_true rfl) (Nat.le_of_ble_eq_true rfl) dL_wide_175 (fun x17 => ?_)
                          refine tl_icmp_gt (pc := 178) (tgt := 185) dL_wide_178 rfl ?_ ?_
                          · exact tl_sub (hk5 ()) (sub_s (sub_s (sub_s (sub_s (sub_s (sub_n (sub_n (sub_s sub_e))))))))
                          · exact tl_sub (hk7 ()) (sub_s (sub_s (sub_s (sub_s (sub_s (sub_n (sub_n (sub_s sub_e))))))))
                    · refine tl_if_gt (pc := 123) (tgt := 150) dL_wide_123 rfl ?_ ?_
                      · exact tl_sub (hk6 ()) (sub_s (sub_s (sub_s (sub_s (sub_s (sub_n (sub_n (sub_s sub_e))))))))
                      · refine tl_aload_n (pc := 126) (i := 0) dL_wide_126 rfl rfl ?_
                        refine tl_iload (pc := 127) (i := 4) dL_wide_127 rfl ?_
                        refine tl_iconst (pc := 129) (v := 0) dL_wide_129 (by decide) ?_
                        refine tl_iload (pc := 130) (i := 7) dL_wide_130 rfl ?_
                        refine tl_iconst (pc := 132) (v := 5) dL_wide_132 (by decide) ?_
                        refine tl_irem (pc := 133) dL_wide_133 (by decide) ?_
                        refine tl_iconst (pc := 134) (v := 0) dL_wide_134 (by decide) ?_
                        refine tl_callVi (pc := 135) k_X5_edge gw_650 ho0.1 ⟨_, _, rfl⟩ (c_X5_edge T _ _ _ _ ho0) rfl rfl (Nat.le_of_ble_eq_true rfl) (Nat.le_of_ble_eq_true rfl) dL_wide_135 (fun x18 => ?_)
                        refine tl_aload_n (pc := 138) (i := 0) dL_wide_138 rfl rfl ?_
                        refine tl_iload_n (pc := 139) (i := 1) dL_wide_139 rfl rfl ?_
                        refine tl_iload_n (pc := 140) (i := 2) dL_wide_140 rfl rfl ?_
                        refine tl_iload_n (pc := 141) (i := 3) dL_wide_141 rfl rfl ?_
                        refine tl_bipush (pc := 142) (v := 8) dL_wide_142 (by decide) ?_
                        refine tl_callVi (pc := 144) k_X5_cell gw_620 ho0.1 ⟨_, _, rfl⟩ (c_X5_cell T _ _ _ _ ho0) rfl rfl (Nat.le_of_ble_eq_true rfl) (Nat.le_of_ble_eq_true rfl) dL_wide_144 (fun x19 => ?_)
                        refine tl_icmp_gt (pc := 147) (tgt := 185) dL_wide_147 rfl ?_ ?_
                        · exact tl_sub (hk5 ()) (sub_s (sub_s (sub_s (sub_s (sub_s (sub_n (sub_n (sub_s sub_e))))))))
                        · exact tl_sub (hk6 ()) (sub_s (sub_s (sub_s (sub_s (sub_s (sub_n (sub_n (sub_s sub_e))))))))
set_option maxRecDepth 100000 in
theorem c_L_wide (T : Tb) (p1 : Int32) (p2 : Int32) (p3 : Int32) (ho0 : isNS T) : CT (.code yL_wide cL_wide 8 (some .boolean)) yL_wide 8 iI T [.ref 0, .int p1, .int p2, .int p3] (F_L_wide p1 p2 p3) := by
  refine ct_of (lo := [some (.ref 0), some (.int p1), some (.int p2), some (.int p3), none, none, none, none]) (j := 4) k_L_wide.1 rfl (fun _ => Nat.le_of_ble_eq_true rfl) ?_
  show TL_L_wide T 0 _ _ _
  rw [F_L_wide]
  refine tl_aload_n (pc := 0) (i := 0) dL_wide_0 rfl rfl ?_
  refine tl_iload_n (pc := 1) (i := 1) dL_wide_1 rfl rfl ?_
  refine tl_iload_n (pc := 2) (i := 2) dL_wide_2 rfl rfl ?_
  refine tl_iload_n (pc := 3) (i := 3) dL_wide_3 rfl rfl ?_
  refine tl_bipush (pc := 4) (v := 7) dL_wide_4 (by decide) ?_
  refine tl_callVi (pc := 6) k_X5_cell gw_620 ho0.1 ⟨_, _, rfl⟩ (c_X5_cell T _ _ _ _ ho0) rfl rfl (Nat.le_of_ble_eq_true rfl) (Nat.le_of_ble_eq_true rfl) dL_wide_6 (fun x1 => ?_)
  refine tl_istore (pc := 9) (i := 4) (lo' := [some (.ref 0), some (.int p1), some (.int p2), some (.int p3), some (.int x1), none, none, none]) dL_wide_9 (by decide) rfl ?_
  refine tl_iconst (pc := 11) (v := 0) dL_wide_11 (by decide) ?_
  refine tl_istore (pc := 12) (i := 5) (lo' := [some (.ref 0), some (.int p1), some (.int p2), some (.int p3), some (.int x1), some (.int (0 : Int32)), none, none]) dL_wide_12 (by decide) rfl ?_
  refine tl_iload_n (pc := 14) (i := 3) dL_wide_14 rfl rfl ?_
  refine tl_istore (pc := 15) (i := 6) (lo' := [some (.ref 0), some (.int p1), some (.int p2), some (.int p3), some (.int x1), some (.int (0 : Int32)), some (.int p3), none]) dL_wide_15 (by decide) rfl ?_
  refine tl_sub (lp_L_wide_17 T p1 p2 p3 x1 ho0  _ (fun x7 => ?_) FU _ _) (sub_s (sub_s (sub_s (sub_s (sub_s (sub_s (sub_s (sub_n sub_e))))))))
  refine tl_aload_n (pc := 51) (i := 0) dL_wide_51 rfl rfl ?_
  refine tl_iload_n (pc := 52) (i := 1) dL_wide_52 rfl rfl ?_
  refine tl_iload_n (pc := 53) (i := 2) dL_wide_53 rfl rfl ?_
  refine tl_iload_n (pc := 54) (i := 3) dL_wide_54 rfl rfl ?_
  refine tl_iconst (pc := 55) (v := 5) dL_wide_55 (by decide) ?_
  refine tl_callVi (pc := 56) k_X5_cell gw_620 ho0.1 ⟨_, _, rfl⟩ (c_X5_cell T _ _ _ _ ho0) rfl rfl (Nat.le_of_ble_eq_true rfl) (Nat.le_of_ble_eq_true rfl) dL_wide_56 (fun x8 => ?_)
  refine tl_iload (pc := 59) (i := 5) dL_wide_59 rfl ?_
  refine tl_j (fun (k : Int32 → Dm Int32) => ∀ (x9 : Int32), TL_L_wide T 69 [some (.ref 0), some (.int p1), some (.int p2), some (.int p3), some (.int x1), none, none, none] [.int x9] (k x9)) (fun x9 => ?_) (fun k2 hk2 => ?_)
  · refine tl_istore (pc := 69) (i := 6) (lo' := [some (.ref 0), some (.int p1), some (.int p2), some (.int p3), some (.int x1), none, some (.int x9), none]) dL_wide_69 (by decide) rfl ?_
    refine tl_iconst (pc := 71) (v := 0) dL_wide_71 (by decide) ?_
    refine tl_istore (pc := 72) (i := 7) (lo' := [some (.ref 0), some (.int p1), some (.int p2), some (.int p3), some (.int x1), none, some (.int x9), some (.int (0 : Int32))]) dL_wide_72 (by decide) rfl ?_
    refine tl_sub (lp_L_wide_74 T p1 p2 p3 x1 ho0    FU _ _) (sub_s (sub_s (sub_s (sub_s (sub_s (sub_n (sub_s (sub_s sub_e))))))))
  · refine tl_icmp_gt (pc := 61) (tgt := 68) dL_wide_61 rfl ?_ ?_
    · refine tl_iconst (pc := 68) (v := 0) dL_wide_68 (by decide) ?_
      exact tl_sub (hk2 _) (sub_s (sub_s (sub_s (sub_s (sub_s (sub_n (sub_n (sub_n sub_e))))))))
    · refine tl_iconst (pc := 64) (v := 1) dL_wide_64 (by decide) ?_
      refine tl_goto (pc := 65) (tgt := 69) dL_wide_65 rfl ?_
      exact tl_sub (hk2 _) (sub_s (sub_s (sub_s (sub_s (sub_s (sub_n (sub_n (sub_n sub_e))))))))
abbrev TL_L_tables (T : Tb) (pc : Nat) (lo : List (Option Value)) (st : List Value) (X : Dm Int32) : Prop := TL yL_tables cL_tables 11 (some .boolean) 9 iI T pc lo st X
set_option maxRecDepth 100000 in
theorem lp_L_tables_15 (T : Tb)   (ho0 : isNS T)  (k1 : Int32 → Int32 → Int32 → Int32 → Int32 → Dm Int32) (hk1 : ∀ (y15_0 : Int32) (y15_1 : Int32) (y15_2 : Int32) (y15_3 : Int32) (y15_4 : Int32), TL_L_tables T 420 [some (.ref 0), some (.int y15_0), some (.int y15_1), some (.int y15_2), some (.int y15_3), some (.int y15_4), none, none, none, none, none] [] (k1 y15_0 y15_1 y15_2 y15_3 y15_4)) : ∀ (n : Nat) (x1 : Int32) (x2 : Int32) (x3 : Int32) (x4 : Int32) (x5 : Int32) (x6 : Int32), TL_L_tables T 15 [some (.ref 0), some (.int x1), some (.int x2), some (.int x3), some (.int x4), some (.int x5), some (.int x6), none, none, none, none] [] (L_L_tables_15  n x1 x2 x3 x4 x5 x6 k1) := by
  intro n
  induction n with
  | zero => intros; exact tl_fail
  | succ n ih =>
    intro x1 x2 x3 x4 x5 x6
    rw [L_L_tables_15]
    refine tl_iload (pc := 15) (i := 6) dL_tables_15 rfl ?_
    refine tl_bipush (pc := 17) (v := 25) dL_tables_17 (by decide) ?_
    refine tl_aload_n (pc := 19) (i := 0) dL_tables_19 rfl rfl ?_
    refine tl_iconst (pc := 20) (v := 0) dL_tables_20 (by decide) ?_
    refine tl_callVi (pc := 21) k_X5_count gw_471 ho0.1 ⟨_, _, rfl⟩ (c_X5_count T _ ho0) rfl rfl (Nat.le_of_ble_eq_true rfl) (Nat.le_of_ble_eq_true rfl) dL_tables_21 (fun x7 => ?_)
    refine tl_imul (pc := 24) dL_tables_24 ?_
    refine tl_icmp_ge (pc := 25) (tgt := 420) dL_tables_25 rfl ?_ ?_
    · exact tl_sub (hk1 _ _ _ _ _) (sub_s (sub_s (sub_s (sub_s (sub_s (sub_s (sub_n (sub_n (sub_n (sub_n (sub_n sub_e)))))))))))
    · refine tl_iload (pc := 28) (i := 5) dL_tables_28 rfl ?_
      refine tl_if_eq (pc := 30) (tgt := 420) dL_tables_30 rfl ?_ ?_
      · exact tl_sub (hk1 _ _ _ _ _) (sub_s (sub_s (sub_s (sub_s (sub_s (sub_s (sub_n (sub_n (sub_n (sub_n (sub_n sub_e)))))))))))
      · refine tl_iload (pc := 33) (i := 6) dL_tables_33 rfl ?_
        refine tl_bipush (pc := 35) (v := 25) dL_tables_35 (by decide) ?_
        refine tl_idiv (pc := 37) dL_tables_37 (by decide) ?_
        refine tl_bI (fun x8 => ?_)
        refine tl_istore (pc := 38) (i := 7) (lo' := [some (.ref 0), some (.int x1), some (.int x2), some (.int x3), some (.int x4), some (.int x5), some (.int x6), some (.int x8), none, none, none]) dL_tables_38 (by decide) rfl ?_
        refine tl_iload (pc := 40) (i := 6) dL_tables_40 rfl ?_
        refine tl_iconst (pc := 42) (v := 5) dL_tables_42 (by decide) ?_
        refine tl_idiv (pc := 43) dL_tables_43 (by decide) ?_
        refine tl_iconst (pc := 44) (v := 5) dL_tables_44 (by decide) ?_
        refine tl_irem (pc := 45) dL_tables_45 (by decide) ?_
        refine tl_bI (fun x9 => ?_)
        refine tl_istore (pc := 46) (i := 8) (lo' := [some (.ref 0), some (.int x1), some (.int x2), some (.int x3), some (.int x4), some (.int x5), some (.int x6), some (.int x8), some (.int x9), none, none]) dL_tables_46 (by decide) rfl ?_
        refine tl_iload (pc := 48) (i := 6) dL_tables_48 rfl ?_
        refine tl_iconst (pc := 50) (v := 5) dL_tables_50 (by decide) ?_
        refine tl_irem (pc := 51) dL_tables_51 (by decide) ?_
        refine tl_bI (fun x10 => ?_)
        refine tl_istore (pc := 52) (i := 9) (lo' := [some (.ref 0), some (.int x1), some (.int x2), some (.int x3), some (.int x4), some (.int x5), some (.int x6), some (.int x8), some (.int x9), some (.int x10), none]) dL_tables_52 (by decide) rfl ?_
        refine tl_iload (pc := 54) (i := 8) dL_tables_54 rfl ?_
        refine tl_aload_n (pc := 56) (i := 0) dL_tables_56 rfl rfl ?_
        refine tl_iload (pc := 57) (i := 7) dL_tables_57 rfl ?_
        refine tl_iconst (pc := 59) (v := 0) dL_tables_59 (by decide) ?_
        refine tl_callVi (pc := 60) k_X5_table gw_437 ho0.1 ⟨_, _, rfl⟩ (c_X5_table T _ _ ho0) rfl rfl (Nat.le_of_ble_eq_true rfl) (Nat.le_of_ble_eq_true rfl) dL_tables_60 (fun x11 => ?_)
        refine tl_j (fun (k : Int32 → Int32 → Int32 → Int32 → Int32 → Dm Int32) => ∀ (x12 : Int32) (x13 : Int32) (x14 : Int32) (x15 : Int32) (x16 : Int32), TL_L_tables T 414 [some (.ref 0), some (.int x12), some (.int x13), some (.int x14), some (.int x15), some (.int x16), some (.int x6), none, none, none, none] [] (k x12 x13 x14 x15 x16)) (fun x12 x13 x14 x15 x16 => ?_) (fun k2 hk2 => ?_)
        · refine tl_iinc (pc := 414) (i := 6) (v := x6 + (1 : Int32)) (lo' := [some (.ref 0), some (.int x12), some (.int x13), some (.int x14), some (.int x15), some (.int x16), some (.int (x6 + (1 : Int32))), none, none, none, none]) dL_tables_414 rfl rfl (by decide) rfl ?_
          refine tl_goto (pc := 417) (tgt := 15) dL_tables_417 rfl ?_
          exact tl_sub (ih _ _ _ _ _ _) (sub_s (sub_s (sub_s (sub_s (sub_s (sub_s (sub_s (sub_n (sub_n (sub_n (sub_n sub_e)))))))))))
        · refine tl_icmp_ge (pc := 63) (tgt := 414) dL_tables_63 rfl ?_ ?_
          · exact tl_sub (hk2 _ _ _ _ _) (sub_s (sub_s (sub_s (sub_s (sub_s (sub_s (sub_s (sub_n (sub_n (sub_n (sub_n sub_e)))))))))))
          · refine tl_iload (pc := 66) (i := 9) dL_tables_66 rfl ?_
            refine tl_aload_n (pc := 68) (i := 0) dL_tables_68 rfl rfl ?_
            refine tl_iload (pc := 69) (i := 7) dL_tables_69 rfl ?_
            refine tl_iconst (pc := 71) (v := 1) dL_tables_71 (by decide) ?_
            refine tl_callVi (pc := 72) k_X5_table gw_437 ho0.1 ⟨_, _, rfl⟩ (c_X5_table T _ _ ho0) rfl rfl (Nat.le_of_ble_eq_true rfl) (Nat.le_of_ble_eq_true rfl) dL_tables_72 (fun x17 => ?_)
            refine tl_icmp_ge (pc := 75) (tgt := 414) dL_tables_75 rfl ?_ ?_
            · exact tl_sub (hk2 _ _ _ _ _) (sub_s (sub_s (sub_s (sub_s (sub_s (sub_s (sub_s (sub_n (sub_n (sub_n (sub_n sub_e)))))))))))
            · refine tl_aload_n (pc := 78) (i := 0) dL_tables_78 rfl rfl ?_
              refine tl_iload (pc := 79) (i := 7) dL_tables_79 rfl ?_
              refine tl_iload (pc := 81) (i := 8) dL_tables_81 rfl ?_
              refine tl_iload (pc := 83) (i := 9) dL_tables_83 rfl ?_
              refine tl_iconst (pc := 85) (v := 0) dL_tables_85 (by decide) ?_
              refine tl_callVi (pc := 86) k_X5_cell gw_620 ho0.1 ⟨_, _, rfl⟩ (c_X5_cell T _ _ _ _ ho0) rfl rfl (Nat.le_of_ble_eq_true rfl) (Nat.le_of_ble_eq_true rfl) dL_tables_86 (fun x18 => ?_)
              refine tl_istore (pc := 89) (i := 10) (lo' := [some (.ref 0), some (.int x1), some (.int x2), some (.int x3), some (.int x4), some (.int x5), some (.int x6), some (.int x8), some (.int x9), some (.int x10), some (.int x18)]) dL_tables_89 (by decide) rfl ?_
              refine tl_iinc (pc := 91) (i := 2) (v := x2 + (1 : Int32)) (lo' := [some (.ref 0), some (.int x1), some (.int (x2 + (1 : Int32))), some (.int x3), some (.int x4), some (.int x5), some (.int x6), some (.int x8), some (.int x9), some (.int x10), some (.int x18)]) dL_tables_91 rfl rfl (by decide) rfl ?_
              refine tl_iload_n (pc := 94) (i := 3) dL_tables_94 rfl rfl ?_
              refine tl_iload (pc := 95) (i := 10) dL_tables_95 rfl ?_
              refine tl_iconst (pc := 97) (v := -1) dL_tables_97 (by decide) ?_
              refine tl_j (fun (k : Int32 → Dm Int32) => ∀ (x19 : Int32), TL_L_tables T 106 [some (.ref 0), some (.int x1), some (.int (x2 + (1 : Int32))), none, some (.int x4), none, some (.int x6), some (.int x8), some (.int x9), some (.int x10), some (.int x18)] [.int x19, .int x3] (k x19)) (fun x19 => ?_) (fun k3 hk3 => ?_)
              · refine tl_iadd (pc := 106) dL_tables_106 ?_
                refine tl_bI (fun x20 => ?_)
                refine tl_istore_n (pc := 107) (i := 3) (lo' := [some (.ref 0), some (.int x1), some (.int (x2 + (1 : Int32))), some (.int x20), some (.int x4), none, some (.int x6), some (.int x8), some (.int x9), some (.int x10), some (.int x18)]) dL_tables_107 rfl (by decide) rfl ?_
                refine tl_iload (pc := 108) (i := 4) dL_tables_108 rfl ?_
                refine tl_iload (pc := 110) (i := 10) dL_tables_110 rfl ?_
                refine tl_iconst (pc := 112) (v := 3) dL_tables_112 (by decide) ?_
                refine tl_j (fun (k : Int32 → Dm Int32) => ∀ (x21 : Int32), TL_L_tables T 121 [some (.ref 0), some (.int x1), some (.int (x2 + (1 : Int32))), some (.int x20), none, none, some (.int x6), some (.int x8), some (.int x9), some (.int x10), some (.int x18)] [.int x21, .int x4] (k x21)) (fun x21 => ?_) (fun k4 hk4 => ?_)
                · refine tl_iadd (pc := 121) dL_tables_121 ?_
                  refine tl_bI (fun x22 => ?_)
                  refine tl_istore (pc := 122) (i := 4) (lo' := [some (.ref 0), some (.int x1), some (.int (x2 + (1 : Int32))), some (.int x20), some (.int x22), none, some (.int x6), some (.int x8), some (.int x9), some (.int x10), some (.int x18)]) dL_tables_122 (by decide) rfl ?_
                  refine tl_iload_n (pc := 124) (i := 1) dL_tables_124 rfl rfl ?_
                  refine tl_iload (pc := 125) (i := 10) dL_tables_125 rfl ?_
                  refine tl_iconst (pc := 127) (v := 1) dL_tables_127 (by decide) ?_
                  refine tl_j (fun (k : Int32 → Dm Int32) => ∀ (x23 : Int32), TL_L_tables T 146 [some (.ref 0), none, some (.int (x2 + (1 : Int32))), some (.int x20), some (.int x22), none, some (.int x6), some (.int x8), some (.int x9), some (.int x10), some (.int x18)] [.int x23, .int x1] (k x23)) (fun x23 => ?_) (fun k5 hk5 => ?_)
                  · refine tl_iadd (pc := 146) dL_tables_146 ?_
                    refine tl_bI (fun x24 => ?_)
                    refine tl_istore_n (pc := 147) (i := 1) (lo' := [some (.ref 0), some (.int x24), some (.int (x2 + (1 : Int32))), some (.int x20), some (.int x22), none, some (.int x6), some (.int x8), some (.int x9), some (.int x10), some (.int x18)]) dL_tables_147 rfl (by decide) rfl ?_
                    refine tl_iload (pc := 148) (i := 10) dL_tables_148 rfl ?_
                    refine tl_iconst (pc := 150) (v := -1) dL_tables_150 (by decide) ?_
                    refine tl_j (fun (k : Int32 → Dm Int32) => ∀ (x25 : Int32), TL_L_tables T 228 [some (.ref 0), some (.int x24), some (.int (x2 + (1 : Int32))), some (.int x20), some (.int x22), none, some (.int x6), some (.int x8), some (.int x9), some (.int x10), some (.int x18)] [.int x25] (k x25)) (fun x25 => ?_) (fun k6 hk6 => ?_)
                    · refine tl_istore (pc := 228) (i := 5) (lo' := [some (.ref 0), some (.int x24), some (.int (x2 + (1 : Int32))), some (.int x20), some (.int x22), some (.int x25), some (.int x6), some (.int x8), some (.int x9), some (.int x10), some (.int x18)]) dL_tables_228 (by decide) rfl ?_
                      refine tl_iload (pc := 230) (i := 5) dL_tables_230 rfl ?_
                      refine tl_j (fun (k : Int32 → Dm Int32) => ∀ (x26 : Int32), TL_L_tables T 322 [some (.ref 0), some (.int x24), some (.int (x2 + (1 : Int32))), some (.int x20), some (.int x22), none, some (.int x6), some (.int x8), some (.int x9), some (.int x10), some (.int x18)] [.int x26] (k x26)) (fun x26 => ?_) (fun k7 hk7 => ?_)
                      · refine tl_istore (pc := 322) (i := 5) (lo' := [some (.ref 0), some (.int x24), some (.int (x2 + (1 : Int32))), some (.int x20), some (.int x22), some (.int x26), some (.int x6), some (.int x8), some (.int x9), some (.int x10), some (.int x18)]) dL_tables_322 (by decide) rfl ?_
                        refine tl_iload (pc := 324) (i := 5) dL_tables_324 rfl ?_
                        refine tl_j (fun (k : Int32 → Dm Int32) => ∀ (x27 : Int32), TL_L_tables T 412 [some (.ref 0), some (.int x24), some (.int (x2 + (1 : Int32))), some (.int x20), some (.int x22), none, some (.int x6), none, none, none, none] [.int x27] (k x27)) (fun x27 => ?_) (fun k8 hk8 => ?_)
                        · refine tl_istore (pc := 412) (i := 5) (lo' := [some (.ref 0), some (.int x24), some (.int (x2 + (1 : Int32))), some (.int x20), some (.int x22), some (.int x27), some (.int x6), none, none, none, none]) dL_tables_412 (by decide) rfl ?_
                          exact tl_sub (hk2 _ _ _ _ _) (sub_s (sub_s (sub_s (sub_s (sub_s (sub_s (sub_s (sub_n (sub_n (sub_n (sub_n sub_e)))))))))))
                        · refine tl_j (fun (k : Unit → Dm Int32) => ∀ (_ : Unit), TL_L_tables T 411 [some (.ref 0), some (.int x24), some (.int (x2 + (1 : Int32))), some (.int x20), some (.int x22), none, some (.int x6), none, none, none, none] [] (k ())) (fun _ => ?_) (fun k9 hk9 => ?_)
                          · refine tl_iconst (pc := 411) (v := 0) dL_tables_411 (by decide) ?_
                            exact tl_sub (hk8 _) (sub_s (sub_s (sub_s (sub_s (sub_s (sub_n (sub_s (sub_n (sub_n (sub_n (sub_n sub_e)))))))))))
                          · refine tl_if_eq (pc := 326) (tgt := 411) dL_tables_326 rfl ?_ ?_
                            · exact tl_sub (hk9 ()) (sub_s (sub_s (sub_s (sub_s (sub_s (sub_n (sub_s (sub_n (sub_n (sub_n (sub_n sub_e)))))))))))
                            · refine tl_iload (pc := 329) (i := 10) dL_tables_329 rfl ?_
                              refine tl_iconst (pc := 331) (v := 4) dL_tables_331 (by decide) ?_
                              refine tl_j (fun (k : Unit → Dm Int32) => ∀ (_ : Unit), TL_L_tables T 354 [some (.ref 0), some (.int x24), some (.int (x2 + (1 : Int32))), some (.int x20), some (.int x22), none, some (.int x6), some (.int x8), some (.int x9), some (.int x10), some (.int x18)] [] (k ())) (fun _ => ?_) (fun k10 hk10 => ?_)
                              · refine tl_iload (pc := 354) (i := 10) dL_tables_354 rfl ?_
                                refine tl_iconst (pc := 356) (v := 5) dL_tables_356 (by decide) ?_
                                refine tl_j (fun (k : Unit → Dm Int32) => ∀ (_ : Unit), TL_L_tables T 379 [some (.ref 0), some (.int x24), some (.int (x2 + (1 : Int32))), some (.int x20), some (.int x22), none, some (.int x6), some (.int x8), some (.int x9), some (.int x10), some (.int x18)] [] (k ())) (fun _ => ?_) (fun k11 hk11 => ?_)
                                · refine tl_iload (pc := 379) (i := 10) dL_tables_379 rfl ?_
                                  refine tl_bipush (pc := 381) (v := 6) dL_tables_381 (by decide) ?_
                                  refine tl_j (fun (k : Unit → Dm Int32) => ∀ (_ : Unit), TL_L_tables T 407 [some (.ref 0), some (.int x24), some (.int (x2 + (1 : Int32))), some (.int x20), some (.int x22), none, some (.int x6), none, none, none, none] [] (k ())) (fun _ => ?_) (fun k12 hk12 => ?_)
                                  · refine tl_iconst (pc := 407) (v := 1) dL_tables_407 (by decide) ?_
                                    refine tl_goto (pc := 408) (tgt := 412) dL_tables_408 rfl ?_
                                    exact tl_sub (hk8 _) (sub_s (sub_s (sub_s (sub_s (sub_s (sub_n (sub_s (sub_n (sub_n (sub_n (sub_n sub_e)))))))))))
                                  · refine tl_icmp_ne (pc := 383) (tgt := 407) dL_tables_383 rfl ?_ ?_
                                    · refine tl_aload_n (pc := 386) (i := 0) dL_tables_386 rfl rfl ?_
                                      refine tl_iload (pc := 387) (i := 7) dL_tables_387 rfl ?_
                                      refine tl_iload (pc := 389) (i := 8) dL_tables_389 rfl ?_
                                      refine tl_iload (pc := 391) (i := 9) dL_tables_391 rfl ?_
                                      refine tl_iconst (pc := 393) (v := 2) dL_tables_393 (by decide) ?_
                                      refine tl_callVi (pc := 394) k_X5_cell gw_620 ho0.1 ⟨_, _, rfl⟩ (c_X5_cell T _ _ _ _ ho0) rfl rfl (Nat.le_of_ble_eq_true rfl) (Nat.le_of_ble_eq_true rfl) dL_tables_394 (fun x28 => ?_)
                                      refine tl_aload_n (pc := 397) (i := 0) dL_tables_397 rfl rfl ?_
                                      refine tl_iload (pc := 398) (i := 7) dL_tables_398 rfl ?_
                                      refine tl_iconst (pc := 400) (v := 2) dL_tables_400 (by decide) ?_
                                      refine tl_callVi (pc := 401) k_X5_table gw_437 ho0.1 ⟨_, _, rfl⟩ (c_X5_table T _ _ ho0) rfl rfl (Nat.le_of_ble_eq_true rfl) (Nat.le_of_ble_eq_true rfl) dL_tables_401 (fun x29 => ?_)
                                      refine tl_icmp_ne (pc := 404) (tgt := 411) dL_tables_404 rfl ?_ ?_
                                      · exact tl_sub (hk12 ()) (sub_s (sub_s (sub_s (sub_s (sub_s (sub_n (sub_s (sub_n (sub_n (sub_n (sub_n sub_e)))))))))))
                                      · exact tl_sub (hk9 ()) (sub_s (sub_s (sub_s (sub_s (sub_s (sub_n (sub_s (sub_n (sub_n (sub_n (sub_n sub_e)))))))))))
                                    · exact tl_sub (hk12 ()) (sub_s (sub_s (sub_s (sub_s (sub_s (sub_n (sub_s (sub_n (sub_n (sub_n (sub_n sub_e)))))))))))
                                · refine tl_icmp_ne (pc := 357) (tgt := 379) dL_tables_357 rfl ?_ ?_
                                  · refine tl_iload (pc := 360) (i := 9) dL_tables_360 rfl ?_
                                    refine tl_if_gt (pc := 362) (tgt := 379) dL_tables_362 rfl ?_ ?_
                                    · exact tl_sub (hk11 ()) (sub_s (sub_s (sub_s (sub_s (sub_s (sub_n (sub_s (sub_s (sub_s (sub_s (sub_s sub_e)))))))))))
                                    · refine tl_aload_n (pc := 365) (i := 0) dL_tables_365 rfl rfl ?_
                                      refine tl_iload (pc := 366) (i := 7) dL_tables_366 rfl ?_
                                      refine tl_iload (pc := 368) (i := 8) dL_tables_368 rfl ?_
                                      refine tl_iload (pc := 370) (i := 9) dL_tables_370 rfl ?_
                                      refine tl_iconst (pc := 372) (v := 2) dL_tables_372 (by decide) ?_
                                      refine tl_callVi (pc := 373) k_X5_cell gw_620 ho0.1 ⟨_, _, rfl⟩ (c_X5_cell T _ _ _ _ ho0) rfl rfl (Nat.le_of_ble_eq_true rfl) (Nat.le_of_ble_eq_true rfl) dL_tables_373 (fun x30 => ?_)
                                      refine tl_if_ne (pc := 376) (tgt := 411) dL_tables_376 rfl ?_ ?_
                                      · exact tl_sub (hk11 ()) (sub_s (sub_s (sub_s (sub_s (sub_s (sub_n (sub_s (sub_s (sub_s (sub_s (sub_s sub_e)))))))))))
                                      · exact tl_sub (hk9 ()) (sub_s (sub_s (sub_s (sub_s (sub_s (sub_n (sub_s (sub_n (sub_n (sub_n (sub_n sub_e)))))))))))
                                  · exact tl_sub (hk11 ()) (sub_s (sub_s (sub_s (sub_s (sub_s (sub_n (sub_s (sub_s (sub_s (sub_s (sub_s sub_e)))))))))))
                              · refine tl_icmp_ne (pc := 332) (tgt := 354) dL_tables_332 rfl ?_ ?_
                                · refine tl_iload (pc := 335) (i := 8) dL_tables_335 rfl ?_
                                  refine tl_if_gt (pc := 337) (tgt := 354) dL_tables_337 rfl ?_ ?_
                                  · exact tl_sub (hk10 ()) (sub_s (sub_s (sub_s (sub_s (sub_s (sub_n (sub_s (sub_s (sub_s (sub_s (sub_s sub_e)))))))))))
                                  · refine tl_aload_n (pc := 340) (i := 0) dL_tables_340 rfl rfl ?_
                                    refine tl_iload (pc := 341) (i := 7) dL_tables_341 rfl ?_
                                    refine tl_iload (pc := 343) (i := 8) dL_tables_343 rfl ?_
                                    refine tl_iload (pc := 345) (i := 9) dL_tables_345 rfl ?_
                                    refine tl_iconst (pc := 347) (v := 2) dL_tables_347 (by decide) ?_
                                    refine tl_callVi (pc := 348) k_X5_cell gw_620 ho0.1 ⟨_, _, rfl⟩ (c_X5_cell T _ _ _ _ ho0) rfl rfl (Nat.le_of_ble_eq_true rfl) (Nat.le_of_ble_eq_true rfl) dL_tables_348 (fun x31 => ?_)
                                    refine tl_if_ne (pc := 351) (tgt := 411) dL_tables_351 rfl ?_ ?_
                                    · exact tl_sub (hk10 ()) (sub_s (sub_s (sub_s (sub_s (sub_s (sub_n (sub_s (sub_s (sub_s (sub_s (sub_s sub_e)))))))))))
                                    · exact tl_sub (hk9 ()) (sub_s (sub_s (sub_s (sub_s (sub_s (sub_n (sub_s (sub_n (sub_n (sub_n (sub_n sub_e)))))))))))
                                · exact tl_sub (hk10 ()) (sub_s (sub_s (sub_s (sub_s (sub_s (sub_n (sub_s (sub_s (sub_s (sub_s (sub_s sub_e)))))))))))
                      · refine tl_j (fun (k : Unit → Dm Int32) => ∀ (_ : Unit), TL_L_tables T 321 [some (.ref 0), some (.int x24), some (.int (x2 + (1 : Int32))), some (.int x20), some (.int x22), none, some (.int x6), some (.int x8), some (.int x9), some (.int x10), some (.int x18)] [] (k ())) (fun _ => ?_) (fun k13 hk13 => ?_)
                        · refine tl_iconst (pc := 321) (v := 0) dL_tables_321 (by decide) ?_
                          exact tl_sub (hk7 _) (sub_s (sub_s (sub_s (sub_s (sub_s (sub_n (sub_s (sub_s (sub_s (sub_s (sub_s sub_e)))))))))))
                        · refine tl_if_eq (pc := 232) (tgt := 321) dL_tables_232 rfl ?_ ?_
                          · exact tl_sub (hk13 ()) (sub_s (sub_s (sub_s (sub_s (sub_s (sub_n (sub_s (sub_s (sub_s (sub_s (sub_s sub_e)))))))))))
                          · refine tl_iload (pc := 235) (i := 9) dL_tables_235 rfl ?_
                            refine tl_iconst (pc := 237) (v := 1) dL_tables_237 (by decide) ?_
                            refine tl_iadd (pc := 238) dL_tables_238 ?_
                            refine tl_aload_n (pc := 239) (i := 0) dL_tables_239 rfl rfl ?_
                            refine tl_iload (pc := 240) (i := 7) dL_tables_240 rfl ?_
                            refine tl_iconst (pc := 242) (v := 1) dL_tables_242 (by decide) ?_
                            refine tl_callVi (pc := 243) k_X5_table gw_437 ho0.1 ⟨_, _, rfl⟩ (c_X5_table T _ _ ho0) rfl rfl (Nat.le_of_ble_eq_true rfl) (Nat.le_of_ble_eq_true rfl) dL_tables_243 (fun x32 => ?_)
                            refine tl_j (fun (k : Unit → Dm Int32) => ∀ (_ : Unit), TL_L_tables T 276 [some (.ref 0), some (.int x24), some (.int (x2 + (1 : Int32))), some (.int x20), some (.int x22), none, some (.int x6), some (.int x8), some (.int x9), some (.int x10), some (.int x18)] [] (k ())) (fun _ => ?_) (fun k14 hk14 => ?_)
                            · refine tl_iload (pc := 276) (i := 8) dL_tables_276 rfl ?_
                              refine tl_iconst (pc := 278) (v := 1) dL_tables_278 (by decide) ?_
                              refine tl_iadd (pc := 279) dL_tables_279 ?_
                              refine tl_aload_n (pc := 280) (i := 0) dL_tables_280 rfl rfl ?_
                              refine tl_iload (pc := 281) (i := 7) dL_tables_281 rfl ?_
                              refine tl_iconst (pc := 283) (v := 0) dL_tables_283 (by decide) ?_
                              refine tl_callVi (pc := 284) k_X5_table gw_437 ho0.1 ⟨_, _, rfl⟩ (c_X5_table T _ _ ho0) rfl rfl (Nat.le_of_ble_eq_true rfl) (Nat.le_of_ble_eq_true rfl) dL_tables_284 (fun x33 => ?_)
                              refine tl_j (fun (k : Unit → Dm Int32) => ∀ (_ : Unit), TL_L_tables T 317 [some (.ref 0), some (.int x24), some (.int (x2 + (1 : Int32))), some (.int x20), some (.int x22), none, some (.int x6), some (.int x8), some (.int x9), some (.int x10), some (.int x18)] [] (k ())) (fun _ => ?_) (fun k15 hk15 => ?_)
                              · refine tl_iconst (pc := 317) (v := 1) dL_tables_317 (by decide) ?_
                                refine tl_goto (pc := 318) (tgt := 322) dL_tables_318 rfl ?_
                                exact tl_sub (hk7 _) (sub_s (sub_s (sub_s (sub_s (sub_s (sub_n (sub_s (sub_s (sub_s (sub_s (sub_s sub_e)))))))))))
                              · refine tl_icmp_ge (pc := 287) (tgt := 317) dL_tables_287 rfl ?_ ?_
                                · exact tl_sub (hk15 ()) (sub_s (sub_s (sub_s (sub_s (sub_s (sub_n (sub_s (sub_s (sub_s (sub_s (sub_s sub_e)))))))))))
                                · refine tl_aload_n (pc := 290) (i := 0) dL_tables_290 rfl rfl ?_
                                  refine tl_iload (pc := 291) (i := 7) dL_tables_291 rfl ?_
                                  refine tl_iload (pc := 293) (i := 8) dL_tables_293 rfl ?_
                                  refine tl_iload (pc := 295) (i := 9) dL_tables_295 rfl ?_
                                  refine tl_iconst (pc := 297) (v := 2) dL_tables_297 (by decide) ?_
                                  refine tl_callVi (pc := 298) k_X5_edge gw_650 ho0.1 ⟨_, _, rfl⟩ (c_X5_edge T _ _ _ _ ho0) rfl rfl (Nat.le_of_ble_eq_true rfl) (Nat.le_of_ble_eq_true rfl) dL_tables_298 (fun x34 => ?_)
                                  refine tl_aload_n (pc := 301) (i := 0) dL_tables_301 rfl rfl ?_
                                  refine tl_iload (pc := 302) (i := 7) dL_tables_302 rfl ?_
                                  refine tl_iload (pc := 304) (i := 8) dL_tables_304 rfl ?_
                                  refine tl_iconst (pc := 306) (v := 1) dL_tables_306 (by decide) ?_
                                  refine tl_iadd (pc := 307) dL_tables_307 ?_
                                  refine tl_iload (pc := 308) (i := 9) dL_tables_308 rfl ?_
                                  refine tl_iconst (pc := 310) (v := 0) dL_tables_310 (by decide) ?_
                                  refine tl_callVi (pc := 311) k_X5_edge gw_650 ho0.1 ⟨_, _, rfl⟩ (c_X5_edge T _ _ _ _ ho0) rfl rfl (Nat.le_of_ble_eq_true rfl) (Nat.le_of_ble_eq_true rfl) dL_tables_311 (fun x35 => ?_)
                                  refine tl_icmp_ne (pc := 314) (tgt := 321) dL_tables_314 rfl ?_ ?_
                                  · exact tl_sub (hk15 ()) (sub_s (sub_s (sub_s (sub_s (sub_s (sub_n (sub_s (sub_s (sub_s (sub_s (sub_s sub_e)))))))))))
                                  · exact tl_sub (hk13 ()) (sub_s (sub_s (sub_s (sub_s (sub_s (sub_n (sub_s (sub_s (sub_s (sub_s (sub_s sub_e)))))))))))
                            · refine tl_icmp_ge (pc := 246) (tgt := 276) dL_tables_246 rfl ?_ ?_
                              · exact tl_sub (hk14 ()) (sub_s (sub_s (sub_s (sub_s (sub_s (sub_n (sub_s (sub_s (sub_s (sub_s (sub_s sub_e)))))))))))
                              · refine tl_aload_n (pc := 249) (i := 0) dL_tables_249 rfl rfl ?_
                                refine tl_iload (pc := 250) (i := 7) dL_tables_250 rfl ?_
                                refine tl_iload (pc := 252) (i := 8) dL_tables_252 rfl ?_
                                refine tl_iload (pc := 254) (i := 9) dL_tables_254 rfl ?_
                                refine tl_iconst (pc := 256) (v := 1) dL_tables_256 (by decide) ?_
                                refine tl_callVi (pc := 257) k_X5_edge gw_650 ho0.1 ⟨_, _, rfl⟩ (c_X5_edge T _ _ _ _ ho0) rfl rfl (Nat.le_of_ble_eq_true rfl) (Nat.le_of_ble_eq_true rfl) dL_tables_257 (fun x36 => ?_)
                                refine tl_aload_n (pc := 260) (i := 0) dL_tables_260 rfl rfl ?_
                                refine tl_iload (pc := 261) (i := 7) dL_tables_261 rfl ?_
                                refine tl_iload (pc := 263) (i := 8) dL_tables_263 rfl ?_
                                refine tl_iload (pc := 265) (i := 9) dL_tables_265 rfl ?_
                                refine tl_iconst (pc := 267) (v := 1) dL_tables_267 (by decide) ?_
                                refine tl_iadd (pc := 268) dL_tables_268 ?_
                                refine tl_iconst (pc := 269) (v := 3) dL_tables_269 (by decide) ?_
                                refine tl_callVi (pc := 270) k_X5_edge gw_650 ho0.1 ⟨_, _, rfl⟩ (c_X5_edge T _ _ _ _ ho0) rfl rfl (Nat.le_of_ble_eq_true rfl) (Nat.le_of_ble_eq_true rfl) dL_tables_270 (fun x37 => ?_)
                                refine tl_icmp_ne (pc := 273) (tgt := 321) dL_tables_273 rfl ?_ ?_
                                · exact tl_sub (hk14 ()) (sub_s (sub_s (sub_s (sub_s (sub_s (sub_n (sub_s (sub_s (sub_s (sub_s (sub_s sub_e)))))))))))
                                · exact tl_sub (hk13 ()) (sub_s (sub_s (sub_s (sub_s (sub_s (sub_n (sub_s (sub_s (sub_s (sub_s (sub_s sub_e)))))))))))
                    · refine tl_icmp_ne (pc := 151) (tgt := 191) dL_tables_151 rfl ?_ ?_
                      · refine tl_aload_n (pc := 154) (i := 0) dL_tables_154 rfl rfl ?_
                        refine tl_iload (pc := 155) (i := 7) dL_tables_155 rfl ?_
                        refine tl_iload (pc := 157) (i := 8) dL_tables_157 rfl ?_
                        refine tl_iload (pc := 159) (i := 9) dL_tables_159 rfl ?_
                        refine tl_callVi (pc := 161) k_X5_countedBy gw_630 ho0.1 ⟨_, _, rfl⟩ (c_X5_countedBy T _ _ _ ho0) rfl rfl (Nat.le_of_ble_eq_true rfl) (Nat.le_of_ble_eq_true rfl) dL_tables_161 (fun x40 => ?_)
                        refine tl_iconst (pc := 164) (v := -1) dL_tables_164 (by decide) ?_
                        refine tl_j (fun (k : Unit → Dm Int32) => ∀ (_ : Unit), TL_L_tables T 187 [some (.ref 0), some (.int x24), some (.int (x2 + (1 : Int32))), some (.int x20), some (.int x22), none, some (.int x6), some (.int x8), some (.int x9), some (.int x10), some (.int x18)] [] (k ())) (fun _ => ?_) (fun k18 hk18 => ?_)
                        · refine tl_iconst (pc := 187) (v := 0) dL_tables_187 (by decide) ?_
                          refine tl_goto (pc := 188) (tgt := 228) dL_tables_188 rfl ?_
                          exact tl_sub (hk6 _) (sub_s (sub_s (sub_s (sub_s (sub_s (sub_n (sub_s (sub_s (sub_s (sub_s (sub_s sub_e)))))))))))
                        · refine tl_icmp_ne (pc := 165) (tgt := 187) dL_tables_165 rfl ?_ ?_
                          · refine tl_aload_n (pc := 168) (i := 0) dL_tables_168 rfl rfl ?_
                            refine tl_iload (pc := 169) (i := 7) dL_tables_169 rfl ?_
                            refine tl_iload (pc := 171) (i := 8) dL_tables_171 rfl ?_
                            refine tl_iload (pc := 173) (i := 9) dL_tables_173 rfl ?_
                            refine tl_iconst (pc := 175) (v := 5) dL_tables_175 (by decide) ?_
                            refine tl_callVi (pc := 176) k_X5_cell gw_620 ho0.1 ⟨_, _, rfl⟩ (c_X5_cell T _ _ _ _ ho0) rfl rfl (Nat.le_of_ble_eq_true rfl) (Nat.le_of_ble_eq_true rfl) dL_tables_176 (fun x41 => ?_)
                            refine tl_iconst (pc := 179) (v := -1) dL_tables_179 (by decide) ?_
                            refine tl_icmp_ne (pc := 180) (tgt := 187) dL_tables_180 rfl ?_ ?_
                            · refine tl_iconst (pc := 183) (v := 1) dL_tables_183 (by decide) ?_
                              refine tl_goto (pc := 184) (tgt := 228) dL_tables_184 rfl ?_
                              exact tl_sub (hk6 _) (sub_s (sub_s (sub_s (sub_s (sub_s (sub_n (sub_s (sub_s (sub_s (sub_s (sub_s sub_e)))))))))))
                            · exact tl_sub (hk18 ()) (sub_s (sub_s (sub_s (sub_s (sub_s (sub_n (sub_s (sub_s (sub_s (sub_s (sub_s sub_e)))))))))))
                          · exact tl_sub (hk18 ()) (sub_s (sub_s (sub_s (sub_s (sub_s (sub_n (sub_s (sub_s (sub_s (sub_s (sub_s sub_e)))))))))))
                      · refine tl_iload (pc := 191) (i := 10) dL_tables_191 rfl ?_
                        refine tl_iconst (pc := 193) (v := 3) dL_tables_193 (by decide) ?_
                        refine tl_j (fun (k : Unit → Dm Int32) => ∀ (_ : Unit), TL_L_tables T 227 [some (.ref 0), some (.int x24), some (.int (x2 + (1 : Int32))), some (.int x20), some (.int x22), none, some (.int x6), some (.int x8), some (.int x9), some (.int x10), some (.int x18)] [] (k ())) (fun _ => ?_) (fun k16 hk16 => ?_)
                        · refine tl_iconst (pc := 227) (v := 0) dL_tables_227 (by decide) ?_
                          exact tl_sub (hk6 _) (sub_s (sub_s (sub_s (sub_s (sub_s (sub_n (sub_s (sub_s (sub_s (sub_s (sub_s sub_e)))))))))))
                        · refine tl_j (fun (k : Unit → Dm Int32) => ∀ (_ : Unit), TL_L_tables T 210 [some (.ref 0), some (.int x24), some (.int (x2 + (1 : Int32))), some (.int x20), some (.int x22), none, some (.int x6), some (.int x8), some (.int x9), some (.int x10), some (.int x18)] [] (k ())) (fun _ => ?_) (fun k17 hk17 => ?_)
                          · refine tl_aload_n (pc := 210) (i := 0) dL_tables_210 rfl rfl ?_
                            refine tl_iload (pc := 211) (i := 7) dL_tables_211 rfl ?_
                            refine tl_iload (pc := 213) (i := 8) dL_tables_213 rfl ?_
                            refine tl_iload (pc := 215) (i := 9) dL_tables_215 rfl ?_
                            refine tl_callSi (pc := 217) k_L_wide gw_642 (c_L_wide T _ _ _ ho0) rfl rfl (Nat.le_of_ble_eq_true rfl) (Nat.le_of_ble_eq_true rfl) dL_tables_217 (fun x38 => ?_)
                            refine tl_if_eq (pc := 220) (tgt := 227) dL_tables_220 rfl ?_ ?_
                            · exact tl_sub (hk16 ()) (sub_s (sub_s (sub_s (sub_s (sub_s (sub_n (sub_s (sub_s (sub_s (sub_s (sub_s sub_e)))))))))))
                            · refine tl_iconst (pc := 223) (v := 1) dL_tables_223 (by decide) ?_
                              refine tl_goto (pc := 224) (tgt := 228) dL_tables_224 rfl ?_
                              exact tl_sub (hk6 _) (sub_s (sub_s (sub_s (sub_s (sub_s (sub_n (sub_s (sub_s (sub_s (sub_s (sub_s sub_e)))))))))))
                          · refine tl_icmp_le (pc := 194) (tgt := 210) dL_tables_194 rfl ?_ ?_
                            · exact tl_sub (hk17 ()) (sub_s (sub_s (sub_s (sub_s (sub_s (sub_n (sub_s (sub_s (sub_s (sub_s (sub_s sub_e)))))))))))
                            · refine tl_aload_n (pc := 197) (i := 0) dL_tables_197 rfl rfl ?_
                              refine tl_iload (pc := 198) (i := 7) dL_tables_198 rfl ?_
                              refine tl_iload (pc := 200) (i := 8) dL_tables_200 rfl ?_
                              refine tl_iload (pc := 202) (i := 9) dL_tables_202 rfl ?_
                              refine tl_callVi (pc := 204) k_X5_countedBy gw_630 ho0.1 ⟨_, _, rfl⟩ (c_X5_countedBy T _ _ _ ho0) rfl rfl (Nat.le_of_ble_eq_true rfl) (Nat.le_of_ble_eq_true rfl) dL_tables_204 (fun x39 => ?_)
                              refine tl_if_ne (pc := 207) (tgt := 227) dL_tables_207 rfl ?_ ?_
                              · exact tl_sub (hk17 ()) (sub_s (sub_s (sub_s (sub_s (sub_s (sub_n (sub_s (sub_s (sub_s (sub_s (sub_s sub_e)))))))))))
                              · exact tl_sub (hk16 ()) (sub_s (sub_s (sub_s (sub_s (sub_s (sub_n (sub_s (sub_s (sub_s (sub_s (sub_s sub_e)))))))))))
                  · refine tl_icmp_ne (pc := 128) (tgt := 145) dL_tables_128 rfl ?_ ?_
                    · refine tl_aload_n (pc := 131) (i := 0) dL_tables_131 rfl rfl ?_
                      refine tl_iload (pc := 132) (i := 7) dL_tables_132 rfl ?_
                      refine tl_iload (pc := 134) (i := 8) dL_tables_134 rfl ?_
                      refine tl_iload (pc := 136) (i := 9) dL_tables_136 rfl ?_
                      refine tl_iconst (pc := 138) (v := 1) dL_tables_138 (by decide) ?_
                      refine tl_callVi (pc := 139) k_X5_cell gw_620 ho0.1 ⟨_, _, rfl⟩ (c_X5_cell T _ _ _ _ ho0) rfl rfl (Nat.le_of_ble_eq_true rfl) (Nat.le_of_ble_eq_true rfl) dL_tables_139 (fun x42 => ?_)
                      refine tl_goto (pc := 142) (tgt := 146) dL_tables_142 rfl ?_
                      exact tl_sub (hk5 _) (sub_s (sub_n (sub_s (sub_s (sub_s (sub_n (sub_s (sub_s (sub_s (sub_s (sub_s sub_e)))))))))))
                    · refine tl_iconst (pc := 145) (v := 0) dL_tables_145 (by decide) ?_
                      exact tl_sub (hk5 _) (sub_s (sub_n (sub_s (sub_s (sub_s (sub_n (sub_s (sub_s (sub_s (sub_s (sub_s sub_e)))))))))))
                · refine tl_icmp_ne (pc := 113) (tgt := 120) dL_tables_113 rfl ?_ ?_
                  · refine tl_iconst (pc := 116) (v := 1) dL_tables_116 (by decide) ?_
                    refine tl_goto (pc := 117) (tgt := 121) dL_tables_117 rfl ?_
                    exact tl_sub (hk4 _) (sub_s (sub_s (sub_s (sub_s (sub_n (sub_n (sub_s (sub_s (sub_s (sub_s (sub_s sub_e)))))))))))
                  · refine tl_iconst (pc := 120) (v := 0) dL_tables_120 (by decide) ?_
                    exact tl_sub (hk4 _) (sub_s (sub_s (sub_s (sub_s (sub_n (sub_n (sub_s (sub_s (sub_s (sub_s (sub_s sub_e)))))))))))
              · refine tl_icmp_ne (pc := 98) (tgt := 105) dL_tables_98 rfl ?_ ?_
                · refine tl_iconst (pc := 101) (v := 0) dL_tables_101 (by decide) ?_
                  refine tl_goto (pc := 102) (tgt := 106) dL_tables_102 rfl ?_
                  exact tl_sub (hk3 _) (sub_s (sub_s (sub_s (sub_n (sub_s (sub_n (sub_s (sub_s (sub_s (sub_s (sub_s sub_e)))))))))))
                · refine tl_iconst (pc := 105) (v := 1) dL_tables_105 (by decide) ?_
                  exact tl_sub (hk3 _) (sub_s (sub_s (sub_s (sub_n (sub_s (sub_n (sub_s (sub_s (sub_s (sub_s (sub_s sub_e)))))))))))
set_option maxRecDepth 100000 in
theorem lp_L_tables_426 (T : Tb)  (x43 : Int32) (x44 : Int32) (x45 : Int32) (x46 : Int32) (x47 : Int32) (ho0 : isNS T)  (k19 : Int32 → Dm Int32) (hk19 : ∀ (y426_0 : Int32), TL_L_tables T 452 [some (.ref 0), some (.int x43), some (.int x44), some (.int x45), some (.int x46), some (.int x47), some (.int y426_0), none, none, none, none] [] (k19 y426_0)) : ∀ (n : Nat) (x48 : Int32) (x49 : Int32), TL_L_tables T 426 [some (.ref 0), some (.int x43), some (.int x44), some (.int x45), some (.int x46), some (.int x47), some (.int x48), some (.int x49), none, none, none] [] (L_L_tables_426  n x48 x49 k19) := by
  intro n
  induction n with
  | zero => intros; exact tl_fail
  | succ n ih =>
    intro x48 x49
    rw [L_L_tables_426]
    refine tl_iload (pc := 426) (i := 7) dL_tables_426 rfl ?_
    refine tl_bipush (pc := 428) (v := 7) dL_tables_428 (by decide) ?_
    refine tl_icmp_ge (pc := 430) (tgt := 452) dL_tables_430 rfl ?_ ?_
    · exact tl_sub (hk19 _) (sub_s (sub_s (sub_s (sub_s (sub_s (sub_s (sub_s (sub_n (sub_n (sub_n (sub_n sub_e)))))))))))
    · refine tl_iload (pc := 433) (i := 6) dL_tables_433 rfl ?_
      refine tl_aload_n (pc := 435) (i := 0) dL_tables_435 rfl rfl ?_
      refine tl_iconst (pc := 436) (v := 2) dL_tables_436 (by decide) ?_
      refine tl_iload (pc := 437) (i := 7) dL_tables_437 rfl ?_
      refine tl_iadd (pc := 439) dL_tables_439 ?_
      refine tl_callVi (pc := 440) k_X5_count gw_471 ho0.1 ⟨_, _, rfl⟩ (c_X5_count T _ ho0) rfl rfl (Nat.le_of_ble_eq_true rfl) (Nat.le_of_ble_eq_true rfl) dL_tables_440 (fun x50 => ?_)
      refine tl_iadd (pc := 443) dL_tables_443 ?_
      refine tl_bI (fun x51 => ?_)
      refine tl_istore (pc := 444) (i := 6) (lo' := [some (.ref 0), some (.int x43), some (.int x44), some (.int x45), some (.int x46), some (.int x47), some (.int x51), some (.int x49), none, none, none]) dL_tables_444 (by decide) rfl ?_
      refine tl_iinc (pc := 446) (i := 7) (v := x49 + (1 : Int32)) (lo' := [some (.ref 0), some (.int x43), some (.int x44), some (.int x45), some (.int x46), some (.int x47), some (.int x51), some (.int (x49 + (1 : Int32))), none, none, none]) dL_tables_446 rfl rfl (by decide) rfl ?_
      refine tl_goto (pc := 449) (tgt := 426) dL_tables_449 rfl ?_
      exact tl_sub (ih _ _) (sub_s (sub_s (sub_s (sub_s (sub_s (sub_s (sub_s (sub_s (sub_n (sub_n (sub_n sub_e)))))))))))
set_option maxRecDepth 100000 in
theorem c_L_tables (T : Tb)  (ho0 : isNS T) : CT (.code yL_tables cL_tables 11 (some .boolean)) yL_tables 9 iI T [.ref 0] (F_L_tables) := by
  refine ct_of (lo := [some (.ref 0), none, none, none, none, none, none, none, none, none, none]) (j := 10) k_L_tables.1 rfl (fun _ => Nat.le_of_ble_eq_true rfl) ?_
  show TL_L_tables T 0 _ _ _
  rw [F_L_tables]
  refine tl_iconst (pc := 0) (v := 0) dL_tables_0 (by decide) ?_
  refine tl_istore_n (pc := 1) (i := 1) (lo' := [some (.ref 0), some (.int (0 : Int32)), none, none, none, none, none, none, none, none, none]) dL_tables_1 rfl (by decide) rfl ?_
  refine tl_iconst (pc := 2) (v := 0) dL_tables_2 (by decide) ?_
  refine tl_istore_n (pc := 3) (i := 2) (lo' := [some (.ref 0), some (.int (0 : Int32)), some (.int (0 : Int32)), none, none, none, none, none, none, none, none]) dL_tables_3 rfl (by decide) rfl ?_
  refine tl_iconst (pc := 4) (v := 0) dL_tables_4 (by decide) ?_
  refine tl_istore_n (pc := 5) (i := 3) (lo' := [some (.ref 0), some (.int (0 : Int32)), some (.int (0 : Int32)), some (.int (0 : Int32)), none, none, none, none, none, none, none]) dL_tables_5 rfl (by decide) rfl ?_
  refine tl_iconst (pc := 6) (v := 0) dL_tables_6 (by decide) ?_
  refine tl_istore (pc := 7) (i := 4) (lo' := [some (.ref 0), some (.int (0 : Int32)), some (.int (0 : Int32)), some (.int (0 : Int32)), some (.int (0 : Int32)), none, none, none, none, none, none]) dL_tables_7 (by decide) rfl ?_
  refine tl_iconst (pc := 9) (v := 1) dL_tables_9 (by decide) ?_
  refine tl_istore (pc := 10) (i := 5) (lo' := [some (.ref 0), some (.int (0 : Int32)), some (.int (0 : Int32)), some (.int (0 : Int32)), some (.int (0 : Int32)), some (.int (1 : Int32)), none, none, none, none, none]) dL_tables_10 (by decide) rfl ?_
  refine tl_iconst (pc := 12) (v := 0) dL_tables_12 (by decide) ?_
  refine tl_istore (pc := 13) (i := 6) (lo' := [some (.ref 0), some (.int (0 : Int32)), some (.int (0 : Int32)), some (.int (0 : Int32)), some (.int (0 : Int32)), some (.int (1 : Int32)), some (.int (0 : Int32)), none, none, none, none]) dL_tables_13 (by decide) rfl ?_
  refine tl_sub (lp_L_tables_15 T  ho0  _ (fun x43 x44 x45 x46 x47 => ?_) FU _ _ _ _ _ _) (sub_s (sub_s (sub_s (sub_s (sub_s (sub_s (sub_s (sub_n (sub_n (sub_n (sub_n sub_e)))))))))))
  refine tl_iconst (pc := 420) (v := 0) dL_tables_420 (by decide) ?_
  refine tl_istore (pc := 421) (i := 6) (lo' := [some (.ref 0), some (.int x43), some (.int x44), some (.int x45), some (.int x46), some (.int x47), some (.int (0 : Int32)), none, none, none, none]) dL_tables_421 (by decide) rfl ?_
  refine tl_iconst (pc := 423) (v := 0) dL_tables_423 (by decide) ?_
  refine tl_istore (pc := 424) (i := 7) (lo' := [some (.ref 0), some (.int x43), some (.int x44), some (.int x45), some (.int x46), some (.int x47), some (.int (0 : Int32)), some (.int (0 : Int32)), none, none, none]) dL_tables_424 (by decide) rfl ?_
  refine tl_sub (lp_L_tables_426 T x43 x44 x45 x46 x47 ho0  _ (fun x52 => ?_) FU _ _) (sub_s (sub_s (sub_s (sub_s (sub_s (sub_s (sub_s (sub_s (sub_n (sub_n (sub_n sub_e)))))))))))
  refine tl_iload (pc := 452) (i := 5) dL_tables_452 rfl ?_
  refine tl_if_eq (pc := 454) (tgt := 539) dL_tables_454 rfl ?_ ?_
  · refine tl_iconst (pc := 539) (v := 0) dL_tables_539 (by decide) ?_
    exact tl_zret (pc := 540) dL_tables_540
  · refine tl_aload_n (pc := 457) (i := 0) dL_tables_457 rfl rfl ?_
    refine tl_iconst (pc := 458) (v := 0) dL_tables_458 (by decide) ?_
    refine tl_iconst (pc := 459) (v := 2) dL_tables_459 (by decide) ?_
    refine tl_callVi (pc := 460) k_X5_table gw_437 ho0.1 ⟨_, _, rfl⟩ (c_X5_table T _ _ ho0) rfl rfl (Nat.le_of_ble_eq_true rfl) (Nat.le_of_ble_eq_true rfl) dL_tables_460 (fun x53 => ?_)
    refine tl_iload_n (pc := 463) (i := 1) dL_tables_463 rfl rfl ?_
    refine tl_icmp_ne (pc := 464) (tgt := 539) dL_tables_464 rfl ?_ ?_
    · refine tl_iload_n (pc := 467) (i := 3) dL_tables_467 rfl rfl ?_
      refine tl_aload_n (pc := 468) (i := 0) dL_tables_468 rfl rfl ?_
      refine tl_iconst (pc := 469) (v := 1) dL_tables_469 (by decide) ?_
      refine tl_callVi (pc := 470) k_X5_count gw_471 ho0.1 ⟨_, _, rfl⟩ (c_X5_count T _ ho0) rfl rfl (Nat.le_of_ble_eq_true rfl) (Nat.le_of_ble_eq_true rfl) dL_tables_470 (fun x54 => ?_)
      refine tl_icmp_ne (pc := 473) (tgt := 539) dL_tables_473 rfl ?_ ?_
      · refine tl_iload_n (pc := 476) (i := 2) dL_tables_476 rfl rfl ?_
        refine tl_iload_n (pc := 477) (i := 3) dL_tables_477 rfl rfl ?_
        refine tl_aload_n (pc := 478) (i := 0) dL_tables_478 rfl rfl ?_
        refine tl_bipush (pc := 479) (v := 11) dL_tables_479 (by decide) ?_
        refine tl_callVi (pc := 481) k_X5_count gw_471 ho0.1 ⟨_, _, rfl⟩ (c_X5_count T _ ho0) rfl rfl (Nat.le_of_ble_eq_true rfl) (Nat.le_of_ble_eq_true rfl) dL_tables_481 (fun x55 => ?_)
        refine tl_iadd (pc := 484) dL_tables_484 ?_
        refine tl_icmp_ne (pc := 485) (tgt := 539) dL_tables_485 rfl ?_ ?_
        · refine tl_iload (pc := 488) (i := 4) dL_tables_488 rfl ?_
          refine tl_aload_n (pc := 490) (i := 0) dL_tables_490 rfl rfl ?_
          refine tl_iconst (pc := 491) (v := 5) dL_tables_491 (by decide) ?_
          refine tl_callVi (pc := 492) k_X5_count gw_471 ho0.1 ⟨_, _, rfl⟩ (c_X5_count T _ ho0) rfl rfl (Nat.le_of_ble_eq_true rfl) (Nat.le_of_ble_eq_true rfl) dL_tables_492 (fun x56 => ?_)
          refine tl_icmp_ne (pc := 495) (tgt := 539) dL_tables_495 rfl ?_ ?_
          · refine tl_aload_n (pc := 498) (i := 0) dL_tables_498 rfl rfl ?_
            refine tl_iconst (pc := 499) (v := 0) dL_tables_499 (by decide) ?_
            refine tl_callVi (pc := 500) k_X5_count gw_471 ho0.1 ⟨_, _, rfl⟩ (c_X5_count T _ ho0) rfl rfl (Nat.le_of_ble_eq_true rfl) (Nat.le_of_ble_eq_true rfl) dL_tables_500 (fun x57 => ?_)
            refine tl_iload (pc := 503) (i := 4) dL_tables_503 rfl ?_
            refine tl_iconst (pc := 505) (v := 1) dL_tables_505 (by decide) ?_
            refine tl_iadd (pc := 506) dL_tables_506 ?_
            refine tl_icmp_ne (pc := 507) (tgt := 539) dL_tables_507 rfl ?_ ?_
            · refine tl_iload (pc := 510) (i := 6) dL_tables_510 rfl ?_
              refine tl_iload_n (pc := 512) (i := 3) dL_tables_512 rfl rfl ?_
              refine tl_icmp_ne (pc := 513) (tgt := 539) dL_tables_513 rfl ?_ ?_
              · refine tl_aload_n (pc := 516) (i := 0) dL_tables_516 rfl rfl ?_
                refine tl_callVd (pc := 517) k_X5_filledShare gw_654 ho0.1 ⟨_, _, rfl⟩ (c_X5_filledShare T ho0) rfl rfl (Nat.le_of_ble_eq_true rfl) (Nat.le_of_ble_eq_true rfl) dL_tables_517 (fun x58 => ?_)
                refine tl_iload_n (pc := 520) (i := 3) dL_tables_520 rfl rfl ?_
                refine tl_aload_n (pc := 521) (i := 0) dL_tables_521 rfl rfl ?_
                refine tl_iconst (pc := 522) (v := 2) dL_tables_522 (by decide) ?_
                refine tl_callVi (pc := 523) k_X5_count gw_471 ho0.1 ⟨_, _, rfl⟩ (c_X5_count T _ ho0) rfl rfl (Nat.le_of_ble_eq_true rfl) (Nat.le_of_ble_eq_true rfl) dL_tables_523 (fun x59 => ?_)
                refine tl_isub (pc := 526) dL_tables_526 ?_
                refine tl_i2d (pc := 527) dL_tables_527 ?_
                refine tl_iload_n (pc := 528) (i := 3) dL_tables_528 rfl rfl ?_
                refine tl_i2d (pc := 529) dL_tables_529 ?_
                refine tl_ddiv (pc := 530) dL_tables_530 ?_
                refine tl_dcmp (pc := 531) dL_tables_531 ?_
                refine tl_if_ne (pc := 532) (tgt := 539) dL_tables_532 rfl ?_ ?_
                · refine tl_iconst (pc := 535) (v := 1) dL_tables_535 (by decide) ?_
                  refine tl_goto (pc := 536) (tgt := 540) dL_tables_536 rfl ?_
                  exact tl_zret (pc := 540) dL_tables_540
                · refine tl_iconst (pc := 539) (v := 0) dL_tables_539 (by decide) ?_
                  exact tl_zret (pc := 540) dL_tables_540
              · refine tl_iconst (pc := 539) (v := 0) dL_tables_539 (by decide) ?_
                exact tl_zret (pc := 540) dL_tables_540
            · refine tl_iconst (pc := 539) (v := 0) dL_tables_539 (by decide) ?_
              exact tl_zret (pc := 540) dL_tables_540
          · refine tl_iconst (pc := 539) (v := 0) dL_tables_539 (by decide) ?_
            exact tl_zret (pc := 540) dL_tables_540
        · refine tl_iconst (pc := 539) (v := 0) dL_tables_539 (by decide) ?_
          exact tl_zret (pc := 540) dL_tables_540
      · refine tl_iconst (pc := 539) (v := 0) dL_tables_539 (by decide) ?_
        exact tl_zret (pc := 540) dL_tables_540
    · refine tl_iconst (pc := 539) (v := 0) dL_tables_539 (by decide) ?_
      exact tl_zret (pc := 540) dL_tables_540
abbrev TL_L_pages (T : Tb) (pc : Nat) (lo : List (Option Value)) (st : List Value) (X : Dm Int32) : Prop := TL yL_pages cL_pages 4 (some .boolean) 8 iI T pc lo st X
set_option maxRecDepth 100000 in
theorem lp_L_pages_41 (T : Tb)  (x1 : Int32) (ho0 : isNS T)  (k2 : Int32 → Dm Int32) (hk2 : ∀ (y41_0 : Int32), TL_L_pages T 94 [some (.ref 0), none, some (.int y41_0), none] [] (k2 y41_0)) : ∀ (n : Nat) (x4 : Int32) (x5 : Int32), TL_L_pages T 41 [some (.ref 0), some (.int x1), some (.int x4), some (.int x5)] [] (L_L_pages_41 x1 n x4 x5 k2) := by
  intro n
  induction n with
  | zero => intros; exact tl_fail
  | succ n ih =>
    intro x4 x5
    rw [L_L_pages_41]
    refine tl_iload_n (pc := 41) (i := 3) dL_pages_41 rfl rfl ?_
    refine tl_iload_n (pc := 42) (i := 1) dL_pages_42 rfl rfl ?_
    refine tl_icmp_ge (pc := 43) (tgt := 94) dL_pages_43 rfl ?_ ?_
    · exact tl_sub (hk2 _) (sub_s (sub_n (sub_s (sub_n sub_e))))
    · refine tl_iload_n (pc := 46) (i := 2) dL_pages_46 rfl rfl ?_
      refine tl_if_eq (pc := 47) (tgt := 94) dL_pages_47 rfl ?_ ?_
      · exact tl_sub (hk2 _) (sub_s (sub_n (sub_s (sub_n sub_e))))
      · refine tl_aload_n (pc := 50) (i := 0) dL_pages_50 rfl rfl ?_
        refine tl_iload_n (pc := 51) (i := 3) dL_pages_51 rfl rfl ?_
        refine tl_callVi (pc := 52) k_X5_page gw_661 ho0.1 ⟨_, _, rfl⟩ (c_X5_page T _ ho0) rfl rfl (Nat.le_of_ble_eq_true rfl) (Nat.le_of_ble_eq_true rfl) dL_pages_52 (fun x6 => ?_)
        refine tl_aload_n (pc := 55) (i := 0) dL_pages_55 rfl rfl ?_
        refine tl_iload_n (pc := 56) (i := 3) dL_pages_56 rfl rfl ?_
        refine tl_iconst (pc := 57) (v := 1) dL_pages_57 (by decide) ?_
        refine tl_isub (pc := 58) dL_pages_58 ?_
        refine tl_callVi (pc := 59) k_X5_page gw_661 ho0.1 ⟨_, _, rfl⟩ (c_X5_page T _ ho0) rfl rfl (Nat.le_of_ble_eq_true rfl) (Nat.le_of_ble_eq_true rfl) dL_pages_59 (fun x7 => ?_)
        refine tl_j (fun (k : Int32 → Dm Int32) => ∀ (x8 : Int32), TL_L_pages T 87 [some (.ref 0), some (.int x1), none, some (.int x5)] [.int x8] (k x8)) (fun x8 => ?_) (fun k3 hk3 => ?_)
        · refine tl_istore_n (pc := 87) (i := 2) (lo' := [some (.ref 0), some (.int x1), some (.int x8), some (.int x5)]) dL_pages_87 rfl (by decide) rfl ?_
          refine tl_iinc (pc := 88) (i := 3) (v := x5 + (1 : Int32)) (lo' := [some (.ref 0), some (.int x1), some (.int x8), some (.int (x5 + (1 : Int32)))]) dL_pages_88 rfl rfl (by decide) rfl ?_
          refine tl_goto (pc := 91) (tgt := 41) dL_pages_91 rfl ?_
          exact tl_sub (ih _ _) (sub_s (sub_s (sub_s (sub_s sub_e))))
        · refine tl_j (fun (k : Unit → Dm Int32) => ∀ (_ : Unit), TL_L_pages T 82 [some (.ref 0), some (.int x1), none, some (.int x5)] [] (k ())) (fun _ => ?_) (fun k4 hk4 => ?_)
          · refine tl_iconst (pc := 82) (v := 1) dL_pages_82 (by decide) ?_
            refine tl_goto (pc := 83) (tgt := 87) dL_pages_83 rfl ?_
            exact tl_sub (hk3 _) (sub_s (sub_s (sub_n (sub_s sub_e))))
          · refine tl_icmp_eq (pc := 62) (tgt := 82) dL_pages_62 rfl ?_ ?_
            · exact tl_sub (hk4 ()) (sub_s (sub_s (sub_n (sub_s sub_e))))
            · refine tl_aload_n (pc := 65) (i := 0) dL_pages_65 rfl rfl ?_
              refine tl_iload_n (pc := 66) (i := 3) dL_pages_66 rfl rfl ?_
              refine tl_callVi (pc := 67) k_X5_page gw_661 ho0.1 ⟨_, _, rfl⟩ (c_X5_page T _ ho0) rfl rfl (Nat.le_of_ble_eq_true rfl) (Nat.le_of_ble_eq_true rfl) dL_pages_67 (fun x9 => ?_)
              refine tl_aload_n (pc := 70) (i := 0) dL_pages_70 rfl rfl ?_
              refine tl_iload_n (pc := 71) (i := 3) dL_pages_71 rfl rfl ?_
              refine tl_iconst (pc := 72) (v := 1) dL_pages_72 (by decide) ?_
              refine tl_isub (pc := 73) dL_pages_73 ?_
              refine tl_callVi (pc := 74) k_X5_page gw_661 ho0.1 ⟨_, _, rfl⟩ (c_X5_page T _ ho0) rfl rfl (Nat.le_of_ble_eq_true rfl) (Nat.le_of_ble_eq_true rfl) dL_pages_74 (fun x10 => ?_)
              refine tl_iconst (pc := 77) (v := 1) dL_pages_77 (by decide) ?_
              refine tl_iadd (pc := 78) dL_pages_78 ?_
              refine tl_icmp_ne (pc := 79) (tgt := 86) dL_pages_79 rfl ?_ ?_
              · exact tl_sub (hk4 ()) (sub_s (sub_s (sub_n (sub_s sub_e))))
              · refine tl_iconst (pc := 86) (v := 0) dL_pages_86 (by decide) ?_
                exact tl_sub (hk3 _) (sub_s (sub_s (sub_n (sub_s sub_e))))
set_option maxRecDepth 100000 in
theorem c_L_pages (T : Tb)  (ho0 : isNS T) : CT (.code yL_pages cL_pages 4 (some .boolean)) yL_pages 8 iI T [.ref 0] (F_L_pages) := by
  refine ct_of (lo := [some (.ref 0), none, none, none]) (j := 3) k_L_pages.1 rfl (fun _ => Nat.le_of_ble_eq_true rfl) ?_
  show TL_L_pages T 0 _ _ _
  rw [F_L_pages]
  refine tl_aload_n (pc := 0) (i := 0) dL_pages_0 rfl rfl ?_
  refine tl_iconst (pc := 1) (v := 0) dL_pages_1 (by decide) ?_
  refine tl_iconst (pc := 2) (v := 0) dL_pages_2 (by decide) ?_
  refine tl_callVi (pc := 3) k_X5_table gw_437 ho0.1 ⟨_, _, rfl⟩ (c_X5_table T _ _ ho0) rfl rfl (Nat.le_of_ble_eq_true rfl) (Nat.le_of_ble_eq_true rfl) dL_pages_3 (fun x1 => ?_)
  refine tl_istore_n (pc := 6) (i := 1) (lo' := [some (.ref 0), some (.int x1), none, none]) dL_pages_6 rfl (by decide) rfl ?_
  refine tl_aload_n (pc := 7) (i := 0) dL_pages_7 rfl rfl ?_
  refine tl_iconst (pc := 8) (v := 0) dL_pages_8 (by decide) ?_
  refine tl_callVi (pc := 9) k_X5_page gw_661 ho0.1 ⟨_, _, rfl⟩ (c_X5_page T _ ho0) rfl rfl (Nat.le_of_ble_eq_true rfl) (Nat.le_of_ble_eq_true rfl) dL_pages_9 (fun x2 => ?_)
  refine tl_j (fun (k : Int32 → Dm Int32) => ∀ (x3 : Int32), TL_L_pages T 38 [some (.ref 0), some (.int x1), none, none] [.int x3] (k x3)) (fun x3 => ?_) (fun k1 hk1 => ?_)
  · refine tl_istore_n (pc := 38) (i := 2) (lo' := [some (.ref 0), some (.int x1), some (.int x3), none]) dL_pages_38 rfl (by decide) rfl ?_
    refine tl_iconst (pc := 39) (v := 1) dL_pages_39 (by decide) ?_
    refine tl_istore_n (pc := 40) (i := 3) (lo' := [some (.ref 0), some (.int x1), some (.int x3), some (.int (1 : Int32))]) dL_pages_40 rfl (by decide) rfl ?_
    refine tl_sub (lp_L_pages_41 T x1 ho0  _ (fun x11 => ?_) FU _ _) (sub_s (sub_s (sub_s (sub_s sub_e))))
    refine tl_aload_n (pc := 94) (i := 0) dL_pages_94 rfl rfl ?_
    refine tl_aload_n (pc := 95) (i := 0) dL_pages_95 rfl rfl ?_
    refine tl_bipush (pc := 96) (v := 9) dL_pages_96 (by decide) ?_
    refine tl_callVi (pc := 98) k_X5_count gw_471 ho0.1 ⟨_, _, rfl⟩ (c_X5_count T _ ho0) rfl rfl (Nat.le_of_ble_eq_true rfl) (Nat.le_of_ble_eq_true rfl) dL_pages_98 (fun x12 => ?_)
    refine tl_callVi (pc := 101) k_X5_heightFor gw_666 ho0.1 ⟨_, _, rfl⟩ (c_X5_heightFor T _ ho0) rfl rfl (Nat.le_of_ble_eq_true rfl) (Nat.le_of_ble_eq_true rfl) dL_pages_101 (fun x13 => ?_)
    refine tl_istore_n (pc := 104) (i := 3) (lo' := [some (.ref 0), none, some (.int x11), some (.int x13)]) dL_pages_104 rfl (by decide) rfl ?_
    refine tl_iload_n (pc := 105) (i := 2) dL_pages_105 rfl rfl ?_
    refine tl_if_eq (pc := 106) (tgt := 118) dL_pages_106 rfl ?_ ?_
    · refine tl_iconst (pc := 118) (v := 0) dL_pages_118 (by decide) ?_
      exact tl_zret (pc := 119) dL_pages_119
    · refine tl_iload_n (pc := 109) (i := 3) dL_pages_109 rfl rfl ?_
      refine tl_iconst (pc := 110) (v := 1) dL_pages_110 (by decide) ?_
      refine tl_icmp_lt (pc := 111) (tgt := 118) dL_pages_111 rfl ?_ ?_
      · refine tl_iconst (pc := 118) (v := 0) dL_pages_118 (by decide) ?_
        exact tl_zret (pc := 119) dL_pages_119
      · refine tl_iconst (pc := 114) (v := 1) dL_pages_114 (by decide) ?_
        refine tl_goto (pc := 115) (tgt := 119) dL_pages_115 rfl ?_
        exact tl_zret (pc := 119) dL_pages_119
  · refine tl_j (fun (k : Unit → Dm Int32) => ∀ (_ : Unit), TL_L_pages T 37 [some (.ref 0), some (.int x1), none, none] [] (k ())) (fun _ => ?_) (fun k5 hk5 => ?_)
    · refine tl_iconst (pc := 37) (v := 0) dL_pages_37 (by decide) ?_
      exact tl_sub (hk1 _) (sub_s (sub_s (sub_n (sub_n sub_e))))
    · refine tl_if_ne (pc := 12) (tgt := 37) dL_pages_12 rfl ?_ ?_
      · refine tl_aload_n (pc := 15) (i := 0) dL_pages_15 rfl rfl ?_
        refine tl_bipush (pc := 16) (v := 9) dL_pages_16 (by decide) ?_
        refine tl_callVi (pc := 18) k_X5_count gw_471 ho0.1 ⟨_, _, rfl⟩ (c_X5_count T _ ho0) rfl rfl (Nat.le_of_ble_eq_true rfl) (Nat.le_of_ble_eq_true rfl) dL_pages_18 (fun x14 => ?_)
        refine tl_aload_n (pc := 21) (i := 0) dL_pages_21 rfl rfl ?_
        refine tl_iload_n (pc := 22) (i := 1) dL_pages_22 rfl rfl ?_
        refine tl_iconst (pc := 23) (v := 1) dL_pages_23 (by decide) ?_
        refine tl_isub (pc := 24) dL_pages_24 ?_
        refine tl_callVi (pc := 25) k_X5_page gw_661 ho0.1 ⟨_, _, rfl⟩ (c_X5_page T _ ho0) rfl rfl (Nat.le_of_ble_eq_true rfl) (Nat.le_of_ble_eq_true rfl) dL_pages_25 (fun x15 => ?_)
        refine tl_iconst (pc := 28) (v := 1) dL_pages_28 (by decide) ?_
        refine tl_iadd (pc := 29) dL_pages_29 ?_
        refine tl_icmp_ne (pc := 30) (tgt := 37) dL_pages_30 rfl ?_ ?_
        · refine tl_iconst (pc := 33) (v := 1) dL_pages_33 (by decide) ?_
          refine tl_goto (pc := 34) (tgt := 38) dL_pages_34 rfl ?_
          exact tl_sub (hk1 _) (sub_s (sub_s (sub_n (sub_n sub_e))))
        · exact tl_sub (hk5 ()) (sub_s (sub_s (sub_n (sub_n sub_e))))
      · exact tl_sub (hk5 ()) (sub_s (sub_s (sub_n (sub_n sub_e))))
