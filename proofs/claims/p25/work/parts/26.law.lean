/-- a step of the law: done, or nothing is changed -/
def StL (I : Mm → Prop) (X : Dm Int32) : Prop := ∀ σ, I σ → ∃ v σ1, X σ = some (.inl v, σ1) ∧ I σ1 ∧ (0 ≤ v ∨ σ1 = σ)
def LawSteps (I : Mm → Prop) : Prop :=
  (∀ σ, I σ → (∃ v, F_X5_count 12 σ = some (.inl v, σ)) ∧ (∃ v, F_X5_count 1 σ = some (.inl v, σ)) ∧ (∃ v, F_X5_table 0 2 σ = some (.inl v, σ))) ∧
  (∀ σ, I σ → F_L_pages σ = some (.inl 1, σ)) ∧ (∀ σ, I σ → F_L_tables σ = some (.inl 1, σ)) ∧
  StL I F_L_undo ∧ (∀ x y, StL I (F_X5_begin (1 + lowI x 5) (1 + lowI y 5))) ∧ (∀ x, StL I (F_X5_set (1 + lowI x 60))) ∧ (∀ a b c d, StL I (F_L_act a b c d))
def loI (b N i : Nat) : List (Option Value) := [some (.retAddr b), some (.ref 0), some (.int 1), some (.int (Int32.ofNat N)), some (.int (Int32.ofNat i)), none, none, none, none, none, none]
set_option maxRecDepth 100000 in
theorem lt_278 {nm : String} {et : List ExceptionTableEntry} {b L N i k n : Nat} {xs : Nat → Int32} {T : Tb} {σ : Mm} {I : Mm → Prop} {v12 v1 v2 x8 x9 v : Int32} (hL2 : L ≤ 260) (hi : i < 24) (hk : k + 1 ≤ 600086) (hn : n + 6 ≤ 7301442) (hN : isNS T) (hS : LawSteps I) (hI : I σ) (KK : ∀ σ1, I σ1 → Lw nm et b L xs false (k + 1) (n + 6) T 32 (loI b N (i + 1)) [] σ1) : Lw nm et b L xs false (k + 1) (n + 6) T 278 [some (.retAddr b), some (.ref 0), some (.int 1), some (.int (Int32.ofNat N)), some (.int (Int32.ofNat i)), some (.int v12), some (.int v1), some (.int v2), some (.int x8), some (.int x9), some (.int v)] [] σ := by
  refine rn_iconst (pc := 278) (v := 1) dL_law_278 (by decide) ?_
  refine rn_goto (pc := 279) (tgt := 283) dL_law_279 rfl ?_
  refine rn_istore_n (pc := 283) (i := 2) (lo' := [some (.retAddr b), some (.ref 0), some (.int 1), some (.int (Int32.ofNat N)), some (.int (Int32.ofNat i)), some (.int v12), some (.int v1), some (.int v2), some (.int x8), some (.int x9), some (.int v)]) dL_law_283 rfl (by decide) rfl ?_
  refine rn_iinc (pc := 284) (i := 4) (v := Int32.ofNat (i + 1)) (lo' := [some (.retAddr b), some (.ref 0), some (.int 1), some (.int (Int32.ofNat N)), some (.int (Int32.ofNat (i + 1))), some (.int v12), some (.int v1), some (.int v2), some (.int x8), some (.int x9), some (.int v)]) dL_law_284 rfl (lr_add (a := i) (j := 1) (by omega)) (by decide) rfl ?_
  refine rn_goto (pc := 287) (tgt := 32) dL_law_287 rfl ?_
  exact rn_sub (KK σ hI) ⟨rfl, rfl, rfl, rfl, rfl, trivial⟩
set_option maxRecDepth 100000 in
theorem lt_271 {nm : String} {et : List ExceptionTableEntry} {b L N i k n : Nat} {xs : Nat → Int32} {T : Tb} {σ : Mm} {I : Mm → Prop} {v12 v1 v2 x8 x9 v : Int32} (hL2 : L ≤ 260) (hi : i < 24) (hk : k + 1 ≤ 600086) (hn : n + 6 ≤ 7301442) (hN : isNS T) (hS : LawSteps I) (hI : I σ) (KK : ∀ σ1, I σ1 → Lw nm et b L xs false (k + 1) (n + 6) T 32 (loI b N (i + 1)) [] σ1) : Lw nm et b L xs false (k + 1) (n + 6) T 271 [some (.retAddr b), some (.ref 0), some (.int 1), some (.int (Int32.ofNat N)), some (.int (Int32.ofNat i)), some (.int v12), some (.int v1), some (.int v2), some (.int x8), some (.int x9), some (.int v)] [] σ := by
  refine rn_aload_n (pc := 271) (i := 1) dL_law_271 rfl rfl ?_
  refine rn_callS (pc := 272) (r := some (.int 1)) (as := [.ref 0]) k_L_tables.1 k_L_tables.2.1 gw_617 (c_L_tables T hN σ _ σ (hS.2.2.1 σ hI)) rfl rfl (Nat.le_of_ble_eq_true rfl) (Nat.le_of_ble_eq_true rfl) (Nat.le_of_ble_eq_true rfl) (by first | (show k + 0 ≤ 600086; omega) | (show k + 1 ≤ 600086; omega) | (show k + 1 + 0 ≤ 600086; omega)) (by first | (show n + 0 ≤ 7301442; omega) | (show n + 6 ≤ 7301442; omega) | (show n + 6 + 0 ≤ 7301442; omega)) (fun h => by cases h) dL_law_272 ?_
  refine rn_if_eq (pc := 275) (tgt := 282) dL_law_275 rfl (fun h => absurd h (by decide)) (fun _ => ?_)
  exact lt_278 hL2 hi hk hn hN hS hI KK
set_option maxRecDepth 100000 in
theorem lt_247 {nm : String} {et : List ExceptionTableEntry} {b L N i k n : Nat} {xs : Nat → Int32} {T : Tb} {σ : Mm} {I : Mm → Prop} {v12 v1 v2 x8 x9 v : Int32} (hL2 : L ≤ 260) (hi : i < 24) (hk : k + 1 ≤ 600086) (hn : n + 6 ≤ 7301442) (hN : isNS T) (hS : LawSteps I) (hI : I σ) (KK : ∀ σ1, I σ1 → Lw nm et b L xs false (k + 1) (n + 6) T 32 (loI b N (i + 1)) [] σ1) : Lw nm et b L xs false (k + 1) (n + 6) T 247 [some (.retAddr b), some (.ref 0), some (.int 1), some (.int (Int32.ofNat N)), some (.int (Int32.ofNat i)), some (.int v12), some (.int v1), some (.int v2), some (.int x8), some (.int x9), some (.int v)] [] σ := by
  refine rn_aload_n (pc := 247) (i := 1) dL_law_247 rfl rfl ?_
  refine rn_callS (pc := 248) (r := some (.int 1)) (as := [.ref 0]) k_L_pages.1 k_L_pages.2.1 gw_658 (c_L_pages T hN σ _ σ (hS.2.1 σ hI)) rfl rfl (Nat.le_of_ble_eq_true rfl) (Nat.le_of_ble_eq_true rfl) (Nat.le_of_ble_eq_true rfl) (by first | (show k + 0 ≤ 600086; omega) | (show k + 1 ≤ 600086; omega) | (show k + 1 + 0 ≤ 600086; omega)) (by first | (show n + 0 ≤ 7301442; omega) | (show n + 6 ≤ 7301442; omega) | (show n + 6 + 0 ≤ 7301442; omega)) (fun h => by cases h) dL_law_248 ?_
  refine rn_if_eq (pc := 251) (tgt := 282) dL_law_251 rfl (fun h => absurd h (by decide)) (fun _ => ?_)
  refine rn_iload (pc := 254) (i := 4) dL_law_254 rfl ?_
  refine rn_bipush (pc := 256) (v := 6) dL_law_256 (by decide) ?_
  refine rn_irem (pc := 258) (by decide) dL_law_258 ?_
  refine rn_iconst (pc := 259) (v := 5) dL_law_259 (by decide) ?_
  refine rn_icmp_ge (pc := 260) (tgt := 271) dL_law_260 rfl (fun _ => lt_271 hL2 hi hk hn hN hS hI KK) (fun _ => ?_)
  refine rn_iload (pc := 263) (i := 4) dL_law_263 rfl ?_
  refine rn_iconst (pc := 265) (v := 1) dL_law_265 (by decide) ?_
  refine rn_iadd (pc := 266) dL_law_266 ?_
  refine rn_iload_n (pc := 267) (i := 3) dL_law_267 rfl rfl ?_
  exact rn_icmp_lt (pc := 268) (tgt := 278) dL_law_268 rfl (fun _ => lt_278 hL2 hi hk hn hN hS hI KK) (fun _ => lt_271 hL2 hi hk hn hN hS hI KK)
set_option maxRecDepth 100000 in
theorem lt_208 {nm : String} {et : List ExceptionTableEntry} {b L N i k n : Nat} {xs : Nat → Int32} {T : Tb} {σ : Mm} {I : Mm → Prop} {v12 v1 v2 x8 x9 v : Int32} (hL2 : L ≤ 260) (hi : i < 24) (hk : k + 1 ≤ 600086) (hn : n + 6 ≤ 7301442) (hN : isNS T) (hS : LawSteps I) (hI : I σ) (hv : 0 ≤ v ∨ (F_X5_count 12 σ = some (.inl v12, σ) ∧ F_X5_count 1 σ = some (.inl v1, σ) ∧ F_X5_table 0 2 σ = some (.inl v2, σ))) (KK : ∀ σ1, I σ1 → Lw nm et b L xs false (k + 1) (n + 6) T 32 (loI b N (i + 1)) [] σ1) : Lw nm et b L xs false (k + 1) (n + 6) T 208 [some (.retAddr b), some (.ref 0), some (.int 1), some (.int (Int32.ofNat N)), some (.int (Int32.ofNat i)), some (.int v12), some (.int v1), some (.int v2), some (.int x8), some (.int x9), none] [.int v] σ := by
  refine rn_istore (pc := 208) (i := 10) (lo' := [some (.retAddr b), some (.ref 0), some (.int 1), some (.int (Int32.ofNat N)), some (.int (Int32.ofNat i)), some (.int v12), some (.int v1), some (.int v2), some (.int x8), some (.int x9), some (.int v)]) dL_law_208 (by decide) rfl ?_
  refine rn_iload (pc := 210) (i := 10) dL_law_210 rfl ?_
  refine rn_if_ge (pc := 212) (tgt := 247) dL_law_212 rfl (fun _ => lt_247 hL2 hi hk hn hN hS hI KK) (fun hneg => ?_)
  have hh := hv.resolve_left hneg
  refine rn_aload_n (pc := 215) (i := 1) dL_law_215 rfl rfl ?_
  refine rn_bipush (pc := 216) (v := 12) dL_law_216 (by decide) ?_
  refine rn_callV (pc := 218) (r := some (.int v12)) (as := [.int (12 : Int32)]) hN.1 ⟨_, _, rfl⟩ k_X5_count.1 k_X5_count.2.1 k_X5_count.2.2.1 gw_471 (c_X5_count T (12 : Int32) hN σ _ σ (hh.1)) rfl rfl (Nat.le_of_ble_eq_true rfl) (Nat.le_of_ble_eq_true rfl) (Nat.le_of_ble_eq_true rfl) (by first | (show k + 0 ≤ 600086; omega) | (show k + 1 ≤ 600086; omega) | (show k + 1 + 0 ≤ 600086; omega)) (by first | (show n + 0 ≤ 7301442; omega) | (show n + 6 ≤ 7301442; omega) | (show n + 6 + 0 ≤ 7301442; omega)) (fun h => by cases h) dL_law_218 ?_
  refine rn_iload (pc := 221) (i := 5) dL_law_221 rfl ?_
  refine rn_icmp_ne (pc := 223) (tgt := 282) dL_law_223 rfl (fun h => absurd rfl h) (fun _ => ?_)
  refine rn_aload_n (pc := 226) (i := 1) dL_law_226 rfl rfl ?_
  refine rn_iconst (pc := 227) (v := 1) dL_law_227 (by decide) ?_
  refine rn_callV (pc := 228) (r := some (.int v1)) (as := [.int (1 : Int32)]) hN.1 ⟨_, _, rfl⟩ k_X5_count.1 k_X5_count.2.1 k_X5_count.2.2.1 gw_471 (c_X5_count T (1 : Int32) hN σ _ σ (hh.2.1)) rfl rfl (Nat.le_of_ble_eq_true rfl) (Nat.le_of_ble_eq_true rfl) (Nat.le_of_ble_eq_true rfl) (by first | (show k + 0 ≤ 600086; omega) | (show k + 1 ≤ 600086; omega) | (show k + 1 + 0 ≤ 600086; omega)) (by first | (show n + 0 ≤ 7301442; omega) | (show n + 6 ≤ 7301442; omega) | (show n + 6 + 0 ≤ 7301442; omega)) (fun h => by cases h) dL_law_228 ?_
  refine rn_iload (pc := 231) (i := 6) dL_law_231 rfl ?_
  refine rn_icmp_ne (pc := 233) (tgt := 282) dL_law_233 rfl (fun h => absurd rfl h) (fun _ => ?_)
  refine rn_aload_n (pc := 236) (i := 1) dL_law_236 rfl rfl ?_
  refine rn_iconst (pc := 237) (v := 0) dL_law_237 (by decide) ?_
  refine rn_iconst (pc := 238) (v := 2) dL_law_238 (by decide) ?_
  refine rn_callV (pc := 239) (r := some (.int v2)) (as := [.int (0 : Int32), .int (2 : Int32)]) hN.1 ⟨_, _, rfl⟩ k_X5_table.1 k_X5_table.2.1 k_X5_table.2.2.1 gw_437 (c_X5_table T (0 : Int32) (2 : Int32) hN σ _ σ (hh.2.2)) rfl rfl (Nat.le_of_ble_eq_true rfl) (Nat.le_of_ble_eq_true rfl) (Nat.le_of_ble_eq_true rfl) (by first | (show k + 0 ≤ 600086; omega) | (show k + 1 ≤ 600086; omega) | (show k + 1 + 0 ≤ 600086; omega)) (by first | (show n + 0 ≤ 7301442; omega) | (show n + 6 ≤ 7301442; omega) | (show n + 6 + 0 ≤ 7301442; omega)) (fun h => by cases h) dL_law_239 ?_
  refine rn_iload (pc := 242) (i := 7) dL_law_242 rfl ?_
  refine rn_icmp_ne (pc := 244) (tgt := 282) dL_law_244 rfl (fun h => absurd rfl h) (fun _ => ?_)
  exact lt_247 hL2 hi hk hn hN hS hI KK
set_option maxRecDepth 100000 in
theorem lt_172 {nm : String} {et : List ExceptionTableEntry} {b L N i k n : Nat} {xs : Nat → Int32} {T : Tb} {σ : Mm} {I : Mm → Prop} {v12 v1 v2 x8 x9 : Int32} (hL2 : L ≤ 260) (hi : i < 24) (hk : k + 1 ≤ 600086) (hn : n + 6 ≤ 7301442) (hN : isNS T) (hS : LawSteps I) (hI : I σ) (ho : F_X5_count 12 σ = some (.inl v12, σ) ∧ F_X5_count 1 σ = some (.inl v1, σ) ∧ F_X5_table 0 2 σ = some (.inl v2, σ)) (KK : ∀ σ1, I σ1 → Lw nm et b L xs false (k + 1) (n + 6) T 32 (loI b N (i + 1)) [] σ1) : Lw nm et b L xs false k n T 172 [some (.retAddr b), some (.ref 0), some (.int 1), some (.int (Int32.ofNat N)), some (.int (Int32.ofNat i)), some (.int v12), some (.int v1), some (.int v2), some (.int x8), some (.int x9), none] [] σ := by
  obtain ⟨v, σ1, hF, hI1, hor⟩ := hS.2.2.2.2.2.2 x9 (ceX L xs (5 * i + 1)) (ceX L xs (5 * i + 2)) (ceX L xs (5 * i + 3)) σ hI
  refine rn_aload_n (pc := 172) (i := 1) dL_law_172 rfl rfl ?_
  refine rn_iload (pc := 173) (i := 9) dL_law_173 rfl ?_
  refine rn_aload_nA (pc := 175) (i := 0) dL_law_175 rfl rfl ?_
  refine rn_iconst (pc := 176) (v := 5) dL_law_176 (by decide) ?_
  refine rn_iload (pc := 177) (i := 4) dL_law_177 rfl ?_
  refine rn_imul (pc := 179) dL_law_179 ?_
  rw [lr_mul (by omega)]
  refine rn_iconst (pc := 180) (v := 1) dL_law_180 (by decide) ?_
  refine rn_iadd (pc := 181) dL_law_181 ?_
  rw [show (1 : Int32) = Int32.ofNat 1 from rfl, lr_add (by omega)]
  refine rn_callX (pc := 182) (r := some (.int (ceX L xs (5 * i + 1)))) (as := [.retAddr b, .int (Int32.ofNat (5 * i + 1))]) (fun _ _ h => h.1) k_L_cell.1 k_L_cell.2 gw_510 (ev_cell T σ b L xs (5 * i + 1) hL2 (by omega)) rfl rfl (Nat.le_of_ble_eq_true rfl) (Nat.le_of_ble_eq_true rfl) (Nat.le_of_ble_eq_true rfl) (by first | (show k + 0 ≤ 600086; omega) | (show k + 1 ≤ 600086; omega) | (show k + 1 + 0 ≤ 600086; omega)) (by first | (show n + 0 ≤ 7301442; omega) | (show n + 6 ≤ 7301442; omega) | (show n + 6 + 0 ≤ 7301442; omega)) (fun h => by cases h) dL_law_182 ?_
  refine rn_aload_nA (pc := 185) (i := 0) dL_law_185 rfl rfl ?_
  refine rn_iconst (pc := 186) (v := 5) dL_law_186 (by decide) ?_
  refine rn_iload (pc := 187) (i := 4) dL_law_187 rfl ?_
  refine rn_imul (pc := 189) dL_law_189 ?_
  rw [lr_mul (by omega)]
  refine rn_iconst (pc := 190) (v := 2) dL_law_190 (by decide) ?_
  refine rn_iadd (pc := 191) dL_law_191 ?_
  rw [show (2 : Int32) = Int32.ofNat 2 from rfl, lr_add (by omega)]
  refine rn_callX (pc := 192) (r := some (.int (ceX L xs (5 * i + 2)))) (as := [.retAddr b, .int (Int32.ofNat (5 * i + 2))]) (fun _ _ h => h.1) k_L_cell.1 k_L_cell.2 gw_510 (ev_cell T σ b L xs (5 * i + 2) hL2 (by omega)) rfl rfl (Nat.le_of_ble_eq_true rfl) (Nat.le_of_ble_eq_true rfl) (Nat.le_of_ble_eq_true rfl) (by first | (show k + 0 ≤ 600086; omega) | (show k + 1 ≤ 600086; omega) | (show k + 1 + 0 ≤ 600086; omega)) (by first | (show n + 0 ≤ 7301442; omega) | (show n + 6 ≤ 7301442; omega) | (show n + 6 + 0 ≤ 7301442; omega)) (fun h => by cases h) dL_law_192 ?_
  refine rn_aload_nA (pc := 195) (i := 0) dL_law_195 rfl rfl ?_
  refine rn_iconst (pc := 196) (v := 5) dL_law_196 (by decide) ?_
  refine rn_iload (pc := 197) (i := 4) dL_law_197 rfl ?_
  refine rn_imul (pc := 199) dL_law_199 ?_
  rw [lr_mul (by omega)]
  refine rn_iconst (pc := 200) (v := 3) dL_law_200 (by decide) ?_
  refine rn_iadd (pc := 201) dL_law_201 ?_
  rw [show (3 : Int32) = Int32.ofNat 3 from rfl, lr_add (by omega)]
  refine rn_callX (pc := 202) (r := some (.int (ceX L xs (5 * i + 3)))) (as := [.retAddr b, .int (Int32.ofNat (5 * i + 3))]) (fun _ _ h => h.1) k_L_cell.1 k_L_cell.2 gw_510 (ev_cell T σ b L xs (5 * i + 3) hL2 (by omega)) rfl rfl (Nat.le_of_ble_eq_true rfl) (Nat.le_of_ble_eq_true rfl) (Nat.le_of_ble_eq_true rfl) (by first | (show k + 0 ≤ 600086; omega) | (show k + 1 ≤ 600086; omega) | (show k + 1 + 0 ≤ 600086; omega)) (by first | (show n + 0 ≤ 7301442; omega) | (show n + 6 ≤ 7301442; omega) | (show n + 6 + 0 ≤ 7301442; omega)) (fun h => by cases h) dL_law_202 ?_
  refine rn_callS (pc := 205) (r := some (.int v)) (as := [.ref 0, .int x9, .int (ceX L xs (5 * i + 1)), .int (ceX L xs (5 * i + 2)), .int (ceX L xs (5 * i + 3))]) k_L_act.1 k_L_act.2 gw_514 (ev_act T hN _ _ _ _ σ v σ1 hF) rfl rfl (Nat.le_of_ble_eq_true rfl) (Nat.le_of_ble_eq_true rfl) (Nat.le_of_ble_eq_true rfl) (by first | (show k + 0 ≤ 600086; omega) | (show k + 1 ≤ 600086; omega) | (show k + 1 + 0 ≤ 600086; omega)) (by first | (show n + 0 ≤ 7301442; omega) | (show n + 6 ≤ 7301442; omega) | (show n + 6 + 0 ≤ 7301442; omega)) (fun h => by cases h) dL_law_205 ?_
  exact lt_208 hL2 hi hk hn hN hS hI1 (hor.imp id (fun e => by rw [e]; exact ho)) KK
set_option maxRecDepth 100000 in
theorem lt_150 {nm : String} {et : List ExceptionTableEntry} {b L N i k n : Nat} {xs : Nat → Int32} {T : Tb} {σ : Mm} {I : Mm → Prop} {v12 v1 v2 x8 x9 : Int32} (hL2 : L ≤ 260) (hi : i < 24) (hk : k + 1 ≤ 600086) (hn : n + 6 ≤ 7301442) (hN : isNS T) (hS : LawSteps I) (hI : I σ) (ho : F_X5_count 12 σ = some (.inl v12, σ) ∧ F_X5_count 1 σ = some (.inl v1, σ) ∧ F_X5_table 0 2 σ = some (.inl v2, σ)) (KK : ∀ σ1, I σ1 → Lw nm et b L xs false (k + 1) (n + 6) T 32 (loI b N (i + 1)) [] σ1) : Lw nm et b L xs false k n T 150 [some (.retAddr b), some (.ref 0), some (.int 1), some (.int (Int32.ofNat N)), some (.int (Int32.ofNat i)), some (.int v12), some (.int v1), some (.int v2), some (.int x8), some (.int x9), none] [] σ := by
  refine rn_iload (pc := 150) (i := 8) dL_law_150 rfl ?_
  refine rn_iconst (pc := 152) (v := 2) dL_law_152 (by decide) ?_
  refine rn_icmp_ne (pc := 153) (tgt := 172) dL_law_153 rfl (fun _ => lt_172 hL2 hi hk hn hN hS hI ho KK) (fun _ => ?_)
  obtain ⟨v, σ1, hF, hI1, hor⟩ := hS.2.2.2.2.2.1 x9 σ hI
  refine rn_aload_n (pc := 156) (i := 1) dL_law_156 rfl rfl ?_
  refine rn_iconst (pc := 157) (v := 1) dL_law_157 (by decide) ?_
  refine rn_iload (pc := 158) (i := 9) dL_law_158 rfl ?_
  refine rn_bipush (pc := 160) (v := 60) dL_law_160 (by decide) ?_
  refine rn_callS (pc := 162) (r := some (.int (lowI x9 (60 : Int32)))) (as := [.int x9, .int (60 : Int32)]) k_L_low.1 k_L_low.2.1 gw_506 (c_L_low T x9 (60 : Int32) σ _ σ (f_low (by decide))) rfl rfl (Nat.le_of_ble_eq_true rfl) (Nat.le_of_ble_eq_true rfl) (Nat.le_of_ble_eq_true rfl) (by first | (show k + 0 ≤ 600086; omega) | (show k + 1 ≤ 600086; omega) | (show k + 1 + 0 ≤ 600086; omega)) (by first | (show n + 0 ≤ 7301442; omega) | (show n + 6 ≤ 7301442; omega) | (show n + 6 + 0 ≤ 7301442; omega)) (fun h => by cases h) dL_law_162 ?_
  refine rn_iadd (pc := 165) dL_law_165 ?_
  refine rn_callV (pc := 166) (r := some (.int v)) (as := [.int (1 + lowI x9 60 : Int32)]) hN.1 ⟨_, _, rfl⟩ k_X5_set.1 k_X5_set.2.1 k_X5_set.2.2.1 gw_433 (c_X5_set T (1 + lowI x9 60 : Int32) hN σ _ σ1 hF) rfl rfl (Nat.le_of_ble_eq_true rfl) (Nat.le_of_ble_eq_true rfl) (Nat.le_of_ble_eq_true rfl) (by first | (show k + 0 ≤ 600086; omega) | (show k + 1 ≤ 600086; omega) | (show k + 1 + 0 ≤ 600086; omega)) (by first | (show n + 0 ≤ 7301442; omega) | (show n + 6 ≤ 7301442; omega) | (show n + 6 + 0 ≤ 7301442; omega)) (fun h => by cases h) dL_law_166 ?_
  refine rn_goto (pc := 169) (tgt := 208) dL_law_169 rfl ?_
  exact lr_wid (lt_208 hL2 hi hk hn hN hS hI1 (hor.imp id (fun e => by rw [e]; exact ho)) KK) (Nat.le_succ _) (Nat.le_add_right _ _)
set_option maxRecDepth 100000 in
theorem lt_104 {nm : String} {et : List ExceptionTableEntry} {b L N i k n : Nat} {xs : Nat → Int32} {T : Tb} {σ : Mm} {I : Mm → Prop} {v12 v1 v2 x8 x9 : Int32} (hL2 : L ≤ 260) (hi : i < 24) (hk : k + 1 ≤ 600086) (hn : n + 6 ≤ 7301442) (hN : isNS T) (hS : LawSteps I) (hI : I σ) (ho : F_X5_count 12 σ = some (.inl v12, σ) ∧ F_X5_count 1 σ = some (.inl v1, σ) ∧ F_X5_table 0 2 σ = some (.inl v2, σ)) (KK : ∀ σ1, I σ1 → Lw nm et b L xs false (k + 1) (n + 6) T 32 (loI b N (i + 1)) [] σ1) : Lw nm et b L xs false k n T 104 [some (.retAddr b), some (.ref 0), some (.int 1), some (.int (Int32.ofNat N)), some (.int (Int32.ofNat i)), some (.int v12), some (.int v1), some (.int v2), some (.int x8), some (.int x9), none] [] σ := by
  refine rn_iload (pc := 104) (i := 8) dL_law_104 rfl ?_
  refine rn_iconst (pc := 106) (v := 1) dL_law_106 (by decide) ?_
  refine rn_icmp_ne (pc := 107) (tgt := 150) dL_law_107 rfl (fun _ => lt_150 hL2 hi hk hn hN hS hI ho KK) (fun _ => ?_)
  refine rn_iload (pc := 110) (i := 9) dL_law_110 rfl ?_
  refine rn_iconst (pc := 112) (v := 3) dL_law_112 (by decide) ?_
  refine rn_callS (pc := 113) (r := some (.int (lowI x9 (3 : Int32)))) (as := [.int x9, .int (3 : Int32)]) k_L_low.1 k_L_low.2.1 gw_506 (c_L_low T x9 (3 : Int32) σ _ σ (f_low (by decide))) rfl rfl (Nat.le_of_ble_eq_true rfl) (Nat.le_of_ble_eq_true rfl) (Nat.le_of_ble_eq_true rfl) (by first | (show k + 0 ≤ 600086; omega) | (show k + 1 ≤ 600086; omega) | (show k + 1 + 0 ≤ 600086; omega)) (by first | (show n + 0 ≤ 7301442; omega) | (show n + 6 ≤ 7301442; omega) | (show n + 6 + 0 ≤ 7301442; omega)) (fun h => by cases h) dL_law_113 ?_
  refine rn_if_ne (pc := 116) (tgt := 150) dL_law_116 rfl (fun _ => lt_150 hL2 hi hk hn hN hS hI ho KK) (fun _ => ?_)
  obtain ⟨v, σ1, hF, hI1, hor⟩ := hS.2.2.2.2.1 x9 (ceX L xs (5 * i + 1)) σ hI
  refine rn_aload_n (pc := 119) (i := 1) dL_law_119 rfl rfl ?_
  refine rn_iconst (pc := 120) (v := 1) dL_law_120 (by decide) ?_
  refine rn_iload (pc := 121) (i := 9) dL_law_121 rfl ?_
  refine rn_iconst (pc := 123) (v := 5) dL_law_123 (by decide) ?_
  refine rn_callS (pc := 124) (r := some (.int (lowI x9 (5 : Int32)))) (as := [.int x9, .int (5 : Int32)]) k_L_low.1 k_L_low.2.1 gw_506 (c_L_low T x9 (5 : Int32) σ _ σ (f_low (by decide))) rfl rfl (Nat.le_of_ble_eq_true rfl) (Nat.le_of_ble_eq_true rfl) (Nat.le_of_ble_eq_true rfl) (by first | (show k + 0 ≤ 600086; omega) | (show k + 1 ≤ 600086; omega) | (show k + 1 + 0 ≤ 600086; omega)) (by first | (show n + 0 ≤ 7301442; omega) | (show n + 6 ≤ 7301442; omega) | (show n + 6 + 0 ≤ 7301442; omega)) (fun h => by cases h) dL_law_124 ?_
  refine rn_iadd (pc := 127) dL_law_127 ?_
  refine rn_iconst (pc := 128) (v := 1) dL_law_128 (by decide) ?_
  refine rn_aload_nA (pc := 129) (i := 0) dL_law_129 rfl rfl ?_
  refine rn_iconst (pc := 130) (v := 5) dL_law_130 (by decide) ?_
  refine rn_iload (pc := 131) (i := 4) dL_law_131 rfl ?_
  refine rn_imul (pc := 133) dL_law_133 ?_
  rw [lr_mul (by omega)]
  refine rn_iconst (pc := 134) (v := 1) dL_law_134 (by decide) ?_
  refine rn_iadd (pc := 135) dL_law_135 ?_
  rw [show (1 : Int32) = Int32.ofNat 1 from rfl, lr_add (by omega)]
  refine rn_callX (pc := 136) (r := some (.int (ceX L xs (5 * i + 1)))) (as := [.retAddr b, .int (Int32.ofNat (5 * i + 1))]) (fun _ _ h => h.1) k_L_cell.1 k_L_cell.2 gw_510 (ev_cell T σ b L xs (5 * i + 1) hL2 (by omega)) rfl rfl (Nat.le_of_ble_eq_true rfl) (Nat.le_of_ble_eq_true rfl) (Nat.le_of_ble_eq_true rfl) (by first | (show k + 0 ≤ 600086; omega) | (show k + 1 ≤ 600086; omega) | (show k + 1 + 0 ≤ 600086; omega)) (by first | (show n + 0 ≤ 7301442; omega) | (show n + 6 ≤ 7301442; omega) | (show n + 6 + 0 ≤ 7301442; omega)) (fun h => by cases h) dL_law_136 ?_
  refine rn_iconst (pc := 139) (v := 5) dL_law_139 (by decide) ?_
  refine rn_callS (pc := 140) (r := some (.int (lowI (ceX L xs (5 * i + 1)) (5 : Int32)))) (as := [.int (ceX L xs (5 * i + 1)), .int (5 : Int32)]) k_L_low.1 k_L_low.2.1 gw_506 (c_L_low T (ceX L xs (5 * i + 1)) (5 : Int32) σ _ σ (f_low (by decide))) rfl rfl (Nat.le_of_ble_eq_true rfl) (Nat.le_of_ble_eq_true rfl) (Nat.le_of_ble_eq_true rfl) (by first | (show k + 0 ≤ 600086; omega) | (show k + 1 ≤ 600086; omega) | (show k + 1 + 0 ≤ 600086; omega)) (by first | (show n + 0 ≤ 7301442; omega) | (show n + 6 ≤ 7301442; omega) | (show n + 6 + 0 ≤ 7301442; omega)) (fun h => by cases h) dL_law_140 ?_
  refine rn_iadd (pc := 143) dL_law_143 ?_
  refine rn_callV (pc := 144) (r := some (.int v)) (as := [.int (1 + lowI x9 5 : Int32), .int (1 + lowI (ceX L xs (5 * i + 1)) 5 : Int32)]) hN.1 ⟨_, _, rfl⟩ k_X5_begin.1 k_X5_begin.2.1 k_X5_begin.2.2.1 gw_337 (c_X5_begin T (1 + lowI x9 5 : Int32) (1 + lowI (ceX L xs (5 * i + 1)) 5 : Int32) hN σ _ σ1 hF) rfl rfl (Nat.le_of_ble_eq_true rfl) (Nat.le_of_ble_eq_true rfl) (Nat.le_of_ble_eq_true rfl) (by first | (show k + 0 ≤ 600086; omega) | (show k + 1 ≤ 600086; omega) | (show k + 1 + 0 ≤ 600086; omega)) (by first | (show n + 0 ≤ 7301442; omega) | (show n + 6 ≤ 7301442; omega) | (show n + 6 + 0 ≤ 7301442; omega)) (fun h => by cases h) dL_law_144 ?_
  refine rn_goto (pc := 147) (tgt := 208) dL_law_147 rfl ?_
  exact lr_wid (lt_208 hL2 hi hk hn hN hS hI1 (hor.imp id (fun e => by rw [e]; exact ho)) KK) (Nat.le_succ _) (Nat.le_add_right _ _)
set_option maxRecDepth 100000 in
theorem lt_42 {nm : String} {et : List ExceptionTableEntry} {b L N i k n : Nat} {xs : Nat → Int32} {T : Tb} {σ : Mm} {I : Mm → Prop} (hL2 : L ≤ 260) (hi : i < 24) (hk : k + 1 ≤ 600086) (hn : n + 6 ≤ 7301442) (hN : isNS T) (hS : LawSteps I) (hI : I σ) (KK : ∀ σ1, I σ1 → Lw nm et b L xs false (k + 1) (n + 6) T 32 (loI b N (i + 1)) [] σ1) : Lw nm et b L xs false k n T 42 (loI b N i) [] σ := by
  unfold loI
  obtain ⟨⟨v12, h12⟩, ⟨v1, h1⟩, ⟨v2, h2⟩⟩ := hS.1 σ hI
  refine rn_aload_n (pc := 42) (i := 1) dL_law_42 rfl rfl ?_
  refine rn_bipush (pc := 43) (v := 12) dL_law_43 (by decide) ?_
  refine rn_callV (pc := 45) (r := some (.int v12)) (as := [.int (12 : Int32)]) hN.1 ⟨_, _, rfl⟩ k_X5_count.1 k_X5_count.2.1 k_X5_count.2.2.1 gw_471 (c_X5_count T (12 : Int32) hN σ _ σ h12) rfl rfl (Nat.le_of_ble_eq_true rfl) (Nat.le_of_ble_eq_true rfl) (Nat.le_of_ble_eq_true rfl) (by first | (show k + 0 ≤ 600086; omega) | (show k + 1 ≤ 600086; omega) | (show k + 1 + 0 ≤ 600086; omega)) (by first | (show n + 0 ≤ 7301442; omega) | (show n + 6 ≤ 7301442; omega) | (show n + 6 + 0 ≤ 7301442; omega)) (fun h => by cases h) dL_law_45 ?_
  refine rn_istore (pc := 48) (i := 5) (lo' := [some (.retAddr b), some (.ref 0), some (.int 1), some (.int (Int32.ofNat N)), some (.int (Int32.ofNat i)), some (.int v12), none, none, none, none, none]) dL_law_48 (by decide) rfl ?_
  refine rn_aload_n (pc := 50) (i := 1) dL_law_50 rfl rfl ?_
  refine rn_iconst (pc := 51) (v := 1) dL_law_51 (by decide) ?_
  refine rn_callV (pc := 52) (r := some (.int v1)) (as := [.int (1 : Int32)]) hN.1 ⟨_, _, rfl⟩ k_X5_count.1 k_X5_count.2.1 k_X5_count.2.2.1 gw_471 (c_X5_count T (1 : Int32) hN σ _ σ h1) rfl rfl (Nat.le_of_ble_eq_true rfl) (Nat.le_of_ble_eq_true rfl) (Nat.le_of_ble_eq_true rfl) (by first | (show k + 0 ≤ 600086; omega) | (show k + 1 ≤ 600086; omega) | (show k + 1 + 0 ≤ 600086; omega)) (by first | (show n + 0 ≤ 7301442; omega) | (show n + 6 ≤ 7301442; omega) | (show n + 6 + 0 ≤ 7301442; omega)) (fun h => by cases h) dL_law_52 ?_
  refine rn_istore (pc := 55) (i := 6) (lo' := [some (.retAddr b), some (.ref 0), some (.int 1), some (.int (Int32.ofNat N)), some (.int (Int32.ofNat i)), some (.int v12), some (.int v1), none, none, none, none]) dL_law_55 (by decide) rfl ?_
  refine rn_aload_n (pc := 57) (i := 1) dL_law_57 rfl rfl ?_
  refine rn_iconst (pc := 58) (v := 0) dL_law_58 (by decide) ?_
  refine rn_iconst (pc := 59) (v := 2) dL_law_59 (by decide) ?_
  refine rn_callV (pc := 60) (r := some (.int v2)) (as := [.int (0 : Int32), .int (2 : Int32)]) hN.1 ⟨_, _, rfl⟩ k_X5_table.1 k_X5_table.2.1 k_X5_table.2.2.1 gw_437 (c_X5_table T (0 : Int32) (2 : Int32) hN σ _ σ h2) rfl rfl (Nat.le_of_ble_eq_true rfl) (Nat.le_of_ble_eq_true rfl) (Nat.le_of_ble_eq_true rfl) (by first | (show k + 0 ≤ 600086; omega) | (show k + 1 ≤ 600086; omega) | (show k + 1 + 0 ≤ 600086; omega)) (by first | (show n + 0 ≤ 7301442; omega) | (show n + 6 ≤ 7301442; omega) | (show n + 6 + 0 ≤ 7301442; omega)) (fun h => by cases h) dL_law_60 ?_
  refine rn_istore (pc := 63) (i := 7) (lo' := [some (.retAddr b), some (.ref 0), some (.int 1), some (.int (Int32.ofNat N)), some (.int (Int32.ofNat i)), some (.int v12), some (.int v1), some (.int v2), none, none, none]) dL_law_63 (by decide) rfl ?_
  refine rn_aload_nA (pc := 65) (i := 0) dL_law_65 rfl rfl ?_
  refine rn_iconst (pc := 66) (v := 5) dL_law_66 (by decide) ?_
  refine rn_iload (pc := 67) (i := 4) dL_law_67 rfl ?_
  refine rn_imul (pc := 69) dL_law_69 ?_
  rw [lr_mul (by omega)]
  refine rn_iconst (pc := 70) (v := 4) dL_law_70 (by decide) ?_
  refine rn_iadd (pc := 71) dL_law_71 ?_
  rw [show (4 : Int32) = Int32.ofNat 4 from rfl, lr_add (by omega)]
  refine rn_callX (pc := 72) (r := some (.int (ceX L xs (5 * i + 4)))) (as := [.retAddr b, .int (Int32.ofNat (5 * i + 4))]) (fun _ _ h => h.1) k_L_cell.1 k_L_cell.2 gw_510 (ev_cell T σ b L xs (5 * i + 4) hL2 (by omega)) rfl rfl (Nat.le_of_ble_eq_true rfl) (Nat.le_of_ble_eq_true rfl) (Nat.le_of_ble_eq_true rfl) (by first | (show k + 0 ≤ 600086; omega) | (show k + 1 ≤ 600086; omega) | (show k + 1 + 0 ≤ 600086; omega)) (by first | (show n + 0 ≤ 7301442; omega) | (show n + 6 ≤ 7301442; omega) | (show n + 6 + 0 ≤ 7301442; omega)) (fun h => by cases h) dL_law_72 ?_
  refine rn_bipush (pc := 75) (v := 16) dL_law_75 (by decide) ?_
  refine rn_callS (pc := 77) (r := some (.int (lowI (ceX L xs (5 * i + 4)) (16 : Int32)))) (as := [.int (ceX L xs (5 * i + 4)), .int (16 : Int32)]) k_L_low.1 k_L_low.2.1 gw_506 (c_L_low T (ceX L xs (5 * i + 4)) (16 : Int32) σ _ σ (f_low (by decide))) rfl rfl (Nat.le_of_ble_eq_true rfl) (Nat.le_of_ble_eq_true rfl) (Nat.le_of_ble_eq_true rfl) (by first | (show k + 0 ≤ 600086; omega) | (show k + 1 ≤ 600086; omega) | (show k + 1 + 0 ≤ 600086; omega)) (by first | (show n + 0 ≤ 7301442; omega) | (show n + 6 ≤ 7301442; omega) | (show n + 6 + 0 ≤ 7301442; omega)) (fun h => by cases h) dL_law_77 ?_
  refine rn_istore (pc := 80) (i := 8) (lo' := [some (.retAddr b), some (.ref 0), some (.int 1), some (.int (Int32.ofNat N)), some (.int (Int32.ofNat i)), some (.int v12), some (.int v1), some (.int v2), some (.int (lowI (ceX L xs (5 * i + 4)) (16 : Int32))), none, none]) dL_law_80 (by decide) rfl ?_
  refine rn_aload_nA (pc := 82) (i := 0) dL_law_82 rfl rfl ?_
  refine rn_iconst (pc := 83) (v := 5) dL_law_83 (by decide) ?_
  refine rn_iload (pc := 84) (i := 4) dL_law_84 rfl ?_
  refine rn_imul (pc := 86) dL_law_86 ?_
  rw [lr_mul (by omega)]
  refine rn_callX (pc := 87) (r := some (.int (ceX L xs (5 * i)))) (as := [.retAddr b, .int (Int32.ofNat (5 * i))]) (fun _ _ h => h.1) k_L_cell.1 k_L_cell.2 gw_510 (ev_cell T σ b L xs (5 * i) hL2 (by omega)) rfl rfl (Nat.le_of_ble_eq_true rfl) (Nat.le_of_ble_eq_true rfl) (Nat.le_of_ble_eq_true rfl) (by first | (show k + 0 ≤ 600086; omega) | (show k + 1 ≤ 600086; omega) | (show k + 1 + 0 ≤ 600086; omega)) (by first | (show n + 0 ≤ 7301442; omega) | (show n + 6 ≤ 7301442; omega) | (show n + 6 + 0 ≤ 7301442; omega)) (fun h => by cases h) dL_law_87 ?_
  refine rn_istore (pc := 90) (i := 9) (lo' := [some (.retAddr b), some (.ref 0), some (.int 1), some (.int (Int32.ofNat N)), some (.int (Int32.ofNat i)), some (.int v12), some (.int v1), some (.int v2), some (.int (lowI (ceX L xs (5 * i + 4)) (16 : Int32))), some (.int (ceX L xs (5 * i))), none]) dL_law_90 (by decide) rfl ?_
  refine rn_iload (pc := 92) (i := 8) dL_law_92 rfl ?_
  refine rn_if_ne (pc := 94) (tgt := 104) dL_law_94 rfl (fun _ => lt_104 hL2 hi hk hn hN hS hI ⟨h12, h1, h2⟩ KK) (fun _ => ?_)
  obtain ⟨v, σ1, hF, hI1, hor⟩ := hS.2.2.2.1 σ hI
  refine rn_aload_n (pc := 97) (i := 1) dL_law_97 rfl rfl ?_
  refine rn_callSH (pc := 98) (r := some (.int v)) (as := [.ref 0]) (rm' := rmW) kw_undo gw_606 (wq_undo T hN σ v σ1 hF) rfl rfl (Nat.le_of_ble_eq_true rfl) (Nat.le_of_ble_eq_true rfl) (Nat.le_of_ble_eq_true rfl) (by first | (show k + 0 ≤ 600086; omega) | (show k + 1 ≤ 600086; omega) | (show k + 1 + 0 ≤ 600086; omega)) (by first | (show n + 0 ≤ 7301442; omega) | (show n + 6 ≤ 7301442; omega) | (show n + 6 + 0 ≤ 7301442; omega)) (fun h => by cases h) dL_law_98 ?_
  refine rn_goto (pc := 101) (tgt := 208) dL_law_101 rfl ?_
  exact lt_208 hL2 hi hk hn hN hS hI1 (hor.imp id (fun e => by rw [e]; exact ⟨h12, h1, h2⟩)) KK
set_option maxRecDepth 100000 in
theorem law_loop {nm : String} {et : List ExceptionTableEntry} {b L N : Nat} {xs : Nat → Int32} {T : Tb} {I : Mm → Prop} (hS : LawSteps I) (hL2 : L ≤ 260) (hN24 : N ≤ 24) (hN : isNS T) : ∀ (r i k n : Nat) (σ : Mm), I σ → N ≤ i + r → i ≤ 24 → k + r ≤ 600086 → n + 6 * r ≤ 7301442 → Lw nm et b L xs false k n T 32 (loI b N i) [] σ := by
  intro r
  induction r with
  | zero =>
    intro i k n σ hI hr hi hk hn
    refine rn_iload (pc := 32) (i := 4) dL_law_32 rfl ?_
    refine rn_iload_n (pc := 34) (i := 3) dL_law_34 rfl rfl ?_
    refine rn_icmp_ge (pc := 35) (tgt := 290) dL_law_35 rfl (fun _ => ?_) (fun h => absurd ((lr_le (by omega) (by omega)).mpr (by omega)) h)
    refine rn_iload_n (pc := 290) (i := 2) dL_law_290 rfl rfl ?_
    exact lr_end (by omega) (by omega) dL_law_291
  | succ r ih =>
    intro i k n σ hI hr hi hk hn
    refine rn_iload (pc := 32) (i := 4) dL_law_32 rfl ?_
    refine rn_iload_n (pc := 34) (i := 3) dL_law_34 rfl rfl ?_
    refine rn_icmp_ge (pc := 35) (tgt := 290) dL_law_35 rfl (fun _ => ?_) (fun h => ?_)
    · refine rn_iload_n (pc := 290) (i := 2) dL_law_290 rfl rfl ?_
      exact lr_end (by omega) (by omega) dL_law_291
    · have hlt : i < N := by
        rw [lr_le (by omega) (by omega)] at h
        omega
      refine rn_iload_n (pc := 38) (i := 2) dL_law_38 rfl rfl ?_
      refine rn_if_eq (pc := 39) (tgt := 290) dL_law_39 rfl (fun h => absurd h (by decide)) (fun _ => ?_)
      exact lt_42 hL2 (by omega) (by omega) (by omega) hN hS hI (fun σ1 hI1 => ih (i + 1) (k + 1) (n + 6) σ1 hI1 (by omega) (by omega) (by omega) (by omega))
