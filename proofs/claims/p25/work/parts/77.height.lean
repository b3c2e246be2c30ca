/-! THE HEIGHT OF A PAGE IS NOT IN THE LAYOUT -/
def upS (s : Sv) (i : Nat) (v : Int32) : Sv := fun j => if j = i then v else s j
theorem up_o {s : Sv} {i j : Nat} {v : Int32} (h : j ≠ i) : upS s i v j = s j := by
  unfold upS
  rw [if_neg h]
theorem up_at {s : Sv} {i : Nat} {v : Int32} : upS s i v i = v := by
  unfold upS
  rw [if_pos rfl]
section Height
variable {s : Sv} {v : Int32}
theorem h_tb : tbS (upS s 1 v) = tbS s := by unfold tbS; rw [up_o (by omega)]
theorem h_ro : roS (upS s 1 v) = roS s := by funext t; unfold roS; rw [up_o (by omega)]
theorem h_co : coS (upS s 1 v) = coS s := by funext t; unfold coS; rw [up_o (by omega)]
theorem h_ki : kiS (upS s 1 v) = kiS s := by funext t; unfold kiS; rw [up_o (by omega)]
theorem h_nu : nuS (upS s 1 v) = nuS s := by funext t; unfold nuS; rw [up_o (by omega)]
theorem h_hi : hiS (upS s 1 v) = hiS s := by funext t; unfold hiS; rw [up_o (by omega)]
theorem h_br : brS (upS s 1 v) = brS s := by funext t; unfold brS; rw [up_o (by omega)]
theorem h_ow : owS (upS s 1 v) = owS s := by funext t; unfold owS; rw [up_o (by omega)]
theorem h_ru : ruS (upS s 1 v) = ruS s := by funext t; unfold ruS; rw [up_o (by omega)]
theorem h_of {q : Nat} : isOf (upS s 1 v) q ↔ isOf s q := by unfold isOf; rw [h_tb, h_ro, h_co]
theorem h_cl {q : Nat} : isCl (upS s 1 v) q ↔ isCl s q := by unfold isCl; rw [h_of, h_ow]
theorem h_rc {o q : Nat} : inRc (upS s 1 v) o q ↔ inRc s o q := by unfold inRc; rw [h_hi, h_br]
theorem h_clB : clB (upS s 1 v) = clB s := by funext q; unfold clB; rw [h_tb, h_ro, h_co, h_ow]
theorem h_ofB : ofB (upS s 1 v) = ofB s := by funext q; unfold ofB; rw [h_tb, h_ro, h_co]
theorem h_meB : meB (upS s 1 v) = meB s := by funext k a c; unfold meB; rw [h_hi, h_br]
theorem h_ctB : ctB (upS s 1 v) = ctB s := by funext k st a c; unfold ctB; rw [h_meB]
theorem h_fr : frS (upS s 1 v) = frS s := by funext q; unfold frS; rw [h_clB, h_ki, h_ctB]
theorem h_cnB : cnB (upS s 1 v) = cnB s := by funext a q; unfold cnB; rw [h_ki, h_ctB, h_fr]
theorem h_vS : vS (upS s 1 v) = vS s := by funext va q; unfold vS; rw [h_clB, h_ki, h_nu]
theorem h_suS : suS (upS s 1 v) = suS s := by funext va q; unfold suS; rw [h_clB, h_cnB]
theorem h_shS : shS (upS s 1 v) = shS s := by funext va q; unfold shS; rw [h_clB, h_ki, h_suS, h_vS]
theorem h_va : ∀ n t, tbS s ≤ t + n → vaL (upS s 1 v) t = vaL s t
  | 0, t, h => by
    rw [vaL, vaL, h_vS]
    congr 2
    funext t'
    have e1 : ¬ (t < t' ∧ t' < tbS s) := by omega
    have e2 : ¬ (t < t' ∧ t' < tbS (upS s 1 v)) := by rw [h_tb]; omega
    rw [dif_neg e1, dif_neg e2]
  | n + 1, t, h => by
    rw [vaL, vaL, h_vS]
    congr 2
    funext t'
    by_cases e1 : t < t' ∧ t' < tbS s
    · have e2 : t < t' ∧ t' < tbS (upS s 1 v) := by rw [h_tb]; exact e1
      rw [dif_pos e1, dif_pos e2]
      exact h_va n t' (by omega)
    · have e2 : ¬ (t < t' ∧ t' < tbS (upS s 1 v)) := by rw [h_tb]; exact e1
      rw [dif_neg e1, dif_neg e2]
theorem h_vaL : vaL (upS s 1 v) = vaL s := funext (fun t => h_va (tbS s) t (by omega))
theorem h_shL : shL (upS s 1 v) = shL s := by funext q; unfold shL; rw [h_shS, h_vaL]
theorem h_bs : bsS (upS s 1 v) = bsS s := by funext q i; unfold bsS; rw [h_ro, h_co]
theorem h_ed : edN (upS s 1 v) = edN s := by funext rl q i; unfold edN; rw [h_bs, h_ow]
theorem h_bd : bdS (upS s 1 v) = bdS s := by funext e t i; unfold bdS; rw [h_ro, h_co]
theorem h_in : inS (upS s 1 v) = inS s := by funext e t i; unfold inS; rw [h_clB, h_ki, h_bd, h_nu]
theorem h_rl : rlS (upS s 1 v) = rlS s := by funext e t i; unfold rlS; rw [h_ofB, h_ru, h_in]
theorem h_e : ∀ n k, tbS s ≤ k / 100 + n → eL (upS s 1 v) k = eL s k
  | 0, k, h => by
    rw [eL, eL, h_ofB, h_ed, h_rl]
    congr 2
    funext j
    congr 1
    funext k'
    have e1 : ¬ (k / 100 < k' / 100 ∧ k' / 100 < tbS s) := by omega
    have e2 : ¬ (k / 100 < k' / 100 ∧ k' / 100 < tbS (upS s 1 v)) := by rw [h_tb]; omega
    rw [dif_neg e1, dif_neg e2]
  | n + 1, k, h => by
    rw [eL, eL, h_ofB, h_ed, h_rl]
    congr 2
    funext j
    congr 1
    funext k'
    by_cases e1 : k / 100 < k' / 100 ∧ k' / 100 < tbS s
    · have e2 : k / 100 < k' / 100 ∧ k' / 100 < tbS (upS s 1 v) := by rw [h_tb]; exact e1
      rw [dif_pos e1, dif_pos e2]
      exact h_e n k' (by omega)
    · have e2 : ¬ (k / 100 < k' / 100 ∧ k' / 100 < tbS (upS s 1 v)) := by rw [h_tb]; exact e1
      rw [dif_neg e1, dif_neg e2]
theorem h_eL : eL (upS s 1 v) = eL s := funext (fun k => h_e (tbS s) k (by omega))
theorem h_rlL : rlL (upS s 1 v) = rlL s := by funext k; unfold rlL; rw [h_rl, h_eL]
theorem h_waS : waS (upS s 1 v) = waS s := by funext sh ts q w; unfold waS; rw [h_ki, h_nu]
theorem h_sp : spW (upS s 1 v) = spW s := by funext w q; unfold spW; rw [h_hi, h_br]
theorem h_sg : sgS (upS s 1 v) = sgS s := by funext wa t w l i; unfold sgS; rw [h_clB, h_sp]
theorem h_spZ {wa : Nat → Nat} {w : Nat} {z0 : Nat → Nat} {lo : Nat} : ∀ i, spZ (upS s 1 v) wa w z0 lo i = spZ s wa w z0 lo i
  | 0 => rfl
  | n + 1 => by
    unfold spZ
    rw [h_clB, h_sp, h_spZ n]
theorem h_szF : szF (upS s 1 v) = szF s := by
  funext wa t w
  unfold szF
  rw [h_sg, h_spZ]
theorem h_li : liS (upS s 1 v) = liS s := by funext w t; unfold liS; rw [h_ro, h_co]
theorem h_ts : ∀ n k, tbS s ≤ k / 2 + n → tsL (upS s 1 v) k = tsL s k
  | 0, k, h => by
    rw [tsL, tsL, h_eL, h_li, h_szF]
    congr 3
    funext q
    rw [h_clB, h_waS, h_shL]
    congr 2
    congr 1
    funext k'
    have e1 : ¬ (k / 2 < k' / 2 ∧ k' / 2 < tbS s) := by omega
    have e2 : ¬ (k / 2 < k' / 2 ∧ k' / 2 < tbS (upS s 1 v)) := by rw [h_tb]; omega
    rw [dif_neg e1, dif_neg e2]
  | n + 1, k, h => by
    rw [tsL, tsL, h_eL, h_li, h_szF]
    congr 3
    funext q
    rw [h_clB, h_waS, h_shL]
    congr 2
    congr 1
    funext k'
    by_cases e1 : k / 2 < k' / 2 ∧ k' / 2 < tbS s
    · have e2 : k / 2 < k' / 2 ∧ k' / 2 < tbS (upS s 1 v) := by rw [h_tb]; exact e1
      rw [dif_pos e1, dif_pos e2]
      exact h_ts n k' (by omega)
    · have e2 : ¬ (k / 2 < k' / 2 ∧ k' / 2 < tbS (upS s 1 v)) := by rw [h_tb]; exact e1
      rw [dif_neg e1, dif_neg e2]
theorem h_tsL : tsL (upS s 1 v) = tsL s := funext (fun k => h_ts (tbS s) k (by omega))
theorem h_waL : waL (upS s 1 v) = waL s := by funext j; unfold waL; rw [h_clB, h_waS, h_shL, h_tsL]
theorem h_waT : waT (upS s 1 v) = waT s := by funext t w q; unfold waT; rw [h_waL]
theorem h_szL : szL (upS s 1 v) = szL s := by funext t w; unfold szL; rw [h_szF, h_waT]
theorem h_drL : drL (upS s 1 v) = drL s := by funext t w; unfold drL; rw [h_eL, h_li]
theorem h_LW {b t w : Nat} {σ : Mm} (h : LW b s σ t w) : LW b (upS s 1 v) σ t w := by
  unfold LW
  rw [h_waL, h_szL, h_drL, h_tsL]
  exact h
theorem h_LM {b t : Nat} {σ : Mm} (h : LM b s σ t) : LM b (upS s 1 v) σ t := by
  obtain ⟨a1, a2, a3, a4, a5, a6, a7, a8⟩ := h
  refine ⟨?_, ?_, ?_, fun q hq hc hk => ?_, ?_, ?_, h_LW a7, h_LW a8⟩
  · rw [h_vaL]; exact a1
  · rw [h_vS, h_vaL]; exact a2
  · rw [h_shL]; exact a3
  · rw [h_fr]
    rw [h_ki] at hk
    exact a4 q hq (h_cl.mp hc) hk
  · rw [h_rlL]; exact a5
  · rw [h_eL]; exact a6
theorem h_WF (hw : WF s) {h : Nat} (h1 : 1 ≤ h) (h2 : h ≤ 60) : WF (upS s 1 (iN h)) := by
  refine ⟨?_, ⟨h, up_at, h1, h2⟩, fun t ht => ?_, fun z hz => ?_, fun o ho => ?_, fun z hz => ?_, fun z hz => ?_, fun t h1 ht => ?_, fun z z' hz hz' h3 h3' he => ?_⟩
  · rw [h_tb, up_o (by omega)]; exact hw.1
  · rw [h_tb] at ht
    rw [h_ro, h_co, up_o (by omega), up_o (by omega)]
    exact hw.2.2.1 t ht
  · have w := hw.2.2.2.1 z (h_of.mp hz)
    rw [h_ow, up_o (by omega), h_cl, h_rc]
    exact w
  · have w := hw.2.2.2.2.1 o (h_cl.mp ho)
    rw [h_hi, h_br, h_ro, h_co, up_o (by omega), up_o (by omega)]
    refine ⟨w.1, w.2.1, w.2.2.1, w.2.2.2.1, w.2.2.2.2.1, w.2.2.2.2.2.1, fun z hz => ?_⟩
    rw [h_ow]
    exact w.2.2.2.2.2.2 z (h_rc.mp hz)
  · have w := hw.2.2.2.2.2.1 z (h_of.mp hz)
    rw [h_ki, h_ow, h_ru, up_o (by omega)]
    refine ⟨w.1, w.2.1, fun i hi => ?_, w.2.2.2⟩
    rw [up_o (by omega)]
    exact w.2.2.1 i hi
  · rw [h_ki, h_nu, h_tb]
    exact hw.2.2.2.2.2.2.1 z (h_cl.mp hz)
  · rw [h_tb] at ht
    obtain ⟨z, a1, a2, a3⟩ := hw.2.2.2.2.2.2.2.1 t h1 ht
    exact ⟨z, h_cl.mpr a1, by rw [h_ki]; exact a2, by rw [h_nu]; exact a3⟩
  · rw [h_ki] at h3 h3'
    rw [h_nu] at he
    exact hw.2.2.2.2.2.2.2.2 z z' (h_cl.mp hz) (h_cl.mp hz') h3 h3' he
theorem h_Rel {b : Nat} {σ : Mm} (hr : Rel b s σ) : Rel b (upS s 1 v) (upM σ b 0 v) := by
  refine ⟨?_, ?_, fun t ht => ?_, fun z hz hn => ?_, fun z hz => ?_, fun z hz hn => ?_, ?_, fun z hz h3 => ?_⟩
  · rw [upM_ni (by omega), up_o (by omega)]; exact hr.1
  · rw [upM_at, up_at]
  · rw [h_tb] at ht
    rw [upM_o (by omega), up_o (by omega), up_o (by omega)]
    exact hr.2.2.1 t ht
  · rw [h_tb] at hz
    rw [upM_o (by omega)]
    exact hr.2.2.2.1 z hz (fun g => hn (h_of.mpr g))
  · have r := hr.2.2.2.2.1 z (h_of.mp hz)
    rw [upM_o (by omega), upM_o (by omega), upM_o (by omega), upM_o (by omega), upM_o (by omega), up_o (by omega), up_o (by omega), up_o (by omega), up_o (by omega), up_o (by omega)]
    refine ⟨r.1, r.2.1, r.2.2.1, r.2.2.2.1, r.2.2.2.2.1, fun i hi => ?_⟩
    rw [up_o (by omega)]
    exact r.2.2.2.2.2 i hi
  · rw [h_tb] at hz
    rw [upM_o (by omega), upM_o (by omega)]
    exact hr.2.2.2.2.2.1 z hz (fun g => hn (h_of.mpr g))
  · rw [upM_o (by omega)]
    exact hr.2.2.2.2.2.2.1
  · rw [h_ki] at h3
    rw [h_nu, upM_o (by omega)]
    exact hr.2.2.2.2.2.2.2 z (h_cl.mp hz) h3
end Height

