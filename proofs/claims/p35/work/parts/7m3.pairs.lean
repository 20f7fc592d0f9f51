/-! PAIRS 3 -/
def MNg (a1 r : Int32) (iv : Iv) : Prop := NgP (iv 552 6) a1 r (iv 1 11) ∧ Rm iv ∧ Rt iv ∧ Rp iv ∧ Rq iv ∧ RT iv ∧ RF iv ∧ RI iv ∧ RW iv
theorem v_X8_night (g : GE) {iv : Iv} {lv : Lv} {a1 : Int32}  (hG : SI s0 z0 iv) (hR : RV iv) : ConI g yX8_night cX8_night 2 (some .int) 7 [rf g 0, .int a1] iv lv (fun r iv lv => SI s0 z0 iv ∧ MNg a1 r iv) := by
  refine con_mono (e_X8_night g (si_u (rm := rc_d) hG) (spf (fun z => z.2 (by unfold rc_d; omega))) hR.2.2.1.symm) (fun r iv' lv' h => ⟨si_0 h.1, ?_, (f_m_rc_d h.1 hR.1), (f_t_rc_d h.1 hR.2.1), (f_p_rc_d h.1 hR.2.2.2.1), (f_q_rc_d h.1 hR.2.2.2.2.1), (f_T_rc_d h.1 hR.2.2.2.2.2.1), (f_F_rc_d h.1 hR.2.2.2.2.2.2.1), (f_I_rc_d h.1 hR.2.2.2.2.2.2.2.1), (f_W_rc_d h.1 hR.2.2.2.2.2.2.2.2)⟩)
  rw [show iv' 552 6 = iv 552 6 from (ag h.1 (k := 552) (j := 6) (u9_d (by unfold c9d; omega)) (by unfold rc_d; omega))]; exact h.2.2
theorem v_X9_night (g : GE) {iv : Iv} {lv : Lv} {a1 : Int32} {r0 : Int32} (hG : SI s0 z0 iv) (hM : MNg a1 r0 iv) : ConI g yX9_night cX9_night 3 (some .int) 11 [rf g 551, .int a1] iv lv (fun r iv lv => SI s0 z0 iv ∧ RV iv ∧ r = r0) := by
  obtain ⟨hp, wm, wt, wp, wq, wT, wF, wI, wW⟩ := hM
  refine con_mono (e_X9_night g (si_u (rm := ry_d) hG) spU_k (spf (fun z => z.2 (by unfold ry_d; omega))) rfl) (fun r iv' lv' h => ?_)
  have e := ng_eq h.2.2 hp
  refine ⟨si_0 h.1, ⟨(f_m_ry_d h.1 wm), (f_t_ry_d h.1 wt), ?_, (f_p_ry_d h.1 wp), (f_q_ry_d h.1 wq), (f_T_ry_d h.1 wT), (f_F_ry_d h.1 wF), (f_I_ry_d h.1 wI), (f_W_ry_d h.1 wW)⟩, e.1⟩
  show iv' 552 6 = iv' 1 11
  rw [show iv' 1 11 = iv 1 11 from (ag h.1 (k := 1) (j := 11) (u9_d (by unfold c9d; omega)) (by unfold ry_d; omega))]; exact e.2
