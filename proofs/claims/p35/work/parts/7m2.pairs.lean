/-! PAIRS 2 -/
def MTr (a1 a2 a3 a4 a5 r : Int32) (iv : Iv) : Prop := TrP (iv 2 0) (iv 552 7) a1 a2 a3 a4 a5 r (iv 8 2) ∧ Rm iv ∧ Rd iv ∧ Rp iv ∧ Rq iv ∧ RT iv ∧ RF iv ∧ RI iv ∧ RW iv
theorem v_X8_trade (g : GE) {iv : Iv} {lv : Lv} {a1 : Int32} {a2 : Int32} {a3 : Int32} {a4 : Int32} {a5 : Int32}  (hG : SI s0 z0 iv) (hR : RV iv) : ConI g yX8_trade cX8_trade 6 (some .int) 4 [rf g 0, .int a1, .int a2, .int a3, .int a4, .int a5] iv lv (fun r iv lv => SI s0 z0 iv ∧ MTr a1 a2 a3 a4 a5 r iv) := by
  refine con_mono (e_X8_trade g (si_u (rm := rc_t) hG) spU_k (spf (fun z => z.2 (by unfold rc_t; omega))) rfl hR.2.1.symm) (fun r iv' lv' h => ⟨si_0 h.1, ?_, (f_m_rc_t h.1 hR.1), (f_d_rc_t h.1 hR.2.2.1), (f_p_rc_t h.1 hR.2.2.2.1), (f_q_rc_t h.1 hR.2.2.2.2.1), (f_T_rc_t h.1 hR.2.2.2.2.2.1), (f_F_rc_t h.1 hR.2.2.2.2.2.2.1), (f_I_rc_t h.1 hR.2.2.2.2.2.2.2.1), (f_W_rc_t h.1 hR.2.2.2.2.2.2.2.2)⟩)
  rw [show iv' 552 7 = iv 552 7 from (ag h.1 (k := 552) (j := 7) (u9_t (by unfold c9t; omega)) (by unfold rc_t; omega)), show iv' 2 0 = iv 2 0 from (ag h.1 (k := 2) (j := 0) (u9_m (by unfold c9m; omega)) (by unfold rc_t; omega))]; exact h.2.2
theorem v_X9_trade (g : GE) {iv : Iv} {lv : Lv} {a1 : Int32} {a2 : Int32} {a3 : Int32} {a4 : Int32} {a5 : Int32} {r0 : Int32} (hG : SI s0 z0 iv) (hM : MTr a1 a2 a3 a4 a5 r0 iv) : ConI g yX9_trade cX9_trade 6 (some .int) 4 [rf g 551, .int a1, .int a2, .int a3, .int a4, .int a5] iv lv (fun r iv lv => SI s0 z0 iv ∧ RV iv ∧ r = r0) := by
  obtain ⟨hp, wm, wd, wp, wq, wT, wF, wI, wW⟩ := hM
  refine con_mono (e_X9_trade g (si_u (rm := ry_t) hG) (spf (fun z => z.2 (by unfold ry_t; omega))) (si_c hG (k := 2) (j := 0) rfl) wm rfl) (fun r iv' lv' h => ?_)
  have e := trp_eq h.2.2 hp
  refine ⟨si_0 h.1, ⟨(f_m_ry_t h.1 wm), ?_, (f_d_ry_t h.1 wd), (f_p_ry_t h.1 wp), (f_q_ry_t h.1 wq), (f_T_ry_t h.1 wT), (f_F_ry_t h.1 wF), (f_I_ry_t h.1 wI), (f_W_ry_t h.1 wW)⟩, e.1⟩
  show iv' 552 7 = iv' 8 2
  rw [show iv' 8 2 = iv 8 2 from (ag h.1 (k := 8) (j := 2) (u9_t (by unfold c9t; omega)) (by unfold ry_t; omega))]; exact e.2
theorem v_X8_apart (g : GE) {iv : Iv} {lv : Lv} {a1 : Int32} {a2 : Int32} {a3 : Int32} {a4 : Int32} {a5 : Int32}  (hG : SI s0 z0 iv) (hR : RV iv) : ConI g yX8_apart cX8_apart 6 (some .int) 4 [rf g 0, .int a1, .int a2, .int a3, .int a4, .int a5] iv lv (fun r iv lv => SI s0 z0 iv ∧ MTr a1 a2 a3 a4 a5 r iv) := by
  refine con_mono (e_X8_apart g (si_u (rm := rc_t) hG) spU_k (spf (fun z => z.2 (by unfold rc_t; omega))) rfl hR.2.1.symm) (fun r iv' lv' h => ⟨si_0 h.1, ?_, (f_m_rc_t h.1 hR.1), (f_d_rc_t h.1 hR.2.2.1), (f_p_rc_t h.1 hR.2.2.2.1), (f_q_rc_t h.1 hR.2.2.2.2.1), (f_T_rc_t h.1 hR.2.2.2.2.2.1), (f_F_rc_t h.1 hR.2.2.2.2.2.2.1), (f_I_rc_t h.1 hR.2.2.2.2.2.2.2.1), (f_W_rc_t h.1 hR.2.2.2.2.2.2.2.2)⟩)
  rw [show iv' 552 7 = iv 552 7 from (ag h.1 (k := 552) (j := 7) (u9_t (by unfold c9t; omega)) (by unfold rc_t; omega)), show iv' 2 0 = iv 2 0 from (ag h.1 (k := 2) (j := 0) (u9_m (by unfold c9m; omega)) (by unfold rc_t; omega))]; exact h.2.2
theorem v_X9_apart (g : GE) {iv : Iv} {lv : Lv} {a1 : Int32} {a2 : Int32} {a3 : Int32} {a4 : Int32} {a5 : Int32} {r0 : Int32} (hG : SI s0 z0 iv) (hM : MTr a1 a2 a3 a4 a5 r0 iv) : ConI g yX9_apart cX9_apart 6 (some .int) 4 [rf g 551, .int a1, .int a2, .int a3, .int a4, .int a5] iv lv (fun r iv lv => SI s0 z0 iv ∧ RV iv ∧ r = r0) := by
  obtain ⟨hp, wm, wd, wp, wq, wT, wF, wI, wW⟩ := hM
  refine con_mono (e_X9_apart g (si_u (rm := ry_t) hG) (spf (fun z => z.2 (by unfold ry_t; omega))) (si_c hG (k := 2) (j := 0) rfl) wm rfl) (fun r iv' lv' h => ?_)
  have e := trp_eq h.2.2 hp
  refine ⟨si_0 h.1, ⟨(f_m_ry_t h.1 wm), ?_, (f_d_ry_t h.1 wd), (f_p_ry_t h.1 wp), (f_q_ry_t h.1 wq), (f_T_ry_t h.1 wT), (f_F_ry_t h.1 wF), (f_I_ry_t h.1 wI), (f_W_ry_t h.1 wW)⟩, e.1⟩
  show iv' 552 7 = iv' 8 2
  rw [show iv' 8 2 = iv 8 2 from (ag h.1 (k := 8) (j := 2) (u9_t (by unfold c9t; omega)) (by unfold ry_t; omega))]; exact e.2
