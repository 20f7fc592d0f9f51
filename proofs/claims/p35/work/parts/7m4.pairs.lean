/-! PAIRS 4 -/
def MFd (a1 a2 a3 a4 a5 r : Int32) (iv : Iv) : Prop := (∃ (n : Nat) (t : Nat → Int32), n ≤ 400 ∧ Tp 551 17 561 n t iv ∧ (∀ j, j < n → ¬ t j = -1) ∧ (n ≤ 380 → r = nI (n + 20) ∧ Tp 541 1 542 (n + 20) (tf_x t n a1 a2 a3 a4 a5) iv) ∧ (¬ n ≤ 380 → r = -1 ∧ Tp 541 1 542 n t iv)) ∧ Rm iv ∧ Rt iv ∧ Rd iv ∧ Rp iv ∧ Rq iv ∧ RF iv ∧ RI iv ∧ RW iv
theorem v_X8_feed (g : GE) {iv : Iv} {lv : Lv} {a1 : Int32} {a2 : Int32} {a3 : Int32} {a4 : Int32} {a5 : Int32}  (hG : SI s0 z0 iv) (hR : RV iv) : ConI g yX8_feed cX8_feed 6 (some .int) 2 [rf g 0, .int a1, .int a2, .int a3, .int a4, .int a5] iv lv (fun r iv lv => SI s0 z0 iv ∧ MFd a1 a2 a3 a4 a5 r iv) := by
  obtain ⟨n, t, hn, h1, h2, h3⟩ := hR.2.2.2.2.2.1
  exact con_mono (e_X8_feed g (si_u (rm := rc_T) hG) (spf (fun z => z.2 (by unfold rc_T; omega))) (fun j => (spf (fun z => z.2 (by unfold rc_T; omega)))) h1 hn) (fun r iv' lv' h => ⟨si_0 h.1, ⟨n, t, hn, tp_c h2 (ag h.1 (k := 551) (j := 17) (u9_T (by unfold c9T; omega)) (by unfold rc_T; omega)) (fun j => ag h.1 (u9_T (Or.inr (Or.inr (Or.inr rfl)))) (by unfold rc_T; omega)), h3, h.2.1, h.2.2⟩, (f_m_rc_T h.1 hR.1), (f_t_rc_T h.1 hR.2.1), (f_d_rc_T h.1 hR.2.2.1), (f_p_rc_T h.1 hR.2.2.2.1), (f_q_rc_T h.1 hR.2.2.2.2.1), (f_F_rc_T h.1 hR.2.2.2.2.2.2.1), (f_I_rc_T h.1 hR.2.2.2.2.2.2.2.1), (f_W_rc_T h.1 hR.2.2.2.2.2.2.2.2)⟩)
theorem v_X9_feed (g : GE) {iv : Iv} {lv : Lv} {a1 : Int32} {a2 : Int32} {a3 : Int32} {a4 : Int32} {a5 : Int32} {r0 : Int32} (hG : SI s0 z0 iv) (hM : MFd a1 a2 a3 a4 a5 r0 iv) : ConI g yX9_feed cX9_feed 6 (some .int) 2 [rf g 551, .int a1, .int a2, .int a3, .int a4, .int a5] iv lv (fun r iv lv => SI s0 z0 iv ∧ RV iv ∧ r = r0) := by
  obtain ⟨⟨n, t, hn, h2, h3, hy, hno⟩, wm, wt, wd, wp, wq, wF, wI, wW⟩ := hM
  refine con_mono (e_X9_feed g (si_u (rm := ry_T) hG) (spf (fun z => z.2 (by unfold ry_T; omega))) (fun j => (spf (fun z => z.2 (by unfold ry_T; omega)))) h2 hn) (fun r iv' lv' h => ?_)
  have hc : ∀ {q : Nat} {u : Nat → Int32}, Tp 541 1 542 q u iv → Tp 541 1 542 q u iv' := fun w => tp_c w (ag h.1 (k := 541) (j := 1) (u9_T (by unfold c9T; omega)) (by unfold ry_T; omega)) (fun j => ag h.1 (u9_T (Or.inr (Or.inl rfl))) (by unfold ry_T; omega))
  by_cases q : n ≤ 380
  · obtain ⟨e1, e2⟩ := hy q
    obtain ⟨e3, e4⟩ := h.2.1 q
    exact ⟨si_0 h.1, ⟨(f_m_ry_T h.1 wm), (f_t_ry_T h.1 wt), (f_d_ry_T h.1 wd), (f_p_ry_T h.1 wp), (f_q_ry_T h.1 wq), ⟨n + 20, _, by omega, hc e2, e4, tf_P h3⟩, (f_F_ry_T h.1 wF), (f_I_ry_T h.1 wI), (f_W_ry_T h.1 wW)⟩, e3.trans e1.symm⟩
  · obtain ⟨e1, e2⟩ := hno q
    obtain ⟨e3, e4⟩ := h.2.2 q
    exact ⟨si_0 h.1, ⟨(f_m_ry_T h.1 wm), (f_t_ry_T h.1 wt), (f_d_ry_T h.1 wd), (f_p_ry_T h.1 wp), (f_q_ry_T h.1 wq), ⟨n, t, hn, hc e2, e4, h3⟩, (f_F_ry_T h.1 wF), (f_I_ry_T h.1 wI), (f_W_ry_T h.1 wW)⟩, e3.trans e1.symm⟩
