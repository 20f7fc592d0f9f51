/-! PAIRS 5 -/
def MEn (a1 r : Int32) (iv : Iv) : Prop := (∃ (n : Nat) (t : Nat → Int32), n ≤ 400 ∧ Tp 551 17 561 n t iv ∧ (∀ j, j < n → ¬ t j = -1) ∧ (∀ j, j < n → iv 542 j = t j) ∧ (Rg (nI 0) (nI n) a1 → r = nI 1 ∧ iv 541 1 = a1) ∧ (¬ Rg (nI 0) (nI n) a1 → r = nI 0 ∧ iv 541 1 = nI n)) ∧ Rm iv ∧ Rt iv ∧ Rd iv ∧ Rp iv ∧ Rq iv ∧ RF iv ∧ RI iv ∧ RW iv
theorem v_X8_end (g : GE) {iv : Iv} {lv : Lv} {a1 : Int32}  (hG : SI s0 z0 iv) (hR : RV iv) : ConI g yX8_end cX8_end 2 (some .boolean) 1 [rf g 0, .int a1] iv lv (fun r iv lv => SI s0 z0 iv ∧ MEn a1 r iv) := by
  obtain ⟨n, t, hn, h1, h2, h3⟩ := hR.2.2.2.2.2.1
  exact con_mono (e_X8_end g (si_u (rm := rc_e) hG) (spf (fun z => z.2 (by unfold rc_e; omega))) h1.1) (fun r iv' lv' h => ⟨si_0 h.1, ⟨n, t, hn, tp_c h2 (ag h.1 (k := 551) (j := 17) (u9_T (by unfold c9T; omega)) (by unfold rc_e; omega)) (fun j => ag h.1 (u9_T (Or.inr (Or.inr (Or.inr rfl)))) (by unfold rc_e; omega)), h3, fun j hj => (ag h.1 (u9_T (Or.inr (Or.inl rfl))) (by unfold rc_e; omega)).trans (h1.2 j hj), h.2.1, h.2.2⟩, (f_m_rc_e h.1 hR.1), (f_t_rc_e h.1 hR.2.1), (f_d_rc_e h.1 hR.2.2.1), (f_p_rc_e h.1 hR.2.2.2.1), (f_q_rc_e h.1 hR.2.2.2.2.1), (f_F_rc_e h.1 hR.2.2.2.2.2.2.1), (f_I_rc_e h.1 hR.2.2.2.2.2.2.2.1), (f_W_rc_e h.1 hR.2.2.2.2.2.2.2.2)⟩)
theorem v_X9_end (g : GE) {iv : Iv} {lv : Lv} {a1 : Int32} {r0 : Int32} (hG : SI s0 z0 iv) (hM : MEn a1 r0 iv) : ConI g yX9_end cX9_end 2 (some .boolean) 2 [rf g 551, .int a1] iv lv (fun r iv lv => SI s0 z0 iv ∧ RV iv ∧ r = r0) := by
  obtain ⟨⟨n, t, hn, h2, h3, h4, hy, hno⟩, wm, wt, wd, wp, wq, wF, wI, wW⟩ := hM
  refine con_mono (e_X9_end g (si_u (rm := ry_e) hG) (spf (fun z => z.2 (by unfold ry_e; omega))) h2.1) (fun r iv' lv' h => ?_)
  have hc : ∀ j, j < n → iv' 542 j = t j := fun j hj => (ag h.1 (u9_T (Or.inr (Or.inl rfl))) (by unfold ry_e; omega)).trans (h4 j hj)
  have hd : ∀ j, j < n → iv' 561 j = t j := fun j hj => (ag h.1 (u9_T (Or.inr (Or.inr (Or.inr rfl)))) (by unfold ry_e; omega)).trans (h2.2 j hj)
  have e9 : iv' 541 1 = iv 541 1 := (ag h.1 (k := 541) (j := 1) (u9_T (by unfold c9T; omega)) (by unfold ry_e; omega))
  by_cases q : Rg (nI 0) (nI n) a1
  · obtain ⟨e1, e2⟩ := hy q
    obtain ⟨e3, e4⟩ := h.2.1 q
    obtain ⟨k, hk0, hk, rfl⟩ := Rg_nat (by omega) (by decide) q
    exact ⟨si_0 h.1, ⟨(f_m_ry_e h.1 wm), (f_t_ry_e h.1 wt), (f_d_ry_e h.1 wd), (f_p_ry_e h.1 wp), (f_q_ry_e h.1 wq), ⟨k, t, by omega, ⟨e9.trans e2, fun j hj => hc j (by omega)⟩, ⟨e4, fun j hj => hd j (by omega)⟩, fun j hj => h3 j (by omega)⟩, (f_F_ry_e h.1 wF), (f_I_ry_e h.1 wI), (f_W_ry_e h.1 wW)⟩, e3.trans e1.symm⟩
  · obtain ⟨e1, e2⟩ := hno q
    obtain ⟨e3, e4⟩ := h.2.2 q
    exact ⟨si_0 h.1, ⟨(f_m_ry_e h.1 wm), (f_t_ry_e h.1 wt), (f_d_ry_e h.1 wd), (f_p_ry_e h.1 wp), (f_q_ry_e h.1 wq), ⟨n, t, hn, ⟨e9.trans e2, hc⟩, ⟨e4, hd⟩, h3⟩, (f_F_ry_e h.1 wF), (f_I_ry_e h.1 wI), (f_W_ry_e h.1 wW)⟩, e3.trans e1.symm⟩
