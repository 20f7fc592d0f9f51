/-! PLAN, RUN, IMAGE: the pairs -/
theorem no543 (h : uK 543 2) : False := by
  rcases h with z | z | z | z | z | z | z | z | z
  · unfold c9m at z; omega
  · unfold c9t at z; omega
  · unfold c9d at z; omega
  · unfold c9p at z; omega
  · unfold c9q at z; omega
  · unfold c9T at z; omega
  · unfold c9F at z; omega
  · unfold c9I at z; omega
  · unfold c9W at z; omega
theorem no545 {c j : Nat} (hc : c < 6) (h : uK (545 + c) j) : False := by
  rcases h with z | z | z | z | z | z | z | z | z
  · unfold c9m at z; omega
  · unfold c9t at z; omega
  · unfold c9d at z; omega
  · unfold c9p at z; omega
  · unfold c9q at z; omega
  · unfold c9T at z; omega
  · unfold c9F at z; omega
  · unfold c9I at z; omega
  · unfold c9W at z; omega
theorem si_wk {rm rm' : Nat → Nat → Prop} {i0 iv : Iv} (h : ∀ k j, rm k j → rm' k j) (hS : SI (spU rm) i0 iv) : SI (spU rm') i0 iv := ⟨fun k j z => sk_spc (uK_sK (spu z).1), fun k j z => hS.2.1 k j (spt (spu z).1 (fun w => (spu z).2 (h k j w))), hS.2.2⟩
theorem no_rg {k j : Nat} (h1 : 49 ≤ k) (h2 : k < 55) : rgI k j = none := by
  rw [show k = 1 + (k - 1) by omega, rg_H isH_1 (by omega)]
  unfold rH
  rw [if_neg (by omega), if_neg (by omega), if_neg (by omega), if_neg (by omega), if_neg (by omega), if_neg (by omega), if_neg (by omega), if_neg (by omega), if_neg (by omega), if_neg (by omega), if_neg (by omega), if_neg (by omega), if_neg (by omega), if_pos (by omega)]
theorem f_I_rc_P {iv iv' : Iv} (h : SI (spU rc_P) iv iv') (w : RI iv) : RI iv' := rI_f (fun k j z => ag h (u9_I z) (by unfold c9I at z; unfold rc_P; omega)) w
theorem f_I_ry_p {iv iv' : Iv} (h : SI (spU ry_p) iv iv') (w : RI iv) : RI iv' := rI_f (fun k j z => ag h (u9_I z) (by unfold c9I at z; unfold ry_p; omega)) w
theorem f_W_rc_P {iv iv' : Iv} (h : SI (spU rc_P) iv iv') (w : RW iv) : RW iv' := rW_f (fun k j z => ag h (u9_W z) (by unfold c9W at z; unfold rc_P; omega)) w
theorem f_W_ry_p {iv iv' : Iv} (h : SI (spU ry_p) iv iv') (w : RW iv) : RW iv' := rW_f (fun k j z => ag h (u9_W z) (by unfold c9W at z; unfold ry_p; omega)) w
theorem f_d_rc_P {iv iv' : Iv} (h : SI (spU rc_P) iv iv') (w : Rd iv) : Rd iv' := rd_f (fun k j z => ag h (u9_d z) (by unfold c9d at z; unfold rc_P; omega)) w
theorem f_d_ry_p {iv iv' : Iv} (h : SI (spU ry_p) iv iv') (w : Rd iv) : Rd iv' := rd_f (fun k j z => ag h (u9_d z) (by unfold c9d at z; unfold ry_p; omega)) w
theorem f_m_rc_P {iv iv' : Iv} (h : SI (spU rc_P) iv iv') (w : Rm iv) : Rm iv' := rm_f (fun k j z => ag h (u9_m z) (by unfold c9m at z; unfold rc_P; omega)) w
theorem f_m_ry_p {iv iv' : Iv} (h : SI (spU ry_p) iv iv') (w : Rm iv) : Rm iv' := rm_f (fun k j z => ag h (u9_m z) (by unfold c9m at z; unfold ry_p; omega)) w
theorem f_p_rc_P {iv iv' : Iv} (h : SI (spU rc_P) iv iv') (w : Rp iv) : Rp iv' := rp_f (fun k j z => ag h (u9_p z) (by unfold c9p at z; unfold rc_P; omega)) w
theorem f_q_rc_P {iv iv' : Iv} (h : SI (spU rc_P) iv iv') (w : Rq iv) : Rq iv' := rq_f (fun k j z => ag h (u9_q z) (by unfold c9q at z; unfold rc_P; omega)) w
theorem f_q_ry_p {iv iv' : Iv} (h : SI (spU ry_p) iv iv') (w : Rq iv) : Rq iv' := rq_f (fun k j z => ag h (u9_q z) (by unfold c9q at z; unfold ry_p; omega)) w
theorem f_t_rc_P {iv iv' : Iv} (h : SI (spU rc_P) iv iv') (w : Rt iv) : Rt iv' := rt_f (fun k j z => ag h (u9_t z) (by unfold c9t at z; unfold rc_P; omega)) w
theorem f_t_ry_p {iv iv' : Iv} (h : SI (spU ry_p) iv iv') (w : Rt iv) : Rt iv' := rt_f (fun k j z => ag h (u9_t z) (by unfold c9t at z; unfold ry_p; omega)) w
/-! PLAN -/
theorem spp_T {rm : Nat → Nat → Prop} {k j : Nat} (h : c9T k j) (w : ¬ rm k j) : spU rm k j = true := spt (u9_T h) w
/-- the plan that a tape gives, on both sides -/
def MPl (r : Int32) (iv : Iv) : Prop := (∃ (n : Nat) (t : Nat → Int32), n ≤ 400 ∧ Tp 551 17 561 n t iv ∧ (∀ j, j < n → ¬ t j = -1) ∧ iv 541 1 = nI 0 ∧ iv 541 4 = nI (pff t n).1 ∧ iv 541 5 = @ite _ ((pff t n).1 = 0) (Classical.propDecidable _) (-1) (nI (pff t n).2.1) ∧ ((pff t n).1 = 0 → r = nI (pff t n).2.2 ∧ (pff t n).2.2 ≤ 24 ∧ iv 47 2 = nI (pff t n).2.2 ∧ iv 1 10 = nI 0 ∧ ∀ a, a < (pff t n).2.2 → kd t n (lpos t n a) < 10 ∧ ∀ c, c ≤ lm t n a → iv (49 + c) a = lw t n a c) ∧ (¬ (pff t n).1 = 0 → r = -1 ∧ Rp iv)) ∧ Rm iv ∧ Rt iv ∧ Rd iv ∧ Rq iv ∧ RI iv ∧ RW iv
set_option maxHeartbeats 1000000 in
set_option maxRecDepth 20000 in
theorem v_X8_plan (g : GE) {iv : Iv} {lv : Lv} (hG : SI s0 z0 iv) (hR : RV iv) : ConI g yX8_plan cX8_plan 1 (some .int) 9 [rf g 0] iv lv (fun r iv lv => SI s0 z0 iv ∧ MPl r iv) := by
  obtain ⟨n, t, hn, h1, h2, h3⟩ := hR.2.2.2.2.2.1
  refine con_intro (own := "RollingNets") (by decide +kernel) rfl (Nat.le_of_ble_eq_true rfl) (L0 := [some (rf g 0)]) rfl (fun Z zh => ?_)
  refine z_aloadnR zh dX8_plan_0 rfl ?_
  refine z_getf zh fl_RollingNets_25 dX8_plan_1 ck_X rfl rfl ?_
  refine z_callVI zh mv_RollingNets_149 dX8_plan_4 ck_R rfl (h_X6_read g hn (sp := spU rc_P) ⟨(spf (fun z => z.2 (by unfold rc_P; omega))), (spf (fun z => z.2 (by unfold rc_P; omega))), spf (fun z => no543 z.1), fun c j hc => spf (fun z => no545 hc z.1)⟩ (si_u hG) (spf (fun z => z.2 (by unfold rc_P; omega))) h1.1 (fun j => spp_T (Or.inr (Or.inl rfl)) (by unfold rc_P; omega)) h1.2) ⟨Nat.le_of_ble_eq_true rfl, Nat.le_of_ble_eq_true rfl⟩ rfl rfl (Nat.le_of_ble_eq_true rfl) ?_
  rintro x1 iv1 lv ⟨hS, h41, hr1, h44, h45, hok⟩
  have hG1 : SI s0 z0 iv1 := si_0 hS
  have ht2 : Tp 551 17 561 n t iv1 := tp_c h2 (ag hS (k := 551) (j := 17) (u9_T (by unfold c9T; omega)) (by unfold rc_P; omega)) (fun j => ag hS (u9_T (Or.inr (Or.inr (Or.inr rfl)))) (by unfold rc_P; omega))
  have krm := (f_m_rc_P hS hR.1)
  have krt := (f_t_rc_P hS hR.2.1)
  have krd := (f_d_rc_P hS hR.2.2.1)
  have krp := (f_p_rc_P hS hR.2.2.2.1)
  have krq := (f_q_rc_P hS hR.2.2.2.2.1)
  have krI := (f_I_rc_P hS hR.2.2.2.2.2.2.2.1)
  have krW := (f_W_rc_P hS hR.2.2.2.2.2.2.2.2)
  by_cases hP : (pff t n).1 = 0
  · obtain ⟨hc, hc24, hd⟩ := hok hP
    rw [bi_t hP] at hr1
    subst hr1
    refine z_if_ne (tgt := 12) zh dX8_plan_7 rfl (fun _ => ?_) (fun z => absurd z (by decide))
    refine z_aloadnR zh dX8_plan_12 rfl ?_
    refine z_getf zh fl_RollingNets_12 dX8_plan_13 ck_X rfl rfl ?_
    refine z_getf zh fl_RollingNets_152 dX8_plan_16 (ck_H isH_1) rfl rfl ?_
    refine z_aloadnR zh dX8_plan_19 rfl ?_
    refine z_getf zh fl_RollingNets_25 dX8_plan_20 ck_X rfl rfl ?_
    refine z_getf zh fl_RollingNets_155 dX8_plan_23 ck_R rfl rfl ?_
    refine z_callVV zh mv_RollingNets_158 dX8_plan_26 (ck_T (isT_p isH_1)) rfl (e_copyT g (isT_p isH_1) isT_r (Or.inl (by decide)) (si_u (rm := rc_p) hG1) (spf (fun z => z.2 (by unfold rc_p; omega))) (fun c j hc9 => spf (fun z => z.2 (by unfold rc_p; omega))) (fun c j lo hi hc9 _ e => absurd e (by rw [no_rg (by omega) (by omega)]; intro z; cases z))) ⟨Nat.le_of_ble_eq_true rfl, Nat.le_of_ble_eq_true rfl⟩ rfl rfl (Nat.le_of_ble_eq_true rfl) ?_
    rintro iv2 lv ⟨hS2, hF, hc2, hcells⟩
    have e9 : ∀ {k j : Nat}, k ≠ 47 → ¬ (49 ≤ k ∧ k < 55) → iv2 k j = iv1 k j := fun {k j} z1 z2 => by rw [hF k (by omega) (by omega)]
    have hG2 : SI s0 z0 iv2 := si_0 hS2
    have hcnt : iv2 47 2 = nI (pff t n).2.2 := hc2.trans hc
    refine z_aloadnR zh dX8_plan_29 rfl ?_
    refine z_getf zh fl_RollingNets_12 dX8_plan_30 ck_X rfl rfl ?_
    refine z_iconst zh dX8_plan_33 ki_0 ?_
    refine z_putI zh fl_RollingNets_162 dX8_plan_34 (ck_H isH_1) rfl rfl (Nat.le_of_ble_eq_true rfl) (Or.inl rfl) ?_
    have hG3 : SI s0 z0 (upI iv2 1 10 (nI 0)) := si_wHk hG2 isH_1 0 (by decide) rfl (rx_none rfl)
    have e10 : upI iv2 1 10 (nI 0) 1 10 = nI 0 := by rw [upI_at, if_pos ⟨rfl, rfl⟩]
    have hN : ∀ {k j : Nat}, k ≠ 47 → ¬ (49 ≤ k ∧ k < 55) → ¬ (k = 1 ∧ j = 10) → upI iv2 1 10 (nI 0) k j = iv1 k j := fun {k j} z1 z2 z3 => (upI_ne (by omega)).trans (e9 z1 z2)
    have hcnt3 : upI iv2 1 10 (nI 0) 47 2 = nI (pff t n).2.2 := (upI_ne (Or.inl (by decide))).trans hcnt
    have hrow : ∀ a, a < (pff t n).2.2 → kd t n (lpos t n a) < 10 ∧ ∀ c, c ≤ lm t n a → upI iv2 1 10 (nI 0) (49 + c) a = lw t n a c := fun a ha => by
      obtain ⟨z1, z2⟩ := hd a ha
      refine ⟨z1, fun c hc9 => (upI_ne (Or.inl (by omega))).trans ?_⟩
      have hm5 := mn_5 _ z1
      have hc8 : c ≤ mn (kd t n (lpos t n a)) := hc9
      refine Eq.trans (hcells c (by omega) a ?_) (z2 c hc9)
      rw [hc, nI_toInt (by omega)]; omega
    generalize upI iv2 1 10 (nI 0) = iv3 at hG3 e10 hN hcnt3 hrow ⊢
    refine z_aloadnR zh dX8_plan_37 rfl ?_
    refine z_getf zh fl_RollingNets_12 dX8_plan_38 ck_X rfl rfl ?_
    refine z_getf zh fl_RollingNets_152 dX8_plan_41 (ck_H isH_1) rfl rfl ?_
    refine z_callVIp zh mv_RollingNets_51 dX8_plan_44 (ck_T (isT_p isH_1)) rfl (s_X7_size g (isT_p isH_1) hcnt3) ⟨Nat.le_of_ble_eq_true rfl, Nat.le_of_ble_eq_true rfl⟩ rfl rfl (Nat.le_of_ble_eq_true rfl) ?_
    exact z_iret zh dX8_plan_47 ⟨_, rfl, hG3, ⟨n, t, hn, tp_c ht2 (hN (by decide) (by decide) (by decide)) (fun j => hN (by decide) (by decide) (by omega)), h3, (hN (by decide) (by decide) (by decide)).trans h41, (hN (by decide) (by decide) (by decide)).trans h44, (hN (by decide) (by decide) (by decide)).trans h45, fun _ => ⟨rfl, hc24, hcnt3, e10, hrow⟩, fun z => absurd hP z⟩, rm_f (fun k j z => hN (by unfold c9m at z; omega) (by unfold c9m at z; omega) (by unfold c9m at z; omega)) krm, rt_f (fun k j z => hN (by unfold c9t at z; omega) (by unfold c9t at z; omega) (by unfold c9t at z; omega)) krt, rd_f (fun k j z => hN (by unfold c9d at z; omega) (by unfold c9d at z; omega) (by unfold c9d at z; omega)) krd, rq_f (fun k j z => hN (by unfold c9q at z; omega) (by unfold c9q at z; omega) (by unfold c9q at z; omega)) krq, rI_f (fun k j z => hN (by unfold c9I at z; omega) (by unfold c9I at z; omega) (by unfold c9I at z; omega)) krI, rW_f (fun k j z => hN (by unfold c9W at z; omega) (by unfold c9W at z; omega) (by unfold c9W at z; omega)) krW⟩
  · rw [bi_f hP] at hr1
    subst hr1
    refine z_if_ne (tgt := 12) zh dX8_plan_7 rfl (fun z => absurd nI_0 z) (fun _ => ?_)
    refine z_iconst zh dX8_plan_10 ki_m1 ?_
    exact z_iret zh dX8_plan_11 ⟨_, rfl, hG1, ⟨n, t, hn, ht2, h3, h41, h44, h45, fun z => absurd z hP, fun _ => ⟨rfl, krp⟩⟩, krm, krt, krd, krq, krI, krW⟩
set_option maxHeartbeats 1000000 in
set_option maxRecDepth 20000 in
theorem v_X9_plan (g : GE) {iv : Iv} {lv : Lv} {r0 : Int32} (hG : SI s0 z0 iv) (hM : MPl r0 iv) : ConI g yX9_plan cX9_plan 3 (some .int) 7 [rf g 551] iv lv (fun r iv lv => SI s0 z0 iv ∧ RV iv ∧ r = r0) := by
  obtain ⟨⟨n, t, hn, h2, h3, f41, f44, f45, hok, hbad⟩, wm, wt, wd, wq, wI, wW⟩ := hM
  refine con_intro (own := "RollingNetsModel") (by decide +kernel) rfl (Nat.le_of_ble_eq_true rfl) (L0 := [some (rf g 551), none, none]) rfl (fun Z zh => ?_)
  -- of the rest all stays: rm is ry_p
  obtain ⟨i0, ei0⟩ : ∃ z, z = iv := ⟨_, rfl⟩
  have hS : SI (spU ry_P) i0 iv := by rw [ei0]; exact si_u hG
  have h63 : ∀ j, iv 563 j = i0 563 j := fun j => by rw [ei0]
  refine z_aloadnR zh dX9_plan_0 rfl ?_
  refine z_iconst zh dX9_plan_1 ki_0 ?_
  refine z_putI zh fl_Y_58 dX9_plan_2 ck_Y rfl rfl (Nat.le_of_ble_eq_true rfl) (Or.inl rfl) ?_
  have hS : SI (spU ry_P) i0 (upI iv 551 0 (nI 0)) := si_w (k := 551) (j := 0) hS (by decide) (by decide) (sp_no hS ((spc_Y (q := 0)).trans rfl)) (fun lo hi q => (rx_none rfl) lo hi ((rg_Y (q := 0)).symm.trans q))
  have h63 : ∀ j, upI iv 551 0 (nI 0) 563 j = i0 563 j := fun j => (upI_ne (Or.inl (by decide))).trans (h63 j)
  generalize upI iv 551 0 (nI 0) = iv at h63 hS ⊢
  refine z_aloadnR zh dX9_plan_5 rfl ?_
  refine z_iconst zh dX9_plan_6 ki_0 ?_
  refine z_putI zh fl_Y_401 dX9_plan_7 ck_Y rfl rfl (Nat.le_of_ble_eq_true rfl) (Or.inl rfl) ?_
  have hS : SI (spU ry_P) i0 (upI iv 551 25 (nI 0)) := si_w (k := 551) (j := 25) hS (by decide) (by decide) (spf (fun z => z.2 (by unfold ry_P; omega))) (fun lo hi q => (rx_none rfl) lo hi ((rg_Y (q := 0)).symm.trans q))
  have e25 : upI iv 551 25 (nI 0) 551 25 = nI 0 := by rw [upI_at, if_pos ⟨rfl, rfl⟩]
  have h63 : ∀ j, upI iv 551 25 (nI 0) 563 j = i0 563 j := fun j => (upI_ne (Or.inl (by decide))).trans (h63 j)
  generalize upI iv 551 25 (nI 0) = iv at h63 hS e25 ⊢
  refine z_aloadnR zh dX9_plan_10 rfl ?_
  refine z_iconst zh dX9_plan_11 ki_m1 ?_
  refine z_putI zh fl_Y_45 dX9_plan_12 ck_Y rfl rfl (Nat.le_of_ble_eq_true rfl) (Or.inl rfl) ?_
  have hS : SI (spU ry_P) i0 (upI iv 551 26 (-1)) := si_w (k := 551) (j := 26) hS (by decide) (by decide) (spf (fun z => z.2 (by unfold ry_P; omega))) (fun lo hi q => (rx_none rfl) lo hi ((rg_Y (q := 0)).symm.trans q))
  have e25 : upI iv 551 26 (-1) 551 25 = nI 0 := (upI_ne (Or.inr (by decide))).trans e25
  have e26 : upI iv 551 26 (-1) 551 26 = -1 := by rw [upI_at, if_pos ⟨rfl, rfl⟩]
  have h63 : ∀ j, upI iv 551 26 (-1) 563 j = i0 563 j := fun j => (upI_ne (Or.inl (by decide))).trans (h63 j)
  generalize upI iv 551 26 (-1) = iv at h63 hS e25 e26 ⊢
  have hYL : YL (spU ry_P) i0 t n := by
    subst ei0
    exact ⟨⟨hn, spt (u9_T (Or.inr (Or.inr (Or.inl ⟨rfl, rfl⟩)))) (by unfold ry_P; omega), h2.1, fun j => spt (u9_T (Or.inr (Or.inr (Or.inr rfl)))) (by unfold ry_P; omega), h2.2⟩, h3, fun j => spt (u9_W rfl) (by unfold ry_P; omega), wW⟩
  refine z_aloadnR zh dX9_plan_15 rfl ?_
  refine z_callVI zh mv_Y_404 dX9_plan_16 ck_Y rfl (h_X9_readPlan g hYL (fun j => (spf (fun z => z.2 (by unfold ry_P; omega)))) hS) ⟨Nat.le_of_ble_eq_true rfl, Nat.le_of_ble_eq_true rfl⟩ rfl rfl (Nat.le_of_ble_eq_true rfl) ?_
  rintro x7 iv2 lv ⟨hS2, hFP, hy, hno⟩
  have h63 : ∀ j, j < 144 → iv2 563 j = i0 563 j := fun j hj => (hFP 563 j (by omega) (by omega)).trans (h63 j)
  have e25 : iv2 551 25 = nI 0 := (hFP 551 25 (by omega) (by omega)).trans e25
  have e26 : iv2 551 26 = -1 := (hFP 551 26 (by omega) (by omega)).trans e26
  refine z_istoren zh dX9_plan_19 (by decide) (L' := [some (rf g 551), some (.int x7), none]) rfl ?_
  refine z_iloadn zh dX9_plan_20 rfl ?_
  refine z_iconst zh dX9_plan_21 ki_m1 ?_
  -- the tape is emptied
  have J41 : ∀ (iv3 : Iv) (lv : Lv), SI (spU ry_P) i0 iv3 → (∀ k j : Nat, ¬ (k = 551 ∧ 25 ≤ j ∧ j ≤ 26) → iv3 k j = iv2 k j) → iv3 551 25 = nI (pff t n).1 → iv3 551 26 = @ite _ ((pff t n).1 = 0) (Classical.propDecidable _) (-1) (nI (pff t n).2.1) → Z 41 [some (rf g 551), some (.int x7), none] [] iv3 lv := by
    intro iv3 lv hS3 hK f25 f26
    have hQ3 : SI (spU ry_Q) i0 iv3 := si_wk (fun k j w => by unfold ry_P at w; unfold ry_Q; omega) hS3
    refine z_aloadnR zh dX9_plan_41 rfl ?_
    refine z_iconst zh dX9_plan_42 ki_0 ?_
    refine z_putI zh fl_Y_344 dX9_plan_43 ck_Y rfl rfl (Nat.le_of_ble_eq_true rfl) (Or.inl rfl) ?_
    have hQ4 : SI (spU ry_Q) i0 (upI iv3 551 17 (nI 0)) := si_w (k := 551) (j := 17) hQ3 (by decide) (by decide) (spf (fun z => z.2 (by unfold ry_Q; omega))) (fun lo hi q => (rx_some ⟨by decide, by decide⟩) lo hi ((rg_Y (q := 0)).symm.trans q))
    have hq4 : SI (spU ry_p) i0 (upI iv3 551 17 (nI 0)) := si_wk (fun k j w => by unfold ry_Q at w; unfold ry_p; omega) hQ4
    have f17 : upI iv3 551 17 (nI 0) 551 17 = nI 0 := by rw [upI_at, if_pos ⟨rfl, rfl⟩]
    have f25 : upI iv3 551 17 (nI 0) 551 25 = nI (pff t n).1 := (upI_ne (Or.inr (by decide))).trans f25
    have f26 : upI iv3 551 17 (nI 0) 551 26 = @ite _ ((pff t n).1 = 0) (Classical.propDecidable _) (-1) (nI (pff t n).2.1) := (upI_ne (Or.inr (by decide))).trans f26
    have hK4 : ∀ j : Nat, upI iv3 551 17 (nI 0) 563 j = iv2 563 j := fun j => (upI_ne (Or.inl (by decide))).trans (hK 563 j (by omega))
    generalize upI iv3 551 17 (nI 0) = iv4 at hq4 hQ4 f17 f25 f26 hK4 ⊢
    -- the relation but for the plan, out of what stays
    have hrel : ∀ iv5 : Iv, SI (spU ry_p) i0 iv5 → iv5 551 17 = nI 0 → iv5 551 25 = nI (pff t n).1 → iv5 551 26 = @ite _ ((pff t n).1 = 0) (Classical.propDecidable _) (-1) (nI (pff t n).2.1) → Rp iv5 → RV iv5 := by
      intro iv5 h5 g17 g25 g26 hp5
      subst ei0
      refine ⟨(f_m_ry_p h5 wm), (f_t_ry_p h5 wt), (f_d_ry_p h5 wd), hp5, (f_q_ry_p h5 wq), ⟨0, t, by omega, ⟨?_, fun j hj => absurd hj (by omega)⟩, ⟨g17, fun j hj => absurd hj (by omega)⟩, fun j hj => absurd hj (by omega)⟩, ⟨?_, ?_⟩, (f_I_ry_p h5 wI), (f_W_ry_p h5 wW)⟩
      · exact (show iv5 541 1 = i0 541 1 from (ag h5 (k := 541) (j := 1) (u9_T (by unfold c9T; omega)) (by unfold ry_p; omega))).trans f41
      · exact g25.trans (f44.symm.trans (show i0 541 4 = iv5 541 4 from ((ag h5 (k := 541) (j := 4) (u9_F (by unfold c9F; omega)) (by unfold ry_p; omega))).symm))
      · exact g26.trans (f45.symm.trans (show i0 541 5 = iv5 541 5 from ((ag h5 (k := 541) (j := 5) (u9_F (by unfold c9F; omega)) (by unfold ry_p; omega))).symm))
    refine z_iloadn zh dX9_plan_46 rfl ?_
    refine z_iconst zh dX9_plan_47 ki_m1 ?_
    by_cases hP : (pff t n).1 = 0
    · obtain ⟨e7, h24, hyr⟩ := hy hP
      obtain ⟨er, _, hcc, hat, hrows⟩ := hok hP
      obtain ⟨m, em⟩ : ∃ m, m = (pff t n).2.2 := ⟨_, rfl⟩
      rw [← em] at e7 h24 hyr er hcc hrows
      subst e7
      refine z_icmp_ne (tgt := 53) zh dX9_plan_48 rfl (fun _ => ?_) (fun z => absurd z (nI_nm1 (by omega)))
      refine z_iconst zh dX9_plan_53 ki_0 ?_
      refine z_istoren zh dX9_plan_54 (by decide) (L' := [some (rf g 551), some (.int (nI m)), some (.int (nI 0))]) rfl ?_
      have J55 : ∀ (q x : Nat) (iv5 : Iv) (lv : Lv), x ≤ 6 * m → 6 * m - x < q → SI (spU ry_p) i0 iv5 → iv5 551 17 = nI 0 → iv5 551 25 = nI (pff t n).1 → iv5 551 26 = @ite _ ((pff t n).1 = 0) (Classical.propDecidable _) (-1) (nI (pff t n).2.1) → (∀ j, j < x → iv5 563 j = iv2 563 (144 + j)) → (∀ j, 144 ≤ j → iv5 563 j = iv2 563 j) → Z 55 [some (rf g 551), some (.int (nI m)), some (.int (nI x))] [] iv5 lv := by
        intro q
        induction q with
        | zero => intro x iv5 lv _ hq; omega
        | succ q ih =>
          intro x iv5 lv hx hq h5 g17 g25 g26 hlow hhigh
          refine z_iloadn zh dX9_plan_55 rfl ?_
          refine z_bipush zh dX9_plan_56 kb_6 ?_
          refine z_iloadn zh dX9_plan_58 rfl ?_
          refine z_imulN zh dX9_plan_59 ?_
          refine z_icmp_ge_N (tgt := 85) zh (by omega) (by omega) dX9_plan_60 rfl (fun w => ?_) (fun w => ?_)
          · refine z_aloadnR zh dX9_plan_85 rfl ?_
            refine z_iloadn zh dX9_plan_86 rfl ?_
            refine z_putI zh fl_Y_407 dX9_plan_87 ck_Y rfl rfl (Nat.le_of_ble_eq_true rfl) (Or.inl rfl) ?_
            have h6 : SI (spU ry_p) i0 (upI iv5 551 27 (nI m)) := si_w (k := 551) (j := 27) h5 (by decide) (by decide) (spf (fun z => z.2 (by unfold ry_p; omega))) (fun lo hi q => (rx_some (rl_24N h24)) lo hi ((rg_Y (q := 0)).symm.trans q))
            have k17 : upI iv5 551 27 (nI m) 551 17 = nI 0 := (upI_ne (Or.inr (by decide))).trans g17
            have k25 : upI iv5 551 27 (nI m) 551 25 = nI (pff t n).1 := (upI_ne (Or.inr (by decide))).trans g25
            have k26 : upI iv5 551 27 (nI m) 551 26 = @ite _ ((pff t n).1 = 0) (Classical.propDecidable _) (-1) (nI (pff t n).2.1) := (upI_ne (Or.inr (by decide))).trans g26
            have k27 : upI iv5 551 27 (nI m) 551 27 = nI m := by rw [upI_at, if_pos ⟨rfl, rfl⟩]
            have k63 : ∀ j, j < 6 * m → upI iv5 551 27 (nI m) 563 j = iv2 563 (144 + j) := fun j hj => (upI_ne (Or.inl (by decide))).trans (hlow j (by omega))
            generalize upI iv5 551 27 (nI m) = iv6 at h6 k17 k25 k26 k27 k63 ⊢
            refine z_aloadnR zh dX9_plan_90 rfl ?_
            refine z_getf zh fl_Y_7 dX9_plan_91 ck_Y rfl rfl ?_
            refine z_bipush zh dX9_plan_94 kb_10 ?_
            refine z_iconst zh dX9_plan_96 ki_0 ?_
            refine z_iastN (j := 10) zh ck_now dX9_plan_97 (by decide) ?_
            have h7 : SI (spU ry_p) i0 (upI iv6 552 10 (nI 0)) := nw_10 h6 (spf (fun z => z.2 (by unfold ry_p; omega))) (rl_24N (by omega))
            have l10 : upI iv6 552 10 (nI 0) 552 10 = nI 0 := by rw [upI_at, if_pos ⟨rfl, rfl⟩]
            have l17 : upI iv6 552 10 (nI 0) 551 17 = nI 0 := (upI_ne (Or.inl (by decide))).trans k17
            have l25 : upI iv6 552 10 (nI 0) 551 25 = nI (pff t n).1 := (upI_ne (Or.inl (by decide))).trans k25
            have l26 : upI iv6 552 10 (nI 0) 551 26 = @ite _ ((pff t n).1 = 0) (Classical.propDecidable _) (-1) (nI (pff t n).2.1) := (upI_ne (Or.inl (by decide))).trans k26
            have l27 : upI iv6 552 10 (nI 0) 551 27 = nI m := (upI_ne (Or.inl (by decide))).trans k27
            have l63 : ∀ j, j < 6 * m → upI iv6 552 10 (nI 0) 563 j = iv2 563 (144 + j) := fun j hj => (upI_ne (Or.inl (by decide))).trans (k63 j hj)
            generalize upI iv6 552 10 (nI 0) = iv7 at h7 l10 l17 l25 l26 l27 l63 ⊢
            refine z_iloadn zh dX9_plan_98 rfl ?_
            have o47 : iv7 47 2 = nI m := (show iv7 47 2 = i0 47 2 from (ag h7 (k := 47) (j := 2) (u9_p (by unfold c9p; omega)) (by unfold ry_p; omega))).trans (by rw [ei0]; exact hcc)
            have o10 : iv7 1 10 = nI 0 := (show iv7 1 10 = i0 1 10 from (ag h7 (k := 1) (j := 10) (u9_p (by unfold c9p; omega)) (by unfold ry_p; omega))).trans (by rw [ei0]; exact hat)
            refine z_iret zh dX9_plan_99 ⟨_, rfl, si_0 h7, hrel iv7 h7 l17 l25 l26 ⟨m, 0, h24, by omega, o47, l27, o10, l10, fun a ha => ?_⟩, er.symm⟩
            obtain ⟨z1, z2⟩ := hrows a ha
            obtain ⟨z3, z4⟩ := hyr a ha
            have hm5 := mn_5 _ z1
            have hcl : ∀ c, c ≤ lm t n a → iv7 (49 + c) a = lw t n a c := fun c hc => (ag h7 (u9_p (by have hc8 : c ≤ mn (kd t n (lpos t n a)) := hc; unfold c9p; omega)) (by unfold ry_p; have hc8 : c ≤ mn (kd t n (lpos t n a)) := hc; omega)).trans (by rw [ei0]; exact z2 c hc)
            have hyl : ∀ c, c ≤ lm t n a → iv7 563 (0 + 6 * a + c) = lw t n a c := fun c hc => by
              have hc8 : c ≤ mn (kd t n (lpos t n a)) := hc
              rw [show 0 + 6 * a + c = 6 * a + c by omega, l63 (6 * a + c) (by omega), show 144 + (6 * a + c) = 144 + 6 * a + c by omega]
              exact z4 c hc
            exact ⟨kd t n (lpos t n a), z1, hcl 0 (Nat.zero_le _), hyl 0 (Nat.zero_le _), fun c _ hc2 => (hcl c hc2).trans (hyl c hc2).symm⟩
          · refine z_aloadnR zh dX9_plan_63 rfl ?_
            refine z_getf zh fl_Y_49 dX9_plan_64 ck_Y rfl rfl ?_
            refine z_iloadn zh dX9_plan_67 rfl ?_
            refine z_aloadnR zh dX9_plan_68 rfl ?_
            refine z_getf zh fl_Y_49 dX9_plan_69 ck_Y rfl rfl ?_
            refine z_sipush zh dX9_plan_72 ks_144 ?_
            refine z_iloadn zh dX9_plan_75 rfl ?_
            refine z_iaddN zh dX9_plan_76 ?_
            refine z_ialdE (x := iv2 563 (144 + x)) zh ck_plans dX9_plan_77 (by omega) (hhigh _ (by omega)) ?_
            refine z_iastN (j := x) zh ck_plans dX9_plan_78 (by omega) ?_
            have h6 : SI (spU ry_p) i0 (upI iv5 563 x (iv2 563 (144 + x))) := pw h5 (spf (fun z => z.2 (by unfold ry_p; omega)))
            have k17 : upI iv5 563 x (iv2 563 (144 + x)) 551 17 = nI 0 := (upI_ne (Or.inl (by decide))).trans g17
            have k25 : upI iv5 563 x (iv2 563 (144 + x)) 551 25 = nI (pff t n).1 := (upI_ne (Or.inl (by decide))).trans g25
            have k26 : upI iv5 563 x (iv2 563 (144 + x)) 551 26 = @ite _ ((pff t n).1 = 0) (Classical.propDecidable _) (-1) (nI (pff t n).2.1) := (upI_ne (Or.inl (by decide))).trans g26
            have kl : ∀ j, j < x + 1 → upI iv5 563 x (iv2 563 (144 + x)) 563 j = iv2 563 (144 + j) := fun j hj => by
              by_cases e : j = x
              · subst e; rw [upI_at, if_pos ⟨rfl, rfl⟩]
              · exact (upI_ne (Or.inr e)).trans (hlow j (by omega))
            have kh : ∀ j, 144 ≤ j → upI iv5 563 x (iv2 563 (144 + x)) 563 j = iv2 563 j := fun j hj => (upI_ne (Or.inr (by omega))).trans (hhigh j hj)
            generalize upI iv5 563 x (iv2 563 (144 + x)) = iv6 at h6 k17 k25 k26 kl kh ⊢
            refine z_iincN (b := 1) zh dX9_plan_79 (by decide +kernel) (by decide) rfl (L' := [some (rf g 551), some (.int (nI m)), some (.int (nI (x + 1)))]) rfl ?_
            refine z_goto (tgt := 55) zh dX9_plan_82 rfl ?_
            exact ih (x + 1) iv6 lv (by omega) (by omega) h6 k17 k25 k26 kl kh
      exact J55 (6 * m + 1) 0 iv4 lv (by omega) (by omega) hq4 f17 f25 f26 (fun j hj => absurd hj (by omega)) (fun j _ => hK4 j)
    · obtain ⟨e7, _, _⟩ := hno hP
      obtain ⟨er, hp0⟩ := hbad hP
      subst e7
      refine z_icmp_ne (tgt := 53) zh dX9_plan_48 rfl (fun z => absurd rfl z) (fun _ => ?_)
      refine z_iconst zh dX9_plan_51 ki_m1 ?_
      have hp9 : Rp i0 := by rw [ei0]; exact hp0
      exact z_iret zh dX9_plan_52 ⟨_, rfl, si_0 hq4, hrel iv4 hq4 f17 f25 f26 (rp_f (fun k j z => by
        by_cases e : k = 563
        · subst e; exact (hK4 j).trans (h63 j (by unfold c9p at z; omega))
        · exact ag hQ4 (u9_p z) (by unfold c9p at z; unfold ry_Q; omega)) hp9), er.symm⟩
  by_cases hP : (pff t n).1 = 0
  · obtain ⟨e7, h24, hyr⟩ := hy hP
    have g25 : iv2 551 25 = nI (pff t n).1 := by rw [hP]; exact e25
    have g26 : iv2 551 26 = @ite _ ((pff t n).1 = 0) (Classical.propDecidable _) (-1) (nI (pff t n).2.1) := e26.trans (if_pos hP).symm
    refine z_icmp_ne (tgt := 41) zh dX9_plan_22 rfl (fun _ => ?_) (fun z => absurd z (by rw [e7]; exact nI_nm1 (by omega)))
    exact J41 iv2 lv hS2 (fun _ _ _ => rfl) g25 g26
  · obtain ⟨e7, e23, e24⟩ := hno hP
    refine z_icmp_ne (tgt := 41) zh dX9_plan_22 rfl (fun z => absurd e7 z) (fun _ => ?_)
    refine z_aloadnR zh dX9_plan_25 rfl ?_
    refine z_aloadnR zh dX9_plan_26 rfl ?_
    refine z_getI (x := nI (pff t n).1) zh fl_Y_374 dX9_plan_27 ck_Y rfl rfl e23 ?_
    refine z_putI zh fl_Y_401 dX9_plan_30 ck_Y rfl rfl (Nat.le_of_ble_eq_true rfl) (Or.inl rfl) ?_
    have hS3 : SI (spU ry_P) i0 (upI iv2 551 25 (nI (pff t n).1)) := si_w (k := 551) (j := 25) hS2 (by decide) (by decide) (spf (fun z => z.2 (by unfold ry_P; omega))) (fun lo hi q => (rx_none rfl) lo hi ((rg_Y (q := 0)).symm.trans q))
    have e24 : upI iv2 551 25 (nI (pff t n).1) 551 24 = nI (pff t n).2.1 := (upI_ne (Or.inr (by decide))).trans e24
    have e25 : upI iv2 551 25 (nI (pff t n).1) 551 25 = nI (pff t n).1 := by rw [upI_at, if_pos ⟨rfl, rfl⟩]
    have hK : ∀ k j : Nat, ¬ (k = 551 ∧ 25 ≤ j ∧ j ≤ 26) → upI iv2 551 25 (nI (pff t n).1) k j = iv2 k j := fun k j w => upI_ne (by omega)
    generalize upI iv2 551 25 (nI (pff t n).1) = iv3 at hS3 e24 e25 hK ⊢
    refine z_aloadnR zh dX9_plan_33 rfl ?_
    refine z_aloadnR zh dX9_plan_34 rfl ?_
    refine z_getI (x := nI (pff t n).2.1) zh fl_Y_377 dX9_plan_35 ck_Y rfl rfl e24 ?_
    refine z_putI zh fl_Y_45 dX9_plan_38 ck_Y rfl rfl (Nat.le_of_ble_eq_true rfl) (Or.inl rfl) ?_
    have hS4 : SI (spU ry_P) i0 (upI iv3 551 26 (nI (pff t n).2.1)) := si_w (k := 551) (j := 26) hS3 (by decide) (by decide) (spf (fun z => z.2 (by unfold ry_P; omega))) (fun lo hi q => (rx_none rfl) lo hi ((rg_Y (q := 0)).symm.trans q))
    exact J41 _ lv hS4 (fun k j w => (upI_ne (by omega)).trans (hK k j w)) ((upI_ne (Or.inr (by decide))).trans e25) ((by rw [upI_at, if_pos ⟨rfl, rfl⟩] : upI iv3 551 26 (nI (pff t n).2.1) 551 26 = nI (pff t n).2.1).trans (if_neg hP).symm)
