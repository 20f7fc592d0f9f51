noncomputable def fu_x (w a b : Int32) : Int32 := sel (w = nI 0) a (sel (w = nI 1) b (-1))
set_option maxHeartbeats 1000000 in
set_option maxRecDepth 20000 in
theorem e_X8_fault (g : GE) {iv : Iv} {lv : Lv} {w a b : Int32} (ea : iv 541 4 = a) (eb : iv 541 5 = b) : ConIp g yX8_fault cX8_fault 2 (some .int) 1 [rf g 0, .int w] iv lv (fu_x w a b) := by
  refine con_intro (own := "RollingNets") (by decide +kernel) rfl (Nat.le_of_ble_eq_true rfl) (L0 := [some (rf g 0), some (.int w)]) rfl (fun Z zh => ?_)
  refine z_iloadn zh dX8_fault_0 rfl ?_
  by_cases h0 : w = nI 0
  · subst h0
    refine z_lookup (off := 27) (tgt := 28) zh dX8_fault_1 (by decide) (by decide) rfl ?_
    refine z_aloadnR zh dX8_fault_28 rfl ?_
    refine z_getf zh fl_RollingNets_25 dX8_fault_29 ck_X rfl rfl ?_
    refine z_getI (x := a) zh fl_RollingNets_165 dX8_fault_32 ck_R rfl rfl ea ?_
    exact z_iret zh dX8_fault_35 (qI (sel_t rfl).symm)
  by_cases h1 : w = nI 1
  · subst h1
    refine z_lookup (off := 35) (tgt := 36) zh dX8_fault_1 (by decide) (by decide) rfl ?_
    refine z_aloadnR zh dX8_fault_36 rfl ?_
    refine z_getf zh fl_RollingNets_25 dX8_fault_37 ck_X rfl rfl ?_
    refine z_getI (x := b) zh fl_RollingNets_168 dX8_fault_40 ck_R rfl rfl eb ?_
    exact z_iret zh dX8_fault_43 (qI ((sel_f h0).trans (sel_t rfl)).symm)
  have i0 : ¬ w.toInt = 0 := fun e => h0 (Int32.toInt_inj.mp e)
  have i1 : ¬ w.toInt = 1 := fun e => h1 (Int32.toInt_inj.mp e)
  refine z_lookup (off := 43) (tgt := 44) zh dX8_fault_1 (by decide) (by simp [Op.lookupswitch.offset]; rw [if_neg (fun e => i0 e.symm), if_neg (fun e => i1 e.symm)]) rfl ?_
  refine z_iconst zh dX8_fault_44 ki_m1 ?_
  exact z_iret zh dX8_fault_45 (qI ((sel_f h0).trans (sel_f h1)).symm)
theorem e_X9_fault (g : GE) {sp : Nat → Nat → Bool} {σ : Iv} {iv : Iv} {lv : Lv} {w a b : Int32} (hG : SI sp σ iv) (ea : iv 551 25 = a) (eb : iv 551 26 = b) : ConI g yX9_fault cX9_fault 2 (some .int) 1 [rf g 551, .int w] iv lv (fun r iv lv => SI sp σ iv ∧ r = fu_x w a b) := by
  refine con_intro (own := "RollingNetsModel") (by decide +kernel) rfl (Nat.le_of_ble_eq_true rfl) (L0 := [some (rf g 551), some (.int w)]) rfl (fun Z zh => ?_)
  refine z_aloadnR zh dX9_fault_0 rfl ?_
  refine z_iconst zh dX9_fault_1 ki_0 ?_
  refine z_putI zh fl_Y_58 dX9_fault_2 ck_Y rfl rfl (Nat.le_of_ble_eq_true rfl) (Or.inl rfl) ?_
  have hG : SI sp σ (upI iv 551 0 (nI 0)) := si_w (k := 551) (j := 0) hG (by decide) (by decide) (sp_no hG ((spc_Y (q := 0)).trans rfl)) (fun lo hi q => (rx_none rfl) lo hi ((rg_Y (q := 0)).symm.trans q))
  have ea : upI iv 551 0 (nI 0) 551 25 = a := (upI_ne (Or.inr (by decide))).trans ea
  have eb : upI iv 551 0 (nI 0) 551 26 = b := (upI_ne (Or.inr (by decide))).trans eb
  generalize upI iv 551 0 (nI 0) = iv at hG ea eb ⊢
  refine z_iloadn zh dX9_fault_5 rfl ?_
  refine z_if_ne (tgt := 16) zh dX9_fault_6 rfl (fun h0 => ?_) (fun h0 => ?_)
  · have h0 : ¬ w = nI 0 := fun e => h0 (e.trans nI_0)
    refine z_iloadn zh dX9_fault_16 rfl ?_
    refine z_iconst zh dX9_fault_17 ki_1 ?_
    refine z_icmp_ne (tgt := 28) zh dX9_fault_18 rfl (fun h1 => ?_) (fun h1 => ?_)
    · refine z_iconst zh dX9_fault_28 ki_m1 ?_
      exact z_iret zh dX9_fault_29 ⟨_, rfl, hG, ((sel_f h0).trans (sel_f h1)).symm⟩
    · refine z_aloadnR zh dX9_fault_21 rfl ?_
      refine z_getI (x := b) zh fl_Y_45 dX9_fault_22 ck_Y rfl rfl eb ?_
      refine z_goto (tgt := 29) zh dX9_fault_25 rfl ?_
      exact z_iret zh dX9_fault_29 ⟨_, rfl, hG, ((sel_f h0).trans (sel_t h1)).symm⟩
  · have h0 : w = nI 0 := h0.trans nI_0.symm
    refine z_aloadnR zh dX9_fault_9 rfl ?_
    refine z_getI (x := a) zh fl_Y_401 dX9_fault_10 ck_Y rfl rfl ea ?_
    refine z_goto (tgt := 29) zh dX9_fault_13 rfl ?_
    exact z_iret zh dX9_fault_29 ⟨_, rfl, hG, (sel_t h0).symm⟩
