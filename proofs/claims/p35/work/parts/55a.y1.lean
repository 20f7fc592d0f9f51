set_option maxRecDepth 20000 in
theorem s_X9_longOf (g : GE) {sp : Nat → Nat → Bool} {σ : Iv} {iv : Iv} {lv : Lv} {a1 : Int32} {a2 : Int32} (ha1 : Ra 0 11 a1) (ha2 : Ra 0 5 a2) (hG : SI sp σ iv)  : ConI g yX9_longOf cX9_longOf 3 (some .int) 5 [rf g 551, .int a1, .int a2] iv lv (fun r iv' lv' => iv = iv' ∧ lv = lv' ∧ True) := by
  refine con_intro (own := "RollingNetsModel") (by decide +kernel) rfl (Nat.le_of_ble_eq_true rfl) (L0 := [some (rf g 551), some (.int a1), some (.int a2)]) rfl (fun Z zh => ?_)
  refine z_aloadnR zh dX9_longOf_0 rfl ?_
  refine z_iloadn zh dX9_longOf_1 rfl ?_
  refine z_iloadn zh dX9_longOf_2 rfl ?_
  refine z_callVI zh mv_Y_122 dX9_longOf_3 ck_Y rfl (s_X9_isLong g ha1 ha2 hG) ⟨Nat.le_of_ble_eq_true rfl, Nat.le_of_ble_eq_true rfl⟩ rfl rfl (Nat.le_of_ble_eq_true rfl) ?_
  rintro x1 _ _ ⟨rfl, rfl, hx1⟩
  refine z_if_eq (tgt := 18) zh dX9_longOf_6 rfl (fun q2 => ?_) (fun q2 => ?_)
  · have r3 := rb_eq (u := 0) (v := 0) hx1 ra_z q2 (by decide) (by decide)
    refine z_iconst zh dX9_longOf_18 ki_0 ?_
    exact z_iret zh dX9_longOf_19 ⟨_, rfl, rfl, rfl, trivial⟩
  · have r4 : Ra 1 1 x1 := rb_ne_lo hx1 ra_z q2 (by decide)
    refine z_aloadnR zh dX9_longOf_9 rfl ?_
    refine z_iloadn zh dX9_longOf_10 rfl ?_
    refine z_iloadn zh dX9_longOf_11 rfl ?_
    refine z_callVI zh mv_Y_119 dX9_longOf_12 ck_Y rfl (s_X9_positionOf g ha1 ha2 hG) ⟨Nat.le_of_ble_eq_true rfl, Nat.le_of_ble_eq_true rfl⟩ rfl rfl (Nat.le_of_ble_eq_true rfl) ?_
    rintro x5 _ _ ⟨rfl, rfl, _⟩
    refine z_goto (tgt := 19) zh dX9_longOf_15 rfl ?_
    exact z_iret zh dX9_longOf_19 ⟨_, rfl, rfl, rfl, trivial⟩
set_option maxRecDepth 20000 in
theorem s_X9_shortOf (g : GE) {sp : Nat → Nat → Bool} {σ : Iv} {iv : Iv} {lv : Lv} {a1 : Int32} {a2 : Int32} (ha1 : Ra 0 11 a1) (ha2 : Ra 0 5 a2) (hG : SI sp σ iv)  : ConI g yX9_shortOf cX9_shortOf 3 (some .int) 5 [rf g 551, .int a1, .int a2] iv lv (fun r iv' lv' => iv = iv' ∧ lv = lv' ∧ True) := by
  refine con_intro (own := "RollingNetsModel") (by decide +kernel) rfl (Nat.le_of_ble_eq_true rfl) (L0 := [some (rf g 551), some (.int a1), some (.int a2)]) rfl (fun Z zh => ?_)
  refine z_aloadnR zh dX9_shortOf_0 rfl ?_
  refine z_iloadn zh dX9_shortOf_1 rfl ?_
  refine z_iloadn zh dX9_shortOf_2 rfl ?_
  refine z_callVI zh mv_Y_116 dX9_shortOf_3 ck_Y rfl (s_X9_isShort g ha1 ha2 hG) ⟨Nat.le_of_ble_eq_true rfl, Nat.le_of_ble_eq_true rfl⟩ rfl rfl (Nat.le_of_ble_eq_true rfl) ?_
  rintro x1 _ _ ⟨rfl, rfl, hx1⟩
  refine z_if_eq (tgt := 19) zh dX9_shortOf_6 rfl (fun q2 => ?_) (fun q2 => ?_)
  · have r3 := rb_eq (u := 0) (v := 0) hx1 ra_z q2 (by decide) (by decide)
    refine z_iconst zh dX9_shortOf_19 ki_0 ?_
    exact z_iret zh dX9_shortOf_20 ⟨_, rfl, rfl, rfl, trivial⟩
  · have r4 : Ra 1 1 x1 := rb_ne_lo hx1 ra_z q2 (by decide)
    refine z_aloadnR zh dX9_shortOf_9 rfl ?_
    refine z_iloadn zh dX9_shortOf_10 rfl ?_
    refine z_iloadn zh dX9_shortOf_11 rfl ?_
    refine z_callVI zh mv_Y_119 dX9_shortOf_12 ck_Y rfl (s_X9_positionOf g ha1 ha2 hG) ⟨Nat.le_of_ble_eq_true rfl, Nat.le_of_ble_eq_true rfl⟩ rfl rfl (Nat.le_of_ble_eq_true rfl) ?_
    rintro x5 _ _ ⟨rfl, rfl, _⟩
    refine y_inegT zh dX9_shortOf_15 (fun x6 => ?_)
    refine z_goto (tgt := 20) zh dX9_shortOf_16 rfl ?_
    exact z_iret zh dX9_shortOf_20 ⟨_, rfl, rfl, rfl, trivial⟩
set_option maxRecDepth 20000 in
theorem s_X9_collateral (g : GE) {sp : Nat → Nat → Bool} {σ : Iv} {iv : Iv} {lv : Lv} {a1 : Int32} {a2 : Int32}  (hG : SI sp σ iv)  : ConI g yX9_collateral cX9_collateral 3 (some .boolean) 3 [rf g 551, .int a1, .int a2] iv lv (fun r iv lv => SI sp σ iv ∧ Ra 0 1 r ∧ (¬ r = 0 → Ra 0 11 a1) ∧ (¬ r = 0 → Ra 0 9999999 a2)) := by
  refine con_intro (own := "RollingNetsModel") (by decide +kernel) rfl (Nat.le_of_ble_eq_true rfl) (L0 := [some (rf g 551), some (.int a1), some (.int a2)]) rfl (fun Z zh => ?_)
  refine z_aloadnR zh dX9_collateral_0 rfl ?_
  refine z_iconst zh dX9_collateral_1 ki_0 ?_
  refine z_putI zh fl_Y_58 dX9_collateral_2 ck_Y rfl rfl (Nat.le_of_ble_eq_true rfl) (Or.inl rfl) ?_
  have hG : SI sp σ (upI iv 551 0 (nI 0)) := si_w (k := 551) (j := 0) hG (by decide) (by decide) (sp_no hG ((spc_Y (q := 0)).trans rfl)) (fun lo hi q => (rx_none rfl) lo hi ((rg_Y (q := 0)).symm.trans q))
  have em1 : upI iv 551 0 (nI 0) 551 0 = nI 0 := by rw [upI_at, if_pos ⟨rfl, rfl⟩]
  generalize upI iv 551 0 (nI 0) = iv at hG em1 ⊢
  refine z_aloadnR zh dX9_collateral_5 rfl ?_
  refine z_iloadn zh dX9_collateral_6 rfl ?_
  refine z_callVI zh mv_Y_90 dX9_collateral_7 ck_Y rfl (s_X9_isMember g  hG) ⟨Nat.le_of_ble_eq_true rfl, Nat.le_of_ble_eq_true rfl⟩ rfl rfl (Nat.le_of_ble_eq_true rfl) ?_
  rintro x2 _ _ ⟨rfl, rfl, hx2, hz3⟩
  refine z_if_eq (tgt := 24) zh dX9_collateral_10 rfl (fun q4 => ?_) (fun q4 => ?_)
  · have r5 := rb_eq (u := 0) (v := 0) hx2 ra_z q4 (by decide) (by decide)
    refine z_iconst zh dX9_collateral_24 ki_0 ?_
    exact z_zret zh dX9_collateral_25 (ra_01 (ra_w rl_0 (by decide) (by decide))) ⟨_, rfl, hG, (ra_w rl_0 (by decide) (by decide)), (fun q => absurd rfl q), (fun q => absurd rfl q)⟩
  · have r6 : Ra 1 1 x2 := rb_ne_lo hx2 ra_z q4 (by decide)
    have r7 : Ra 0 11 a1 := (hz3 q4)
    refine z_aloadnR zh dX9_collateral_13 rfl ?_
    refine z_iloadn zh dX9_collateral_14 rfl ?_
    refine z_iconst zh dX9_collateral_15 ki_0 ?_
    refine z_ldc zh dX9_collateral_16 kc_Y_105 ?_
    refine z_callVI zh mv_Y_79 dX9_collateral_18 ck_Y rfl (s_X9_isIn g) ⟨Nat.le_of_ble_eq_true rfl, Nat.le_of_ble_eq_true rfl⟩ rfl rfl (Nat.le_of_ble_eq_true rfl) ?_
    rintro x8 _ _ ⟨rfl, rfl, hx8, hz9⟩
    refine z_if_ne (tgt := 26) zh dX9_collateral_21 rfl (fun q10 => ?_) (fun q10 => ?_)
    · have r11 : Ra 1 1 x8 := rb_ne_lo hx8 ra_z q10 (by decide)
      have r12 : Ra 0 9999999 a2 := (rb_in rl_0 rl_9999999 (hz9 q10))
      refine z_aloadnR zh dX9_collateral_26 rfl ?_
      refine z_getf zh fl_Y_7 dX9_collateral_27 ck_Y rfl rfl ?_
      refine z_bipush zh dX9_collateral_30 kb_46 ?_
      refine z_iloadn zh dX9_collateral_32 rfl ?_
      refine y_iadd zh dX9_collateral_33 rl_46 r7 (u := 46) (v := 57) rfl rfl (by decide) (by decide) (fun x13 hc13 hx13 => ?_)
      refine z_iloadn zh dX9_collateral_34 rfl ?_
      refine z_iast zh ck_now dX9_collateral_35 (ra_in hx13 (by decide) (by decide)) ?_
      have hG : SI sp σ (upI iv 552 x13.toNatClampNeg a2) := (nw_free hG (by have := rl_46.1; have := rl_46.2; have := r7.1; have := r7.2; omega))
      have em14 := (upI_ne (iv := iv) (k := 552) (j := x13.toNatClampNeg) (x := a2) (a := 551) (b := 0) (Or.inl (by decide))).trans em1
      generalize upI iv 552 x13.toNatClampNeg a2 = iv at hG em14 ⊢
      refine z_iconst zh dX9_collateral_36 ki_1 ?_
      exact z_zret zh dX9_collateral_37 (ra_01 (ra_w rl_1 (by decide) (by decide))) ⟨_, rfl, hG, (ra_w rl_1 (by decide) (by decide)), (fun _ => r7), (fun _ => r12)⟩
    · have r15 := rb_eq (u := 0) (v := 0) hx8 ra_z q10 (by decide) (by decide)
      refine z_iconst zh dX9_collateral_24 ki_0 ?_
      exact z_zret zh dX9_collateral_25 (ra_01 (ra_w rl_0 (by decide) (by decide))) ⟨_, rfl, hG, (ra_w rl_0 (by decide) (by decide)), (fun q => absurd rfl q), (fun q => absurd rfl q)⟩
set_option maxRecDepth 20000 in
theorem s_X9_deal (g : GE) {sp : Nat → Nat → Bool} {σ : Iv} {iv : Iv} {lv : Lv} {a1 : Int32} {a2 : Int32}  (hG : SI sp σ iv)  : ConI g yX9_deal cX9_deal 3 (some .int) 3 [rf g 551, .int a1, .int a2] iv lv (fun r iv lv => SI sp σ iv ∧ True) := by
  refine con_intro (own := "RollingNetsModel") (by decide +kernel) rfl (Nat.le_of_ble_eq_true rfl) (L0 := [some (rf g 551), some (.int a1), some (.int a2)]) rfl (fun Z zh => ?_)
  refine z_aloadnR zh dX9_deal_0 rfl ?_
  refine z_iconst zh dX9_deal_1 ki_0 ?_
  refine z_putI zh fl_Y_58 dX9_deal_2 ck_Y rfl rfl (Nat.le_of_ble_eq_true rfl) (Or.inl rfl) ?_
  have hG : SI sp σ (upI iv 551 0 (nI 0)) := si_w (k := 551) (j := 0) hG (by decide) (by decide) (sp_no hG ((spc_Y (q := 0)).trans rfl)) (fun lo hi q => (rx_none rfl) lo hi ((rg_Y (q := 0)).symm.trans q))
  have em1 : upI iv 551 0 (nI 0) 551 0 = nI 0 := by rw [upI_at, if_pos ⟨rfl, rfl⟩]
  generalize upI iv 551 0 (nI 0) = iv at hG em1 ⊢
  refine z_aloadnR zh dX9_deal_5 rfl ?_
  refine z_iloadn zh dX9_deal_6 rfl ?_
  refine z_callVI zh mv_Y_188 dX9_deal_7 ck_Y rfl (s_X9_isTrade g  hG) ⟨Nat.le_of_ble_eq_true rfl, Nat.le_of_ble_eq_true rfl⟩ rfl rfl (Nat.le_of_ble_eq_true rfl) ?_
  rintro x2 _ _ ⟨rfl, rfl, hx2, hz3⟩
  refine z_if_eq (tgt := 33) zh dX9_deal_10 rfl (fun q4 => ?_) (fun q4 => ?_)
  · have r5 := rb_eq (u := 0) (v := 0) hx2 ra_z q4 (by decide) (by decide)
    refine z_iconst zh dX9_deal_33 ki_m1 ?_
    exact z_iret zh dX9_deal_34 ⟨_, rfl, hG, trivial⟩
  · have r6 : Ra 1 1 x2 := rb_ne_lo hx2 ra_z q4 (by decide)
    have r7 : Ra 0 199 a1 := (hz3 q4)
    refine z_aloadnR zh dX9_deal_13 rfl ?_
    refine z_iloadn zh dX9_deal_14 rfl ?_
    refine z_iconst zh dX9_deal_15 ki_0 ?_
    refine z_bipush zh dX9_deal_16 kb_7 ?_
    refine z_callVI zh mv_Y_79 dX9_deal_18 ck_Y rfl (s_X9_isIn g) ⟨Nat.le_of_ble_eq_true rfl, Nat.le_of_ble_eq_true rfl⟩ rfl rfl (Nat.le_of_ble_eq_true rfl) ?_
    rintro x8 _ _ ⟨rfl, rfl, hx8, hz9⟩
    refine z_if_eq (tgt := 33) zh dX9_deal_21 rfl (fun q10 => ?_) (fun q10 => ?_)
    · have r11 := rb_eq (u := 0) (v := 0) hx8 ra_z q10 (by decide) (by decide)
      refine z_iconst zh dX9_deal_33 ki_m1 ?_
      exact z_iret zh dX9_deal_34 ⟨_, rfl, hG, trivial⟩
    · have r12 : Ra 1 1 x8 := rb_ne_lo hx8 ra_z q10 (by decide)
      have r13 : Ra 0 7 a2 := (rb_in rl_0 rl_7 (hz9 q10))
      refine z_aloadnR zh dX9_deal_24 rfl ?_
      refine z_iloadn zh dX9_deal_25 rfl ?_
      refine z_iloadn zh dX9_deal_26 rfl ?_
      refine z_callVI zh mv_Y_151 dX9_deal_27 ck_Y rfl (s_X9_tradeOf g r7 r13 hG) ⟨Nat.le_of_ble_eq_true rfl, Nat.le_of_ble_eq_true rfl⟩ rfl rfl (Nat.le_of_ble_eq_true rfl) ?_
      rintro x14 _ _ ⟨rfl, rfl, z15, ez15, ex14⟩
      refine z_goto (tgt := 34) zh dX9_deal_30 rfl ?_
      exact z_iret zh dX9_deal_34 ⟨_, rfl, hG, trivial⟩
set_option maxRecDepth 20000 in
theorem s_X9_takesAssigned (g : GE) {sp : Nat → Nat → Bool} {σ : Iv} {iv : Iv} {lv : Lv} {a1 : Int32} {a2 : Int32} {a3 : Int32} (ha1 : Ra 0 11 a1) (ha2 : Ra 0 5 a2) (hG : SI sp σ iv)  : ConV g yX9_takesAssigned cX9_takesAssigned 7 none 4 [rf g 551, .int a1, .int a2, .int a3] iv lv (fun iv lv => SI sp σ iv) := by
  refine con_intro (own := "RollingNetsModel") (by decide +kernel) rfl (Nat.le_of_ble_eq_true rfl) (L0 := [some (rf g 551), some (.int a1), some (.int a2), some (.int a3), none, none, none]) rfl (fun Z zh => ?_)
  refine z_iloadn zh dX9_takesAssigned_0 rfl ?_
  refine z_istore zh dX9_takesAssigned_1 (by decide) (L' := [some (rf g 551), some (.int a1), some (.int a2), some (.int a3), some (.int a3), none, none]) rfl ?_
  refine z_iconst zh dX9_takesAssigned_3 ki_0 ?_
  refine z_istore zh dX9_takesAssigned_4 (by decide) (L' := [some (rf g 551), some (.int a1), some (.int a2), some (.int a3), some (.int a3), some (.int (nI 0)), none]) rfl ?_
  have J6 : ∀ (n : Nat) (iv : Iv) (lv : Lv) (x1 : Int32) (x2 : Int32), SI sp σ iv → Ra 0 60 x2 → 60 - x2.toInt < (n : Int) → Z 6 [some (rf g 551), some (.int a1), some (.int a2), some (.int a3), some (.int x1), some (.int x2), none] [] iv lv := by
    intro n
    induction n with
    | zero => intro iv lv x1 x2 hG hx2 hn6; exact (ms_uz hx2 hn6).elim
    | succ n ih6 =>
      intro iv lv x1 x2 hG hx2 hn6
      refine z_iload zh dX9_takesAssigned_6 rfl ?_
      refine z_aloadnR zh dX9_takesAssigned_8 rfl ?_
      refine z_getf zh fl_Y_7 dX9_takesAssigned_9 ck_Y rfl rfl ?_
      refine z_bipush zh dX9_takesAssigned_12 kb_8 ?_
      refine y_ialdN zh ck_now dX9_takesAssigned_14 (by decide) (fun x3 ex3 => ?_)
      have hx3 : Ra 0 60 x3 := ra_of ex3 (nr_l hG 8 rfl)
      refine z_icmp_ge (tgt := 91) zh dX9_takesAssigned_15 rfl (fun q4 => ?_) (fun q4 => ?_)
      · exact z_vret zh dX9_takesAssigned_91 ⟨rfl, hG⟩
      · have r5 : Ra 0 59 x2 := rb_lt_l hx3 hx2 (rb_nle q4) (by decide)
        have r6 : Ra 1 60 x3 := rb_lt_r hx2 hx3 (rb_nle q4) (by decide)
        refine z_aloadnR zh dX9_takesAssigned_18 rfl ?_
        refine z_iload zh dX9_takesAssigned_19 rfl ?_
        refine z_iloadn zh dX9_takesAssigned_21 rfl ?_
        refine z_callVI zh mv_Y_160 dX9_takesAssigned_22 ck_Y rfl (s_X9_isOpenNet g r5 ha2 hG) ⟨Nat.le_of_ble_eq_true rfl, Nat.le_of_ble_eq_true rfl⟩ rfl rfl (Nat.le_of_ble_eq_true rfl) ?_
        rintro x7 _ _ ⟨rfl, rfl, hx7⟩
        have J85 : ∀ (iv : Iv) (lv : Lv) (x8 : Int32), SI sp σ iv → iv 552 8 = x3 → Z 85 [some (rf g 551), some (.int a1), some (.int a2), some (.int a3), some (.int x8), some (.int x2), none] [] iv lv := by
          intro iv lv x8 hG em9
          refine y_iinc (L' := fun z => [some (rf g 551), some (.int a1), some (.int a2), some (.int a3), some (.int x8), some (.int z), none]) zh dX9_takesAssigned_85 (by decide) rfl (by decide +kernel) r5 (u := 1) (v := 60) rfl rfl (by decide) (by decide) (fun _ => rfl) (fun x10 hc10 hx10 => ?_)
          refine z_goto (tgt := 6) zh dX9_takesAssigned_88 rfl ?_
          exact ih6 iv lv x8 x10 hG (ra_w hx10 (by decide) (by decide)) (ms_up hc10 (by decide) hn6)
        refine z_if_ne (tgt := 31) zh dX9_takesAssigned_25 rfl (fun q11 => ?_) (fun q11 => ?_)
        · have r12 : Ra 1 1 x7 := rb_ne_lo hx7 ra_z q11 (by decide)
          refine z_aloadnR zh dX9_takesAssigned_31 rfl ?_
          refine z_iload zh dX9_takesAssigned_32 rfl ?_
          refine z_aloadnR zh dX9_takesAssigned_34 rfl ?_
          refine z_iload zh dX9_takesAssigned_35 rfl ?_
          refine z_bipush zh dX9_takesAssigned_37 kb_8 ?_
          refine z_iloadn zh dX9_takesAssigned_39 rfl ?_
          refine y_iadd zh dX9_takesAssigned_40 rl_8 ha1 (u := 8) (v := 19) rfl rfl (by decide) (by decide) (fun x13 hc13 hx13 => ?_)
          refine z_callVI zh mv_Y_157 dX9_takesAssigned_41 ck_Y rfl (s_X9_noticeOf g r5 (ra_w hx13 (by decide) (by decide)) hG) ⟨Nat.le_of_ble_eq_true rfl, Nat.le_of_ble_eq_true rfl⟩ rfl rfl (Nat.le_of_ble_eq_true rfl) ?_
          rintro x14 _ _ ⟨rfl, rfl, z15, ez15, ex14⟩
          refine z_callVI zh mv_Y_131 dX9_takesAssigned_44 ck_Y rfl (s_X9_lesser g  hG) ⟨Nat.le_of_ble_eq_true rfl, Nat.le_of_ble_eq_true rfl⟩ rfl rfl (Nat.le_of_ble_eq_true rfl) ?_
          rintro x16 _ _ ⟨rfl, rfl, _⟩
          refine z_istore zh dX9_takesAssigned_47 (by decide) (L' := [some (rf g 551), some (.int a1), some (.int a2), some (.int a3), some (.int x1), some (.int x2), some (.int x16)]) rfl ?_
          refine z_aloadnR zh dX9_takesAssigned_49 rfl ?_
          refine z_getf zh fl_Y_7 dX9_takesAssigned_50 ck_Y rfl rfl ?_
          refine z_aloadnR zh dX9_takesAssigned_53 rfl ?_
          refine z_iload zh dX9_takesAssigned_54 rfl ?_
          refine z_callVI zh mv_Y_154 dX9_takesAssigned_56 ck_Y rfl (s_X9_noticeAt g r5 hG) ⟨Nat.le_of_ble_eq_true rfl, Nat.le_of_ble_eq_true rfl⟩ rfl rfl (Nat.le_of_ble_eq_true rfl) ?_
          rintro x17 _ _ ⟨rfl, rfl, hx17, hc17⟩
          refine z_bipush zh dX9_takesAssigned_59 kb_8 ?_
          refine y_iadd zh dX9_takesAssigned_61 hx17 rl_8 (u := 16718) (v := 17898) rfl rfl (by decide) (by decide) (fun x18 hc18 hx18 => ?_)
          refine z_iloadn zh dX9_takesAssigned_62 rfl ?_
          refine y_iadd zh dX9_takesAssigned_63 hx18 ha1 (u := 16718) (v := 17909) rfl rfl (by decide) (by decide) (fun x19 hc19 hx19 => ?_)
          refine z_aloadnR zh dX9_takesAssigned_64 rfl ?_
          refine z_iload zh dX9_takesAssigned_65 rfl ?_
          refine z_bipush zh dX9_takesAssigned_67 kb_8 ?_
          refine z_iloadn zh dX9_takesAssigned_69 rfl ?_
          refine y_iadd zh dX9_takesAssigned_70 rl_8 ha1 (u := 8) (v := 19) rfl rfl (by decide) (by decide) (fun x20 hc20 hx20 => ?_)
          refine z_callVI zh mv_Y_157 dX9_takesAssigned_71 ck_Y rfl (s_X9_noticeOf g r5 (ra_w hx20 (by decide) (by decide)) hG) ⟨Nat.le_of_ble_eq_true rfl, Nat.le_of_ble_eq_true rfl⟩ rfl rfl (Nat.le_of_ble_eq_true rfl) ?_
          rintro x21 _ _ ⟨rfl, rfl, z22, ez22, ex21⟩
          refine z_iload zh dX9_takesAssigned_74 rfl ?_
          refine y_isubT zh dX9_takesAssigned_76 (fun x23 => ?_)
          refine z_iast zh ck_now dX9_takesAssigned_77 (ra_in hx19 (by decide) (by decide)) ?_
          have hG : SI sp σ (upI iv 552 x19.toNatClampNeg x23) := (nw_n hG (x2.toInt * 1) (by have := r5.1; have := r5.2; have := rl_8.1; have := rl_8.2; have := ha1.1; have := ha1.2; omega) (by have := r5.1; have := r5.2; have := rl_8.1; have := rl_8.2; have := ha1.1; have := ha1.2; omega) (by have := r5.1; have := r5.2; have := rl_8.1; have := rl_8.2; have := ha1.1; have := ha1.2; omega))
          have em24 := (upI_ne (iv := iv) (k := 552) (j := x19.toNatClampNeg) (x := x23) (a := 552) (b := 8) (Or.inr (ne_cl hx19 (by decide) (Or.inl (by decide))))).trans ex3
          generalize upI iv 552 x19.toNatClampNeg x23 = iv at hG em24 ⊢
          refine z_iload zh dX9_takesAssigned_78 rfl ?_
          refine z_iload zh dX9_takesAssigned_80 rfl ?_
          refine y_isubT zh dX9_takesAssigned_82 (fun x25 => ?_)
          refine z_istore zh dX9_takesAssigned_83 (by decide) (L' := [some (rf g 551), some (.int a1), some (.int a2), some (.int a3), some (.int x25), some (.int x2), some (.int x16)]) rfl ?_
          refine z_forget zh [true, true, true, true, true, true, false] (L2 := [some (rf g 551), some (.int a1), some (.int a2), some (.int a3), some (.int x25), some (.int x2), none]) rfl ?_
          exact J85 iv lv x25 hG em24
        · have r26 := rb_eq (u := 0) (v := 0) hx7 ra_z q11 (by decide) (by decide)
          refine z_goto (tgt := 85) zh dX9_takesAssigned_28 rfl ?_
          exact J85 iv lv x1 hG ex3
  exact J6 61 iv lv a3 (nI 0) hG (ra_w rl_0 (by decide) (by decide)) (ms_u0 rl_0 (by decide))
set_option maxRecDepth 20000 in
theorem s_X9_demandOf (g : GE) {sp : Nat → Nat → Bool} {σ : Iv} {iv : Iv} {lv : Lv} {a1 : Int32} (ha1 : Ra 0 11 a1) (hG : SI sp σ iv)  : ConL g yX9_demandOf cX9_demandOf 8 (some .long) 4 [rf g 551, .int a1] iv lv (fun r iv' lv' => iv = iv' ∧ lv = lv' ∧ True) := by
  refine con_intro (own := "RollingNetsModel") (by decide +kernel) rfl (Nat.le_of_ble_eq_true rfl) (L0 := [some (rf g 551), some (.int a1), none, none, none, none, none, none]) rfl (fun Z zh => ?_)
  refine z_lconst (v := 0) zh dX9_demandOf_0 (by decide) ?_
  refine z_lstoren zh dX9_demandOf_1 (by decide) (L' := [some (rf g 551), some (.int a1), some (.long (0 : Int64)), none, none, none, none, none]) rfl ?_
  refine z_iconst zh dX9_demandOf_2 ki_0 ?_
  refine z_istore zh dX9_demandOf_3 (by decide) (L' := [some (rf g 551), some (.int a1), some (.long (0 : Int64)), none, some (.int (nI 0)), none, none, none]) rfl ?_
  have J5 : ∀ (n : Nat) (l1 : Int64) (x2 : Int32), Ra 0 6 x2 → 6 - x2.toInt < (n : Int) → Z 5 [some (rf g 551), some (.int a1), some (.long l1), none, some (.int x2), none, none, none] [] iv lv := by
    intro n
    induction n with
    | zero => intro l1 x2 hx2 hn5; exact (ms_uz hx2 hn5).elim
    | succ n ih5 =>
      intro l1 x2 hx2 hn5
      refine z_iload zh dX9_demandOf_5 rfl ?_
      refine z_bipush zh dX9_demandOf_7 kb_6 ?_
      refine z_icmp_ge (tgt := 118) zh dX9_demandOf_9 rfl (fun q3 => ?_) (fun q3 => ?_)
      · have r4 : Ra 6 6 x2 := rb_le_r rl_6 hx2 q3 (by decide)
        refine z_lloadn zh dX9_demandOf_118 rfl ?_
        exact z_lret zh dX9_demandOf_119 ⟨_, rfl, rfl, rfl, trivial⟩
      · have r5 : Ra 0 5 x2 := rb_lt_l rl_6 hx2 (rb_nle q3) (by decide)
        refine z_iconst zh dX9_demandOf_12 ki_0 ?_
        refine z_istore zh dX9_demandOf_13 (by decide) (L' := [some (rf g 551), some (.int a1), some (.long l1), none, some (.int x2), some (.int (nI 0)), none, none]) rfl ?_
        have J15 : ∀ (n : Nat) (l6 : Int64) (x7 : Int32), Ra 0 100 x7 → 100 - x7.toInt < (n : Int) → Z 15 [some (rf g 551), some (.int a1), some (.long l6), none, some (.int x2), some (.int x7), none, none] [] iv lv := by
          intro n
          induction n with
          | zero => intro l6 x7 hx7 hn15; exact (ms_uz hx7 hn15).elim
          | succ n ih15 =>
            intro l6 x7 hx7 hn15
            refine z_iload zh dX9_demandOf_15 rfl ?_
            refine z_aloadnR zh dX9_demandOf_17 rfl ?_
            refine z_iloadn zh dX9_demandOf_18 rfl ?_
            refine z_iload zh dX9_demandOf_19 rfl ?_
            refine z_callVI zh mv_Y_110 dX9_demandOf_21 ck_Y rfl (s_X9_lotMany g ha1 r5 hG) ⟨Nat.le_of_ble_eq_true rfl, Nat.le_of_ble_eq_true rfl⟩ rfl rfl (Nat.le_of_ble_eq_true rfl) ?_
            rintro x8 _ _ ⟨rfl, rfl, hx8, _⟩
            refine z_icmp_ge (tgt := 112) zh dX9_demandOf_24 rfl (fun q9 => ?_) (fun q9 => ?_)
            · refine y_iinc (L' := fun z => [some (rf g 551), some (.int a1), some (.long l6), none, some (.int z), some (.int x7), none, none]) zh dX9_demandOf_112 (by decide) rfl (by decide +kernel) r5 (u := 1) (v := 6) rfl rfl (by decide) (by decide) (fun _ => rfl) (fun x10 hc10 hx10 => ?_)
              refine z_goto (tgt := 5) zh dX9_demandOf_115 rfl ?_
              refine z_forget zh [true, true, true, false, true, false, false, false] (L2 := [some (rf g 551), some (.int a1), some (.long l6), none, some (.int x10), none, none, none]) rfl ?_
              exact ih5 l6 x10 (ra_w hx10 (by decide) (by decide)) (ms_up hc10 (by decide) hn5)
            · have r11 : Ra 0 99 x7 := rb_lt_l hx8 hx7 (rb_nle q9) (by decide)
              have r12 : Ra 1 100 x8 := rb_lt_r hx7 hx8 (rb_nle q9) (by decide)
              refine z_aloadnR zh dX9_demandOf_27 rfl ?_
              refine z_iloadn zh dX9_demandOf_28 rfl ?_
              refine z_iload zh dX9_demandOf_29 rfl ?_
              refine z_iload zh dX9_demandOf_31 rfl ?_
              refine z_callVI zh mv_Y_113 dX9_demandOf_33 ck_Y rfl (s_X9_sharesOf g ha1 r5 (ra_w r11 (by decide) (by decide)) hG) ⟨Nat.le_of_ble_eq_true rfl, Nat.le_of_ble_eq_true rfl⟩ rfl rfl (Nat.le_of_ble_eq_true rfl) ?_
              rintro x13 _ _ ⟨rfl, rfl, _⟩
              refine z_istore zh dX9_demandOf_36 (by decide) (L' := [some (rf g 551), some (.int a1), some (.long l6), none, some (.int x2), some (.int x7), some (.int x13), none]) rfl ?_
              refine z_bipush zh dX9_demandOf_38 kb_10 ?_
              refine z_iload zh dX9_demandOf_40 rfl ?_
              have J68 : ∀ (x14 : Int32), Ra (-495) 495 x14 → Z 68 [some (rf g 551), some (.int a1), some (.long l6), none, some (.int x2), some (.int x7), some (.int x13), none] [.int x14, .int (nI 10)] iv lv := by
                intro x14 hx14
                refine y_iadd zh dX9_demandOf_68 rl_10 hx14 (u := (-485)) (v := 505) rfl rfl (by decide) (by decide) (fun x15 hc15 hx15 => ?_)
                refine z_istore zh dX9_demandOf_69 (by decide) (L' := [some (rf g 551), some (.int a1), some (.long l6), none, some (.int x2), some (.int x7), some (.int x13), some (.int x15)]) rfl ?_
                refine z_lloadn zh dX9_demandOf_71 rfl ?_
                refine z_aloadnR zh dX9_demandOf_72 rfl ?_
                refine z_iload zh dX9_demandOf_73 rfl ?_
                refine z_iload zh dX9_demandOf_75 rfl ?_
                refine y_inegT zh dX9_demandOf_77 (fun x16 => ?_)
                refine z_callVI zh mv_Y_76 dX9_demandOf_78 ck_Y rfl (s_X9_greater g  hG) ⟨Nat.le_of_ble_eq_true rfl, Nat.le_of_ble_eq_true rfl⟩ rfl rfl (Nat.le_of_ble_eq_true rfl) ?_
                rintro x17 _ _ ⟨rfl, rfl, _⟩
                refine y_i2l zh dX9_demandOf_81 (fun l18 => ?_)
                refine z_aloadnR zh dX9_demandOf_82 rfl ?_
                refine z_iload zh dX9_demandOf_83 rfl ?_
                refine z_callVI zh mv_Y_203 dX9_demandOf_85 ck_Y rfl (s_X9_markedOf g r5 hG) ⟨Nat.le_of_ble_eq_true rfl, Nat.le_of_ble_eq_true rfl⟩ rfl rfl (Nat.le_of_ble_eq_true rfl) ?_
                rintro x19 _ _ ⟨rfl, rfl, _⟩
                refine y_i2l zh dX9_demandOf_88 (fun l20 => ?_)
                refine y_lmul zh dX9_demandOf_89 (fun l21 => ?_)
                refine z_aloadnR zh dX9_demandOf_90 rfl ?_
                refine z_bipush zh dX9_demandOf_91 kb_100 ?_
                refine z_iload zh dX9_demandOf_93 rfl ?_
                refine z_callVI zh mv_Y_131 dX9_demandOf_95 ck_Y rfl (s_X9_lesser g  hG) ⟨Nat.le_of_ble_eq_true rfl, Nat.le_of_ble_eq_true rfl⟩ rfl rfl (Nat.le_of_ble_eq_true rfl) ?_
                rintro x22 _ _ ⟨rfl, rfl, _⟩
                refine y_i2l zh dX9_demandOf_98 (fun l23 => ?_)
                refine y_lmul zh dX9_demandOf_99 (fun l24 => ?_)
                refine z_ldc2 zh dX9_demandOf_100 kl_Y_316 ?_
                refine y_ldiv zh dX9_demandOf_103 (by decide) (fun l25 => ?_)
                refine y_ladd zh dX9_demandOf_104 (fun l26 => ?_)
                refine z_lstoren zh dX9_demandOf_105 (by decide) (L' := [some (rf g 551), some (.int a1), some (.long l26), none, some (.int x2), some (.int x7), some (.int x13), some (.int x15)]) rfl ?_
                refine y_iinc (L' := fun z => [some (rf g 551), some (.int a1), some (.long l26), none, some (.int x2), some (.int z), some (.int x13), some (.int x15)]) zh dX9_demandOf_106 (by decide) rfl (by decide +kernel) r11 (u := 1) (v := 100) rfl rfl (by decide) (by decide) (fun _ => rfl) (fun x27 hc27 hx27 => ?_)
                refine z_goto (tgt := 15) zh dX9_demandOf_109 rfl ?_
                refine z_forget zh [true, true, true, false, true, true, false, false] (L2 := [some (rf g 551), some (.int a1), some (.long l26), none, some (.int x2), some (.int x27), none, none]) rfl ?_
                exact ih15 l26 x27 (ra_w hx27 (by decide) (by decide)) (ms_up hc27 (by decide) hn15)
              refine z_if_ge (tgt := 67) zh dX9_demandOf_42 rfl (fun q28 => ?_) (fun q28 => ?_)
              · have r29 : Ra 0 2147483647 x13 := rb_le_r ra_z (ra_tt x13) q28 (by decide)
                refine z_iconst zh dX9_demandOf_67 ki_0 ?_
                exact J68 (nI 0) (ra_w rl_0 (by decide) (by decide))
              · have r30 : Ra (-2147483648) (-1) x13 := rb_lt_l ra_z (ra_tt x13) (rb_nle q28) (by decide)
                refine z_iconst zh dX9_demandOf_45 ki_5 ?_
                refine z_aloadnR zh dX9_demandOf_46 rfl ?_
                refine z_getf zh fl_Y_7 dX9_demandOf_47 ck_Y rfl rfl ?_
                refine z_bipush zh dX9_demandOf_50 kb_6 ?_
                refine y_ialdN zh ck_now dX9_demandOf_52 (by decide) (fun x31 ex31 => ?_)
                have hx31 : Ra 0 99 x31 := ra_of ex31 (nr_l hG 6 rfl)
                refine z_aloadnR zh dX9_demandOf_53 rfl ?_
                refine z_iloadn zh dX9_demandOf_54 rfl ?_
                refine z_iload zh dX9_demandOf_55 rfl ?_
                refine z_iload zh dX9_demandOf_57 rfl ?_
                refine z_callVI zh mv_Y_125 dX9_demandOf_59 ck_Y rfl (s_X9_dayOf g ha1 r5 (ra_w r11 (by decide) (by decide)) hG) ⟨Nat.le_of_ble_eq_true rfl, Nat.le_of_ble_eq_true rfl⟩ rfl rfl (Nat.le_of_ble_eq_true rfl) ?_
                rintro x32 _ _ ⟨rfl, rfl, hx32, _⟩
                refine y_isub zh dX9_demandOf_62 hx31 hx32 (u := (-99)) (v := 99) rfl rfl (by decide) (by decide) (fun x33 hc33 hx33 => ?_)
                refine y_imul2 zh dX9_demandOf_63 hx33 rl_5 (by decide) (u := (-495)) (v := 495) rfl rfl (by decide) (by decide) (fun x34 hc34 hx34 => ?_)
                refine z_goto (tgt := 68) zh dX9_demandOf_64 rfl ?_
                exact J68 x34 hx34
        exact J15 101 l1 (nI 0) (ra_w rl_0 (by decide) (by decide)) (ms_u0 rl_0 (by decide))
  exact J5 7 (0 : Int64) (nI 0) (ra_w rl_0 (by decide) (by decide)) (ms_u0 rl_0 (by decide))
set_option maxRecDepth 20000 in
theorem s_X9_dividend (g : GE) {sp : Nat → Nat → Bool} {σ : Iv} {iv : Iv} {lv : Lv} {a1 : Int32} {a2 : Int32}  (hG : SI sp σ iv)  : ConI g yX9_dividend cX9_dividend 3 (some .boolean) 2 [rf g 551, .int a1, .int a2] iv lv (fun r iv lv => SI sp σ iv ∧ Ra 0 1 r ∧ (¬ r = 0 → Ra 0 5 a1) ∧ (¬ r = 0 → Ra 0 99 a2)) := by
  refine con_intro (own := "RollingNetsModel") (by decide +kernel) rfl (Nat.le_of_ble_eq_true rfl) (L0 := [some (rf g 551), some (.int a1), some (.int a2)]) rfl (fun Z zh => ?_)
  refine z_aloadnR zh dX9_dividend_0 rfl ?_
  refine z_iconst zh dX9_dividend_1 ki_0 ?_
  refine z_putI zh fl_Y_58 dX9_dividend_2 ck_Y rfl rfl (Nat.le_of_ble_eq_true rfl) (Or.inl rfl) ?_
  have hG : SI sp σ (upI iv 551 0 (nI 0)) := si_w (k := 551) (j := 0) hG (by decide) (by decide) (sp_no hG ((spc_Y (q := 0)).trans rfl)) (fun lo hi q => (rx_none rfl) lo hi ((rg_Y (q := 0)).symm.trans q))
  have em1 : upI iv 551 0 (nI 0) 551 0 = nI 0 := by rw [upI_at, if_pos ⟨rfl, rfl⟩]
  generalize upI iv 551 0 (nI 0) = iv at hG em1 ⊢
  refine z_aloadnR zh dX9_dividend_5 rfl ?_
  refine z_iloadn zh dX9_dividend_6 rfl ?_
  refine z_callVI zh mv_Y_94 dX9_dividend_7 ck_Y rfl (s_X9_isIssue g  hG) ⟨Nat.le_of_ble_eq_true rfl, Nat.le_of_ble_eq_true rfl⟩ rfl rfl (Nat.le_of_ble_eq_true rfl) ?_
  rintro x2 _ _ ⟨rfl, rfl, hx2, hz3⟩
  refine z_if_eq (tgt := 24) zh dX9_dividend_10 rfl (fun q4 => ?_) (fun q4 => ?_)
  · have r5 := rb_eq (u := 0) (v := 0) hx2 ra_z q4 (by decide) (by decide)
    refine z_iconst zh dX9_dividend_24 ki_0 ?_
    exact z_zret zh dX9_dividend_25 (ra_01 (ra_w rl_0 (by decide) (by decide))) ⟨_, rfl, hG, (ra_w rl_0 (by decide) (by decide)), (fun q => absurd rfl q), (fun q => absurd rfl q)⟩
  · have r6 : Ra 1 1 x2 := rb_ne_lo hx2 ra_z q4 (by decide)
    have r7 : Ra 0 5 a1 := (hz3 q4)
    refine z_aloadnR zh dX9_dividend_13 rfl ?_
    refine z_iloadn zh dX9_dividend_14 rfl ?_
    refine z_iconst zh dX9_dividend_15 ki_0 ?_
    refine z_bipush zh dX9_dividend_16 kb_99 ?_
    refine z_callVI zh mv_Y_79 dX9_dividend_18 ck_Y rfl (s_X9_isIn g) ⟨Nat.le_of_ble_eq_true rfl, Nat.le_of_ble_eq_true rfl⟩ rfl rfl (Nat.le_of_ble_eq_true rfl) ?_
    rintro x8 _ _ ⟨rfl, rfl, hx8, hz9⟩
    refine z_if_ne (tgt := 26) zh dX9_dividend_21 rfl (fun q10 => ?_) (fun q10 => ?_)
    · have r11 : Ra 1 1 x8 := rb_ne_lo hx8 ra_z q10 (by decide)
      have r12 : Ra 0 99 a2 := (rb_in rl_0 rl_99 (hz9 q10))
      refine z_aloadnR zh dX9_dividend_26 rfl ?_
      refine z_getf zh fl_Y_7 dX9_dividend_27 ck_Y rfl rfl ?_
      refine z_bipush zh dX9_dividend_30 kb_28 ?_
      refine z_iloadn zh dX9_dividend_32 rfl ?_
      refine y_iadd zh dX9_dividend_33 rl_28 r7 (u := 28) (v := 33) rfl rfl (by decide) (by decide) (fun x13 hc13 hx13 => ?_)
      refine z_iloadn zh dX9_dividend_34 rfl ?_
      refine z_iast zh ck_now dX9_dividend_35 (ra_in hx13 (by decide) (by decide)) ?_
      have hG : SI sp σ (upI iv 552 x13.toNatClampNeg a2) := (nw_free hG (by have := rl_28.1; have := rl_28.2; have := r7.1; have := r7.2; omega))
      have em14 := (upI_ne (iv := iv) (k := 552) (j := x13.toNatClampNeg) (x := a2) (a := 551) (b := 0) (Or.inl (by decide))).trans em1
      generalize upI iv 552 x13.toNatClampNeg a2 = iv at hG em14 ⊢
      refine z_iconst zh dX9_dividend_36 ki_1 ?_
      exact z_zret zh dX9_dividend_37 (ra_01 (ra_w rl_1 (by decide) (by decide))) ⟨_, rfl, hG, (ra_w rl_1 (by decide) (by decide)), (fun _ => r7), (fun _ => r12)⟩
    · have r15 := rb_eq (u := 0) (v := 0) hx8 ra_z q10 (by decide) (by decide)
      refine z_iconst zh dX9_dividend_24 ki_0 ?_
      exact z_zret zh dX9_dividend_25 (ra_01 (ra_w rl_0 (by decide) (by decide))) ⟨_, rfl, hG, (ra_w rl_0 (by decide) (by decide)), (fun q => absurd rfl q), (fun q => absurd rfl q)⟩
set_option maxRecDepth 20000 in
theorem s_X9_doesApart (g : GE) {sp : Nat → Nat → Bool} {σ : Iv} {iv : Iv} {lv : Lv} {a1 : Int32} (ha1 : Ra 0 5 a1) (hG : SI sp σ iv)  : ConV g yX9_doesApart cX9_doesApart 6 none 4 [rf g 551, .int a1] iv lv (fun iv lv => SI sp σ iv) := by
  refine con_intro (own := "RollingNetsModel") (by decide +kernel) rfl (Nat.le_of_ble_eq_true rfl) (L0 := [some (rf g 551), some (.int a1), none, none, none, none]) rfl (fun Z zh => ?_)
  refine z_iconst zh dX9_doesApart_0 ki_0 ?_
  refine z_istoren zh dX9_doesApart_1 (by decide) (L' := [some (rf g 551), some (.int a1), some (.int (nI 0)), none, none, none]) rfl ?_
  have J2 : ∀ (n : Nat) (iv : Iv) (lv : Lv) (x1 : Int32), SI sp σ iv → Ra 0 200 x1 → 200 - x1.toInt < (n : Int) → Z 2 [some (rf g 551), some (.int a1), some (.int x1), none, none, none] [] iv lv := by
    intro n
    induction n with
    | zero => intro iv lv x1 hG hx1 hn2; exact (ms_uz hx1 hn2).elim
    | succ n ih2 =>
      intro iv lv x1 hG hx1 hn2
      refine z_iloadn zh dX9_doesApart_2 rfl ?_
      refine z_aloadnR zh dX9_doesApart_3 rfl ?_
      refine z_getf zh fl_Y_7 dX9_doesApart_4 ck_Y rfl rfl ?_
      refine z_bipush zh dX9_doesApart_7 kb_7 ?_
      refine y_ialdN zh ck_now dX9_doesApart_9 (by decide) (fun x2 ex2 => ?_)
      have hx2 : Ra 0 200 x2 := ra_of ex2 (nr_l hG 7 rfl)
      refine z_icmp_ge (tgt := 145) zh dX9_doesApart_10 rfl (fun q3 => ?_) (fun q3 => ?_)
      · exact z_vret zh dX9_doesApart_145 ⟨rfl, hG⟩
      · have r4 : Ra 0 199 x1 := rb_lt_l hx2 hx1 (rb_nle q3) (by decide)
        have r5 : Ra 1 200 x2 := rb_lt_r hx1 hx2 (rb_nle q3) (by decide)
        refine z_aloadnR zh dX9_doesApart_13 rfl ?_
        refine z_iloadn zh dX9_doesApart_14 rfl ?_
        refine z_iloadn zh dX9_doesApart_15 rfl ?_
        refine z_iconst zh dX9_doesApart_16 ki_1 ?_
        refine z_callVI zh mv_Y_217 dX9_doesApart_17 ck_Y rfl (s_X9_isRipe g r4 ha1 (ra_w rl_1 (by decide) (by decide)) hG) ⟨Nat.le_of_ble_eq_true rfl, Nat.le_of_ble_eq_true rfl⟩ rfl rfl (Nat.le_of_ble_eq_true rfl) ?_
        rintro x6 _ _ ⟨rfl, rfl, hx6⟩
        have J139 : ∀ (iv : Iv) (lv : Lv), SI sp σ iv → Z 139 [some (rf g 551), some (.int a1), some (.int x1), none, none, none] [] iv lv := by
          intro iv lv hG
          refine y_iinc (L' := fun z => [some (rf g 551), some (.int a1), some (.int z), none, none, none]) zh dX9_doesApart_139 (by decide) rfl (by decide +kernel) r4 (u := 1) (v := 200) rfl rfl (by decide) (by decide) (fun _ => rfl) (fun x7 hc7 hx7 => ?_)
          refine z_goto (tgt := 2) zh dX9_doesApart_142 rfl ?_
          exact ih2 iv lv x7 hG (ra_w hx7 (by decide) (by decide)) (ms_up hc7 (by decide) hn2)
        refine z_if_ne (tgt := 26) zh dX9_doesApart_20 rfl (fun q8 => ?_) (fun q8 => ?_)
        · have r9 : Ra 1 1 x6 := rb_ne_lo hx6 ra_z q8 (by decide)
          refine z_aloadnR zh dX9_doesApart_26 rfl ?_
          refine z_iloadn zh dX9_doesApart_27 rfl ?_
          refine z_bipush zh dX9_doesApart_28 kb_7 ?_
          refine z_callVI zh mv_Y_151 dX9_doesApart_30 ck_Y rfl (s_X9_tradeOf g r4 (ra_w rl_7 (by decide) (by decide)) hG) ⟨Nat.le_of_ble_eq_true rfl, Nat.le_of_ble_eq_true rfl⟩ rfl rfl (Nat.le_of_ble_eq_true rfl) ?_
          rintro x10 _ _ ⟨rfl, rfl, z11, ez11, ex10⟩
          refine z_istoren zh dX9_doesApart_33 (by decide) (L' := [some (rf g 551), some (.int a1), some (.int x1), some (.int x10), none, none]) rfl ?_
          refine z_aloadnR zh dX9_doesApart_34 rfl ?_
          refine z_iloadn zh dX9_doesApart_35 rfl ?_
          refine z_iconst zh dX9_doesApart_36 ki_0 ?_
          refine z_callVI zh mv_Y_151 dX9_doesApart_37 ck_Y rfl (s_X9_tradeOf g r4 (ra_w rl_0 (by decide) (by decide)) hG) ⟨Nat.le_of_ble_eq_true rfl, Nat.le_of_ble_eq_true rfl⟩ rfl rfl (Nat.le_of_ble_eq_true rfl) ?_
          rintro x12 _ _ ⟨rfl, rfl, z13, ez13, ex12⟩
          have hx12 : Ra 0 11 x12 := ra_of ex12 (nr_t01 hG x1.toInt (by have := r4.1; have := r4.2; have := rl_0.1; have := rl_0.2; omega) (by have := r4.1; have := r4.2; have := rl_0.1; have := rl_0.2; omega) (by have := r4.1; have := r4.2; have := rl_0.1; have := rl_0.2; omega))
          refine z_istore zh dX9_doesApart_40 (by decide) (L' := [some (rf g 551), some (.int a1), some (.int x1), some (.int x10), some (.int x12), none]) rfl ?_
          refine z_aloadnR zh dX9_doesApart_42 rfl ?_
          refine z_iloadn zh dX9_doesApart_43 rfl ?_
          refine z_iconst zh dX9_doesApart_44 ki_1 ?_
          refine z_callVI zh mv_Y_151 dX9_doesApart_45 ck_Y rfl (s_X9_tradeOf g r4 (ra_w rl_1 (by decide) (by decide)) hG) ⟨Nat.le_of_ble_eq_true rfl, Nat.le_of_ble_eq_true rfl⟩ rfl rfl (Nat.le_of_ble_eq_true rfl) ?_
          rintro x14 _ _ ⟨rfl, rfl, z15, ez15, ex14⟩
          have hx14 : Ra 0 11 x14 := ra_of ex14 (nr_t01 hG x1.toInt (by have := r4.1; have := r4.2; have := rl_1.1; have := rl_1.2; omega) (by have := r4.1; have := r4.2; have := rl_1.1; have := rl_1.2; omega) (by have := r4.1; have := r4.2; have := rl_1.1; have := rl_1.2; omega))
          refine z_istore zh dX9_doesApart_48 (by decide) (L' := [some (rf g 551), some (.int a1), some (.int x1), some (.int x10), some (.int x12), some (.int x14)]) rfl ?_
          refine z_aloadnR zh dX9_doesApart_50 rfl ?_
          refine z_iload zh dX9_doesApart_51 rfl ?_
          refine z_iloadn zh dX9_doesApart_53 rfl ?_
          refine z_callVI zh mv_Y_98 dX9_doesApart_54 ck_Y rfl (s_X9_freeOf g hx14 ha1 hG) ⟨Nat.le_of_ble_eq_true rfl, Nat.le_of_ble_eq_true rfl⟩ rfl rfl (Nat.le_of_ble_eq_true rfl) ?_
          rintro x16 _ _ ⟨rfl, rfl, _⟩
          refine z_iloadn zh dX9_doesApart_57 rfl ?_
          refine z_icmp_ge (tgt := 64) zh dX9_doesApart_58 rfl (fun q17 => ?_) (fun q17 => ?_)
          · refine z_aloadnR zh dX9_doesApart_64 rfl ?_
            refine z_iload zh dX9_doesApart_65 rfl ?_
            refine z_iloadn zh dX9_doesApart_67 rfl ?_
            refine z_iloadn zh dX9_doesApart_68 rfl ?_
            refine y_inegT zh dX9_doesApart_69 (fun x18 => ?_)
            refine z_callVV zh mv_Y_101 dX9_doesApart_70 ck_Y rfl (s_X9_stockMore g hx14 ha1 hG) ⟨Nat.le_of_ble_eq_true rfl, Nat.le_of_ble_eq_true rfl⟩ rfl rfl (Nat.le_of_ble_eq_true rfl) ?_
            rintro iv lv ⟨hG, _⟩
            refine z_aloadnR zh dX9_doesApart_73 rfl ?_
            refine z_iload zh dX9_doesApart_74 rfl ?_
            refine z_iloadn zh dX9_doesApart_76 rfl ?_
            refine z_iloadn zh dX9_doesApart_77 rfl ?_
            refine z_callVV zh mv_Y_101 dX9_doesApart_78 ck_Y rfl (s_X9_stockMore g hx12 ha1 hG) ⟨Nat.le_of_ble_eq_true rfl, Nat.le_of_ble_eq_true rfl⟩ rfl rfl (Nat.le_of_ble_eq_true rfl) ?_
            rintro iv lv ⟨hG, _⟩
            refine z_aloadnR zh dX9_doesApart_81 rfl ?_
            refine z_iload zh dX9_doesApart_82 rfl ?_
            refine z_iloadn zh dX9_doesApart_84 rfl ?_
            refine y_i2l zh dX9_doesApart_85 (fun l19 => ?_)
            refine y_lneg zh dX9_doesApart_86 (fun l20 => ?_)
            refine z_aloadnR zh dX9_doesApart_87 rfl ?_
            refine z_iloadn zh dX9_doesApart_88 rfl ?_
            refine z_iconst zh dX9_doesApart_89 ki_4 ?_
            refine z_callVI zh mv_Y_151 dX9_doesApart_90 ck_Y rfl (s_X9_tradeOf g r4 (ra_w rl_4 (by decide) (by decide)) hG) ⟨Nat.le_of_ble_eq_true rfl, Nat.le_of_ble_eq_true rfl⟩ rfl rfl (Nat.le_of_ble_eq_true rfl) ?_
            rintro x21 _ _ ⟨rfl, rfl, z22, ez22, ex21⟩
            refine y_i2l zh dX9_doesApart_93 (fun l23 => ?_)
            refine y_lmul zh dX9_doesApart_94 (fun l24 => ?_)
            refine z_callVV zh mv_Y_206 dX9_doesApart_95 ck_Y rfl (s_X9_cashMore g hx12 hG) ⟨Nat.le_of_ble_eq_true rfl, Nat.le_of_ble_eq_true rfl⟩ rfl rfl (Nat.le_of_ble_eq_true rfl) ?_
            rintro iv lv ⟨hG, _⟩
            refine z_aloadnR zh dX9_doesApart_98 rfl ?_
            refine z_iload zh dX9_doesApart_99 rfl ?_
            refine z_iloadn zh dX9_doesApart_101 rfl ?_
            refine y_i2l zh dX9_doesApart_102 (fun l25 => ?_)
            refine z_aloadnR zh dX9_doesApart_103 rfl ?_
            refine z_iloadn zh dX9_doesApart_104 rfl ?_
            refine z_iconst zh dX9_doesApart_105 ki_4 ?_
            refine z_callVI zh mv_Y_151 dX9_doesApart_106 ck_Y rfl (s_X9_tradeOf g r4 (ra_w rl_4 (by decide) (by decide)) hG) ⟨Nat.le_of_ble_eq_true rfl, Nat.le_of_ble_eq_true rfl⟩ rfl rfl (Nat.le_of_ble_eq_true rfl) ?_
            rintro x26 _ _ ⟨rfl, rfl, z27, ez27, ex26⟩
            refine y_i2l zh dX9_doesApart_109 (fun l28 => ?_)
            refine y_lmul zh dX9_doesApart_110 (fun l29 => ?_)
            refine z_callVV zh mv_Y_206 dX9_doesApart_111 ck_Y rfl (s_X9_cashMore g hx14 hG) ⟨Nat.le_of_ble_eq_true rfl, Nat.le_of_ble_eq_true rfl⟩ rfl rfl (Nat.le_of_ble_eq_true rfl) ?_
            rintro iv lv ⟨hG, _⟩
            refine z_aloadnR zh dX9_doesApart_114 rfl ?_
            refine z_getf zh fl_Y_7 dX9_doesApart_115 ck_Y rfl rfl ?_
            refine z_aloadnR zh dX9_doesApart_118 rfl ?_
            refine z_iloadn zh dX9_doesApart_119 rfl ?_
            refine z_callVI zh mv_Y_141 dX9_doesApart_120 ck_Y rfl (s_X9_tradeAt g r4 hG) ⟨Nat.le_of_ble_eq_true rfl, Nat.le_of_ble_eq_true rfl⟩ rfl rfl (Nat.le_of_ble_eq_true rfl) ?_
            rintro x30 _ _ ⟨rfl, rfl, hx30, hc30⟩
            refine z_bipush zh dX9_doesApart_123 kb_7 ?_
            refine y_iadd zh dX9_doesApart_125 hx30 rl_7 (u := 15117) (v := 16709) rfl rfl (by decide) (by decide) (fun x31 hc31 hx31 => ?_)
            refine z_iconst zh dX9_doesApart_126 ki_0 ?_
            refine z_iast zh ck_now dX9_doesApart_127 (ra_in hx31 (by decide) (by decide)) ?_
            have hG : SI sp σ (upI iv 552 x31.toNatClampNeg (nI 0)) := (nw_t hG (x1.toInt * 1) (by have := r4.1; have := r4.2; have := rl_7.1; have := rl_7.2; omega) (by have := r4.1; have := r4.2; have := rl_7.1; have := rl_7.2; omega) (by have := r4.1; have := r4.2; have := rl_7.1; have := rl_7.2; omega))
            generalize upI iv 552 x31.toNatClampNeg (nI 0) = iv at hG  ⊢
            refine z_aloadnR zh dX9_doesApart_128 rfl ?_
            refine z_iconst zh dX9_doesApart_129 ki_3 ?_
            refine z_iloadn zh dX9_doesApart_130 rfl ?_
            refine z_iload zh dX9_doesApart_131 rfl ?_
            refine z_iload zh dX9_doesApart_133 rfl ?_
            refine z_iloadn zh dX9_doesApart_135 rfl ?_
            refine z_callVV zh mv_Y_213 dX9_doesApart_136 ck_Y rfl (s_X9_writes g (ra_w rl_3 (by decide) (by decide)) ha1 (ra_w hx14 (by decide) (by decide)) (ra_w hx12 (by decide) (by decide)) hG) ⟨Nat.le_of_ble_eq_true rfl, Nat.le_of_ble_eq_true rfl⟩ rfl rfl (Nat.le_of_ble_eq_true rfl) ?_
            rintro iv lv ⟨hG, _⟩
            refine z_forget zh [true, true, true, false, false, false] (L2 := [some (rf g 551), some (.int a1), some (.int x1), none, none, none]) rfl ?_
            exact J139 iv lv hG
          · have r32 : Ra (-2147483648) 2147483646 x16 := rb_lt_l (ra_tt x10) (ra_tt x16) (rb_nle q17) (by decide)
            have r33 : Ra (-2147483647) 2147483647 x10 := rb_lt_r (ra_tt x16) (ra_tt x10) (rb_nle q17) (by decide)
            refine z_goto (tgt := 139) zh dX9_doesApart_61 rfl ?_
            refine z_forget zh [true, true, true, false, false, false] (L2 := [some (rf g 551), some (.int a1), some (.int x1), none, none, none]) rfl ?_
            exact J139 iv lv hG
        · have r34 := rb_eq (u := 0) (v := 0) hx6 ra_z q8 (by decide) (by decide)
          refine z_goto (tgt := 139) zh dX9_doesApart_23 rfl ?_
          exact J139 iv lv hG
  exact J2 201 iv lv (nI 0) hG (ra_w rl_0 (by decide) (by decide)) (ms_u0 rl_0 (by decide))
set_option maxRecDepth 20000 in
theorem s_X9_eldest (g : GE) {sp : Nat → Nat → Bool} {σ : Iv} {iv : Iv} {lv : Lv} {a1 : Int32} (ha1 : Ra 0 5 a1) (hG : SI sp σ iv)  : ConI g yX9_eldest cX9_eldest 4 (some .int) 4 [rf g 551, .int a1] iv lv (fun r iv' lv' => iv = iv' ∧ lv = lv' ∧ Ra (-1) 99 r) := by
  refine con_intro (own := "RollingNetsModel") (by decide +kernel) rfl (Nat.le_of_ble_eq_true rfl) (L0 := [some (rf g 551), some (.int a1), none, none]) rfl (fun Z zh => ?_)
  refine z_iconst zh dX9_eldest_0 ki_m1 ?_
  refine z_istoren zh dX9_eldest_1 (by decide) (L' := [some (rf g 551), some (.int a1), some (.int (-1)), none]) rfl ?_
  refine z_iconst zh dX9_eldest_2 ki_0 ?_
  refine z_istoren zh dX9_eldest_3 (by decide) (L' := [some (rf g 551), some (.int a1), some (.int (-1)), some (.int (nI 0))]) rfl ?_
  have J4 : ∀ (n : Nat) (x1 : Int32) (x2 : Int32), Ra (-1) 99 x1 → Ra 0 12 x2 → 12 - x2.toInt < (n : Int) → Z 4 [some (rf g 551), some (.int a1), some (.int x1), some (.int x2)] [] iv lv := by
    intro n
    induction n with
    | zero => intro x1 x2 hx1 hx2 hn4; exact (ms_uz hx2 hn4).elim
    | succ n ih4 =>
      intro x1 x2 hx1 hx2 hn4
      refine z_iloadn zh dX9_eldest_4 rfl ?_
      refine z_aloadnR zh dX9_eldest_5 rfl ?_
      refine z_callVI zh mv_Y_61 dX9_eldest_6 ck_Y rfl (s_X9_memberMany g  hG) ⟨Nat.le_of_ble_eq_true rfl, Nat.le_of_ble_eq_true rfl⟩ rfl rfl (Nat.le_of_ble_eq_true rfl) ?_
      rintro x3 _ _ ⟨rfl, rfl, hx3⟩
      refine z_icmp_ge (tgt := 51) zh dX9_eldest_9 rfl (fun q4 => ?_) (fun q4 => ?_)
      · have r5 : Ra 2 12 x2 := rb_le_r hx3 hx2 q4 (by decide)
        refine z_iloadn zh dX9_eldest_51 rfl ?_
        exact z_iret zh dX9_eldest_52 ⟨_, rfl, rfl, rfl, hx1⟩
      · have r6 : Ra 0 11 x2 := rb_lt_l hx3 hx2 (rb_nle q4) (by decide)
        refine z_aloadnR zh dX9_eldest_12 rfl ?_
        refine z_iloadn zh dX9_eldest_13 rfl ?_
        refine z_iloadn zh dX9_eldest_14 rfl ?_
        refine z_callVI zh mv_Y_110 dX9_eldest_15 ck_Y rfl (s_X9_lotMany g r6 ha1 hG) ⟨Nat.le_of_ble_eq_true rfl, Nat.le_of_ble_eq_true rfl⟩ rfl rfl (Nat.le_of_ble_eq_true rfl) ?_
        rintro x7 _ _ ⟨rfl, rfl, hx7, _⟩
        have J45 : ∀ (x8 : Int32), Ra (-1) 99 x8 → Z 45 [some (rf g 551), some (.int a1), some (.int x8), some (.int x2)] [] iv lv := by
          intro x8 hx8
          refine y_iinc (L' := fun z => [some (rf g 551), some (.int a1), some (.int x8), some (.int z)]) zh dX9_eldest_45 (by decide) rfl (by decide +kernel) r6 (u := 1) (v := 12) rfl rfl (by decide) (by decide) (fun _ => rfl) (fun x9 hc9 hx9 => ?_)
          refine z_goto (tgt := 4) zh dX9_eldest_48 rfl ?_
          exact ih4 x8 x9 hx8 (ra_w hx9 (by decide) (by decide)) (ms_up hc9 (by decide) hn4)
        refine z_if_le (tgt := 45) zh dX9_eldest_18 rfl (fun q10 => ?_) (fun q10 => ?_)
        · have r11 : Ra 0 0 x7 := rb_le_l ra_z hx7 q10 (by decide)
          exact J45 x1 hx1
        · have r12 : Ra 1 100 x7 := rb_lt_r ra_z hx7 (rb_nle q10) (by decide)
          refine z_iloadn zh dX9_eldest_21 rfl ?_
          refine z_iconst zh dX9_eldest_22 ki_m1 ?_
          have J37 : Z 37 [some (rf g 551), some (.int a1), some (.int x1), some (.int x2)] [] iv lv := by
            refine z_aloadnR zh dX9_eldest_37 rfl ?_
            refine z_iloadn zh dX9_eldest_38 rfl ?_
            refine z_iloadn zh dX9_eldest_39 rfl ?_
            refine z_iconst zh dX9_eldest_40 ki_0 ?_
            refine z_callVI zh mv_Y_125 dX9_eldest_41 ck_Y rfl (s_X9_dayOf g r6 ha1 (ra_w rl_0 (by decide) (by decide)) hG) ⟨Nat.le_of_ble_eq_true rfl, Nat.le_of_ble_eq_true rfl⟩ rfl rfl (Nat.le_of_ble_eq_true rfl) ?_
            rintro x13 _ _ ⟨rfl, rfl, hx13, _⟩
            refine z_istoren zh dX9_eldest_44 (by decide) (L' := [some (rf g 551), some (.int a1), some (.int x13), some (.int x2)]) rfl ?_
            exact J45 x13 (ra_w hx13 (by decide) (by decide))
          refine z_icmp_eq (tgt := 37) zh dX9_eldest_23 rfl (fun q14 => ?_) (fun q14 => ?_)
          · have r15 := rb_eq (u := (-1)) (v := (-1)) hx1 rl_n1 q14 (by decide) (by decide)
            exact J37
          · have r16 : Ra 0 99 x1 := rb_ne_lo hx1 rl_n1 q14 (by decide)
            refine z_aloadnR zh dX9_eldest_26 rfl ?_
            refine z_iloadn zh dX9_eldest_27 rfl ?_
            refine z_iloadn zh dX9_eldest_28 rfl ?_
            refine z_iconst zh dX9_eldest_29 ki_0 ?_
            refine z_callVI zh mv_Y_125 dX9_eldest_30 ck_Y rfl (s_X9_dayOf g r6 ha1 (ra_w rl_0 (by decide) (by decide)) hG) ⟨Nat.le_of_ble_eq_true rfl, Nat.le_of_ble_eq_true rfl⟩ rfl rfl (Nat.le_of_ble_eq_true rfl) ?_
            rintro x17 _ _ ⟨rfl, rfl, hx17, _⟩
            refine z_iloadn zh dX9_eldest_33 rfl ?_
            refine z_icmp_ge (tgt := 45) zh dX9_eldest_34 rfl (fun q18 => ?_) (fun q18 => ?_)
            · exact J45 x1 (ra_w r16 (by decide) (by decide))
            · have r19 : Ra 0 98 x17 := rb_lt_l r16 hx17 (rb_nle q18) (by decide)
              have r20 : Ra 1 99 x1 := rb_lt_r hx17 r16 (rb_nle q18) (by decide)
              exact J37
  exact J4 13 (-1) (nI 0) (ra_w rl_n1 (by decide) (by decide)) (ra_w rl_0 (by decide) (by decide)) (ms_u0 rl_0 (by decide))
set_option maxRecDepth 20000 in
theorem s_X9_end (g : GE) {sp : Nat → Nat → Bool} {σ : Iv} {iv : Iv} {lv : Lv} {a1 : Int32}  (hG : SI sp σ iv) (hq : Sq sp) (hL : sp 551 17 = false) : ConI g yX9_end cX9_end 2 (some .boolean) 2 [rf g 551, .int a1] iv lv (fun r iv lv => SI sp σ iv ∧ Ra 0 1 r ∧ (¬ r = 0 → Ra 0 400 a1)) := by
  refine con_intro (own := "RollingNetsModel") (by decide +kernel) rfl (Nat.le_of_ble_eq_true rfl) (L0 := [some (rf g 551), some (.int a1)]) rfl (fun Z zh => ?_)
  refine z_aloadnR zh dX9_end_0 rfl ?_
  refine z_iconst zh dX9_end_1 ki_0 ?_
  refine z_putI zh fl_Y_58 dX9_end_2 ck_Y rfl rfl (Nat.le_of_ble_eq_true rfl) (Or.inl rfl) ?_
  have hG : SI sp σ (upI iv 551 0 (nI 0)) := si_w (k := 551) (j := 0) hG (by decide) (by decide) (sp_no hG ((spc_Y (q := 0)).trans rfl)) (fun lo hi q => (rx_none rfl) lo hi ((rg_Y (q := 0)).symm.trans q))
  have em1 : upI iv 551 0 (nI 0) 551 0 = nI 0 := by rw [upI_at, if_pos ⟨rfl, rfl⟩]
  generalize upI iv 551 0 (nI 0) = iv at hG em1 ⊢
  refine z_aloadnR zh dX9_end_5 rfl ?_
  refine z_iloadn zh dX9_end_6 rfl ?_
  refine z_iconst zh dX9_end_7 ki_0 ?_
  refine z_aloadnR zh dX9_end_8 rfl ?_
  refine y_getI zh fl_Y_344 dX9_end_9 ck_Y rfl rfl (fun x2 ex2 => ?_)
  have hx2 : Ra 0 400 x2 := ra_of ex2 (si_Y hG 0 (j := 17) rfl)
  refine z_callVI zh mv_Y_79 dX9_end_12 ck_Y rfl (s_X9_isIn g) ⟨Nat.le_of_ble_eq_true rfl, Nat.le_of_ble_eq_true rfl⟩ rfl rfl (Nat.le_of_ble_eq_true rfl) ?_
  rintro x3 _ _ ⟨rfl, rfl, hx3, hz4⟩
  refine z_if_ne (tgt := 20) zh dX9_end_15 rfl (fun q5 => ?_) (fun q5 => ?_)
  · have r6 : Ra 1 1 x3 := rb_ne_lo hx3 ra_z q5 (by decide)
    have r7 : Ra 0 400 a1 := (rb_in rl_0 hx2 (hz4 q5))
    refine z_aloadnR zh dX9_end_20 rfl ?_
    refine z_iloadn zh dX9_end_21 rfl ?_
    refine z_putI zh fl_Y_344 dX9_end_22 ck_Y rfl rfl (Nat.le_of_ble_eq_true rfl) (Or.inl rfl) ?_
    have hG : SI sp σ (upI iv 551 17 a1) := si_w (k := 551) (j := 17) hG (by decide) (by decide) hL (fun lo hi q => (rx_some r7) lo hi ((rg_Y (q := 0)).symm.trans q))
    have em8 := (upI_ne (iv := iv) (k := 551) (j := 17) (x := a1) (a := 551) (b := 0) (Or.inr (by decide))).trans em1
    have em9 : upI iv 551 17 a1 551 17 = a1 := by rw [upI_at, if_pos ⟨rfl, rfl⟩]
    generalize upI iv 551 17 a1 = iv at hG em8 em9 ⊢
    refine z_iconst zh dX9_end_25 ki_1 ?_
    exact z_zret zh dX9_end_26 (ra_01 (ra_w rl_1 (by decide) (by decide))) ⟨_, rfl, hG, (ra_w rl_1 (by decide) (by decide)), (fun _ => r7)⟩
  · have r10 := rb_eq (u := 0) (v := 0) hx3 ra_z q5 (by decide) (by decide)
    refine z_iconst zh dX9_end_18 ki_0 ?_
    exact z_zret zh dX9_end_19 (ra_01 (ra_w rl_0 (by decide) (by decide))) ⟨_, rfl, hG, (ra_w rl_0 (by decide) (by decide)), (fun q => absurd rfl q)⟩
set_option maxRecDepth 20000 in
theorem s_X9_errs (g : GE) {sp : Nat → Nat → Bool} {σ : Iv} {iv : Iv} {lv : Lv} {a1 : Int32} (ha1 : Ra 1 3 a1) (hG : SI sp σ iv)  : ConI g yX9_errs cX9_errs 2 (some .int) 1 [rf g 551, .int a1] iv lv (fun r iv lv => SI sp σ iv ∧ Ra (-1) (-1) r) := by
  refine con_intro (own := "RollingNetsModel") (by decide +kernel) rfl (Nat.le_of_ble_eq_true rfl) (L0 := [some (rf g 551), some (.int a1)]) rfl (fun Z zh => ?_)
  refine z_aloadnR zh dX9_errs_0 rfl ?_
  refine z_iloadn zh dX9_errs_1 rfl ?_
  refine z_putI zh fl_Y_374 dX9_errs_2 ck_Y rfl rfl (Nat.le_of_ble_eq_true rfl) (Or.inl rfl) ?_
  have hG : SI sp σ (upI iv 551 23 a1) := si_w (k := 551) (j := 23) hG (by decide) (by decide) (sp_no hG ((spc_Y (q := 0)).trans rfl)) (fun lo hi q => (rx_none rfl) lo hi ((rg_Y (q := 0)).symm.trans q))
  have em1 : upI iv 551 23 a1 551 23 = a1 := by rw [upI_at, if_pos ⟨rfl, rfl⟩]
  generalize upI iv 551 23 a1 = iv at hG em1 ⊢
  refine z_aloadnR zh dX9_errs_5 rfl ?_
  refine z_aloadnR zh dX9_errs_6 rfl ?_
  refine y_getI zh fl_Y_356 dX9_errs_7 ck_Y rfl rfl (fun x2 ex2 => ?_)
  have hx2 : Ra 0 401 x2 := ra_of ex2 (si_Y hG 0 (j := 19) rfl)
  refine z_putI zh fl_Y_377 dX9_errs_10 ck_Y rfl rfl (Nat.le_of_ble_eq_true rfl) (Or.inl rfl) ?_
  have hG : SI sp σ (upI iv 551 24 x2) := si_w (k := 551) (j := 24) hG (by decide) (by decide) (sp_no hG ((spc_Y (q := 0)).trans rfl)) (fun lo hi q => (rx_none rfl) lo hi ((rg_Y (q := 0)).symm.trans q))
  have em3 := (upI_ne (iv := iv) (k := 551) (j := 24) (x := x2) (a := 551) (b := 23) (Or.inr (by decide))).trans em1
  have em4 := (upI_ne (iv := iv) (k := 551) (j := 24) (x := x2) (a := 551) (b := 19) (Or.inr (by decide))).trans ex2
  have em5 : upI iv 551 24 x2 551 24 = x2 := by rw [upI_at, if_pos ⟨rfl, rfl⟩]
  generalize upI iv 551 24 x2 = iv at hG em3 em4 em5 ⊢
  refine z_iconst zh dX9_errs_13 ki_m1 ?_
  exact z_iret zh dX9_errs_14 ⟨_, rfl, hG, rl_n1⟩
set_option maxRecDepth 20000 in
theorem s_X9_fails (g : GE) {sp : Nat → Nat → Bool} {σ : Iv} {iv : Iv} {lv : Lv} {a1 : Int32} {a2 : Int32} (ha1 : Ra 0 11 a1) (ha2 : Ra 0 5 a2) (hG : SI sp σ iv)  : ConV g yX9_fails cX9_fails 5 none 6 [rf g 551, .int a1, .int a2] iv lv (fun iv lv => SI sp σ iv) := by
  refine con_intro (own := "RollingNetsModel") (by decide +kernel) rfl (Nat.le_of_ble_eq_true rfl) (L0 := [some (rf g 551), some (.int a1), some (.int a2), none, none]) rfl (fun Z zh => ?_)
  refine z_aloadnR zh dX9_fails_0 rfl ?_
  refine z_iloadn zh dX9_fails_1 rfl ?_
  refine z_iloadn zh dX9_fails_2 rfl ?_
  refine z_callVI zh mv_Y_116 dX9_fails_3 ck_Y rfl (s_X9_isShort g ha1 ha2 hG) ⟨Nat.le_of_ble_eq_true rfl, Nat.le_of_ble_eq_true rfl⟩ rfl rfl (Nat.le_of_ble_eq_true rfl) ?_
  rintro x1 _ _ ⟨rfl, rfl, hx1⟩
  refine z_if_ne (tgt := 10) zh dX9_fails_6 rfl (fun q2 => ?_) (fun q2 => ?_)
  · have r3 : Ra 1 1 x1 := rb_ne_lo hx1 ra_z q2 (by decide)
    refine z_aloadnR zh dX9_fails_10 rfl ?_
    refine z_iloadn zh dX9_fails_11 rfl ?_
    refine z_iloadn zh dX9_fails_12 rfl ?_
    refine z_callVI zh mv_Y_182 dX9_fails_13 ck_Y rfl (s_X9_shortOf g ha1 ha2 hG) ⟨Nat.le_of_ble_eq_true rfl, Nat.le_of_ble_eq_true rfl⟩ rfl rfl (Nat.le_of_ble_eq_true rfl) ?_
    rintro x4 _ _ ⟨rfl, rfl, _⟩
    refine y_i2l zh dX9_fails_16 (fun l5 => ?_)
    refine z_aloadnR zh dX9_fails_17 rfl ?_
    refine z_iloadn zh dX9_fails_18 rfl ?_
    refine z_callVI zh mv_Y_203 dX9_fails_19 ck_Y rfl (s_X9_markedOf g ha2 hG) ⟨Nat.le_of_ble_eq_true rfl, Nat.le_of_ble_eq_true rfl⟩ rfl rfl (Nat.le_of_ble_eq_true rfl) ?_
    rintro x6 _ _ ⟨rfl, rfl, _⟩
    refine y_i2l zh dX9_fails_22 (fun l7 => ?_)
    refine y_lmul zh dX9_fails_23 (fun l8 => ?_)
    refine z_aloadnR zh dX9_fails_24 rfl ?_
    refine z_getf zh fl_Y_7 dX9_fails_25 ck_Y rfl rfl ?_
    refine z_bipush zh dX9_fails_28 kb_12 ?_
    refine y_ialdN zh ck_now dX9_fails_30 (by decide) (fun x9 ex9 => ?_)
    refine y_i2l zh dX9_fails_31 (fun l10 => ?_)
    refine y_lmul zh dX9_fails_32 (fun l11 => ?_)
    refine z_ldc2 zh dX9_fails_33 kl_Y_277 ?_
    refine y_ldiv zh dX9_fails_36 (by decide) (fun l12 => ?_)
    refine z_lstoren zh dX9_fails_37 (by decide) (L' := [some (rf g 551), some (.int a1), some (.int a2), some (.long l12), none]) rfl ?_
    refine z_aloadnR zh dX9_fails_38 rfl ?_
    refine z_getf zh fl_Y_7 dX9_fails_39 ck_Y rfl rfl ?_
    refine z_sipush zh dX9_fails_42 ks_19710 ?_
    refine z_aloadnR zh dX9_fails_45 rfl ?_
    refine z_iloadn zh dX9_fails_46 rfl ?_
    refine z_iloadn zh dX9_fails_47 rfl ?_
    refine z_callVI zh mv_Y_65 dX9_fails_48 ck_Y rfl (s_X9_cellOf g ha1 ha2 hG) ⟨Nat.le_of_ble_eq_true rfl, Nat.le_of_ble_eq_true rfl⟩ rfl rfl (Nat.le_of_ble_eq_true rfl) ?_
    rintro x13 _ _ ⟨rfl, rfl, hx13, hc13⟩
    refine y_iadd zh dX9_fails_51 rl_19710 hx13 (u := 19710) (v := 19781) rfl rfl (by decide) (by decide) (fun x14 hc14 hx14 => ?_)
    refine z_aloadnR zh dX9_fails_52 rfl ?_
    refine z_getf zh fl_Y_7 dX9_fails_53 ck_Y rfl rfl ?_
    refine z_sipush zh dX9_fails_56 ks_19710 ?_
    refine z_aloadnR zh dX9_fails_59 rfl ?_
    refine z_iloadn zh dX9_fails_60 rfl ?_
    refine z_iloadn zh dX9_fails_61 rfl ?_
    refine z_callVI zh mv_Y_65 dX9_fails_62 ck_Y rfl (s_X9_cellOf g ha1 ha2 hG) ⟨Nat.le_of_ble_eq_true rfl, Nat.le_of_ble_eq_true rfl⟩ rfl rfl (Nat.le_of_ble_eq_true rfl) ?_
    rintro x15 _ _ ⟨rfl, rfl, hx15, hc15⟩
    refine y_iadd zh dX9_fails_65 rl_19710 hx15 (u := 19710) (v := 19781) rfl rfl (by decide) (by decide) (fun x16 hc16 hx16 => ?_)
    refine y_iald zh ck_now dX9_fails_66 hx16 (by decide) (by decide) (fun x17 ex17 => ?_)
    refine z_iconst zh dX9_fails_67 ki_1 ?_
    refine y_iaddT zh dX9_fails_68 (fun x18 => ?_)
    refine z_iast zh ck_now dX9_fails_69 (ra_in hx14 (by decide) (by decide)) ?_
    have hG : SI sp σ (upI iv 552 x14.toNatClampNeg x18) := (nw_free hG (by have := rl_19710.1; have := rl_19710.2; have := ha1.1; have := ha1.2; have := ha2.1; have := ha2.2; omega))
    have em19 := (upI_ne (iv := iv) (k := 552) (j := x14.toNatClampNeg) (x := x18) (a := 552) (b := 12) (Or.inr (ne_cl hx14 (by decide) (Or.inl (by decide))))).trans ex9
    generalize upI iv 552 x14.toNatClampNeg x18 = iv at hG em19 ⊢
    refine z_aloadnR zh dX9_fails_70 rfl ?_
    refine z_iloadn zh dX9_fails_71 rfl ?_
    refine z_lloadn zh dX9_fails_72 rfl ?_
    refine y_lneg zh dX9_fails_73 (fun l20 => ?_)
    refine z_callVV zh mv_Y_206 dX9_fails_74 ck_Y rfl (s_X9_cashMore g ha1 hG) ⟨Nat.le_of_ble_eq_true rfl, Nat.le_of_ble_eq_true rfl⟩ rfl rfl (Nat.le_of_ble_eq_true rfl) ?_
    rintro iv lv ⟨hG, _⟩
    refine z_aloadnR zh dX9_fails_77 rfl ?_
    refine z_getf zh fl_Y_16 dX9_fails_78 ck_Y rfl rfl ?_
    refine z_bipush zh dX9_fails_81 kb_12 ?_
    refine z_aloadnR zh dX9_fails_83 rfl ?_
    refine z_getf zh fl_Y_16 dX9_fails_84 ck_Y rfl rfl ?_
    refine z_bipush zh dX9_fails_87 kb_12 ?_
    refine y_lald zh ck_coins dX9_fails_89 rl_12 (by decide) (by decide) (fun l21 => ?_)
    refine z_lloadn zh dX9_fails_90 rfl ?_
    refine y_ladd zh dX9_fails_91 (fun l22 => ?_)
    refine z_last zh ck_coins dX9_fails_92 (ra_in rl_12 (by decide) (by decide)) ?_
    generalize upL lv 554 (nI 12).toNatClampNeg l22 = lv
    exact z_vret zh dX9_fails_93 ⟨rfl, hG⟩
  · have r23 := rb_eq (u := 0) (v := 0) hx1 ra_z q2 (by decide) (by decide)
    exact z_vret zh dX9_fails_9 ⟨rfl, hG⟩
set_option maxRecDepth 20000 in
theorem s_X9_fault (g : GE) {sp : Nat → Nat → Bool} {σ : Iv} {iv : Iv} {lv : Lv} {a1 : Int32}  (hG : SI sp σ iv)  : ConI g yX9_fault cX9_fault 2 (some .int) 1 [rf g 551, .int a1] iv lv (fun r iv lv => SI sp σ iv ∧ True) := by
  refine con_intro (own := "RollingNetsModel") (by decide +kernel) rfl (Nat.le_of_ble_eq_true rfl) (L0 := [some (rf g 551), some (.int a1)]) rfl (fun Z zh => ?_)
  refine z_aloadnR zh dX9_fault_0 rfl ?_
  refine z_iconst zh dX9_fault_1 ki_0 ?_
  refine z_putI zh fl_Y_58 dX9_fault_2 ck_Y rfl rfl (Nat.le_of_ble_eq_true rfl) (Or.inl rfl) ?_
  have hG : SI sp σ (upI iv 551 0 (nI 0)) := si_w (k := 551) (j := 0) hG (by decide) (by decide) (sp_no hG ((spc_Y (q := 0)).trans rfl)) (fun lo hi q => (rx_none rfl) lo hi ((rg_Y (q := 0)).symm.trans q))
  have em1 : upI iv 551 0 (nI 0) 551 0 = nI 0 := by rw [upI_at, if_pos ⟨rfl, rfl⟩]
  generalize upI iv 551 0 (nI 0) = iv at hG em1 ⊢
  refine z_iloadn zh dX9_fault_5 rfl ?_
  refine z_if_ne (tgt := 16) zh dX9_fault_6 rfl (fun q2 => ?_) (fun q2 => ?_)
  · refine z_iloadn zh dX9_fault_16 rfl ?_
    refine z_iconst zh dX9_fault_17 ki_1 ?_
    refine z_icmp_ne (tgt := 28) zh dX9_fault_18 rfl (fun q3 => ?_) (fun q3 => ?_)
    · refine z_iconst zh dX9_fault_28 ki_m1 ?_
      exact z_iret zh dX9_fault_29 ⟨_, rfl, hG, trivial⟩
    · have r4 := rb_eq (u := 1) (v := 1) (ra_tt a1) rl_1 q3 (by decide) (by decide)
      refine z_aloadnR zh dX9_fault_21 rfl ?_
      refine y_getI zh fl_Y_45 dX9_fault_22 ck_Y rfl rfl (fun x5 ex5 => ?_)
      refine z_goto (tgt := 29) zh dX9_fault_25 rfl ?_
      exact z_iret zh dX9_fault_29 ⟨_, rfl, hG, trivial⟩
  · have r6 := rb_eq (u := 0) (v := 0) (ra_tt a1) ra_z q2 (by decide) (by decide)
    refine z_aloadnR zh dX9_fault_9 rfl ?_
    refine y_getI zh fl_Y_401 dX9_fault_10 ck_Y rfl rfl (fun x7 ex7 => ?_)
    refine z_goto (tgt := 29) zh dX9_fault_13 rfl ?_
    exact z_iret zh dX9_fault_29 ⟨_, rfl, hG, trivial⟩
set_option maxRecDepth 20000 in
theorem s_X9_types (g : GE) {sp : Nat → Nat → Bool} {σ : Iv} {iv : Iv} {lv : Lv} {a1 : Int32}  (hG : SI sp σ iv) (hq : Sq sp) (hL : sp 551 17 = false) {y1 : Int32} (ey1 : iv 551 17 = y1) (hy1 : Ra 0 396 y1) : ConV g yX9_types cX9_types 3 none 1 [rf g 551, .int a1] iv lv (fun iv lv => SI sp σ iv ∧ ∃ z : Int32, iv 551 17 = z ∧ z.toInt = y1.toInt + 4) := by
  refine con_intro (own := "RollingNetsModel") (by decide +kernel) rfl (Nat.le_of_ble_eq_true rfl) (L0 := [some (rf g 551), some (.int a1), none]) rfl (fun Z zh => ?_)
  refine z_bipush zh dX9_types_0 kb_24 ?_
  refine z_istoren zh dX9_types_2 (by decide) (L' := [some (rf g 551), some (.int a1), some (.int (nI 24))]) rfl ?_
  refine z_iloadn zh dX9_types_3 rfl ?_
  refine z_if_lt (tgt := 39) zh dX9_types_4 rfl (fun q1 => ?_) (fun q1 => ?_)
  · exact (ra_no (rb_lt_l ra_z rl_24 q1 (u := (-1)) (by decide)) (by decide)).elim
  · refine z_aloadnR zh dX9_types_7 rfl ?_
    refine z_getf zh fl_Y_39 dX9_types_8 ck_Y rfl rfl ?_
    refine z_aloadnR zh dX9_types_11 rfl ?_
    refine z_getI (x := y1) zh fl_Y_344 dX9_types_12 ck_Y rfl rfl ey1 ?_
    refine z_iloadn zh dX9_types_15 rfl ?_
    refine z_iloadn zh dX9_types_16 rfl ?_
    refine y_ishrT zh dX9_types_17 (fun x2 => ?_)
    refine z_sipush zh dX9_types_18 ks_255 ?_
    refine y_iandT zh dX9_types_21 (fun x3 => ?_)
    refine z_iast zh ck_ytape dX9_types_22 (ra_in hy1 (by decide) (by decide)) ?_
    have hG : SI sp σ (upI iv 561 y1.toNatClampNeg x3) := si_w (k := 561) hG (by decide) (by decide) (sq_n hq (by decide) (by decide) (by decide)) (rx_none rfl)
    have em4 := (upI_ne (iv := iv) (k := 561) (j := y1.toNatClampNeg) (x := x3) (a := 551) (b := 17) (Or.inl (by decide))).trans ey1
    generalize upI iv 561 y1.toNatClampNeg x3 = iv at hG em4 ⊢
    refine z_aloadnR zh dX9_types_23 rfl ?_
    refine z_aloadnR zh dX9_types_24 rfl ?_
    refine z_getI (x := y1) zh fl_Y_344 dX9_types_25 ck_Y rfl rfl em4 ?_
    refine z_iconst zh dX9_types_28 ki_1 ?_
    refine y_iadd zh dX9_types_29 hy1 rl_1 (u := 1) (v := 397) rfl rfl (by decide) (by decide) (fun x5 hc5 hx5 => ?_)
    refine z_putI zh fl_Y_344 dX9_types_30 ck_Y rfl rfl (Nat.le_of_ble_eq_true rfl) (Or.inl rfl) ?_
    have hG : SI sp σ (upI iv 551 17 x5) := si_w (k := 551) (j := 17) hG (by decide) (by decide) hL (fun lo hi q => (rx_some (ra_w hx5 (by decide) (by decide))) lo hi ((rg_Y (q := 0)).symm.trans q))
    have em6 : upI iv 551 17 x5 551 17 = x5 := by rw [upI_at, if_pos ⟨rfl, rfl⟩]
    generalize upI iv 551 17 x5 = iv at hG em6 ⊢
    refine z_iinc zh dX9_types_33 (by decide) rfl (v := nI 16) (by decide +kernel) (L' := [some (rf g 551), some (.int a1), some (.int (nI 16))]) rfl ?_
    refine z_goto (tgt := 3) zh dX9_types_36 rfl ?_
    refine z_iloadn zh dX9_types_3 rfl ?_
    refine z_if_lt (tgt := 39) zh dX9_types_4 rfl (fun q7 => ?_) (fun q7 => ?_)
    · exact (ra_no (rb_lt_l ra_z rl_16 q7 (u := (-1)) (by decide)) (by decide)).elim
    · refine z_aloadnR zh dX9_types_7 rfl ?_
      refine z_getf zh fl_Y_39 dX9_types_8 ck_Y rfl rfl ?_
      refine z_aloadnR zh dX9_types_11 rfl ?_
      refine z_getI (x := x5) zh fl_Y_344 dX9_types_12 ck_Y rfl rfl em6 ?_
      refine z_iloadn zh dX9_types_15 rfl ?_
      refine z_iloadn zh dX9_types_16 rfl ?_
      refine y_ishrT zh dX9_types_17 (fun x8 => ?_)
      refine z_sipush zh dX9_types_18 ks_255 ?_
      refine y_iandT zh dX9_types_21 (fun x9 => ?_)
      refine z_iast zh ck_ytape dX9_types_22 (ra_in hx5 (by decide) (by decide)) ?_
      have hG : SI sp σ (upI iv 561 x5.toNatClampNeg x9) := si_w (k := 561) hG (by decide) (by decide) (sq_n hq (by decide) (by decide) (by decide)) (rx_none rfl)
      have em10 := (upI_ne (iv := iv) (k := 561) (j := x5.toNatClampNeg) (x := x9) (a := 551) (b := 17) (Or.inl (by decide))).trans em6
      generalize upI iv 561 x5.toNatClampNeg x9 = iv at hG em10 ⊢
      refine z_aloadnR zh dX9_types_23 rfl ?_
      refine z_aloadnR zh dX9_types_24 rfl ?_
      refine z_getI (x := x5) zh fl_Y_344 dX9_types_25 ck_Y rfl rfl em10 ?_
      refine z_iconst zh dX9_types_28 ki_1 ?_
      refine y_iadd zh dX9_types_29 hx5 rl_1 (u := 2) (v := 398) rfl rfl (by decide) (by decide) (fun x11 hc11 hx11 => ?_)
      refine z_putI zh fl_Y_344 dX9_types_30 ck_Y rfl rfl (Nat.le_of_ble_eq_true rfl) (Or.inl rfl) ?_
      have hG : SI sp σ (upI iv 551 17 x11) := si_w (k := 551) (j := 17) hG (by decide) (by decide) hL (fun lo hi q => (rx_some (ra_w hx11 (by decide) (by decide))) lo hi ((rg_Y (q := 0)).symm.trans q))
      have em12 : upI iv 551 17 x11 551 17 = x11 := by rw [upI_at, if_pos ⟨rfl, rfl⟩]
      generalize upI iv 551 17 x11 = iv at hG em12 ⊢
      refine z_iinc zh dX9_types_33 (by decide) rfl (v := nI 8) (by decide +kernel) (L' := [some (rf g 551), some (.int a1), some (.int (nI 8))]) rfl ?_
      refine z_goto (tgt := 3) zh dX9_types_36 rfl ?_
      refine z_iloadn zh dX9_types_3 rfl ?_
      refine z_if_lt (tgt := 39) zh dX9_types_4 rfl (fun q13 => ?_) (fun q13 => ?_)
      · exact (ra_no (rb_lt_l ra_z rl_8 q13 (u := (-1)) (by decide)) (by decide)).elim
      · refine z_aloadnR zh dX9_types_7 rfl ?_
        refine z_getf zh fl_Y_39 dX9_types_8 ck_Y rfl rfl ?_
        refine z_aloadnR zh dX9_types_11 rfl ?_
        refine z_getI (x := x11) zh fl_Y_344 dX9_types_12 ck_Y rfl rfl em12 ?_
        refine z_iloadn zh dX9_types_15 rfl ?_
        refine z_iloadn zh dX9_types_16 rfl ?_
        refine y_ishrT zh dX9_types_17 (fun x14 => ?_)
        refine z_sipush zh dX9_types_18 ks_255 ?_
        refine y_iandT zh dX9_types_21 (fun x15 => ?_)
        refine z_iast zh ck_ytape dX9_types_22 (ra_in hx11 (by decide) (by decide)) ?_
        have hG : SI sp σ (upI iv 561 x11.toNatClampNeg x15) := si_w (k := 561) hG (by decide) (by decide) (sq_n hq (by decide) (by decide) (by decide)) (rx_none rfl)
        have em16 := (upI_ne (iv := iv) (k := 561) (j := x11.toNatClampNeg) (x := x15) (a := 551) (b := 17) (Or.inl (by decide))).trans em12
        generalize upI iv 561 x11.toNatClampNeg x15 = iv at hG em16 ⊢
        refine z_aloadnR zh dX9_types_23 rfl ?_
        refine z_aloadnR zh dX9_types_24 rfl ?_
        refine z_getI (x := x11) zh fl_Y_344 dX9_types_25 ck_Y rfl rfl em16 ?_
        refine z_iconst zh dX9_types_28 ki_1 ?_
        refine y_iadd zh dX9_types_29 hx11 rl_1 (u := 3) (v := 399) rfl rfl (by decide) (by decide) (fun x17 hc17 hx17 => ?_)
        refine z_putI zh fl_Y_344 dX9_types_30 ck_Y rfl rfl (Nat.le_of_ble_eq_true rfl) (Or.inl rfl) ?_
        have hG : SI sp σ (upI iv 551 17 x17) := si_w (k := 551) (j := 17) hG (by decide) (by decide) hL (fun lo hi q => (rx_some (ra_w hx17 (by decide) (by decide))) lo hi ((rg_Y (q := 0)).symm.trans q))
        have em18 : upI iv 551 17 x17 551 17 = x17 := by rw [upI_at, if_pos ⟨rfl, rfl⟩]
        generalize upI iv 551 17 x17 = iv at hG em18 ⊢
        refine z_iinc zh dX9_types_33 (by decide) rfl (v := nI 0) (by decide +kernel) (L' := [some (rf g 551), some (.int a1), some (.int (nI 0))]) rfl ?_
        refine z_goto (tgt := 3) zh dX9_types_36 rfl ?_
        refine z_iloadn zh dX9_types_3 rfl ?_
        refine z_if_lt (tgt := 39) zh dX9_types_4 rfl (fun q19 => ?_) (fun q19 => ?_)
        · exact (ra_no (rb_lt_l ra_z rl_0 q19 (u := (-1)) (by decide)) (by decide)).elim
        · refine z_aloadnR zh dX9_types_7 rfl ?_
          refine z_getf zh fl_Y_39 dX9_types_8 ck_Y rfl rfl ?_
          refine z_aloadnR zh dX9_types_11 rfl ?_
          refine z_getI (x := x17) zh fl_Y_344 dX9_types_12 ck_Y rfl rfl em18 ?_
          refine z_iloadn zh dX9_types_15 rfl ?_
          refine z_iloadn zh dX9_types_16 rfl ?_
          refine y_ishrT zh dX9_types_17 (fun x20 => ?_)
          refine z_sipush zh dX9_types_18 ks_255 ?_
          refine y_iandT zh dX9_types_21 (fun x21 => ?_)
          refine z_iast zh ck_ytape dX9_types_22 (ra_in hx17 (by decide) (by decide)) ?_
          have hG : SI sp σ (upI iv 561 x17.toNatClampNeg x21) := si_w (k := 561) hG (by decide) (by decide) (sq_n hq (by decide) (by decide) (by decide)) (rx_none rfl)
          have em22 := (upI_ne (iv := iv) (k := 561) (j := x17.toNatClampNeg) (x := x21) (a := 551) (b := 17) (Or.inl (by decide))).trans em18
          generalize upI iv 561 x17.toNatClampNeg x21 = iv at hG em22 ⊢
          refine z_aloadnR zh dX9_types_23 rfl ?_
          refine z_aloadnR zh dX9_types_24 rfl ?_
          refine z_getI (x := x17) zh fl_Y_344 dX9_types_25 ck_Y rfl rfl em22 ?_
          refine z_iconst zh dX9_types_28 ki_1 ?_
          refine y_iadd zh dX9_types_29 hx17 rl_1 (u := 4) (v := 400) rfl rfl (by decide) (by decide) (fun x23 hc23 hx23 => ?_)
          refine z_putI zh fl_Y_344 dX9_types_30 ck_Y rfl rfl (Nat.le_of_ble_eq_true rfl) (Or.inl rfl) ?_
          have hG : SI sp σ (upI iv 551 17 x23) := si_w (k := 551) (j := 17) hG (by decide) (by decide) hL (fun lo hi q => (rx_some (ra_w hx23 (by decide) (by decide))) lo hi ((rg_Y (q := 0)).symm.trans q))
          have em24 : upI iv 551 17 x23 551 17 = x23 := by rw [upI_at, if_pos ⟨rfl, rfl⟩]
          generalize upI iv 551 17 x23 = iv at hG em24 ⊢
          refine z_iinc zh dX9_types_33 (by decide) rfl (v := (-8)) (by decide +kernel) (L' := [some (rf g 551), some (.int a1), some (.int (-8))]) rfl ?_
          refine z_goto (tgt := 3) zh dX9_types_36 rfl ?_
          refine z_iloadn zh dX9_types_3 rfl ?_
          refine z_if_lt (tgt := 39) zh dX9_types_4 rfl (fun q25 => ?_) (fun q25 => ?_)
          · exact z_vret zh dX9_types_39 ⟨rfl, hG, ⟨x23, em24, (by have := hy1.1; have := hy1.2; have := rl_1.1; have := rl_1.2; omega)⟩⟩
          · exact (ra_no (rb_le_l rl_n8 ra_z (rb_nlt q25) (u := (-8)) (by decide)) (by decide)).elim
set_option maxRecDepth 20000 in
theorem s_X9_feed (g : GE) {sp : Nat → Nat → Bool} {σ : Iv} {iv : Iv} {lv : Lv} {a1 : Int32} {a2 : Int32} {a3 : Int32} {a4 : Int32} {a5 : Int32}  (hG : SI sp σ iv) (hq : Sq sp) (hL : sp 551 17 = false) : ConI g yX9_feed cX9_feed 6 (some .int) 2 [rf g 551, .int a1, .int a2, .int a3, .int a4, .int a5] iv lv (fun r iv lv => SI sp σ iv ∧ Ra (-1) 400 r) := by
  refine con_intro (own := "RollingNetsModel") (by decide +kernel) rfl (Nat.le_of_ble_eq_true rfl) (L0 := [some (rf g 551), some (.int a1), some (.int a2), some (.int a3), some (.int a4), some (.int a5)]) rfl (fun Z zh => ?_)
  refine z_aloadnR zh dX9_feed_0 rfl ?_
  refine z_iconst zh dX9_feed_1 ki_0 ?_
  refine z_putI zh fl_Y_58 dX9_feed_2 ck_Y rfl rfl (Nat.le_of_ble_eq_true rfl) (Or.inl rfl) ?_
  have hG : SI sp σ (upI iv 551 0 (nI 0)) := si_w (k := 551) (j := 0) hG (by decide) (by decide) (sp_no hG ((spc_Y (q := 0)).trans rfl)) (fun lo hi q => (rx_none rfl) lo hi ((rg_Y (q := 0)).symm.trans q))
  have em1 : upI iv 551 0 (nI 0) 551 0 = nI 0 := by rw [upI_at, if_pos ⟨rfl, rfl⟩]
  generalize upI iv 551 0 (nI 0) = iv at hG em1 ⊢
  refine z_aloadnR zh dX9_feed_5 rfl ?_
  refine y_getI zh fl_Y_344 dX9_feed_6 ck_Y rfl rfl (fun x2 ex2 => ?_)
  have hx2 : Ra 0 400 x2 := ra_of ex2 (si_Y hG 0 (j := 17) rfl)
  refine z_sipush zh dX9_feed_9 ks_380 ?_
  refine z_icmp_le (tgt := 17) zh dX9_feed_12 rfl (fun q3 => ?_) (fun q3 => ?_)
  · have r4 : Ra 0 380 x2 := rb_le_l rl_380 hx2 q3 (by decide)
    refine z_aloadnR zh dX9_feed_17 rfl ?_
    refine z_iloadn zh dX9_feed_18 rfl ?_
    refine z_callVV zh mv_Y_347 dX9_feed_19 ck_Y rfl (s_X9_types g hG hq hL ex2 (ra_w r4 (by decide) (by decide))) ⟨Nat.le_of_ble_eq_true rfl, Nat.le_of_ble_eq_true rfl⟩ rfl rfl (Nat.le_of_ble_eq_true rfl) ?_
    rintro iv lv ⟨hG, x5, ex5, cx5⟩
    have hx5 : Ra 4 384 x5 := ra_p4 cx5 r4
    refine z_aloadnR zh dX9_feed_22 rfl ?_
    refine z_iloadn zh dX9_feed_23 rfl ?_
    refine z_callVV zh mv_Y_347 dX9_feed_24 ck_Y rfl (s_X9_types g hG hq hL ex5 (ra_w hx5 (by decide) (by decide))) ⟨Nat.le_of_ble_eq_true rfl, Nat.le_of_ble_eq_true rfl⟩ rfl rfl (Nat.le_of_ble_eq_true rfl) ?_
    rintro iv lv ⟨hG, x6, ex6, cx6⟩
    have hx6 : Ra 8 388 x6 := ra_p4 cx6 hx5
    refine z_aloadnR zh dX9_feed_27 rfl ?_
    refine z_iloadn zh dX9_feed_28 rfl ?_
    refine z_callVV zh mv_Y_347 dX9_feed_29 ck_Y rfl (s_X9_types g hG hq hL ex6 (ra_w hx6 (by decide) (by decide))) ⟨Nat.le_of_ble_eq_true rfl, Nat.le_of_ble_eq_true rfl⟩ rfl rfl (Nat.le_of_ble_eq_true rfl) ?_
    rintro iv lv ⟨hG, x7, ex7, cx7⟩
    have hx7 : Ra 12 392 x7 := ra_p4 cx7 hx6
    refine z_aloadnR zh dX9_feed_32 rfl ?_
    refine z_iload zh dX9_feed_33 rfl ?_
    refine z_callVV zh mv_Y_347 dX9_feed_35 ck_Y rfl (s_X9_types g hG hq hL ex7 (ra_w hx7 (by decide) (by decide))) ⟨Nat.le_of_ble_eq_true rfl, Nat.le_of_ble_eq_true rfl⟩ rfl rfl (Nat.le_of_ble_eq_true rfl) ?_
    rintro iv lv ⟨hG, x8, ex8, cx8⟩
    have hx8 : Ra 16 396 x8 := ra_p4 cx8 hx7
    refine z_aloadnR zh dX9_feed_38 rfl ?_
    refine z_iload zh dX9_feed_39 rfl ?_
    refine z_callVV zh mv_Y_347 dX9_feed_41 ck_Y rfl (s_X9_types g hG hq hL ex8 (ra_w hx8 (by decide) (by decide))) ⟨Nat.le_of_ble_eq_true rfl, Nat.le_of_ble_eq_true rfl⟩ rfl rfl (Nat.le_of_ble_eq_true rfl) ?_
    rintro iv lv ⟨hG, x9, ex9, cx9⟩
    have hx9 : Ra 20 400 x9 := ra_p4 cx9 hx8
    refine z_aloadnR zh dX9_feed_44 rfl ?_
    refine z_getI (x := x9) zh fl_Y_344 dX9_feed_45 ck_Y rfl rfl ex9 ?_
    exact z_iret zh dX9_feed_48 ⟨_, rfl, hG, (ra_w hx9 (by decide) (by decide))⟩
  · have r10 : Ra 381 400 x2 := rb_lt_r rl_380 hx2 (rb_nle q3) (by decide)
    refine z_iconst zh dX9_feed_15 ki_m1 ?_
    exact z_iret zh dX9_feed_16 ⟨_, rfl, hG, (ra_w rl_n1 (by decide) (by decide))⟩
set_option maxRecDepth 20000 in
theorem s_X9_nextShort (g : GE) {sp : Nat → Nat → Bool} {σ : Iv} {iv : Iv} {lv : Lv} {a1 : Int32} {a2 : Int32} {a3 : Int32} (ha1 : Ra 0 5 a1) (hG : SI sp σ iv)  : ConI g yX9_nextShort cX9_nextShort 9 (some .int) 5 [rf g 551, .int a1, .int a2, .int a3] iv lv (fun r iv lv => SI sp σ iv ∧ Ra (-1) 11 r) := by
  refine con_intro (own := "RollingNetsModel") (by decide +kernel) rfl (Nat.le_of_ble_eq_true rfl) (L0 := [some (rf g 551), some (.int a1), some (.int a2), some (.int a3), none, none, none, none, none]) rfl (fun Z zh => ?_)
  refine z_iconst zh dX9_nextShort_0 ki_m1 ?_
  refine z_istore zh dX9_nextShort_1 (by decide) (L' := [some (rf g 551), some (.int a1), some (.int a2), some (.int a3), some (.int (-1)), none, none, none, none]) rfl ?_
  refine z_aloadnR zh dX9_nextShort_3 rfl ?_
  refine z_iconst zh dX9_nextShort_4 ki_0 ?_
  refine z_putI zh fl_Y_163 dX9_nextShort_5 ck_Y rfl rfl (Nat.le_of_ble_eq_true rfl) (Or.inl rfl) ?_
  have hG : SI sp σ (upI iv 551 5 (nI 0)) := si_w (k := 551) (j := 5) hG (by decide) (by decide) (sp_no hG ((spc_Y (q := 0)).trans rfl)) (fun lo hi q => (rx_some (ra_w rl_0 (by decide) (by decide))) lo hi ((rg_Y (q := 0)).symm.trans q))
  have em1 : upI iv 551 5 (nI 0) 551 5 = nI 0 := by rw [upI_at, if_pos ⟨rfl, rfl⟩]
  generalize upI iv 551 5 (nI 0) = iv at hG em1 ⊢
  refine z_iconst zh dX9_nextShort_8 ki_0 ?_
  refine z_istore zh dX9_nextShort_9 (by decide) (L' := [some (rf g 551), some (.int a1), some (.int a2), some (.int a3), some (.int (-1)), some (.int (nI 0)), none, none, none]) rfl ?_
  have J11 : ∀ (n : Nat) (iv : Iv) (lv : Lv) (x2 : Int32) (x3 : Int32), SI sp σ iv → Ra (-1) 11 x2 → Ra 0 12 x3 → 12 - x3.toInt < (n : Int) → Z 11 [some (rf g 551), some (.int a1), some (.int a2), some (.int a3), some (.int x2), some (.int x3), none, none, none] [] iv lv := by
    intro n
    induction n with
    | zero => intro iv lv x2 x3 hG hx2 hx3 hn11; exact (ms_uz hx3 hn11).elim
    | succ n ih11 =>
      intro iv lv x2 x3 hG hx2 hx3 hn11
      refine z_iload zh dX9_nextShort_11 rfl ?_
      refine z_aloadnR zh dX9_nextShort_13 rfl ?_
      refine z_callVI zh mv_Y_61 dX9_nextShort_14 ck_Y rfl (s_X9_memberMany g  hG) ⟨Nat.le_of_ble_eq_true rfl, Nat.le_of_ble_eq_true rfl⟩ rfl rfl (Nat.le_of_ble_eq_true rfl) ?_
      rintro x4 _ _ ⟨rfl, rfl, hx4⟩
      refine z_icmp_ge (tgt := 132) zh dX9_nextShort_17 rfl (fun q5 => ?_) (fun q5 => ?_)
      · have r6 : Ra 2 12 x3 := rb_le_r hx4 hx3 q5 (by decide)
        refine z_iload zh dX9_nextShort_132 rfl ?_
        exact z_iret zh dX9_nextShort_134 ⟨_, rfl, hG, hx2⟩
      · have r7 : Ra 0 11 x3 := rb_lt_l hx4 hx3 (rb_nle q5) (by decide)
        refine z_iconst zh dX9_nextShort_20 ki_0 ?_
        refine z_istore zh dX9_nextShort_21 (by decide) (L' := [some (rf g 551), some (.int a1), some (.int a2), some (.int a3), some (.int x2), some (.int x3), some (.int (nI 0)), none, none]) rfl ?_
        have J23 : ∀ (n : Nat) (iv : Iv) (lv : Lv) (x8 : Int32) (x9 : Int32), SI sp σ iv → Ra (-1) 11 x8 → Ra 0 100 x9 → 100 - x9.toInt < (n : Int) → Z 23 [some (rf g 551), some (.int a1), some (.int a2), some (.int a3), some (.int x8), some (.int x3), some (.int x9), none, none] [] iv lv := by
          intro n
          induction n with
          | zero => intro iv lv x8 x9 hG hx8 hx9 hn23; exact (ms_uz hx9 hn23).elim
          | succ n ih23 =>
            intro iv lv x8 x9 hG hx8 hx9 hn23
            refine z_iload zh dX9_nextShort_23 rfl ?_
            refine z_aloadnR zh dX9_nextShort_25 rfl ?_
            refine z_iload zh dX9_nextShort_26 rfl ?_
            refine z_iloadn zh dX9_nextShort_28 rfl ?_
            refine z_callVI zh mv_Y_110 dX9_nextShort_29 ck_Y rfl (s_X9_lotMany g r7 ha1 hG) ⟨Nat.le_of_ble_eq_true rfl, Nat.le_of_ble_eq_true rfl⟩ rfl rfl (Nat.le_of_ble_eq_true rfl) ?_
            rintro x10 _ _ ⟨rfl, rfl, hx10, _⟩
            have J126 : ∀ (iv : Iv) (lv : Lv), SI sp σ iv → Z 126 [some (rf g 551), some (.int a1), some (.int a2), some (.int a3), some (.int x8), some (.int x3), some (.int x9), none, none] [] iv lv := by
              intro iv lv hG
              refine y_iinc (L' := fun z => [some (rf g 551), some (.int a1), some (.int a2), some (.int a3), some (.int x8), some (.int z), some (.int x9), none, none]) zh dX9_nextShort_126 (by decide) rfl (by decide +kernel) r7 (u := 1) (v := 12) rfl rfl (by decide) (by decide) (fun _ => rfl) (fun x11 hc11 hx11 => ?_)
              refine z_goto (tgt := 11) zh dX9_nextShort_129 rfl ?_
              refine z_forget zh [true, true, true, true, true, true, false, false, false] (L2 := [some (rf g 551), some (.int a1), some (.int a2), some (.int a3), some (.int x8), some (.int x11), none, none, none]) rfl ?_
              exact ih11 iv lv x8 x11 hG hx8 (ra_w hx11 (by decide) (by decide)) (ms_up hc11 (by decide) hn11)
            refine z_icmp_ge (tgt := 126) zh dX9_nextShort_32 rfl (fun q12 => ?_) (fun q12 => ?_)
            · exact J126 iv lv hG
            · have r13 : Ra 0 99 x9 := rb_lt_l hx10 hx9 (rb_nle q12) (by decide)
              have r14 : Ra 1 100 x10 := rb_lt_r hx9 hx10 (rb_nle q12) (by decide)
              refine z_aloadnR zh dX9_nextShort_35 rfl ?_
              refine z_iload zh dX9_nextShort_36 rfl ?_
              refine z_iloadn zh dX9_nextShort_38 rfl ?_
              refine z_callVI zh mv_Y_116 dX9_nextShort_39 ck_Y rfl (s_X9_isShort g r7 ha1 hG) ⟨Nat.le_of_ble_eq_true rfl, Nat.le_of_ble_eq_true rfl⟩ rfl rfl (Nat.le_of_ble_eq_true rfl) ?_
              rintro x15 _ _ ⟨rfl, rfl, hx15⟩
              refine z_if_eq (tgt := 126) zh dX9_nextShort_42 rfl (fun q16 => ?_) (fun q16 => ?_)
              · have r17 := rb_eq (u := 0) (v := 0) hx15 ra_z q16 (by decide) (by decide)
                exact J126 iv lv hG
              · have r18 : Ra 1 1 x15 := rb_ne_lo hx15 ra_z q16 (by decide)
                refine z_aloadnR zh dX9_nextShort_45 rfl ?_
                refine z_iload zh dX9_nextShort_46 rfl ?_
                refine z_iloadn zh dX9_nextShort_48 rfl ?_
                refine z_iload zh dX9_nextShort_49 rfl ?_
                refine z_callVI zh mv_Y_125 dX9_nextShort_51 ck_Y rfl (s_X9_dayOf g r7 ha1 (ra_w r13 (by decide) (by decide)) hG) ⟨Nat.le_of_ble_eq_true rfl, Nat.le_of_ble_eq_true rfl⟩ rfl rfl (Nat.le_of_ble_eq_true rfl) ?_
                rintro x19 _ _ ⟨rfl, rfl, hx19, _⟩
                refine z_istore zh dX9_nextShort_54 (by decide) (L' := [some (rf g 551), some (.int a1), some (.int a2), some (.int a3), some (.int x8), some (.int x3), some (.int x9), some (.int x19), none]) rfl ?_
                refine z_iload zh dX9_nextShort_56 rfl ?_
                refine z_iloadn zh dX9_nextShort_58 rfl ?_
                have J79 : ∀ (iv : Iv) (lv : Lv) (x20 : Int32), SI sp σ iv → Ra 0 1 x20 → Z 79 [some (rf g 551), some (.int a1), some (.int a2), some (.int a3), some (.int x8), some (.int x3), some (.int x9), some (.int x19), none] [.int x20] iv lv := by
                  intro iv lv x20 hG hx20
                  refine z_istore zh dX9_nextShort_79 (by decide) (L' := [some (rf g 551), some (.int a1), some (.int a2), some (.int a3), some (.int x8), some (.int x3), some (.int x9), some (.int x19), some (.int x20)]) rfl ?_
                  refine z_iload zh dX9_nextShort_81 rfl ?_
                  have J120 : ∀ (iv : Iv) (lv : Lv) (x21 : Int32), SI sp σ iv → Ra (-1) 11 x21 → Z 120 [some (rf g 551), some (.int a1), some (.int a2), some (.int a3), some (.int x21), some (.int x3), some (.int x9), some (.int x19), some (.int x20)] [] iv lv := by
                    intro iv lv x21 hG hx21
                    refine y_iinc (L' := fun z => [some (rf g 551), some (.int a1), some (.int a2), some (.int a3), some (.int x21), some (.int x3), some (.int z), some (.int x19), some (.int x20)]) zh dX9_nextShort_120 (by decide) rfl (by decide +kernel) r13 (u := 1) (v := 100) rfl rfl (by decide) (by decide) (fun _ => rfl) (fun x22 hc22 hx22 => ?_)
                    refine z_goto (tgt := 23) zh dX9_nextShort_123 rfl ?_
                    refine z_forget zh [true, true, true, true, true, true, true, false, false] (L2 := [some (rf g 551), some (.int a1), some (.int a2), some (.int a3), some (.int x21), some (.int x3), some (.int x22), none, none]) rfl ?_
                    exact ih23 iv lv x21 x22 hG hx21 (ra_w hx22 (by decide) (by decide)) (ms_up hc22 (by decide) hn23)
                  refine z_if_eq (tgt := 120) zh dX9_nextShort_83 rfl (fun q23 => ?_) (fun q23 => ?_)
                  · have r24 := rb_eq (u := 0) (v := 0) hx20 ra_z q23 (by decide) (by decide)
                    exact J120 iv lv x8 hG hx8
                  · have r25 : Ra 1 1 x20 := rb_ne_lo hx20 ra_z q23 (by decide)
                    refine z_iload zh dX9_nextShort_86 rfl ?_
                    refine z_iconst zh dX9_nextShort_88 ki_m1 ?_
                    have J104 : ∀ (iv : Iv) (lv : Lv), SI sp σ iv → Z 104 [some (rf g 551), some (.int a1), some (.int a2), some (.int a3), some (.int x8), some (.int x3), some (.int x9), some (.int x19), some (.int x20)] [] iv lv := by
                      intro iv lv hG
                      refine z_iload zh dX9_nextShort_104 rfl ?_
                      refine z_istore zh dX9_nextShort_106 (by decide) (L' := [some (rf g 551), some (.int a1), some (.int a2), some (.int a3), some (.int x3), some (.int x3), some (.int x9), some (.int x19), some (.int x20)]) rfl ?_
                      refine z_aloadnR zh dX9_nextShort_108 rfl ?_
                      refine z_iload zh dX9_nextShort_109 rfl ?_
                      refine z_putI zh fl_Y_163 dX9_nextShort_111 ck_Y rfl rfl (Nat.le_of_ble_eq_true rfl) (Or.inl rfl) ?_
                      have hG : SI sp σ (upI iv 551 5 x19) := si_w (k := 551) (j := 5) hG (by decide) (by decide) (sp_no hG ((spc_Y (q := 0)).trans rfl)) (fun lo hi q => (rx_some hx19) lo hi ((rg_Y (q := 0)).symm.trans q))
                      have em26 : upI iv 551 5 x19 551 5 = x19 := by rw [upI_at, if_pos ⟨rfl, rfl⟩]
                      generalize upI iv 551 5 x19 = iv at hG em26 ⊢
                      refine z_aloadnR zh dX9_nextShort_114 rfl ?_
                      refine z_iload zh dX9_nextShort_115 rfl ?_
                      refine z_putI zh fl_Y_166 dX9_nextShort_117 ck_Y rfl rfl (Nat.le_of_ble_eq_true rfl) (Or.inl rfl) ?_
                      have hG : SI sp σ (upI iv 551 6 x9) := si_w (k := 551) (j := 6) hG (by decide) (by decide) (sp_no hG ((spc_Y (q := 0)).trans rfl)) (fun lo hi q => (rx_some (ra_w r13 (by decide) (by decide))) lo hi ((rg_Y (q := 0)).symm.trans q))
                      have em27 := (upI_ne (iv := iv) (k := 551) (j := 6) (x := x9) (a := 551) (b := 5) (Or.inr (by decide))).trans em26
                      have em28 : upI iv 551 6 x9 551 6 = x9 := by rw [upI_at, if_pos ⟨rfl, rfl⟩]
                      generalize upI iv 551 6 x9 = iv at hG em27 em28 ⊢
                      exact J120 iv lv x3 hG (ra_w r7 (by decide) (by decide))
                    refine z_icmp_eq (tgt := 104) zh dX9_nextShort_89 rfl (fun q29 => ?_) (fun q29 => ?_)
                    · have r30 := rb_eq (u := (-1)) (v := (-1)) hx8 rl_n1 q29 (by decide) (by decide)
                      exact J104 iv lv hG
                    · have r31 : Ra 0 11 x8 := rb_ne_lo hx8 rl_n1 q29 (by decide)
                      refine z_iload zh dX9_nextShort_92 rfl ?_
                      refine z_aloadnR zh dX9_nextShort_94 rfl ?_
                      refine y_getI zh fl_Y_163 dX9_nextShort_95 ck_Y rfl rfl (fun x32 ex32 => ?_)
                      have hx32 : Ra 0 99 x32 := ra_of ex32 (si_Y hG 0 (j := 5) rfl)
                      refine z_icmp_lt (tgt := 104) zh dX9_nextShort_98 rfl (fun q33 => ?_) (fun q33 => ?_)
                      · have r34 : Ra 0 98 x19 := rb_lt_l hx32 hx19 q33 (by decide)
                        have r35 : Ra 1 99 x32 := rb_lt_r hx19 hx32 q33 (by decide)
                        exact J104 iv lv hG
                      · refine z_goto (tgt := 120) zh dX9_nextShort_101 rfl ?_
                        exact J120 iv lv x8 hG (ra_w r31 (by decide) (by decide))
                have J74 : ∀ (iv : Iv) (lv : Lv), SI sp σ iv → Ra (-2147483648) 99 a2 → Z 74 [some (rf g 551), some (.int a1), some (.int a2), some (.int a3), some (.int x8), some (.int x3), some (.int x9), some (.int x19), none] [] iv lv := by
                  intro iv lv hG hp36
                  refine z_iconst zh dX9_nextShort_74 ki_1 ?_
                  refine z_goto (tgt := 79) zh dX9_nextShort_75 rfl ?_
                  exact J79 iv lv (nI 1) hG (ra_w rl_1 (by decide) (by decide))
                refine z_icmp_gt (tgt := 74) zh dX9_nextShort_59 rfl (fun q37 => ?_) (fun q37 => ?_)
                · have r38 : Ra (-2147483648) 98 a2 := rb_lt_l hx19 (ra_tt a2) q37 (by decide)
                  exact J74 iv lv hG (ra_w r38 (by decide) (by decide))
                · have r39 : Ra 0 2147483647 a2 := rb_le_r hx19 (ra_tt a2) (rb_nlt q37) (by decide)
                  refine z_iload zh dX9_nextShort_62 rfl ?_
                  refine z_iloadn zh dX9_nextShort_64 rfl ?_
                  have J78 : ∀ (iv : Iv) (lv : Lv), SI sp σ iv → Z 78 [some (rf g 551), some (.int a1), some (.int a2), some (.int a3), some (.int x8), some (.int x3), some (.int x9), some (.int x19), none] [] iv lv := by
                    intro iv lv hG
                    refine z_iconst zh dX9_nextShort_78 ki_0 ?_
                    exact J79 iv lv (nI 0) hG (ra_w rl_0 (by decide) (by decide))
                  refine z_icmp_ne (tgt := 78) zh dX9_nextShort_65 rfl (fun q40 => ?_) (fun q40 => ?_)
                  · exact J78 iv lv hG
                  · have r41 := rb_eq (u := 0) (v := 99) hx19 r39 q40 (by decide) (by decide)
                    refine z_iload zh dX9_nextShort_68 rfl ?_
                    refine z_iloadn zh dX9_nextShort_70 rfl ?_
                    refine z_icmp_le (tgt := 78) zh dX9_nextShort_71 rfl (fun q42 => ?_) (fun q42 => ?_)
                    · have r43 : Ra 0 2147483647 a3 := rb_le_r r7 (ra_tt a3) q42 (by decide)
                      exact J78 iv lv hG
                    · have r44 : Ra (-2147483648) 10 a3 := rb_lt_l r7 (ra_tt a3) (rb_nle q42) (by decide)
                      exact J74 iv lv hG (ra_w r41.2 (by decide) (by decide))
        exact J23 101 iv lv x2 (nI 0) hG hx2 (ra_w rl_0 (by decide) (by decide)) (ms_u0 rl_0 (by decide))
  exact J11 13 iv lv (-1) (nI 0) hG (ra_w rl_n1 (by decide) (by decide)) (ra_w rl_0 (by decide) (by decide)) (ms_u0 rl_0 (by decide))
set_option maxRecDepth 20000 in
theorem s_X9_oldLong (g : GE) {sp : Nat → Nat → Bool} {σ : Iv} {iv : Iv} {lv : Lv} {a1 : Int32} {a2 : Int32} (ha1 : Ra 0 11 a1) (ha2 : Ra 0 5 a2) (hG : SI sp σ iv)  : ConI g yX9_oldLong cX9_oldLong 5 (some .int) 5 [rf g 551, .int a1, .int a2] iv lv (fun r iv' lv' => iv = iv' ∧ lv = lv' ∧ True) := by
  refine con_intro (own := "RollingNetsModel") (by decide +kernel) rfl (Nat.le_of_ble_eq_true rfl) (L0 := [some (rf g 551), some (.int a1), some (.int a2), none, none]) rfl (fun Z zh => ?_)
  refine z_iconst zh dX9_oldLong_0 ki_0 ?_
  refine z_istoren zh dX9_oldLong_1 (by decide) (L' := [some (rf g 551), some (.int a1), some (.int a2), some (.int (nI 0)), none]) rfl ?_
  refine z_iconst zh dX9_oldLong_2 ki_0 ?_
  refine z_istore zh dX9_oldLong_3 (by decide) (L' := [some (rf g 551), some (.int a1), some (.int a2), some (.int (nI 0)), some (.int (nI 0))]) rfl ?_
  have J5 : ∀ (n : Nat) (x1 : Int32) (x2 : Int32), Ra 0 100 x2 → 100 - x2.toInt < (n : Int) → Z 5 [some (rf g 551), some (.int a1), some (.int a2), some (.int x1), some (.int x2)] [] iv lv := by
    intro n
    induction n with
    | zero => intro x1 x2 hx2 hn5; exact (ms_uz hx2 hn5).elim
    | succ n ih5 =>
      intro x1 x2 hx2 hn5
      refine z_iload zh dX9_oldLong_5 rfl ?_
      refine z_aloadnR zh dX9_oldLong_7 rfl ?_
      refine z_iloadn zh dX9_oldLong_8 rfl ?_
      refine z_iloadn zh dX9_oldLong_9 rfl ?_
      refine z_callVI zh mv_Y_110 dX9_oldLong_10 ck_Y rfl (s_X9_lotMany g ha1 ha2 hG) ⟨Nat.le_of_ble_eq_true rfl, Nat.le_of_ble_eq_true rfl⟩ rfl rfl (Nat.le_of_ble_eq_true rfl) ?_
      rintro x3 _ _ ⟨rfl, rfl, hx3, _⟩
      refine z_icmp_ge (tgt := 66) zh dX9_oldLong_13 rfl (fun q4 => ?_) (fun q4 => ?_)
      · refine z_iloadn zh dX9_oldLong_66 rfl ?_
        exact z_iret zh dX9_oldLong_67 ⟨_, rfl, rfl, rfl, trivial⟩
      · have r5 : Ra 0 99 x2 := rb_lt_l hx3 hx2 (rb_nle q4) (by decide)
        have r6 : Ra 1 100 x3 := rb_lt_r hx2 hx3 (rb_nle q4) (by decide)
        refine z_aloadnR zh dX9_oldLong_16 rfl ?_
        refine z_iloadn zh dX9_oldLong_17 rfl ?_
        refine z_iloadn zh dX9_oldLong_18 rfl ?_
        refine z_callVI zh mv_Y_122 dX9_oldLong_19 ck_Y rfl (s_X9_isLong g ha1 ha2 hG) ⟨Nat.le_of_ble_eq_true rfl, Nat.le_of_ble_eq_true rfl⟩ rfl rfl (Nat.le_of_ble_eq_true rfl) ?_
        rintro x7 _ _ ⟨rfl, rfl, hx7⟩
        refine z_if_eq (tgt := 66) zh dX9_oldLong_22 rfl (fun q8 => ?_) (fun q8 => ?_)
        · have r9 := rb_eq (u := 0) (v := 0) hx7 ra_z q8 (by decide) (by decide)
          refine z_iloadn zh dX9_oldLong_66 rfl ?_
          exact z_iret zh dX9_oldLong_67 ⟨_, rfl, rfl, rfl, trivial⟩
        · have r10 : Ra 1 1 x7 := rb_ne_lo hx7 ra_z q8 (by decide)
          refine z_aloadnR zh dX9_oldLong_25 rfl ?_
          refine z_iloadn zh dX9_oldLong_26 rfl ?_
          refine z_iloadn zh dX9_oldLong_27 rfl ?_
          refine z_iload zh dX9_oldLong_28 rfl ?_
          refine z_callVI zh mv_Y_125 dX9_oldLong_30 ck_Y rfl (s_X9_dayOf g ha1 ha2 (ra_w r5 (by decide) (by decide)) hG) ⟨Nat.le_of_ble_eq_true rfl, Nat.le_of_ble_eq_true rfl⟩ rfl rfl (Nat.le_of_ble_eq_true rfl) ?_
          rintro x11 _ _ ⟨rfl, rfl, hx11, _⟩
          refine z_aloadnR zh dX9_oldLong_33 rfl ?_
          refine z_getf zh fl_Y_7 dX9_oldLong_34 ck_Y rfl rfl ?_
          refine z_bipush zh dX9_oldLong_37 kb_6 ?_
          refine y_ialdN zh ck_now dX9_oldLong_39 (by decide) (fun x12 ex12 => ?_)
          have hx12 : Ra 0 99 x12 := ra_of ex12 (nr_l hG 6 rfl)
          refine z_aloadnR zh dX9_oldLong_40 rfl ?_
          refine z_iconst zh dX9_oldLong_41 ki_3 ?_
          refine z_callVI zh mv_Y_144 dX9_oldLong_42 ck_Y rfl (s_X9_settingOf g (ra_w rl_3 (by decide) (by decide)) hG) ⟨Nat.le_of_ble_eq_true rfl, Nat.le_of_ble_eq_true rfl⟩ rfl rfl (Nat.le_of_ble_eq_true rfl) ?_
          rintro x13 _ _ ⟨rfl, rfl, _⟩
          refine y_isubT zh dX9_oldLong_45 (fun x14 => ?_)
          have J60 : ∀ (x15 : Int32), Z 60 [some (rf g 551), some (.int a1), some (.int a2), some (.int x15), some (.int x2)] [] iv lv := by
            intro x15
            refine y_iinc (L' := fun z => [some (rf g 551), some (.int a1), some (.int a2), some (.int x15), some (.int z)]) zh dX9_oldLong_60 (by decide) rfl (by decide +kernel) r5 (u := 1) (v := 100) rfl rfl (by decide) (by decide) (fun _ => rfl) (fun x16 hc16 hx16 => ?_)
            refine z_goto (tgt := 5) zh dX9_oldLong_63 rfl ?_
            exact ih5 x15 x16 (ra_w hx16 (by decide) (by decide)) (ms_up hc16 (by decide) hn5)
          refine z_icmp_gt (tgt := 60) zh dX9_oldLong_46 rfl (fun q17 => ?_) (fun q17 => ?_)
          · have r18 : Ra (-2147483648) 98 x14 := rb_lt_l hx11 (ra_tt x14) q17 (by decide)
            exact J60 x1
          · have r19 : Ra 0 2147483647 x14 := rb_le_r hx11 (ra_tt x14) (rb_nlt q17) (by decide)
            refine z_iloadn zh dX9_oldLong_49 rfl ?_
            refine z_aloadnR zh dX9_oldLong_50 rfl ?_
            refine z_iloadn zh dX9_oldLong_51 rfl ?_
            refine z_iloadn zh dX9_oldLong_52 rfl ?_
            refine z_iload zh dX9_oldLong_53 rfl ?_
            refine z_callVI zh mv_Y_113 dX9_oldLong_55 ck_Y rfl (s_X9_sharesOf g ha1 ha2 (ra_w r5 (by decide) (by decide)) hG) ⟨Nat.le_of_ble_eq_true rfl, Nat.le_of_ble_eq_true rfl⟩ rfl rfl (Nat.le_of_ble_eq_true rfl) ?_
            rintro x20 _ _ ⟨rfl, rfl, _⟩
            refine y_iaddT zh dX9_oldLong_58 (fun x21 => ?_)
            refine z_istoren zh dX9_oldLong_59 (by decide) (L' := [some (rf g 551), some (.int a1), some (.int a2), some (.int x21), some (.int x2)]) rfl ?_
            exact J60 x21
  exact J5 101 (nI 0) (nI 0) (ra_w rl_0 (by decide) (by decide)) (ms_u0 rl_0 (by decide))
set_option maxRecDepth 20000 in
theorem s_X9_lenderFor (g : GE) {sp : Nat → Nat → Bool} {σ : Iv} {iv : Iv} {lv : Lv} {a1 : Int32} {a2 : Int32} (ha1 : Ra 0 11 a1) (ha2 : Ra 0 5 a2) (hG : SI sp σ iv)  : ConI g yX9_lenderFor cX9_lenderFor 5 (some .int) 6 [rf g 551, .int a1, .int a2] iv lv (fun r iv' lv' => iv = iv' ∧ lv = lv' ∧ Ra (-1) 11 r) := by
  refine con_intro (own := "RollingNetsModel") (by decide +kernel) rfl (Nat.le_of_ble_eq_true rfl) (L0 := [some (rf g 551), some (.int a1), some (.int a2), none, none]) rfl (fun Z zh => ?_)
  refine z_iconst zh dX9_lenderFor_0 ki_m1 ?_
  refine z_istoren zh dX9_lenderFor_1 (by decide) (L' := [some (rf g 551), some (.int a1), some (.int a2), some (.int (-1)), none]) rfl ?_
  refine z_iconst zh dX9_lenderFor_2 ki_0 ?_
  refine z_istore zh dX9_lenderFor_3 (by decide) (L' := [some (rf g 551), some (.int a1), some (.int a2), some (.int (-1)), some (.int (nI 0))]) rfl ?_
  have J5 : ∀ (n : Nat) (x1 : Int32) (x2 : Int32), Ra (-1) 11 x1 → Ra 0 12 x2 → 12 - x2.toInt < (n : Int) → Z 5 [some (rf g 551), some (.int a1), some (.int a2), some (.int x1), some (.int x2)] [] iv lv := by
    intro n
    induction n with
    | zero => intro x1 x2 hx1 hx2 hn5; exact (ms_uz hx2 hn5).elim
    | succ n ih5 =>
      intro x1 x2 hx1 hx2 hn5
      refine z_iload zh dX9_lenderFor_5 rfl ?_
      refine z_aloadnR zh dX9_lenderFor_7 rfl ?_
      refine z_callVI zh mv_Y_61 dX9_lenderFor_8 ck_Y rfl (s_X9_memberMany g  hG) ⟨Nat.le_of_ble_eq_true rfl, Nat.le_of_ble_eq_true rfl⟩ rfl rfl (Nat.le_of_ble_eq_true rfl) ?_
      rintro x3 _ _ ⟨rfl, rfl, hx3⟩
      refine z_icmp_ge (tgt := 60) zh dX9_lenderFor_11 rfl (fun q4 => ?_) (fun q4 => ?_)
      · have r5 : Ra 2 12 x2 := rb_le_r hx3 hx2 q4 (by decide)
        refine z_iloadn zh dX9_lenderFor_60 rfl ?_
        exact z_iret zh dX9_lenderFor_61 ⟨_, rfl, rfl, rfl, hx1⟩
      · have r6 : Ra 0 11 x2 := rb_lt_l hx3 hx2 (rb_nle q4) (by decide)
        refine z_iload zh dX9_lenderFor_14 rfl ?_
        refine z_iloadn zh dX9_lenderFor_16 rfl ?_
        have J54 : ∀ (x7 : Int32), Ra (-1) 11 x7 → Z 54 [some (rf g 551), some (.int a1), some (.int a2), some (.int x7), some (.int x2)] [] iv lv := by
          intro x7 hx7
          refine y_iinc (L' := fun z => [some (rf g 551), some (.int a1), some (.int a2), some (.int x7), some (.int z)]) zh dX9_lenderFor_54 (by decide) rfl (by decide +kernel) r6 (u := 1) (v := 12) rfl rfl (by decide) (by decide) (fun _ => rfl) (fun x8 hc8 hx8 => ?_)
          refine z_goto (tgt := 5) zh dX9_lenderFor_57 rfl ?_
          exact ih5 x7 x8 hx7 (ra_w hx8 (by decide) (by decide)) (ms_up hc8 (by decide) hn5)
        refine z_icmp_eq (tgt := 54) zh dX9_lenderFor_17 rfl (fun q9 => ?_) (fun q9 => ?_)
        · exact J54 x1 hx1
        · refine z_aloadnR zh dX9_lenderFor_20 rfl ?_
          refine z_iload zh dX9_lenderFor_21 rfl ?_
          refine z_iloadn zh dX9_lenderFor_23 rfl ?_
          refine z_callVI zh mv_Y_262 dX9_lenderFor_24 ck_Y rfl (s_X9_canLend g r6 ha2 hG) ⟨Nat.le_of_ble_eq_true rfl, Nat.le_of_ble_eq_true rfl⟩ rfl rfl (Nat.le_of_ble_eq_true rfl) ?_
          rintro x11 _ _ ⟨rfl, rfl, _⟩
          refine z_if_le (tgt := 54) zh dX9_lenderFor_27 rfl (fun q12 => ?_) (fun q12 => ?_)
          · have r13 : Ra (-2147483648) 0 x11 := rb_le_l ra_z (ra_tt x11) q12 (by decide)
            exact J54 x1 hx1
          · have r14 : Ra 1 2147483647 x11 := rb_lt_r ra_z (ra_tt x11) (rb_nle q12) (by decide)
            refine z_iloadn zh dX9_lenderFor_30 rfl ?_
            refine z_iconst zh dX9_lenderFor_31 ki_m1 ?_
            have J51 : Z 51 [some (rf g 551), some (.int a1), some (.int a2), some (.int x1), some (.int x2)] [] iv lv := by
              refine z_iload zh dX9_lenderFor_51 rfl ?_
              refine z_istoren zh dX9_lenderFor_53 (by decide) (L' := [some (rf g 551), some (.int a1), some (.int a2), some (.int x2), some (.int x2)]) rfl ?_
              exact J54 x2 (ra_w r6 (by decide) (by decide))
            refine z_icmp_eq (tgt := 51) zh dX9_lenderFor_32 rfl (fun q15 => ?_) (fun q15 => ?_)
            · have r16 := rb_eq (u := (-1)) (v := (-1)) hx1 rl_n1 q15 (by decide) (by decide)
              exact J51
            · have r17 : Ra 0 11 x1 := rb_ne_lo hx1 rl_n1 q15 (by decide)
              refine z_aloadnR zh dX9_lenderFor_35 rfl ?_
              refine z_iload zh dX9_lenderFor_36 rfl ?_
              refine z_iloadn zh dX9_lenderFor_38 rfl ?_
              refine z_callVI zh mv_Y_262 dX9_lenderFor_39 ck_Y rfl (s_X9_canLend g r6 ha2 hG) ⟨Nat.le_of_ble_eq_true rfl, Nat.le_of_ble_eq_true rfl⟩ rfl rfl (Nat.le_of_ble_eq_true rfl) ?_
              rintro x18 _ _ ⟨rfl, rfl, _⟩
              refine z_aloadnR zh dX9_lenderFor_42 rfl ?_
              refine z_iloadn zh dX9_lenderFor_43 rfl ?_
              refine z_iloadn zh dX9_lenderFor_44 rfl ?_
              refine z_callVI zh mv_Y_262 dX9_lenderFor_45 ck_Y rfl (s_X9_canLend g r17 ha2 hG) ⟨Nat.le_of_ble_eq_true rfl, Nat.le_of_ble_eq_true rfl⟩ rfl rfl (Nat.le_of_ble_eq_true rfl) ?_
              rintro x19 _ _ ⟨rfl, rfl, _⟩
              refine z_icmp_le (tgt := 54) zh dX9_lenderFor_48 rfl (fun q20 => ?_) (fun q20 => ?_)
              · exact J54 x1 (ra_w r17 (by decide) (by decide))
              · have r21 : Ra (-2147483648) 2147483646 x19 := rb_lt_l (ra_tt x18) (ra_tt x19) (rb_nle q20) (by decide)
                have r22 : Ra (-2147483647) 2147483647 x18 := rb_lt_r (ra_tt x19) (ra_tt x18) (rb_nle q20) (by decide)
                exact J51
  exact J5 13 (-1) (nI 0) (ra_w rl_n1 (by decide) (by decide)) (ra_w rl_0 (by decide) (by decide)) (ms_u0 rl_0 (by decide))
set_option maxRecDepth 20000 in
theorem s_X9_lotOfDay (g : GE) {sp : Nat → Nat → Bool} {σ : Iv} {iv : Iv} {lv : Lv} {a1 : Int32} {a2 : Int32} {a3 : Int32} (ha1 : Ra 0 11 a1) (ha2 : Ra 0 5 a2) (hG : SI sp σ iv)  : ConI g yX9_lotOfDay cX9_lotOfDay 5 (some .int) 5 [rf g 551, .int a1, .int a2, .int a3] iv lv (fun r iv' lv' => iv = iv' ∧ lv = lv' ∧ Ra (-1) 99 r) := by
  refine con_intro (own := "RollingNetsModel") (by decide +kernel) rfl (Nat.le_of_ble_eq_true rfl) (L0 := [some (rf g 551), some (.int a1), some (.int a2), some (.int a3), none]) rfl (fun Z zh => ?_)
  refine z_iconst zh dX9_lotOfDay_0 ki_0 ?_
  refine z_istore zh dX9_lotOfDay_1 (by decide) (L' := [some (rf g 551), some (.int a1), some (.int a2), some (.int a3), some (.int (nI 0))]) rfl ?_
  have J3 : ∀ (n : Nat) (x1 : Int32), Ra 0 100 x1 → 100 - x1.toInt < (n : Int) → Z 3 [some (rf g 551), some (.int a1), some (.int a2), some (.int a3), some (.int x1)] [] iv lv := by
    intro n
    induction n with
    | zero => intro x1 hx1 hn3; exact (ms_uz hx1 hn3).elim
    | succ n ih3 =>
      intro x1 hx1 hn3
      refine z_iload zh dX9_lotOfDay_3 rfl ?_
      refine z_aloadnR zh dX9_lotOfDay_5 rfl ?_
      refine z_iloadn zh dX9_lotOfDay_6 rfl ?_
      refine z_iloadn zh dX9_lotOfDay_7 rfl ?_
      refine z_callVI zh mv_Y_110 dX9_lotOfDay_8 ck_Y rfl (s_X9_lotMany g ha1 ha2 hG) ⟨Nat.le_of_ble_eq_true rfl, Nat.le_of_ble_eq_true rfl⟩ rfl rfl (Nat.le_of_ble_eq_true rfl) ?_
      rintro x2 _ _ ⟨rfl, rfl, hx2, _⟩
      refine z_icmp_ge (tgt := 44) zh dX9_lotOfDay_11 rfl (fun q3 => ?_) (fun q3 => ?_)
      · refine z_iconst zh dX9_lotOfDay_44 ki_m1 ?_
        exact z_iret zh dX9_lotOfDay_45 ⟨_, rfl, rfl, rfl, (ra_w rl_n1 (by decide) (by decide))⟩
      · have r4 : Ra 0 99 x1 := rb_lt_l hx2 hx1 (rb_nle q3) (by decide)
        have r5 : Ra 1 100 x2 := rb_lt_r hx1 hx2 (rb_nle q3) (by decide)
        refine z_aloadnR zh dX9_lotOfDay_14 rfl ?_
        refine z_iloadn zh dX9_lotOfDay_15 rfl ?_
        refine z_iloadn zh dX9_lotOfDay_16 rfl ?_
        refine z_callVI zh mv_Y_122 dX9_lotOfDay_17 ck_Y rfl (s_X9_isLong g ha1 ha2 hG) ⟨Nat.le_of_ble_eq_true rfl, Nat.le_of_ble_eq_true rfl⟩ rfl rfl (Nat.le_of_ble_eq_true rfl) ?_
        rintro x6 _ _ ⟨rfl, rfl, hx6⟩
        refine z_if_eq (tgt := 44) zh dX9_lotOfDay_20 rfl (fun q7 => ?_) (fun q7 => ?_)
        · have r8 := rb_eq (u := 0) (v := 0) hx6 ra_z q7 (by decide) (by decide)
          refine z_iconst zh dX9_lotOfDay_44 ki_m1 ?_
          exact z_iret zh dX9_lotOfDay_45 ⟨_, rfl, rfl, rfl, (ra_w rl_n1 (by decide) (by decide))⟩
        · have r9 : Ra 1 1 x6 := rb_ne_lo hx6 ra_z q7 (by decide)
          refine z_aloadnR zh dX9_lotOfDay_23 rfl ?_
          refine z_iloadn zh dX9_lotOfDay_24 rfl ?_
          refine z_iloadn zh dX9_lotOfDay_25 rfl ?_
          refine z_iload zh dX9_lotOfDay_26 rfl ?_
          refine z_callVI zh mv_Y_125 dX9_lotOfDay_28 ck_Y rfl (s_X9_dayOf g ha1 ha2 (ra_w r4 (by decide) (by decide)) hG) ⟨Nat.le_of_ble_eq_true rfl, Nat.le_of_ble_eq_true rfl⟩ rfl rfl (Nat.le_of_ble_eq_true rfl) ?_
          rintro x10 _ _ ⟨rfl, rfl, hx10, _⟩
          refine z_iloadn zh dX9_lotOfDay_31 rfl ?_
          refine z_icmp_ne (tgt := 38) zh dX9_lotOfDay_32 rfl (fun q11 => ?_) (fun q11 => ?_)
          · refine y_iinc (L' := fun z => [some (rf g 551), some (.int a1), some (.int a2), some (.int a3), some (.int z)]) zh dX9_lotOfDay_38 (by decide) rfl (by decide +kernel) r4 (u := 1) (v := 100) rfl rfl (by decide) (by decide) (fun _ => rfl) (fun x12 hc12 hx12 => ?_)
            refine z_goto (tgt := 3) zh dX9_lotOfDay_41 rfl ?_
            exact ih3 x12 (ra_w hx12 (by decide) (by decide)) (ms_up hc12 (by decide) hn3)
          · have r13 := rb_eq (u := 0) (v := 99) hx10 (ra_tt a3) q11 (by decide) (by decide)
            refine z_iload zh dX9_lotOfDay_35 rfl ?_
            exact z_iret zh dX9_lotOfDay_37 ⟨_, rfl, rfl, rfl, (ra_w r4 (by decide) (by decide))⟩
  exact J3 101 (nI 0) (ra_w rl_0 (by decide) (by decide)) (ms_u0 rl_0 (by decide))
set_option maxRecDepth 20000 in
theorem s_X9_marks (g : GE) {sp : Nat → Nat → Bool} {σ : Iv} {iv : Iv} {lv : Lv} {a1 : Int32} (ha1 : Ra 0 5 a1) (hG : SI sp σ iv)  : ConV g yX9_marks cX9_marks 4 none 7 [rf g 551, .int a1] iv lv (fun iv lv => SI sp σ iv) := by
  refine con_intro (own := "RollingNetsModel") (by decide +kernel) rfl (Nat.le_of_ble_eq_true rfl) (L0 := [some (rf g 551), some (.int a1), none, none]) rfl (fun Z zh => ?_)
  refine z_iconst zh dX9_marks_0 ki_0 ?_
  refine z_istoren zh dX9_marks_1 (by decide) (L' := [some (rf g 551), some (.int a1), some (.int (nI 0)), none]) rfl ?_
  have J2 : ∀ (n : Nat) (iv : Iv) (lv : Lv) (x1 : Int32), SI sp σ iv → Ra 0 12 x1 → 12 - x1.toInt < (n : Int) → Z 2 [some (rf g 551), some (.int a1), some (.int x1), none] [] iv lv := by
    intro n
    induction n with
    | zero => intro iv lv x1 hG hx1 hn2; exact (ms_uz hx1 hn2).elim
    | succ n ih2 =>
      intro iv lv x1 hG hx1 hn2
      refine z_iloadn zh dX9_marks_2 rfl ?_
      refine z_aloadnR zh dX9_marks_3 rfl ?_
      refine z_callVI zh mv_Y_61 dX9_marks_4 ck_Y rfl (s_X9_memberMany g  hG) ⟨Nat.le_of_ble_eq_true rfl, Nat.le_of_ble_eq_true rfl⟩ rfl rfl (Nat.le_of_ble_eq_true rfl) ?_
      rintro x2 _ _ ⟨rfl, rfl, hx2⟩
      refine z_icmp_ge (tgt := 41) zh dX9_marks_7 rfl (fun q3 => ?_) (fun q3 => ?_)
      · have r4 : Ra 2 12 x1 := rb_le_r hx2 hx1 q3 (by decide)
        refine z_aloadnR zh dX9_marks_41 rfl ?_
        refine z_getf zh fl_Y_7 dX9_marks_42 ck_Y rfl rfl ?_
        refine z_bipush zh dX9_marks_45 kb_22 ?_
        refine z_iloadn zh dX9_marks_47 rfl ?_
        refine y_iadd zh dX9_marks_48 rl_22 ha1 (u := 22) (v := 27) rfl rfl (by decide) (by decide) (fun x5 hc5 hx5 => ?_)
        refine z_aloadnR zh dX9_marks_49 rfl ?_
        refine z_getf zh fl_Y_7 dX9_marks_50 ck_Y rfl rfl ?_
        refine z_bipush zh dX9_marks_53 kb_16 ?_
        refine z_iloadn zh dX9_marks_55 rfl ?_
        refine y_iadd zh dX9_marks_56 rl_16 ha1 (u := 16) (v := 21) rfl rfl (by decide) (by decide) (fun x6 hc6 hx6 => ?_)
        refine y_iald zh ck_now dX9_marks_57 hx6 (by decide) (by decide) (fun x7 ex7 => ?_)
        refine z_iast zh ck_now dX9_marks_58 (ra_in hx5 (by decide) (by decide)) ?_
        have hG : SI sp σ (upI iv 552 x5.toNatClampNeg x7) := (nw_free hG (by have := rl_22.1; have := rl_22.2; have := ha1.1; have := ha1.2; omega))
        generalize upI iv 552 x5.toNatClampNeg x7 = iv at hG  ⊢
        refine z_aloadnR zh dX9_marks_59 rfl ?_
        refine z_getf zh fl_Y_7 dX9_marks_60 ck_Y rfl rfl ?_
        refine z_bipush zh dX9_marks_63 kb_28 ?_
        refine z_iloadn zh dX9_marks_65 rfl ?_
        refine y_iadd zh dX9_marks_66 rl_28 ha1 (u := 28) (v := 33) rfl rfl (by decide) (by decide) (fun x8 hc8 hx8 => ?_)
        refine y_iald zh ck_now dX9_marks_67 hx8 (by decide) (by decide) (fun x9 ex9 => ?_)
        refine z_istoren zh dX9_marks_68 (by decide) (L' := [some (rf g 551), some (.int a1), some (.int x9), none]) rfl ?_
        refine z_iconst zh dX9_marks_69 ki_0 ?_
        refine z_istoren zh dX9_marks_70 (by decide) (L' := [some (rf g 551), some (.int a1), some (.int x9), some (.int (nI 0))]) rfl ?_
        have J71 : ∀ (n : Nat) (iv : Iv) (lv : Lv) (x10 : Int32), SI sp σ iv → Ra 0 12 x10 → 12 - x10.toInt < (n : Int) → Z 71 [some (rf g 551), some (.int a1), some (.int x9), some (.int x10)] [] iv lv := by
          intro n
          induction n with
          | zero => intro iv lv x10 hG hx10 hn71; exact (ms_uz hx10 hn71).elim
          | succ n ih71 =>
            intro iv lv x10 hG hx10 hn71
            refine z_iloadn zh dX9_marks_71 rfl ?_
            refine z_aloadnR zh dX9_marks_72 rfl ?_
            refine z_callVI zh mv_Y_61 dX9_marks_73 ck_Y rfl (s_X9_memberMany g  hG) ⟨Nat.le_of_ble_eq_true rfl, Nat.le_of_ble_eq_true rfl⟩ rfl rfl (Nat.le_of_ble_eq_true rfl) ?_
            rintro x11 _ _ ⟨rfl, rfl, hx11⟩
            refine z_icmp_ge (tgt := 132) zh dX9_marks_76 rfl (fun q12 => ?_) (fun q12 => ?_)
            · have r13 : Ra 2 12 x10 := rb_le_r hx11 hx10 q12 (by decide)
              refine z_aloadnR zh dX9_marks_132 rfl ?_
              refine z_getf zh fl_Y_7 dX9_marks_133 ck_Y rfl rfl ?_
              refine z_bipush zh dX9_marks_136 kb_28 ?_
              refine z_iloadn zh dX9_marks_138 rfl ?_
              refine y_iadd zh dX9_marks_139 rl_28 ha1 (u := 28) (v := 33) rfl rfl (by decide) (by decide) (fun x14 hc14 hx14 => ?_)
              refine z_iconst zh dX9_marks_140 ki_0 ?_
              refine z_iast zh ck_now dX9_marks_141 (ra_in hx14 (by decide) (by decide)) ?_
              have hG : SI sp σ (upI iv 552 x14.toNatClampNeg (nI 0)) := (nw_free hG (by have := rl_28.1; have := rl_28.2; have := ha1.1; have := ha1.2; omega))
              generalize upI iv 552 x14.toNatClampNeg (nI 0) = iv at hG  ⊢
              refine z_iconst zh dX9_marks_142 ki_0 ?_
              refine z_istoren zh dX9_marks_143 (by decide) (L' := [some (rf g 551), some (.int a1), some (.int x9), some (.int (nI 0))]) rfl ?_
              have J144 : ∀ (n : Nat) (iv : Iv) (lv : Lv) (x15 : Int32), SI sp σ iv → Ra 0 12 x15 → 12 - x15.toInt < (n : Int) → Z 144 [some (rf g 551), some (.int a1), some (.int x9), some (.int x15)] [] iv lv := by
                intro n
                induction n with
                | zero => intro iv lv x15 hG hx15 hn144; exact (ms_uz hx15 hn144).elim
                | succ n ih144 =>
                  intro iv lv x15 hG hx15 hn144
                  refine z_iloadn zh dX9_marks_144 rfl ?_
                  refine z_aloadnR zh dX9_marks_145 rfl ?_
                  refine z_callVI zh mv_Y_61 dX9_marks_146 ck_Y rfl (s_X9_memberMany g  hG) ⟨Nat.le_of_ble_eq_true rfl, Nat.le_of_ble_eq_true rfl⟩ rfl rfl (Nat.le_of_ble_eq_true rfl) ?_
                  rintro x16 _ _ ⟨rfl, rfl, hx16⟩
                  refine z_icmp_ge (tgt := 164) zh dX9_marks_149 rfl (fun q17 => ?_) (fun q17 => ?_)
                  · have r18 : Ra 2 12 x15 := rb_le_r hx16 hx15 q17 (by decide)
                    exact z_vret zh dX9_marks_164 ⟨rfl, hG⟩
                  · have r19 : Ra 0 11 x15 := rb_lt_l hx16 hx15 (rb_nle q17) (by decide)
                    refine z_aloadnR zh dX9_marks_152 rfl ?_
                    refine z_iloadn zh dX9_marks_153 rfl ?_
                    refine z_iloadn zh dX9_marks_154 rfl ?_
                    refine z_callVV zh mv_Y_279 dX9_marks_155 ck_Y rfl (s_X9_fails g r19 ha1 hG) ⟨Nat.le_of_ble_eq_true rfl, Nat.le_of_ble_eq_true rfl⟩ rfl rfl (Nat.le_of_ble_eq_true rfl) ?_
                    rintro iv lv hG
                    refine y_iinc (L' := fun z => [some (rf g 551), some (.int a1), some (.int x9), some (.int z)]) zh dX9_marks_158 (by decide) rfl (by decide +kernel) r19 (u := 1) (v := 12) rfl rfl (by decide) (by decide) (fun _ => rfl) (fun x20 hc20 hx20 => ?_)
                    refine z_goto (tgt := 144) zh dX9_marks_161 rfl ?_
                    exact ih144 iv lv x20 hG (ra_w hx20 (by decide) (by decide)) (ms_up hc20 (by decide) hn144)
              exact J144 13 iv lv (nI 0) hG (ra_w rl_0 (by decide) (by decide)) (ms_u0 rl_0 (by decide))
            · have r21 : Ra 0 11 x10 := rb_lt_l hx11 hx10 (rb_nle q12) (by decide)
              refine z_aloadnR zh dX9_marks_79 rfl ?_
              refine z_iloadn zh dX9_marks_80 rfl ?_
              refine z_iloadn zh dX9_marks_81 rfl ?_
              refine y_i2l zh dX9_marks_82 (fun l22 => ?_)
              refine z_aloadnR zh dX9_marks_83 rfl ?_
              refine z_iloadn zh dX9_marks_84 rfl ?_
              refine z_iloadn zh dX9_marks_85 rfl ?_
              refine z_callVI zh mv_Y_73 dX9_marks_86 ck_Y rfl (s_X9_stockOf g r21 ha1 hG) ⟨Nat.le_of_ble_eq_true rfl, Nat.le_of_ble_eq_true rfl⟩ rfl rfl (Nat.le_of_ble_eq_true rfl) ?_
              rintro x23 _ _ ⟨rfl, rfl, _⟩
              refine z_aloadnR zh dX9_marks_89 rfl ?_
              refine z_iloadn zh dX9_marks_90 rfl ?_
              refine z_iloadn zh dX9_marks_91 rfl ?_
              refine z_callVI zh mv_Y_119 dX9_marks_92 ck_Y rfl (s_X9_positionOf g r21 ha1 hG) ⟨Nat.le_of_ble_eq_true rfl, Nat.le_of_ble_eq_true rfl⟩ rfl rfl (Nat.le_of_ble_eq_true rfl) ?_
              rintro x24 _ _ ⟨rfl, rfl, _⟩
              refine y_iaddT zh dX9_marks_95 (fun x25 => ?_)
              refine y_i2l zh dX9_marks_96 (fun l26 => ?_)
              refine y_lmul zh dX9_marks_97 (fun l27 => ?_)
              refine z_callVV zh mv_Y_206 dX9_marks_98 ck_Y rfl (s_X9_cashMore g r21 hG) ⟨Nat.le_of_ble_eq_true rfl, Nat.le_of_ble_eq_true rfl⟩ rfl rfl (Nat.le_of_ble_eq_true rfl) ?_
              rintro iv lv ⟨hG, _⟩
              refine z_aloadnR zh dX9_marks_101 rfl ?_
              refine z_getf zh fl_Y_16 dX9_marks_102 ck_Y rfl rfl ?_
              refine z_bipush zh dX9_marks_105 kb_12 ?_
              refine z_aloadnR zh dX9_marks_107 rfl ?_
              refine z_getf zh fl_Y_16 dX9_marks_108 ck_Y rfl rfl ?_
              refine z_bipush zh dX9_marks_111 kb_12 ?_
              refine y_lald zh ck_coins dX9_marks_113 rl_12 (by decide) (by decide) (fun l28 => ?_)
              refine z_iloadn zh dX9_marks_114 rfl ?_
              refine y_i2l zh dX9_marks_115 (fun l29 => ?_)
              refine z_aloadnR zh dX9_marks_116 rfl ?_
              refine z_iloadn zh dX9_marks_117 rfl ?_
              refine z_iloadn zh dX9_marks_118 rfl ?_
              refine z_callVI zh mv_Y_73 dX9_marks_119 ck_Y rfl (s_X9_stockOf g r21 ha1 hG) ⟨Nat.le_of_ble_eq_true rfl, Nat.le_of_ble_eq_true rfl⟩ rfl rfl (Nat.le_of_ble_eq_true rfl) ?_
              rintro x30 _ _ ⟨rfl, rfl, _⟩
              refine y_i2l zh dX9_marks_122 (fun l31 => ?_)
              refine y_lmul zh dX9_marks_123 (fun l32 => ?_)
              refine y_lsub zh dX9_marks_124 (fun l33 => ?_)
              refine z_last zh ck_coins dX9_marks_125 (ra_in rl_12 (by decide) (by decide)) ?_
              generalize upL lv 554 (nI 12).toNatClampNeg l33 = lv
              refine y_iinc (L' := fun z => [some (rf g 551), some (.int a1), some (.int x9), some (.int z)]) zh dX9_marks_126 (by decide) rfl (by decide +kernel) r21 (u := 1) (v := 12) rfl rfl (by decide) (by decide) (fun _ => rfl) (fun x34 hc34 hx34 => ?_)
              refine z_goto (tgt := 71) zh dX9_marks_129 rfl ?_
              exact ih71 iv lv x34 hG (ra_w hx34 (by decide) (by decide)) (ms_up hc34 (by decide) hn71)
        exact J71 13 iv lv (nI 0) hG (ra_w rl_0 (by decide) (by decide)) (ms_u0 rl_0 (by decide))
      · have r35 : Ra 0 11 x1 := rb_lt_l hx2 hx1 (rb_nle q3) (by decide)
        refine z_aloadnR zh dX9_marks_10 rfl ?_
        refine z_iloadn zh dX9_marks_11 rfl ?_
        refine z_aloadnR zh dX9_marks_12 rfl ?_
        refine z_iloadn zh dX9_marks_13 rfl ?_
        refine z_iloadn zh dX9_marks_14 rfl ?_
        refine z_callVI zh mv_Y_119 dX9_marks_15 ck_Y rfl (s_X9_positionOf g r35 ha1 hG) ⟨Nat.le_of_ble_eq_true rfl, Nat.le_of_ble_eq_true rfl⟩ rfl rfl (Nat.le_of_ble_eq_true rfl) ?_
        rintro x36 _ _ ⟨rfl, rfl, _⟩
        refine y_i2l zh dX9_marks_18 (fun l37 => ?_)
        refine z_aloadnR zh dX9_marks_19 rfl ?_
        refine z_iloadn zh dX9_marks_20 rfl ?_
        refine z_callVI zh mv_Y_197 dX9_marks_21 ck_Y rfl (s_X9_priceOf g ha1 hG) ⟨Nat.le_of_ble_eq_true rfl, Nat.le_of_ble_eq_true rfl⟩ rfl rfl (Nat.le_of_ble_eq_true rfl) ?_
        rintro x38 _ _ ⟨rfl, rfl, _⟩
        refine z_aloadnR zh dX9_marks_24 rfl ?_
        refine z_iloadn zh dX9_marks_25 rfl ?_
        refine z_callVI zh mv_Y_203 dX9_marks_26 ck_Y rfl (s_X9_markedOf g ha1 hG) ⟨Nat.le_of_ble_eq_true rfl, Nat.le_of_ble_eq_true rfl⟩ rfl rfl (Nat.le_of_ble_eq_true rfl) ?_
        rintro x39 _ _ ⟨rfl, rfl, _⟩
        refine y_isubT zh dX9_marks_29 (fun x40 => ?_)
        refine y_i2l zh dX9_marks_30 (fun l41 => ?_)
        refine y_lmul zh dX9_marks_31 (fun l42 => ?_)
        refine z_callVV zh mv_Y_206 dX9_marks_32 ck_Y rfl (s_X9_cashMore g r35 hG) ⟨Nat.le_of_ble_eq_true rfl, Nat.le_of_ble_eq_true rfl⟩ rfl rfl (Nat.le_of_ble_eq_true rfl) ?_
        rintro iv lv ⟨hG, _⟩
        refine y_iinc (L' := fun z => [some (rf g 551), some (.int a1), some (.int z), none]) zh dX9_marks_35 (by decide) rfl (by decide +kernel) r35 (u := 1) (v := 12) rfl rfl (by decide) (by decide) (fun _ => rfl) (fun x43 hc43 hx43 => ?_)
        refine z_goto (tgt := 2) zh dX9_marks_38 rfl ?_
        exact ih2 iv lv x43 hG (ra_w hx43 (by decide) (by decide)) (ms_up hc43 (by decide) hn2)
  exact J2 13 iv lv (nI 0) hG (ra_w rl_0 (by decide) (by decide)) (ms_u0 rl_0 (by decide))
set_option maxRecDepth 20000 in
theorem s_X9_highOf (g : GE) {sp : Nat → Nat → Bool} {σ : Iv} {iv : Iv} {lv : Lv} {a1 : Int32} {a2 : Int32} (ha2 : Ra 0 4 a2) (hG : SI sp σ iv)  : ConI g yX9_highOf cX9_highOf 3 (some .int) 1 [rf g 551, .int a1, .int a2] iv lv (fun r iv' lv' => iv = iv' ∧ lv = lv' ∧ Ra 5 9999 r) := by
  refine con_intro (own := "RollingNetsModel") (by decide +kernel) rfl (Nat.le_of_ble_eq_true rfl) (L0 := [some (rf g 551), some (.int a1), some (.int a2)]) rfl (fun Z zh => ?_)
  refine z_iloadn zh dX9_highOf_0 rfl ?_
  refine z_iconst zh dX9_highOf_1 ki_2 ?_
  refine z_icmp_ge (tgt := 28) zh dX9_highOf_2 rfl (fun q1 => ?_) (fun q1 => ?_)
  · have r2 : Ra 2 2147483647 a1 := rb_le_r rl_2 (ra_tt a1) q1 (by decide)
    refine z_iloadn zh dX9_highOf_28 rfl ?_
    refine z_iconst zh dX9_highOf_29 ki_4 ?_
    have J39 : Ra 2 7 a1 → Z 39 [some (rf g 551), some (.int a1), some (.int a2)] [] iv lv := by
      intro hp3
      refine z_iloadn zh dX9_highOf_39 rfl ?_
      refine z_if_ne (tgt := 48) zh dX9_highOf_40 rfl (fun q4 => ?_) (fun q4 => ?_)
      · have r5 : Ra 1 4 a2 := rb_ne_lo ha2 ra_z q4 (by decide)
        refine z_iloadn zh dX9_highOf_48 rfl ?_
        refine z_iconst zh dX9_highOf_49 ki_1 ?_
        refine z_icmp_ne (tgt := 57) zh dX9_highOf_50 rfl (fun q6 => ?_) (fun q6 => ?_)
        · have r7 : Ra 2 4 a2 := rb_ne_lo r5 rl_1 q6 (by decide)
          refine z_sipush zh dX9_highOf_57 ks_9999 ?_
          exact z_iret zh dX9_highOf_60 ⟨_, rfl, rfl, rfl, (ra_w rl_9999 (by decide) (by decide))⟩
        · have r8 := rb_eq (u := 1) (v := 1) r5 rl_1 q6 (by decide) (by decide)
          refine z_iconst zh dX9_highOf_53 ki_5 ?_
          refine z_goto (tgt := 60) zh dX9_highOf_54 rfl ?_
          exact z_iret zh dX9_highOf_60 ⟨_, rfl, rfl, rfl, (ra_w rl_5 (by decide) (by decide))⟩
      · have r9 := rb_eq (u := 0) (v := 0) ha2 ra_z q4 (by decide) (by decide)
        refine z_bipush zh dX9_highOf_43 kb_11 ?_
        refine z_goto (tgt := 60) zh dX9_highOf_45 rfl ?_
        exact z_iret zh dX9_highOf_60 ⟨_, rfl, rfl, rfl, (ra_w rl_11 (by decide) (by decide))⟩
    refine z_icmp_le (tgt := 39) zh dX9_highOf_30 rfl (fun q10 => ?_) (fun q10 => ?_)
    · have r11 : Ra 2 4 a1 := rb_le_l rl_4 r2 q10 (by decide)
      exact J39 (ra_w r11 (by decide) (by decide))
    · have r12 : Ra 5 2147483647 a1 := rb_lt_r rl_4 r2 (rb_nle q10) (by decide)
      refine z_iloadn zh dX9_highOf_33 rfl ?_
      refine z_bipush zh dX9_highOf_34 kb_7 ?_
      refine z_icmp_ne (tgt := 61) zh dX9_highOf_36 rfl (fun q13 => ?_) (fun q13 => ?_)
      · refine z_iloadn zh dX9_highOf_61 rfl ?_
        refine z_iconst zh dX9_highOf_62 ki_5 ?_
        refine z_icmp_ne (tgt := 78) zh dX9_highOf_63 rfl (fun q14 => ?_) (fun q14 => ?_)
        · have r15 : Ra 6 2147483647 a1 := rb_ne_lo r12 rl_5 q14 (by decide)
          refine z_iloadn zh dX9_highOf_78 rfl ?_
          refine z_bipush zh dX9_highOf_79 kb_6 ?_
          refine z_icmp_ne (tgt := 96) zh dX9_highOf_81 rfl (fun q16 => ?_) (fun q16 => ?_)
          · have r17 : Ra 7 2147483647 a1 := rb_ne_lo r15 rl_6 q16 (by decide)
            refine z_iloadn zh dX9_highOf_96 rfl ?_
            refine z_bipush zh dX9_highOf_97 kb_8 ?_
            refine z_icmp_ne (tgt := 108) zh dX9_highOf_99 rfl (fun q18 => ?_) (fun q18 => ?_)
            · refine z_bipush zh dX9_highOf_108 kb_20 ?_
              exact z_iret zh dX9_highOf_110 ⟨_, rfl, rfl, rfl, (ra_w rl_20 (by decide) (by decide))⟩
            · have r19 := rb_eq (u := 8) (v := 8) r17 rl_8 q18 (by decide) (by decide)
              refine z_sipush zh dX9_highOf_102 ks_199 ?_
              refine z_goto (tgt := 110) zh dX9_highOf_105 rfl ?_
              exact z_iret zh dX9_highOf_110 ⟨_, rfl, rfl, rfl, (ra_w rl_199 (by decide) (by decide))⟩
          · have r20 := rb_eq (u := 6) (v := 6) r15 rl_6 q16 (by decide) (by decide)
            refine z_iloadn zh dX9_highOf_84 rfl ?_
            refine z_if_ne (tgt := 92) zh dX9_highOf_85 rfl (fun q21 => ?_) (fun q21 => ?_)
            · have r22 : Ra 1 4 a2 := rb_ne_lo ha2 ra_z q21 (by decide)
              refine z_sipush zh dX9_highOf_92 ks_9999 ?_
              exact z_iret zh dX9_highOf_95 ⟨_, rfl, rfl, rfl, (ra_w rl_9999 (by decide) (by decide))⟩
            · have r23 := rb_eq (u := 0) (v := 0) ha2 ra_z q21 (by decide) (by decide)
              refine z_iconst zh dX9_highOf_88 ki_5 ?_
              refine z_goto (tgt := 95) zh dX9_highOf_89 rfl ?_
              exact z_iret zh dX9_highOf_95 ⟨_, rfl, rfl, rfl, (ra_w rl_5 (by decide) (by decide))⟩
        · have r24 := rb_eq (u := 5) (v := 5) r12 rl_5 q14 (by decide) (by decide)
          refine z_iloadn zh dX9_highOf_66 rfl ?_
          refine z_if_ne (tgt := 75) zh dX9_highOf_67 rfl (fun q25 => ?_) (fun q25 => ?_)
          · have r26 : Ra 1 4 a2 := rb_ne_lo ha2 ra_z q25 (by decide)
            refine z_bipush zh dX9_highOf_75 kb_9 ?_
            exact z_iret zh dX9_highOf_77 ⟨_, rfl, rfl, rfl, (ra_w rl_9 (by decide) (by decide))⟩
          · have r27 := rb_eq (u := 0) (v := 0) ha2 ra_z q25 (by decide) (by decide)
            refine z_bipush zh dX9_highOf_70 kb_11 ?_
            refine z_goto (tgt := 77) zh dX9_highOf_72 rfl ?_
            exact z_iret zh dX9_highOf_77 ⟨_, rfl, rfl, rfl, (ra_w rl_11 (by decide) (by decide))⟩
      · have r28 := rb_eq (u := 7) (v := 7) r12 rl_7 q13 (by decide) (by decide)
        exact J39 (ra_w r28.1 (by decide) (by decide))
  · have r29 : Ra (-2147483648) 1 a1 := rb_lt_l rl_2 (ra_tt a1) (rb_nle q1) (by decide)
    refine z_iloadn zh dX9_highOf_5 rfl ?_
    refine z_iconst zh dX9_highOf_6 ki_2 ?_
    refine z_icmp_ge (tgt := 15) zh dX9_highOf_7 rfl (fun q30 => ?_) (fun q30 => ?_)
    · have r31 : Ra 2 4 a2 := rb_le_r rl_2 ha2 q30 (by decide)
      refine z_iloadn zh dX9_highOf_15 rfl ?_
      refine z_iconst zh dX9_highOf_16 ki_2 ?_
      refine z_icmp_ne (tgt := 24) zh dX9_highOf_17 rfl (fun q32 => ?_) (fun q32 => ?_)
      · have r33 : Ra 3 4 a2 := rb_ne_lo r31 rl_2 q32 (by decide)
        refine z_sipush zh dX9_highOf_24 ks_9999 ?_
        exact z_iret zh dX9_highOf_27 ⟨_, rfl, rfl, rfl, (ra_w rl_9999 (by decide) (by decide))⟩
      · have r34 := rb_eq (u := 2) (v := 2) r31 rl_2 q32 (by decide) (by decide)
        refine z_iconst zh dX9_highOf_20 ki_5 ?_
        refine z_goto (tgt := 27) zh dX9_highOf_21 rfl ?_
        exact z_iret zh dX9_highOf_27 ⟨_, rfl, rfl, rfl, (ra_w rl_5 (by decide) (by decide))⟩
    · have r35 : Ra 0 1 a2 := rb_lt_l rl_2 ha2 (rb_nle q30) (by decide)
      refine z_bipush zh dX9_highOf_10 kb_11 ?_
      refine z_goto (tgt := 27) zh dX9_highOf_12 rfl ?_
      exact z_iret zh dX9_highOf_27 ⟨_, rfl, rfl, rfl, (ra_w rl_11 (by decide) (by decide))⟩
set_option maxRecDepth 20000 in
theorem s_X9_isDigit (g : GE) {sp : Nat → Nat → Bool} {σ : Iv} {iv : Iv} {lv : Lv} {a1 : Int32}  (hG : SI sp σ iv)  : ConI g yX9_isDigit cX9_isDigit 2 (some .boolean) 2 [rf g 551, .int a1] iv lv (fun r iv' lv' => iv = iv' ∧ lv = lv' ∧ Ra 0 1 r ∧ (¬ r = 0 → Ra 48 57 a1)) := by
  refine con_intro (own := "RollingNetsModel") (by decide +kernel) rfl (Nat.le_of_ble_eq_true rfl) (L0 := [some (rf g 551), some (.int a1)]) rfl (fun Z zh => ?_)
  refine z_aloadnR zh dX9_isDigit_0 rfl ?_
  refine z_iloadn zh dX9_isDigit_1 rfl ?_
  refine z_bipush zh dX9_isDigit_2 kb_48 ?_
  refine z_bipush zh dX9_isDigit_4 kb_57 ?_
  refine z_callVI zh mv_Y_79 dX9_isDigit_6 ck_Y rfl (s_X9_isIn g) ⟨Nat.le_of_ble_eq_true rfl, Nat.le_of_ble_eq_true rfl⟩ rfl rfl (Nat.le_of_ble_eq_true rfl) ?_
  rintro x1 _ _ ⟨rfl, rfl, hx1, hz2⟩
  exact z_zret zh dX9_isDigit_9 (ra_01 hx1) ⟨_, rfl, rfl, rfl, hx1, (fun q => ra_w (rb_in rl_48 rl_57 (hz2 q)) (by decide) (by decide))⟩
set_option maxRecDepth 20000 in
theorem s_X9_isFinished (g : GE) {sp : Nat → Nat → Bool} {σ : Iv} {iv : Iv} {lv : Lv} {a1 : Int32} (ha1 : Ra 0 5 a1) (hG : SI sp σ iv)  : ConI g yX9_isFinished cX9_isFinished 3 (some .boolean) 3 [rf g 551, .int a1] iv lv (fun r iv' lv' => iv = iv' ∧ lv = lv' ∧ Ra 0 1 r) := by
  refine con_intro (own := "RollingNetsModel") (by decide +kernel) rfl (Nat.le_of_ble_eq_true rfl) (L0 := [some (rf g 551), some (.int a1), none]) rfl (fun Z zh => ?_)
  refine z_iconst zh dX9_isFinished_0 ki_0 ?_
  refine z_istoren zh dX9_isFinished_1 (by decide) (L' := [some (rf g 551), some (.int a1), some (.int (nI 0))]) rfl ?_
  have J2 : ∀ (n : Nat) (x1 : Int32), Ra 0 200 x1 → 200 - x1.toInt < (n : Int) → Z 2 [some (rf g 551), some (.int a1), some (.int x1)] [] iv lv := by
    intro n
    induction n with
    | zero => intro x1 hx1 hn2; exact (ms_uz hx1 hn2).elim
    | succ n ih2 =>
      intro x1 hx1 hn2
      refine z_iloadn zh dX9_isFinished_2 rfl ?_
      refine z_aloadnR zh dX9_isFinished_3 rfl ?_
      refine z_getf zh fl_Y_7 dX9_isFinished_4 ck_Y rfl rfl ?_
      refine z_bipush zh dX9_isFinished_7 kb_7 ?_
      refine y_ialdN zh ck_now dX9_isFinished_9 (by decide) (fun x2 ex2 => ?_)
      have hx2 : Ra 0 200 x2 := ra_of ex2 (nr_l hG 7 rfl)
      refine z_icmp_ge (tgt := 41) zh dX9_isFinished_10 rfl (fun q3 => ?_) (fun q3 => ?_)
      · refine z_iconst zh dX9_isFinished_41 ki_0 ?_
        refine z_istoren zh dX9_isFinished_42 (by decide) (L' := [some (rf g 551), some (.int a1), some (.int (nI 0))]) rfl ?_
        have J43 : ∀ (n : Nat) (x4 : Int32), Ra 0 60 x4 → 60 - x4.toInt < (n : Int) → Z 43 [some (rf g 551), some (.int a1), some (.int x4)] [] iv lv := by
          intro n
          induction n with
          | zero => intro x4 hx4 hn43; exact (ms_uz hx4 hn43).elim
          | succ n ih43 =>
            intro x4 hx4 hn43
            refine z_iloadn zh dX9_isFinished_43 rfl ?_
            refine z_aloadnR zh dX9_isFinished_44 rfl ?_
            refine z_getf zh fl_Y_7 dX9_isFinished_45 ck_Y rfl rfl ?_
            refine z_bipush zh dX9_isFinished_48 kb_8 ?_
            refine y_ialdN zh ck_now dX9_isFinished_50 (by decide) (fun x5 ex5 => ?_)
            have hx5 : Ra 0 60 x5 := ra_of ex5 (nr_l hG 8 rfl)
            refine z_icmp_ge (tgt := 82) zh dX9_isFinished_51 rfl (fun q6 => ?_) (fun q6 => ?_)
            · refine z_iconst zh dX9_isFinished_82 ki_1 ?_
              exact z_zret zh dX9_isFinished_83 (ra_01 (ra_w rl_1 (by decide) (by decide))) ⟨_, rfl, rfl, rfl, (ra_w rl_1 (by decide) (by decide))⟩
            · have r7 : Ra 0 59 x4 := rb_lt_l hx5 hx4 (rb_nle q6) (by decide)
              have r8 : Ra 1 60 x5 := rb_lt_r hx4 hx5 (rb_nle q6) (by decide)
              refine z_aloadnR zh dX9_isFinished_54 rfl ?_
              refine z_iloadn zh dX9_isFinished_55 rfl ?_
              refine z_iconst zh dX9_isFinished_56 ki_4 ?_
              refine z_callVI zh mv_Y_157 dX9_isFinished_57 ck_Y rfl (s_X9_noticeOf g r7 (ra_w rl_4 (by decide) (by decide)) hG) ⟨Nat.le_of_ble_eq_true rfl, Nat.le_of_ble_eq_true rfl⟩ rfl rfl (Nat.le_of_ble_eq_true rfl) ?_
              rintro x9 _ _ ⟨rfl, rfl, z10, ez10, ex9⟩
              refine z_iconst zh dX9_isFinished_60 ki_1 ?_
              have J76 : Z 76 [some (rf g 551), some (.int a1), some (.int x4)] [] iv lv := by
                refine y_iinc (L' := fun z => [some (rf g 551), some (.int a1), some (.int z)]) zh dX9_isFinished_76 (by decide) rfl (by decide +kernel) r7 (u := 1) (v := 60) rfl rfl (by decide) (by decide) (fun _ => rfl) (fun x11 hc11 hx11 => ?_)
                refine z_goto (tgt := 43) zh dX9_isFinished_79 rfl ?_
                exact ih43 x11 (ra_w hx11 (by decide) (by decide)) (ms_up hc11 (by decide) hn43)
              refine z_icmp_ne (tgt := 76) zh dX9_isFinished_61 rfl (fun q12 => ?_) (fun q12 => ?_)
              · exact J76
              · have r13 := rb_eq (u := 1) (v := 1) (ra_tt x9) rl_1 q12 (by decide) (by decide)
                refine z_aloadnR zh dX9_isFinished_64 rfl ?_
                refine z_iloadn zh dX9_isFinished_65 rfl ?_
                refine z_iconst zh dX9_isFinished_66 ki_1 ?_
                refine z_callVI zh mv_Y_157 dX9_isFinished_67 ck_Y rfl (s_X9_noticeOf g r7 (ra_w rl_1 (by decide) (by decide)) hG) ⟨Nat.le_of_ble_eq_true rfl, Nat.le_of_ble_eq_true rfl⟩ rfl rfl (Nat.le_of_ble_eq_true rfl) ?_
                rintro x14 _ _ ⟨rfl, rfl, z15, ez15, ex14⟩
                have hx14 : Ra 0 5 x14 := ra_of ex14 (nr_n1 hG x4.toInt (by have := r7.1; have := r7.2; have := rl_1.1; have := rl_1.2; omega) (by have := r7.1; have := r7.2; have := rl_1.1; have := rl_1.2; omega) (by have := r7.1; have := r7.2; have := rl_1.1; have := rl_1.2; omega))
                refine z_iloadn zh dX9_isFinished_70 rfl ?_
                refine z_icmp_ne (tgt := 76) zh dX9_isFinished_71 rfl (fun q16 => ?_) (fun q16 => ?_)
                · exact J76
                · refine z_iconst zh dX9_isFinished_74 ki_0 ?_
                  exact z_zret zh dX9_isFinished_75 (ra_01 (ra_w rl_0 (by decide) (by decide))) ⟨_, rfl, rfl, rfl, (ra_w rl_0 (by decide) (by decide))⟩
        exact J43 61 (nI 0) (ra_w rl_0 (by decide) (by decide)) (ms_u0 rl_0 (by decide))
      · have r18 : Ra 0 199 x1 := rb_lt_l hx2 hx1 (rb_nle q3) (by decide)
        have r19 : Ra 1 200 x2 := rb_lt_r hx1 hx2 (rb_nle q3) (by decide)
        refine z_aloadnR zh dX9_isFinished_13 rfl ?_
        refine z_iloadn zh dX9_isFinished_14 rfl ?_
        refine z_iconst zh dX9_isFinished_15 ki_2 ?_
        refine z_callVI zh mv_Y_151 dX9_isFinished_16 ck_Y rfl (s_X9_tradeOf g r18 (ra_w rl_2 (by decide) (by decide)) hG) ⟨Nat.le_of_ble_eq_true rfl, Nat.le_of_ble_eq_true rfl⟩ rfl rfl (Nat.le_of_ble_eq_true rfl) ?_
        rintro x20 _ _ ⟨rfl, rfl, z21, ez21, ex20⟩
        have hx20 : Ra 0 5 x20 := ra_of ex20 (nr_t2 hG x1.toInt (by have := r18.1; have := r18.2; have := rl_2.1; have := rl_2.2; omega) (by have := r18.1; have := r18.2; have := rl_2.1; have := rl_2.2; omega) (by have := r18.1; have := r18.2; have := rl_2.1; have := rl_2.2; omega))
        refine z_iloadn zh dX9_isFinished_19 rfl ?_
        have J35 : Z 35 [some (rf g 551), some (.int a1), some (.int x1)] [] iv lv := by
          refine y_iinc (L' := fun z => [some (rf g 551), some (.int a1), some (.int z)]) zh dX9_isFinished_35 (by decide) rfl (by decide +kernel) r18 (u := 1) (v := 200) rfl rfl (by decide) (by decide) (fun _ => rfl) (fun x22 hc22 hx22 => ?_)
          refine z_goto (tgt := 2) zh dX9_isFinished_38 rfl ?_
          exact ih2 x22 (ra_w hx22 (by decide) (by decide)) (ms_up hc22 (by decide) hn2)
        refine z_icmp_ne (tgt := 35) zh dX9_isFinished_20 rfl (fun q23 => ?_) (fun q23 => ?_)
        · exact J35
        · refine z_aloadnR zh dX9_isFinished_23 rfl ?_
          refine z_iloadn zh dX9_isFinished_24 rfl ?_
          refine z_bipush zh dX9_isFinished_25 kb_7 ?_
          refine z_callVI zh mv_Y_151 dX9_isFinished_27 ck_Y rfl (s_X9_tradeOf g r18 (ra_w rl_7 (by decide) (by decide)) hG) ⟨Nat.le_of_ble_eq_true rfl, Nat.le_of_ble_eq_true rfl⟩ rfl rfl (Nat.le_of_ble_eq_true rfl) ?_
          rintro x25 _ _ ⟨rfl, rfl, z26, ez26, ex25⟩
          refine z_if_le (tgt := 35) zh dX9_isFinished_30 rfl (fun q27 => ?_) (fun q27 => ?_)
          · have r28 : Ra (-2147483648) 0 x25 := rb_le_l ra_z (ra_tt x25) q27 (by decide)
            exact J35
          · have r29 : Ra 1 2147483647 x25 := rb_lt_r ra_z (ra_tt x25) (rb_nle q27) (by decide)
            refine z_iconst zh dX9_isFinished_33 ki_0 ?_
            exact z_zret zh dX9_isFinished_34 (ra_01 (ra_w rl_0 (by decide) (by decide))) ⟨_, rfl, rfl, rfl, (ra_w rl_0 (by decide) (by decide))⟩
  exact J2 201 (nI 0) (ra_w rl_0 (by decide) (by decide)) (ms_u0 rl_0 (by decide))
set_option maxRecDepth 20000 in
theorem s_X9_isLetter (g : GE) {sp : Nat → Nat → Bool} {σ : Iv} {iv : Iv} {lv : Lv} {a1 : Int32}  (hG : SI sp σ iv)  : ConI g yX9_isLetter cX9_isLetter 2 (some .boolean) 2 [rf g 551, .int a1] iv lv (fun r iv' lv' => iv = iv' ∧ lv = lv' ∧ Ra 0 1 r ∧ (¬ r = 0 → Ra 65 122 a1)) := by
  refine con_intro (own := "RollingNetsModel") (by decide +kernel) rfl (Nat.le_of_ble_eq_true rfl) (L0 := [some (rf g 551), some (.int a1)]) rfl (fun Z zh => ?_)
  refine z_aloadnR zh dX9_isLetter_0 rfl ?_
  refine z_iloadn zh dX9_isLetter_1 rfl ?_
  refine z_bipush zh dX9_isLetter_2 kb_97 ?_
  refine z_bipush zh dX9_isLetter_4 kb_122 ?_
  refine z_callVI zh mv_Y_79 dX9_isLetter_6 ck_Y rfl (s_X9_isIn g) ⟨Nat.le_of_ble_eq_true rfl, Nat.le_of_ble_eq_true rfl⟩ rfl rfl (Nat.le_of_ble_eq_true rfl) ?_
  rintro x1 _ _ ⟨rfl, rfl, hx1, hz2⟩
  refine z_if_ne (tgt := 24) zh dX9_isLetter_9 rfl (fun q3 => ?_) (fun q3 => ?_)
  · have r4 : Ra 1 1 x1 := rb_ne_lo hx1 ra_z q3 (by decide)
    have r5 : Ra 97 122 a1 := (rb_in rl_97 rl_122 (hz2 q3))
    refine z_iconst zh dX9_isLetter_24 ki_1 ?_
    refine z_goto (tgt := 29) zh dX9_isLetter_25 rfl ?_
    exact z_zret zh dX9_isLetter_29 (ra_01 (ra_w rl_1 (by decide) (by decide))) ⟨_, rfl, rfl, rfl, (ra_w rl_1 (by decide) (by decide)), (fun _ => (ra_w r5 (by decide) (by decide)))⟩
  · have r6 := rb_eq (u := 0) (v := 0) hx1 ra_z q3 (by decide) (by decide)
    refine z_aloadnR zh dX9_isLetter_12 rfl ?_
    refine z_iloadn zh dX9_isLetter_13 rfl ?_
    refine z_bipush zh dX9_isLetter_14 kb_65 ?_
    refine z_bipush zh dX9_isLetter_16 kb_90 ?_
    refine z_callVI zh mv_Y_79 dX9_isLetter_18 ck_Y rfl (s_X9_isIn g) ⟨Nat.le_of_ble_eq_true rfl, Nat.le_of_ble_eq_true rfl⟩ rfl rfl (Nat.le_of_ble_eq_true rfl) ?_
    rintro x7 _ _ ⟨rfl, rfl, hx7, hz8⟩
    refine z_if_eq (tgt := 28) zh dX9_isLetter_21 rfl (fun q9 => ?_) (fun q9 => ?_)
    · have r10 := rb_eq (u := 0) (v := 0) hx7 ra_z q9 (by decide) (by decide)
      refine z_iconst zh dX9_isLetter_28 ki_0 ?_
      exact z_zret zh dX9_isLetter_29 (ra_01 (ra_w rl_0 (by decide) (by decide))) ⟨_, rfl, rfl, rfl, (ra_w rl_0 (by decide) (by decide)), (fun q => absurd rfl q)⟩
    · have r11 : Ra 1 1 x7 := rb_ne_lo hx7 ra_z q9 (by decide)
      have r12 : Ra 65 90 a1 := (rb_in rl_65 rl_90 (hz8 q9))
      refine z_iconst zh dX9_isLetter_24 ki_1 ?_
      refine z_goto (tgt := 29) zh dX9_isLetter_25 rfl ?_
      exact z_zret zh dX9_isLetter_29 (ra_01 (ra_w rl_1 (by decide) (by decide))) ⟨_, rfl, rfl, rfl, (ra_w rl_1 (by decide) (by decide)), (fun _ => (ra_w r12 (by decide) (by decide)))⟩
set_option maxRecDepth 20000 in
theorem s_X9_openOf (g : GE) {sp : Nat → Nat → Bool} {σ : Iv} {iv : Iv} {lv : Lv} {a1 : Int32} {a2 : Int32} (ha1 : Ra (-1) 5 a1) (ha2 : Ra 0 1 a2) (hG : SI sp σ iv)  : ConI g yX9_openOf cX9_openOf 5 (some .int) 3 [rf g 551, .int a1, .int a2] iv lv (fun r iv' lv' => iv = iv' ∧ lv = lv' ∧ True) := by
  refine con_intro (own := "RollingNetsModel") (by decide +kernel) rfl (Nat.le_of_ble_eq_true rfl) (L0 := [some (rf g 551), some (.int a1), some (.int a2), none, none]) rfl (fun Z zh => ?_)
  refine z_iconst zh dX9_openOf_0 ki_0 ?_
  refine z_istoren zh dX9_openOf_1 (by decide) (L' := [some (rf g 551), some (.int a1), some (.int a2), some (.int (nI 0)), none]) rfl ?_
  refine z_iconst zh dX9_openOf_2 ki_0 ?_
  refine z_istore zh dX9_openOf_3 (by decide) (L' := [some (rf g 551), some (.int a1), some (.int a2), some (.int (nI 0)), some (.int (nI 0))]) rfl ?_
  have J5 : ∀ (n : Nat) (x1 : Int32) (x2 : Int32), Ra 0 200 x2 → 200 - x2.toInt < (n : Int) → Z 5 [some (rf g 551), some (.int a1), some (.int a2), some (.int x1), some (.int x2)] [] iv lv := by
    intro n
    induction n with
    | zero => intro x1 x2 hx2 hn5; exact (ms_uz hx2 hn5).elim
    | succ n ih5 =>
      intro x1 x2 hx2 hn5
      refine z_iload zh dX9_openOf_5 rfl ?_
      refine z_aloadnR zh dX9_openOf_7 rfl ?_
      refine z_getf zh fl_Y_7 dX9_openOf_8 ck_Y rfl rfl ?_
      refine z_bipush zh dX9_openOf_11 kb_7 ?_
      refine y_ialdN zh ck_now dX9_openOf_13 (by decide) (fun x3 ex3 => ?_)
      have hx3 : Ra 0 200 x3 := ra_of ex3 (nr_l hG 7 rfl)
      refine z_icmp_ge (tgt := 61) zh dX9_openOf_14 rfl (fun q4 => ?_) (fun q4 => ?_)
      · refine z_iloadn zh dX9_openOf_61 rfl ?_
        exact z_iret zh dX9_openOf_62 ⟨_, rfl, rfl, rfl, trivial⟩
      · have r5 : Ra 0 199 x2 := rb_lt_l hx3 hx2 (rb_nle q4) (by decide)
        have r6 : Ra 1 200 x3 := rb_lt_r hx2 hx3 (rb_nle q4) (by decide)
        refine z_iloadn zh dX9_openOf_17 rfl ?_
        refine z_iconst zh dX9_openOf_18 ki_m1 ?_
        have J55 : ∀ (x7 : Int32), Z 55 [some (rf g 551), some (.int a1), some (.int a2), some (.int x7), some (.int x2)] [] iv lv := by
          intro x7
          refine y_iinc (L' := fun z => [some (rf g 551), some (.int a1), some (.int a2), some (.int x7), some (.int z)]) zh dX9_openOf_55 (by decide) rfl (by decide +kernel) r5 (u := 1) (v := 200) rfl rfl (by decide) (by decide) (fun _ => rfl) (fun x8 hc8 hx8 => ?_)
          refine z_goto (tgt := 5) zh dX9_openOf_58 rfl ?_
          exact ih5 x7 x8 (ra_w hx8 (by decide) (by decide)) (ms_up hc8 (by decide) hn5)
        have J33 : Z 33 [some (rf g 551), some (.int a1), some (.int a2), some (.int x1), some (.int x2)] [] iv lv := by
          refine z_aloadnR zh dX9_openOf_33 rfl ?_
          refine z_iload zh dX9_openOf_34 rfl ?_
          refine z_iconst zh dX9_openOf_36 ki_5 ?_
          refine z_callVI zh mv_Y_151 dX9_openOf_37 ck_Y rfl (s_X9_tradeOf g r5 (ra_w rl_5 (by decide) (by decide)) hG) ⟨Nat.le_of_ble_eq_true rfl, Nat.le_of_ble_eq_true rfl⟩ rfl rfl (Nat.le_of_ble_eq_true rfl) ?_
          rintro x9 _ _ ⟨rfl, rfl, z10, ez10, ex9⟩
          refine z_iloadn zh dX9_openOf_40 rfl ?_
          refine z_icmp_ne (tgt := 55) zh dX9_openOf_41 rfl (fun q11 => ?_) (fun q11 => ?_)
          · exact J55 x1
          · have r12 := rb_eq (u := 0) (v := 1) (ra_tt x9) ha2 q11 (by decide) (by decide)
            refine z_iloadn zh dX9_openOf_44 rfl ?_
            refine z_aloadnR zh dX9_openOf_45 rfl ?_
            refine z_iload zh dX9_openOf_46 rfl ?_
            refine z_bipush zh dX9_openOf_48 kb_7 ?_
            refine z_callVI zh mv_Y_151 dX9_openOf_50 ck_Y rfl (s_X9_tradeOf g r5 (ra_w rl_7 (by decide) (by decide)) hG) ⟨Nat.le_of_ble_eq_true rfl, Nat.le_of_ble_eq_true rfl⟩ rfl rfl (Nat.le_of_ble_eq_true rfl) ?_
            rintro x13 _ _ ⟨rfl, rfl, z14, ez14, ex13⟩
            refine y_iaddT zh dX9_openOf_53 (fun x15 => ?_)
            refine z_istoren zh dX9_openOf_54 (by decide) (L' := [some (rf g 551), some (.int a1), some (.int a2), some (.int x15), some (.int x2)]) rfl ?_
            exact J55 x15
        refine z_icmp_eq (tgt := 33) zh dX9_openOf_19 rfl (fun q16 => ?_) (fun q16 => ?_)
        · have r17 := rb_eq (u := (-1)) (v := (-1)) ha1 rl_n1 q16 (by decide) (by decide)
          exact J33
        · have r18 : Ra 0 5 a1 := rb_ne_lo ha1 rl_n1 q16 (by decide)
          refine z_aloadnR zh dX9_openOf_22 rfl ?_
          refine z_iload zh dX9_openOf_23 rfl ?_
          refine z_iconst zh dX9_openOf_25 ki_2 ?_
          refine z_callVI zh mv_Y_151 dX9_openOf_26 ck_Y rfl (s_X9_tradeOf g r5 (ra_w rl_2 (by decide) (by decide)) hG) ⟨Nat.le_of_ble_eq_true rfl, Nat.le_of_ble_eq_true rfl⟩ rfl rfl (Nat.le_of_ble_eq_true rfl) ?_
          rintro x19 _ _ ⟨rfl, rfl, z20, ez20, ex19⟩
          have hx19 : Ra 0 5 x19 := ra_of ex19 (nr_t2 hG x2.toInt (by have := r5.1; have := r5.2; have := rl_2.1; have := rl_2.2; omega) (by have := r5.1; have := r5.2; have := rl_2.1; have := rl_2.2; omega) (by have := r5.1; have := r5.2; have := rl_2.1; have := rl_2.2; omega))
          refine z_iloadn zh dX9_openOf_29 rfl ?_
          refine z_icmp_ne (tgt := 55) zh dX9_openOf_30 rfl (fun q21 => ?_) (fun q21 => ?_)
          · exact J55 x1
          · exact J33
  exact J5 201 (nI 0) (nI 0) (ra_w rl_0 (by decide) (by decide)) (ms_u0 rl_0 (by decide))
set_option maxRecDepth 20000 in
theorem s_X9_sumOf (g : GE) {sp : Nat → Nat → Bool} {σ : Iv} {iv : Iv} {lv : Lv} {a1 : Int32} {a2 : Int32} (ha1 : Ra 0 5 a1) (ha2 : Ra 2 4 a2) (hG : SI sp σ iv)  : ConI g yX9_sumOf cX9_sumOf 5 (some .int) 6 [rf g 551, .int a1, .int a2] iv lv (fun r iv' lv' => iv = iv' ∧ lv = lv' ∧ True) := by
  refine con_intro (own := "RollingNetsModel") (by decide +kernel) rfl (Nat.le_of_ble_eq_true rfl) (L0 := [some (rf g 551), some (.int a1), some (.int a2), none, none]) rfl (fun Z zh => ?_)
  refine z_iconst zh dX9_sumOf_0 ki_0 ?_
  refine z_istoren zh dX9_sumOf_1 (by decide) (L' := [some (rf g 551), some (.int a1), some (.int a2), some (.int (nI 0)), none]) rfl ?_
  refine z_iconst zh dX9_sumOf_2 ki_0 ?_
  refine z_istore zh dX9_sumOf_3 (by decide) (L' := [some (rf g 551), some (.int a1), some (.int a2), some (.int (nI 0)), some (.int (nI 0))]) rfl ?_
  have J5 : ∀ (n : Nat) (x1 : Int32) (x2 : Int32), Ra 0 12 x2 → 12 - x2.toInt < (n : Int) → Z 5 [some (rf g 551), some (.int a1), some (.int a2), some (.int x1), some (.int x2)] [] iv lv := by
    intro n
    induction n with
    | zero => intro x1 x2 hx2 hn5; exact (ms_uz hx2 hn5).elim
    | succ n ih5 =>
      intro x1 x2 hx2 hn5
      refine z_iload zh dX9_sumOf_5 rfl ?_
      refine z_aloadnR zh dX9_sumOf_7 rfl ?_
      refine z_callVI zh mv_Y_61 dX9_sumOf_8 ck_Y rfl (s_X9_memberMany g  hG) ⟨Nat.le_of_ble_eq_true rfl, Nat.le_of_ble_eq_true rfl⟩ rfl rfl (Nat.le_of_ble_eq_true rfl) ?_
      rintro x3 _ _ ⟨rfl, rfl, hx3⟩
      refine z_icmp_ge (tgt := 60) zh dX9_sumOf_11 rfl (fun q4 => ?_) (fun q4 => ?_)
      · have r5 : Ra 2 12 x2 := rb_le_r hx3 hx2 q4 (by decide)
        refine z_iloadn zh dX9_sumOf_60 rfl ?_
        exact z_iret zh dX9_sumOf_61 ⟨_, rfl, rfl, rfl, trivial⟩
      · have r6 : Ra 0 11 x2 := rb_lt_l hx3 hx2 (rb_nle q4) (by decide)
        refine z_iloadn zh dX9_sumOf_14 rfl ?_
        refine z_iloadn zh dX9_sumOf_15 rfl ?_
        refine z_iconst zh dX9_sumOf_16 ki_2 ?_
        have J52 : ∀ (x7 : Int32), Z 52 [some (rf g 551), some (.int a1), some (.int a2), some (.int x1), some (.int x2)] [.int x7, .int x1] iv lv := by
          intro x7
          refine y_iaddT zh dX9_sumOf_52 (fun x8 => ?_)
          refine z_istoren zh dX9_sumOf_53 (by decide) (L' := [some (rf g 551), some (.int a1), some (.int a2), some (.int x8), some (.int x2)]) rfl ?_
          refine y_iinc (L' := fun z => [some (rf g 551), some (.int a1), some (.int a2), some (.int x8), some (.int z)]) zh dX9_sumOf_54 (by decide) rfl (by decide +kernel) r6 (u := 1) (v := 12) rfl rfl (by decide) (by decide) (fun _ => rfl) (fun x9 hc9 hx9 => ?_)
          refine z_goto (tgt := 5) zh dX9_sumOf_57 rfl ?_
          exact ih5 x8 x9 (ra_w hx9 (by decide) (by decide)) (ms_up hc9 (by decide) hn5)
        refine z_icmp_ne (tgt := 30) zh dX9_sumOf_17 rfl (fun q10 => ?_) (fun q10 => ?_)
        · have r11 : Ra 3 4 a2 := rb_ne_lo ha2 rl_2 q10 (by decide)
          refine z_iloadn zh dX9_sumOf_30 rfl ?_
          refine z_iconst zh dX9_sumOf_31 ki_3 ?_
          refine z_icmp_ne (tgt := 45) zh dX9_sumOf_32 rfl (fun q12 => ?_) (fun q12 => ?_)
          · have r13 : Ra 4 4 a2 := rb_ne_lo r11 rl_3 q12 (by decide)
            refine z_aloadnR zh dX9_sumOf_45 rfl ?_
            refine z_iload zh dX9_sumOf_46 rfl ?_
            refine z_iloadn zh dX9_sumOf_48 rfl ?_
            refine z_callVI zh mv_Y_73 dX9_sumOf_49 ck_Y rfl (s_X9_stockOf g r6 ha1 hG) ⟨Nat.le_of_ble_eq_true rfl, Nat.le_of_ble_eq_true rfl⟩ rfl rfl (Nat.le_of_ble_eq_true rfl) ?_
            rintro x14 _ _ ⟨rfl, rfl, _⟩
            exact J52 x14
          · have r15 := rb_eq (u := 3) (v := 3) r11 rl_3 q12 (by decide) (by decide)
            refine z_aloadnR zh dX9_sumOf_35 rfl ?_
            refine z_iload zh dX9_sumOf_36 rfl ?_
            refine z_iloadn zh dX9_sumOf_38 rfl ?_
            refine z_callVI zh mv_Y_182 dX9_sumOf_39 ck_Y rfl (s_X9_shortOf g r6 ha1 hG) ⟨Nat.le_of_ble_eq_true rfl, Nat.le_of_ble_eq_true rfl⟩ rfl rfl (Nat.le_of_ble_eq_true rfl) ?_
            rintro x16 _ _ ⟨rfl, rfl, _⟩
            refine z_goto (tgt := 52) zh dX9_sumOf_42 rfl ?_
            exact J52 x16
        · have r17 := rb_eq (u := 2) (v := 2) ha2 rl_2 q10 (by decide) (by decide)
          refine z_aloadnR zh dX9_sumOf_20 rfl ?_
          refine z_iload zh dX9_sumOf_21 rfl ?_
          refine z_iloadn zh dX9_sumOf_23 rfl ?_
          refine z_callVI zh mv_Y_200 dX9_sumOf_24 ck_Y rfl (s_X9_longOf g r6 ha1 hG) ⟨Nat.le_of_ble_eq_true rfl, Nat.le_of_ble_eq_true rfl⟩ rfl rfl (Nat.le_of_ble_eq_true rfl) ?_
          rintro x18 _ _ ⟨rfl, rfl, _⟩
          refine z_goto (tgt := 52) zh dX9_sumOf_27 rfl ?_
          exact J52 x18
  exact J5 13 (nI 0) (nI 0) (ra_w rl_0 (by decide) (by decide)) (ms_u0 rl_0 (by decide))
set_option maxRecDepth 20000 in
theorem s_X9_tradedOf (g : GE) {sp : Nat → Nat → Bool} {σ : Iv} {iv : Iv} {lv : Lv} {a1 : Int32} {a2 : Int32} (ha1 : Ra 0 5 a1) (ha2 : Ra 0 1 a2) (hG : SI sp σ iv)  : ConI g yX9_tradedOf cX9_tradedOf 5 (some .int) 3 [rf g 551, .int a1, .int a2] iv lv (fun r iv' lv' => iv = iv' ∧ lv = lv' ∧ True) := by
  refine con_intro (own := "RollingNetsModel") (by decide +kernel) rfl (Nat.le_of_ble_eq_true rfl) (L0 := [some (rf g 551), some (.int a1), some (.int a2), none, none]) rfl (fun Z zh => ?_)
  refine z_iconst zh dX9_tradedOf_0 ki_0 ?_
  refine z_istoren zh dX9_tradedOf_1 (by decide) (L' := [some (rf g 551), some (.int a1), some (.int a2), some (.int (nI 0)), none]) rfl ?_
  refine z_iconst zh dX9_tradedOf_2 ki_0 ?_
  refine z_istore zh dX9_tradedOf_3 (by decide) (L' := [some (rf g 551), some (.int a1), some (.int a2), some (.int (nI 0)), some (.int (nI 0))]) rfl ?_
  have J5 : ∀ (n : Nat) (x1 : Int32) (x2 : Int32), Ra 0 200 x2 → 200 - x2.toInt < (n : Int) → Z 5 [some (rf g 551), some (.int a1), some (.int a2), some (.int x1), some (.int x2)] [] iv lv := by
    intro n
    induction n with
    | zero => intro x1 x2 hx2 hn5; exact (ms_uz hx2 hn5).elim
    | succ n ih5 =>
      intro x1 x2 hx2 hn5
      refine z_iload zh dX9_tradedOf_5 rfl ?_
      refine z_aloadnR zh dX9_tradedOf_7 rfl ?_
      refine z_getf zh fl_Y_7 dX9_tradedOf_8 ck_Y rfl rfl ?_
      refine z_bipush zh dX9_tradedOf_11 kb_7 ?_
      refine y_ialdN zh ck_now dX9_tradedOf_13 (by decide) (fun x3 ex3 => ?_)
      have hx3 : Ra 0 200 x3 := ra_of ex3 (nr_l hG 7 rfl)
      refine z_icmp_ge (tgt := 52) zh dX9_tradedOf_14 rfl (fun q4 => ?_) (fun q4 => ?_)
      · refine z_iloadn zh dX9_tradedOf_52 rfl ?_
        exact z_iret zh dX9_tradedOf_53 ⟨_, rfl, rfl, rfl, trivial⟩
      · have r5 : Ra 0 199 x2 := rb_lt_l hx3 hx2 (rb_nle q4) (by decide)
        have r6 : Ra 1 200 x3 := rb_lt_r hx2 hx3 (rb_nle q4) (by decide)
        refine z_aloadnR zh dX9_tradedOf_17 rfl ?_
        refine z_iload zh dX9_tradedOf_18 rfl ?_
        refine z_iconst zh dX9_tradedOf_20 ki_2 ?_
        refine z_callVI zh mv_Y_151 dX9_tradedOf_21 ck_Y rfl (s_X9_tradeOf g r5 (ra_w rl_2 (by decide) (by decide)) hG) ⟨Nat.le_of_ble_eq_true rfl, Nat.le_of_ble_eq_true rfl⟩ rfl rfl (Nat.le_of_ble_eq_true rfl) ?_
        rintro x7 _ _ ⟨rfl, rfl, z8, ez8, ex7⟩
        have hx7 : Ra 0 5 x7 := ra_of ex7 (nr_t2 hG x2.toInt (by have := r5.1; have := r5.2; have := rl_2.1; have := rl_2.2; omega) (by have := r5.1; have := r5.2; have := rl_2.1; have := rl_2.2; omega) (by have := r5.1; have := r5.2; have := rl_2.1; have := rl_2.2; omega))
        refine z_iloadn zh dX9_tradedOf_24 rfl ?_
        have J46 : ∀ (x9 : Int32), Z 46 [some (rf g 551), some (.int a1), some (.int a2), some (.int x9), some (.int x2)] [] iv lv := by
          intro x9
          refine y_iinc (L' := fun z => [some (rf g 551), some (.int a1), some (.int a2), some (.int x9), some (.int z)]) zh dX9_tradedOf_46 (by decide) rfl (by decide +kernel) r5 (u := 1) (v := 200) rfl rfl (by decide) (by decide) (fun _ => rfl) (fun x10 hc10 hx10 => ?_)
          refine z_goto (tgt := 5) zh dX9_tradedOf_49 rfl ?_
          exact ih5 x9 x10 (ra_w hx10 (by decide) (by decide)) (ms_up hc10 (by decide) hn5)
        refine z_icmp_ne (tgt := 46) zh dX9_tradedOf_25 rfl (fun q11 => ?_) (fun q11 => ?_)
        · exact J46 x1
        · refine z_iloadn zh dX9_tradedOf_28 rfl ?_
          refine z_iloadn zh dX9_tradedOf_29 rfl ?_
          have J44 : ∀ (x13 : Int32), Z 44 [some (rf g 551), some (.int a1), some (.int a2), some (.int x1), some (.int x2)] [.int x13, .int x1] iv lv := by
            intro x13
            refine y_iaddT zh dX9_tradedOf_44 (fun x14 => ?_)
            refine z_istoren zh dX9_tradedOf_45 (by decide) (L' := [some (rf g 551), some (.int a1), some (.int a2), some (.int x14), some (.int x2)]) rfl ?_
            exact J46 x14
          refine z_if_eq (tgt := 43) zh dX9_tradedOf_30 rfl (fun q15 => ?_) (fun q15 => ?_)
          · have r16 := rb_eq (u := 0) (v := 0) ha2 ra_z q15 (by decide) (by decide)
            refine z_iconst zh dX9_tradedOf_43 ki_1 ?_
            exact J44 (nI 1)
          · have r17 : Ra 1 1 a2 := rb_ne_lo ha2 ra_z q15 (by decide)
            refine z_aloadnR zh dX9_tradedOf_33 rfl ?_
            refine z_iload zh dX9_tradedOf_34 rfl ?_
            refine z_iconst zh dX9_tradedOf_36 ki_3 ?_
            refine z_callVI zh mv_Y_151 dX9_tradedOf_37 ck_Y rfl (s_X9_tradeOf g r5 (ra_w rl_3 (by decide) (by decide)) hG) ⟨Nat.le_of_ble_eq_true rfl, Nat.le_of_ble_eq_true rfl⟩ rfl rfl (Nat.le_of_ble_eq_true rfl) ?_
            rintro x18 _ _ ⟨rfl, rfl, z19, ez19, ex18⟩
            refine z_goto (tgt := 44) zh dX9_tradedOf_40 rfl ?_
            exact J44 x18
  exact J5 201 (nI 0) (nI 0) (ra_w rl_0 (by decide) (by decide)) (ms_u0 rl_0 (by decide))
set_option maxRecDepth 20000 in
theorem s_X9_issue (g : GE) {sp : Nat → Nat → Bool} {σ : Iv} {iv : Iv} {lv : Lv} {a1 : Int32} {a2 : Int32}  (hG : SI sp σ iv)  : ConI g yX9_issue cX9_issue 3 (some .int) 7 [rf g 551, .int a1, .int a2] iv lv (fun r iv lv => SI sp σ iv ∧ True) := by
  refine con_intro (own := "RollingNetsModel") (by decide +kernel) rfl (Nat.le_of_ble_eq_true rfl) (L0 := [some (rf g 551), some (.int a1), some (.int a2)]) rfl (fun Z zh => ?_)
  refine z_aloadnR zh dX9_issue_0 rfl ?_
  refine z_iconst zh dX9_issue_1 ki_0 ?_
  refine z_putI zh fl_Y_58 dX9_issue_2 ck_Y rfl rfl (Nat.le_of_ble_eq_true rfl) (Or.inl rfl) ?_
  have hG : SI sp σ (upI iv 551 0 (nI 0)) := si_w (k := 551) (j := 0) hG (by decide) (by decide) (sp_no hG ((spc_Y (q := 0)).trans rfl)) (fun lo hi q => (rx_none rfl) lo hi ((rg_Y (q := 0)).symm.trans q))
  have em1 : upI iv 551 0 (nI 0) 551 0 = nI 0 := by rw [upI_at, if_pos ⟨rfl, rfl⟩]
  generalize upI iv 551 0 (nI 0) = iv at hG em1 ⊢
  refine z_aloadnR zh dX9_issue_5 rfl ?_
  refine z_iloadn zh dX9_issue_6 rfl ?_
  refine z_callVI zh mv_Y_94 dX9_issue_7 ck_Y rfl (s_X9_isIssue g  hG) ⟨Nat.le_of_ble_eq_true rfl, Nat.le_of_ble_eq_true rfl⟩ rfl rfl (Nat.le_of_ble_eq_true rfl) ?_
  rintro x2 _ _ ⟨rfl, rfl, hx2, hz3⟩
  refine z_if_eq (tgt := 24) zh dX9_issue_10 rfl (fun q4 => ?_) (fun q4 => ?_)
  · have r5 := rb_eq (u := 0) (v := 0) hx2 ra_z q4 (by decide) (by decide)
    refine z_iconst zh dX9_issue_24 ki_m1 ?_
    exact z_iret zh dX9_issue_25 ⟨_, rfl, hG, trivial⟩
  · have r6 : Ra 1 1 x2 := rb_ne_lo hx2 ra_z q4 (by decide)
    have r7 : Ra 0 5 a1 := (hz3 q4)
    refine z_aloadnR zh dX9_issue_13 rfl ?_
    refine z_iloadn zh dX9_issue_14 rfl ?_
    refine z_iconst zh dX9_issue_15 ki_0 ?_
    refine z_bipush zh dX9_issue_16 kb_8 ?_
    refine z_callVI zh mv_Y_79 dX9_issue_18 ck_Y rfl (s_X9_isIn g) ⟨Nat.le_of_ble_eq_true rfl, Nat.le_of_ble_eq_true rfl⟩ rfl rfl (Nat.le_of_ble_eq_true rfl) ?_
    rintro x8 _ _ ⟨rfl, rfl, hx8, hz9⟩
    refine z_if_ne (tgt := 26) zh dX9_issue_21 rfl (fun q10 => ?_) (fun q10 => ?_)
    · have r11 : Ra 1 1 x8 := rb_ne_lo hx8 ra_z q10 (by decide)
      have r12 : Ra 0 8 a2 := (rb_in rl_0 rl_8 (hz9 q10))
      refine z_iloadn zh dX9_issue_26 rfl ?_
      refine z_bipush zh dX9_issue_27 kb_6 ?_
      refine z_icmp_le (tgt := 49) zh dX9_issue_29 rfl (fun q13 => ?_) (fun q13 => ?_)
      · have r14 : Ra 0 6 a2 := rb_le_l rl_6 r12 q13 (by decide)
        refine z_iloadn zh dX9_issue_49 rfl ?_
        refine z_if_ne (tgt := 59) zh dX9_issue_50 rfl (fun q15 => ?_) (fun q15 => ?_)
        · have r16 : Ra 1 6 a2 := rb_ne_lo r14 ra_z q15 (by decide)
          refine z_iloadn zh dX9_issue_59 rfl ?_
          refine z_iconst zh dX9_issue_60 ki_1 ?_
          refine z_icmp_ne (tgt := 70) zh dX9_issue_61 rfl (fun q17 => ?_) (fun q17 => ?_)
          · have r18 : Ra 2 6 a2 := rb_ne_lo r16 rl_1 q17 (by decide)
            refine z_iloadn zh dX9_issue_70 rfl ?_
            refine z_iconst zh dX9_issue_71 ki_5 ?_
            refine z_icmp_ge (tgt := 82) zh dX9_issue_72 rfl (fun q19 => ?_) (fun q19 => ?_)
            · have r20 : Ra 5 6 a2 := rb_le_r rl_5 r18 q19 (by decide)
              refine z_iloadn zh dX9_issue_82 rfl ?_
              refine z_iconst zh dX9_issue_83 ki_5 ?_
              refine z_icmp_ne (tgt := 95) zh dX9_issue_84 rfl (fun q21 => ?_) (fun q21 => ?_)
              · have r22 : Ra 6 6 a2 := rb_ne_lo r20 rl_5 q21 (by decide)
                refine z_aloadnR zh dX9_issue_95 rfl ?_
                refine z_iloadn zh dX9_issue_96 rfl ?_
                refine z_iconst zh dX9_issue_97 ki_1 ?_
                refine z_callVI zh mv_Y_341 dX9_issue_98 ck_Y rfl (s_X9_openOf g (ra_w r7 (by decide) (by decide)) (ra_w rl_1 (by decide) (by decide)) hG) ⟨Nat.le_of_ble_eq_true rfl, Nat.le_of_ble_eq_true rfl⟩ rfl rfl (Nat.le_of_ble_eq_true rfl) ?_
                rintro x23 _ _ ⟨rfl, rfl, _⟩
                exact z_iret zh dX9_issue_101 ⟨_, rfl, hG, trivial⟩
              · have r24 := rb_eq (u := 5) (v := 5) r20 rl_5 q21 (by decide) (by decide)
                refine z_aloadnR zh dX9_issue_87 rfl ?_
                refine z_iloadn zh dX9_issue_88 rfl ?_
                refine z_callVI zh mv_Y_338 dX9_issue_89 ck_Y rfl (s_X9_eldest g r7 hG) ⟨Nat.le_of_ble_eq_true rfl, Nat.le_of_ble_eq_true rfl⟩ rfl rfl (Nat.le_of_ble_eq_true rfl) ?_
                rintro x25 _ _ ⟨rfl, rfl, hx25⟩
                refine z_goto (tgt := 101) zh dX9_issue_92 rfl ?_
                exact z_iret zh dX9_issue_101 ⟨_, rfl, hG, trivial⟩
            · have r26 : Ra 2 4 a2 := rb_lt_l rl_5 r18 (rb_nle q19) (by decide)
              refine z_aloadnR zh dX9_issue_75 rfl ?_
              refine z_iloadn zh dX9_issue_76 rfl ?_
              refine z_iloadn zh dX9_issue_77 rfl ?_
              refine z_callVI zh mv_Y_335 dX9_issue_78 ck_Y rfl (s_X9_sumOf g r7 r26 hG) ⟨Nat.le_of_ble_eq_true rfl, Nat.le_of_ble_eq_true rfl⟩ rfl rfl (Nat.le_of_ble_eq_true rfl) ?_
              rintro x27 _ _ ⟨rfl, rfl, _⟩
              exact z_iret zh dX9_issue_81 ⟨_, rfl, hG, trivial⟩
          · have r28 := rb_eq (u := 1) (v := 1) r16 rl_1 q17 (by decide) (by decide)
            refine z_aloadnR zh dX9_issue_64 rfl ?_
            refine z_iloadn zh dX9_issue_65 rfl ?_
            refine z_callVI zh mv_Y_203 dX9_issue_66 ck_Y rfl (s_X9_markedOf g r7 hG) ⟨Nat.le_of_ble_eq_true rfl, Nat.le_of_ble_eq_true rfl⟩ rfl rfl (Nat.le_of_ble_eq_true rfl) ?_
            rintro x29 _ _ ⟨rfl, rfl, _⟩
            exact z_iret zh dX9_issue_69 ⟨_, rfl, hG, trivial⟩
        · have r30 := rb_eq (u := 0) (v := 0) r14 ra_z q15 (by decide) (by decide)
          refine z_aloadnR zh dX9_issue_53 rfl ?_
          refine z_iloadn zh dX9_issue_54 rfl ?_
          refine z_callVI zh mv_Y_197 dX9_issue_55 ck_Y rfl (s_X9_priceOf g r7 hG) ⟨Nat.le_of_ble_eq_true rfl, Nat.le_of_ble_eq_true rfl⟩ rfl rfl (Nat.le_of_ble_eq_true rfl) ?_
          rintro x31 _ _ ⟨rfl, rfl, _⟩
          exact z_iret zh dX9_issue_58 ⟨_, rfl, hG, trivial⟩
      · have r32 : Ra 7 8 a2 := rb_lt_r rl_6 r12 (rb_nle q13) (by decide)
        refine z_aloadnR zh dX9_issue_32 rfl ?_
        refine z_iloadn zh dX9_issue_33 rfl ?_
        refine z_iloadn zh dX9_issue_34 rfl ?_
        refine z_bipush zh dX9_issue_35 kb_8 ?_
        have J45 : ∀ (iv : Iv) (lv : Lv) (x33 : Int32), SI sp σ iv → Ra 0 1 x33 → iv 551 0 = nI 0 → Z 45 [some (rf g 551), some (.int a1), some (.int a2)] [.int x33, .int a1, rf g 551] iv lv := by
          intro iv lv x33 hG hx33 em34
          refine z_callVI zh mv_Y_331 dX9_issue_45 ck_Y rfl (s_X9_tradedOf g r7 hx33 hG) ⟨Nat.le_of_ble_eq_true rfl, Nat.le_of_ble_eq_true rfl⟩ rfl rfl (Nat.le_of_ble_eq_true rfl) ?_
          rintro x35 _ _ ⟨rfl, rfl, _⟩
          exact z_iret zh dX9_issue_48 ⟨_, rfl, hG, trivial⟩
        refine z_icmp_ne (tgt := 44) zh dX9_issue_37 rfl (fun q36 => ?_) (fun q36 => ?_)
        · have r37 : Ra 7 7 a2 := rb_ne_hi r32 rl_8 q36 (by decide)
          refine z_iconst zh dX9_issue_44 ki_0 ?_
          exact J45 iv lv (nI 0) hG (ra_w rl_0 (by decide) (by decide)) em1
        · have r38 := rb_eq (u := 8) (v := 8) r32 rl_8 q36 (by decide) (by decide)
          refine z_iconst zh dX9_issue_40 ki_1 ?_
          refine z_goto (tgt := 45) zh dX9_issue_41 rfl ?_
          exact J45 iv lv (nI 1) hG (ra_w rl_1 (by decide) (by decide)) em1
    · have r39 := rb_eq (u := 0) (v := 0) hx8 ra_z q10 (by decide) (by decide)
      refine z_iconst zh dX9_issue_24 ki_m1 ?_
      exact z_iret zh dX9_issue_25 ⟨_, rfl, hG, trivial⟩
set_option maxRecDepth 20000 in
theorem s_X9_lacksOf (g : GE) {sp : Nat → Nat → Bool} {σ : Iv} {iv : Iv} {lv : Lv} {a1 : Int32} (ha1 : Ra 0 11 a1) (hG : SI sp σ iv)  : ConL g yX9_lacksOf cX9_lacksOf 4 (some .long) 5 [rf g 551, .int a1] iv lv (fun r iv' lv' => iv = iv' ∧ lv = lv' ∧ True) := by
  refine con_intro (own := "RollingNetsModel") (by decide +kernel) rfl (Nat.le_of_ble_eq_true rfl) (L0 := [some (rf g 551), some (.int a1), none, none]) rfl (fun Z zh => ?_)
  refine z_aloadnR zh dX9_lacksOf_0 rfl ?_
  refine z_iloadn zh dX9_lacksOf_1 rfl ?_
  refine z_callVL zh mv_Y_318 dX9_lacksOf_2 ck_Y rfl (s_X9_demandOf g ha1 hG) ⟨Nat.le_of_ble_eq_true rfl, Nat.le_of_ble_eq_true rfl⟩ rfl rfl (Nat.le_of_ble_eq_true rfl) ?_
  rintro l1 _ _ ⟨rfl, rfl, _⟩
  refine z_aloadnR zh dX9_lacksOf_5 rfl ?_
  refine z_getf zh fl_Y_7 dX9_lacksOf_6 ck_Y rfl rfl ?_
  refine z_bipush zh dX9_lacksOf_9 kb_46 ?_
  refine z_iloadn zh dX9_lacksOf_11 rfl ?_
  refine y_iadd zh dX9_lacksOf_12 rl_46 ha1 (u := 46) (v := 57) rfl rfl (by decide) (by decide) (fun x2 hc2 hx2 => ?_)
  refine y_iald zh ck_now dX9_lacksOf_13 hx2 (by decide) (by decide) (fun x3 ex3 => ?_)
  refine y_i2l zh dX9_lacksOf_14 (fun l4 => ?_)
  refine y_lsub zh dX9_lacksOf_15 (fun l5 => ?_)
  refine z_lstoren zh dX9_lacksOf_16 (by decide) (L' := [some (rf g 551), some (.int a1), some (.long l5), none]) rfl ?_
  refine z_lloadn zh dX9_lacksOf_17 rfl ?_
  refine z_lconst (v := 0) zh dX9_lacksOf_18 (by decide) ?_
  refine y_lcmp zh dX9_lacksOf_19 (fun x6 hx6 => ?_)
  refine z_if_ge (tgt := 27) zh dX9_lacksOf_20 rfl (fun q7 => ?_) (fun q7 => ?_)
  · have r8 : Ra 0 1 x6 := rb_le_r ra_z hx6 q7 (by decide)
    refine z_lloadn zh dX9_lacksOf_27 rfl ?_
    exact z_lret zh dX9_lacksOf_28 ⟨_, rfl, rfl, rfl, trivial⟩
  · have r9 : Ra (-1) (-1) x6 := rb_lt_l ra_z hx6 (rb_nle q7) (by decide)
    refine z_lconst (v := 0) zh dX9_lacksOf_23 (by decide) ?_
    refine z_goto (tgt := 28) zh dX9_lacksOf_24 rfl ?_
    exact z_lret zh dX9_lacksOf_28 ⟨_, rfl, rfl, rfl, trivial⟩
set_option maxRecDepth 20000 in
theorem s_X9_lackMany (g : GE) {sp : Nat → Nat → Bool} {σ : Iv} {iv : Iv} {lv : Lv}   (hG : SI sp σ iv)  : ConI g yX9_lackMany cX9_lackMany 3 (some .int) 6 [rf g 551] iv lv (fun r iv' lv' => iv = iv' ∧ lv = lv' ∧ True) := by
  refine con_intro (own := "RollingNetsModel") (by decide +kernel) rfl (Nat.le_of_ble_eq_true rfl) (L0 := [some (rf g 551), none, none]) rfl (fun Z zh => ?_)
  refine z_iconst zh dX9_lackMany_0 ki_0 ?_
  refine z_istoren zh dX9_lackMany_1 (by decide) (L' := [some (rf g 551), some (.int (nI 0)), none]) rfl ?_
  refine z_iconst zh dX9_lackMany_2 ki_0 ?_
  refine z_istoren zh dX9_lackMany_3 (by decide) (L' := [some (rf g 551), some (.int (nI 0)), some (.int (nI 0))]) rfl ?_
  have J4 : ∀ (n : Nat) (x1 : Int32) (x2 : Int32), Ra 0 12 x2 → 12 - x2.toInt < (n : Int) → Z 4 [some (rf g 551), some (.int x1), some (.int x2)] [] iv lv := by
    intro n
    induction n with
    | zero => intro x1 x2 hx2 hn4; exact (ms_uz hx2 hn4).elim
    | succ n ih4 =>
      intro x1 x2 hx2 hn4
      refine z_iloadn zh dX9_lackMany_4 rfl ?_
      refine z_aloadnR zh dX9_lackMany_5 rfl ?_
      refine z_callVI zh mv_Y_61 dX9_lackMany_6 ck_Y rfl (s_X9_memberMany g  hG) ⟨Nat.le_of_ble_eq_true rfl, Nat.le_of_ble_eq_true rfl⟩ rfl rfl (Nat.le_of_ble_eq_true rfl) ?_
      rintro x3 _ _ ⟨rfl, rfl, hx3⟩
      refine z_icmp_ge (tgt := 32) zh dX9_lackMany_9 rfl (fun q4 => ?_) (fun q4 => ?_)
      · have r5 : Ra 2 12 x2 := rb_le_r hx3 hx2 q4 (by decide)
        refine z_iloadn zh dX9_lackMany_32 rfl ?_
        exact z_iret zh dX9_lackMany_33 ⟨_, rfl, rfl, rfl, trivial⟩
      · have r6 : Ra 0 11 x2 := rb_lt_l hx3 hx2 (rb_nle q4) (by decide)
        refine z_aloadnR zh dX9_lackMany_12 rfl ?_
        refine z_iloadn zh dX9_lackMany_13 rfl ?_
        refine z_callVL zh mv_Y_324 dX9_lackMany_14 ck_Y rfl (s_X9_lacksOf g r6 hG) ⟨Nat.le_of_ble_eq_true rfl, Nat.le_of_ble_eq_true rfl⟩ rfl rfl (Nat.le_of_ble_eq_true rfl) ?_
        rintro l7 _ _ ⟨rfl, rfl, _⟩
        refine z_lconst (v := 0) zh dX9_lackMany_17 (by decide) ?_
        refine y_lcmp zh dX9_lackMany_18 (fun x8 hx8 => ?_)
        have J26 : ∀ (x9 : Int32), Z 26 [some (rf g 551), some (.int x9), some (.int x2)] [] iv lv := by
          intro x9
          refine y_iinc (L' := fun z => [some (rf g 551), some (.int x9), some (.int z)]) zh dX9_lackMany_26 (by decide) rfl (by decide +kernel) r6 (u := 1) (v := 12) rfl rfl (by decide) (by decide) (fun _ => rfl) (fun x10 hc10 hx10 => ?_)
          refine z_goto (tgt := 4) zh dX9_lackMany_29 rfl ?_
          exact ih4 x9 x10 (ra_w hx10 (by decide) (by decide)) (ms_up hc10 (by decide) hn4)
        refine z_if_le (tgt := 26) zh dX9_lackMany_19 rfl (fun q11 => ?_) (fun q11 => ?_)
        · have r12 : Ra (-1) 0 x8 := rb_le_l ra_z hx8 q11 (by decide)
          exact J26 x1
        · have r13 : Ra 1 1 x8 := rb_lt_r ra_z hx8 (rb_nle q11) (by decide)
          refine z_iloadn zh dX9_lackMany_22 rfl ?_
          refine z_iconst zh dX9_lackMany_23 ki_1 ?_
          refine y_iaddT zh dX9_lackMany_24 (fun x14 => ?_)
          refine z_istoren zh dX9_lackMany_25 (by decide) (L' := [some (rf g 551), some (.int x14), some (.int x2)]) rfl ?_
          exact J26 x14
  exact J4 13 (nI 0) (nI 0) (ra_w rl_0 (by decide) (by decide)) (ms_u0 rl_0 (by decide))
set_option maxRecDepth 20000 in
theorem s_X9_openNotices (g : GE) {sp : Nat → Nat → Bool} {σ : Iv} {iv : Iv} {lv : Lv}   (hG : SI sp σ iv)  : ConI g yX9_openNotices cX9_openNotices 3 (some .int) 3 [rf g 551] iv lv (fun r iv' lv' => iv = iv' ∧ lv = lv' ∧ True) := by
  refine con_intro (own := "RollingNetsModel") (by decide +kernel) rfl (Nat.le_of_ble_eq_true rfl) (L0 := [some (rf g 551), none, none]) rfl (fun Z zh => ?_)
  refine z_iconst zh dX9_openNotices_0 ki_0 ?_
  refine z_istoren zh dX9_openNotices_1 (by decide) (L' := [some (rf g 551), some (.int (nI 0)), none]) rfl ?_
  refine z_iconst zh dX9_openNotices_2 ki_0 ?_
  refine z_istoren zh dX9_openNotices_3 (by decide) (L' := [some (rf g 551), some (.int (nI 0)), some (.int (nI 0))]) rfl ?_
  have J4 : ∀ (n : Nat) (x1 : Int32) (x2 : Int32), Ra 0 60 x2 → 60 - x2.toInt < (n : Int) → Z 4 [some (rf g 551), some (.int x1), some (.int x2)] [] iv lv := by
    intro n
    induction n with
    | zero => intro x1 x2 hx2 hn4; exact (ms_uz hx2 hn4).elim
    | succ n ih4 =>
      intro x1 x2 hx2 hn4
      refine z_iloadn zh dX9_openNotices_4 rfl ?_
      refine z_aloadnR zh dX9_openNotices_5 rfl ?_
      refine z_getf zh fl_Y_7 dX9_openNotices_6 ck_Y rfl rfl ?_
      refine z_bipush zh dX9_openNotices_9 kb_8 ?_
      refine y_ialdN zh ck_now dX9_openNotices_11 (by decide) (fun x3 ex3 => ?_)
      have hx3 : Ra 0 60 x3 := ra_of ex3 (nr_l hG 8 rfl)
      refine z_icmp_ge (tgt := 30) zh dX9_openNotices_12 rfl (fun q4 => ?_) (fun q4 => ?_)
      · refine z_iloadn zh dX9_openNotices_30 rfl ?_
        exact z_iret zh dX9_openNotices_31 ⟨_, rfl, rfl, rfl, trivial⟩
      · have r5 : Ra 0 59 x2 := rb_lt_l hx3 hx2 (rb_nle q4) (by decide)
        have r6 : Ra 1 60 x3 := rb_lt_r hx2 hx3 (rb_nle q4) (by decide)
        refine z_iloadn zh dX9_openNotices_15 rfl ?_
        refine z_aloadnR zh dX9_openNotices_16 rfl ?_
        refine z_iloadn zh dX9_openNotices_17 rfl ?_
        refine z_iconst zh dX9_openNotices_18 ki_4 ?_
        refine z_callVI zh mv_Y_157 dX9_openNotices_19 ck_Y rfl (s_X9_noticeOf g r5 (ra_w rl_4 (by decide) (by decide)) hG) ⟨Nat.le_of_ble_eq_true rfl, Nat.le_of_ble_eq_true rfl⟩ rfl rfl (Nat.le_of_ble_eq_true rfl) ?_
        rintro x7 _ _ ⟨rfl, rfl, z8, ez8, ex7⟩
        refine y_iaddT zh dX9_openNotices_22 (fun x9 => ?_)
        refine z_istoren zh dX9_openNotices_23 (by decide) (L' := [some (rf g 551), some (.int x9), some (.int x2)]) rfl ?_
        refine y_iinc (L' := fun z => [some (rf g 551), some (.int x9), some (.int z)]) zh dX9_openNotices_24 (by decide) rfl (by decide +kernel) r5 (u := 1) (v := 60) rfl rfl (by decide) (by decide) (fun _ => rfl) (fun x10 hc10 hx10 => ?_)
        refine z_goto (tgt := 4) zh dX9_openNotices_27 rfl ?_
        exact ih4 x9 x10 (ra_w hx10 (by decide) (by decide)) (ms_up hc10 (by decide) hn4)
  exact J4 61 (nI 0) (nI 0) (ra_w rl_0 (by decide) (by decide)) (ms_u0 rl_0 (by decide))
set_option maxRecDepth 20000 in
theorem s_X9_shortSet (g : GE) {sp : Nat → Nat → Bool} {σ : Iv} {iv : Iv} {lv : Lv}   (hG : SI sp σ iv)  : ConI g yX9_shortSet cX9_shortSet 4 (some .int) 5 [rf g 551] iv lv (fun r iv' lv' => iv = iv' ∧ lv = lv' ∧ True) := by
  refine con_intro (own := "RollingNetsModel") (by decide +kernel) rfl (Nat.le_of_ble_eq_true rfl) (L0 := [some (rf g 551), none, none, none]) rfl (fun Z zh => ?_)
  refine z_iconst zh dX9_shortSet_0 ki_0 ?_
  refine z_istoren zh dX9_shortSet_1 (by decide) (L' := [some (rf g 551), some (.int (nI 0)), none, none]) rfl ?_
  refine z_iconst zh dX9_shortSet_2 ki_0 ?_
  refine z_istoren zh dX9_shortSet_3 (by decide) (L' := [some (rf g 551), some (.int (nI 0)), some (.int (nI 0)), none]) rfl ?_
  have J4 : ∀ (n : Nat) (x1 : Int32) (x2 : Int32), Ra 0 12 x2 → 12 - x2.toInt < (n : Int) → Z 4 [some (rf g 551), some (.int x1), some (.int x2), none] [] iv lv := by
    intro n
    induction n with
    | zero => intro x1 x2 hx2 hn4; exact (ms_uz hx2 hn4).elim
    | succ n ih4 =>
      intro x1 x2 hx2 hn4
      refine z_iloadn zh dX9_shortSet_4 rfl ?_
      refine z_aloadnR zh dX9_shortSet_5 rfl ?_
      refine z_callVI zh mv_Y_61 dX9_shortSet_6 ck_Y rfl (s_X9_memberMany g  hG) ⟨Nat.le_of_ble_eq_true rfl, Nat.le_of_ble_eq_true rfl⟩ rfl rfl (Nat.le_of_ble_eq_true rfl) ?_
      rintro x3 _ _ ⟨rfl, rfl, hx3⟩
      refine z_icmp_ge (tgt := 47) zh dX9_shortSet_9 rfl (fun q4 => ?_) (fun q4 => ?_)
      · have r5 : Ra 2 12 x2 := rb_le_r hx3 hx2 q4 (by decide)
        refine z_iloadn zh dX9_shortSet_47 rfl ?_
        exact z_iret zh dX9_shortSet_48 ⟨_, rfl, rfl, rfl, trivial⟩
      · have r6 : Ra 0 11 x2 := rb_lt_l hx3 hx2 (rb_nle q4) (by decide)
        refine z_iconst zh dX9_shortSet_12 ki_0 ?_
        refine z_istoren zh dX9_shortSet_13 (by decide) (L' := [some (rf g 551), some (.int x1), some (.int x2), some (.int (nI 0))]) rfl ?_
        have J14 : ∀ (n : Nat) (x7 : Int32) (x8 : Int32), Ra 0 6 x8 → 6 - x8.toInt < (n : Int) → Z 14 [some (rf g 551), some (.int x7), some (.int x2), some (.int x8)] [] iv lv := by
          intro n
          induction n with
          | zero => intro x7 x8 hx8 hn14; exact (ms_uz hx8 hn14).elim
          | succ n ih14 =>
            intro x7 x8 hx8 hn14
            refine z_iloadn zh dX9_shortSet_14 rfl ?_
            refine z_bipush zh dX9_shortSet_15 kb_6 ?_
            refine z_icmp_ge (tgt := 41) zh dX9_shortSet_17 rfl (fun q9 => ?_) (fun q9 => ?_)
            · have r10 : Ra 6 6 x8 := rb_le_r rl_6 hx8 q9 (by decide)
              refine y_iinc (L' := fun z => [some (rf g 551), some (.int x7), some (.int z), some (.int x8)]) zh dX9_shortSet_41 (by decide) rfl (by decide +kernel) r6 (u := 1) (v := 12) rfl rfl (by decide) (by decide) (fun _ => rfl) (fun x11 hc11 hx11 => ?_)
              refine z_goto (tgt := 4) zh dX9_shortSet_44 rfl ?_
              refine z_forget zh [true, true, true, false] (L2 := [some (rf g 551), some (.int x7), some (.int x11), none]) rfl ?_
              exact ih4 x7 x11 (ra_w hx11 (by decide) (by decide)) (ms_up hc11 (by decide) hn4)
            · have r12 : Ra 0 5 x8 := rb_lt_l rl_6 hx8 (rb_nle q9) (by decide)
              refine z_aloadnR zh dX9_shortSet_20 rfl ?_
              refine z_iloadn zh dX9_shortSet_21 rfl ?_
              refine z_iloadn zh dX9_shortSet_22 rfl ?_
              refine z_callVI zh mv_Y_116 dX9_shortSet_23 ck_Y rfl (s_X9_isShort g r6 r12 hG) ⟨Nat.le_of_ble_eq_true rfl, Nat.le_of_ble_eq_true rfl⟩ rfl rfl (Nat.le_of_ble_eq_true rfl) ?_
              rintro x13 _ _ ⟨rfl, rfl, hx13⟩
              have J35 : ∀ (x14 : Int32), Z 35 [some (rf g 551), some (.int x14), some (.int x2), some (.int x8)] [] iv lv := by
                intro x14
                refine y_iinc (L' := fun z => [some (rf g 551), some (.int x14), some (.int x2), some (.int z)]) zh dX9_shortSet_35 (by decide) rfl (by decide +kernel) r12 (u := 1) (v := 6) rfl rfl (by decide) (by decide) (fun _ => rfl) (fun x15 hc15 hx15 => ?_)
                refine z_goto (tgt := 14) zh dX9_shortSet_38 rfl ?_
                exact ih14 x14 x15 (ra_w hx15 (by decide) (by decide)) (ms_up hc15 (by decide) hn14)
              refine z_if_eq (tgt := 35) zh dX9_shortSet_26 rfl (fun q16 => ?_) (fun q16 => ?_)
              · have r17 := rb_eq (u := 0) (v := 0) hx13 ra_z q16 (by decide) (by decide)
                exact J35 x7
              · have r18 : Ra 1 1 x13 := rb_ne_lo hx13 ra_z q16 (by decide)
                refine z_iloadn zh dX9_shortSet_29 rfl ?_
                refine z_iconst zh dX9_shortSet_30 ki_1 ?_
                refine z_iloadn zh dX9_shortSet_31 rfl ?_
                refine y_ishlT zh dX9_shortSet_32 (fun x19 => ?_)
                refine y_iorT zh dX9_shortSet_33 (fun x20 => ?_)
                refine z_istoren zh dX9_shortSet_34 (by decide) (L' := [some (rf g 551), some (.int x20), some (.int x2), some (.int x8)]) rfl ?_
                exact J35 x20
        exact J14 7 x1 (nI 0) (ra_w rl_0 (by decide) (by decide)) (ms_u0 rl_0 (by decide))
  exact J4 13 (nI 0) (nI 0) (ra_w rl_0 (by decide) (by decide)) (ms_u0 rl_0 (by decide))
set_option maxRecDepth 20000 in
theorem s_X9_look (g : GE) {sp : Nat → Nat → Bool} {σ : Iv} {iv : Iv} {lv : Lv} {a1 : Int32}  (hG : SI sp σ iv)  : ConI g yX9_look cX9_look 2 (some .int) 7 [rf g 551, .int a1] iv lv (fun r iv lv => SI sp σ iv ∧ True) := by
  refine con_intro (own := "RollingNetsModel") (by decide +kernel) rfl (Nat.le_of_ble_eq_true rfl) (L0 := [some (rf g 551), some (.int a1)]) rfl (fun Z zh => ?_)
  refine z_aloadnR zh dX9_look_0 rfl ?_
  refine z_iconst zh dX9_look_1 ki_0 ?_
  refine z_putI zh fl_Y_58 dX9_look_2 ck_Y rfl rfl (Nat.le_of_ble_eq_true rfl) (Or.inl rfl) ?_
  have hG : SI sp σ (upI iv 551 0 (nI 0)) := si_w (k := 551) (j := 0) hG (by decide) (by decide) (sp_no hG ((spc_Y (q := 0)).trans rfl)) (fun lo hi q => (rx_none rfl) lo hi ((rg_Y (q := 0)).symm.trans q))
  have em1 : upI iv 551 0 (nI 0) 551 0 = nI 0 := by rw [upI_at, if_pos ⟨rfl, rfl⟩]
  generalize upI iv 551 0 (nI 0) = iv at hG em1 ⊢
  refine z_aloadnR zh dX9_look_5 rfl ?_
  refine z_iloadn zh dX9_look_6 rfl ?_
  refine z_iconst zh dX9_look_7 ki_0 ?_
  refine z_iconst zh dX9_look_8 ki_5 ?_
  refine z_callVI zh mv_Y_79 dX9_look_9 ck_Y rfl (s_X9_isIn g) ⟨Nat.le_of_ble_eq_true rfl, Nat.le_of_ble_eq_true rfl⟩ rfl rfl (Nat.le_of_ble_eq_true rfl) ?_
  rintro x2 _ _ ⟨rfl, rfl, hx2, hz3⟩
  refine z_if_eq (tgt := 21) zh dX9_look_12 rfl (fun q4 => ?_) (fun q4 => ?_)
  · have r5 := rb_eq (u := 0) (v := 0) hx2 ra_z q4 (by decide) (by decide)
    refine z_aloadnR zh dX9_look_21 rfl ?_
    refine z_iloadn zh dX9_look_22 rfl ?_
    refine z_bipush zh dX9_look_23 kb_6 ?_
    refine z_bipush zh dX9_look_25 kb_8 ?_
    refine z_callVI zh mv_Y_79 dX9_look_27 ck_Y rfl (s_X9_isIn g) ⟨Nat.le_of_ble_eq_true rfl, Nat.le_of_ble_eq_true rfl⟩ rfl rfl (Nat.le_of_ble_eq_true rfl) ?_
    rintro x6 _ _ ⟨rfl, rfl, hx6, hz7⟩
    refine z_if_eq (tgt := 40) zh dX9_look_30 rfl (fun q8 => ?_) (fun q8 => ?_)
    · have r9 := rb_eq (u := 0) (v := 0) hx6 ra_z q8 (by decide) (by decide)
      refine z_iloadn zh dX9_look_40 rfl ?_
      refine z_bipush zh dX9_look_41 kb_9 ?_
      refine z_icmp_ne (tgt := 51) zh dX9_look_43 rfl (fun q10 => ?_) (fun q10 => ?_)
      · refine z_iloadn zh dX9_look_51 rfl ?_
        refine z_bipush zh dX9_look_52 kb_10 ?_
        refine z_icmp_ne (tgt := 65) zh dX9_look_54 rfl (fun q11 => ?_) (fun q11 => ?_)
        · refine z_iloadn zh dX9_look_65 rfl ?_
          refine z_bipush zh dX9_look_66 kb_11 ?_
          refine z_icmp_ne (tgt := 80) zh dX9_look_68 rfl (fun q12 => ?_) (fun q12 => ?_)
          · refine z_iloadn zh dX9_look_80 rfl ?_
            refine z_bipush zh dX9_look_81 kb_12 ?_
            refine z_icmp_ne (tgt := 91) zh dX9_look_83 rfl (fun q13 => ?_) (fun q13 => ?_)
            · refine z_iloadn zh dX9_look_91 rfl ?_
              refine z_bipush zh dX9_look_92 kb_13 ?_
              refine z_icmp_ne (tgt := 102) zh dX9_look_94 rfl (fun q14 => ?_) (fun q14 => ?_)
              · refine z_iloadn zh dX9_look_102 rfl ?_
                refine z_bipush zh dX9_look_103 kb_14 ?_
                refine z_icmp_ne (tgt := 116) zh dX9_look_105 rfl (fun q15 => ?_) (fun q15 => ?_)
                · refine z_iloadn zh dX9_look_116 rfl ?_
                  refine z_bipush zh dX9_look_117 kb_15 ?_
                  refine z_icmp_ne (tgt := 129) zh dX9_look_119 rfl (fun q16 => ?_) (fun q16 => ?_)
                  · refine z_iloadn zh dX9_look_129 rfl ?_
                    refine z_bipush zh dX9_look_130 kb_16 ?_
                    refine z_icmp_ne (tgt := 140) zh dX9_look_132 rfl (fun q17 => ?_) (fun q17 => ?_)
                    · refine z_iloadn zh dX9_look_140 rfl ?_
                      refine z_bipush zh dX9_look_141 kb_17 ?_
                      refine z_icmp_ne (tgt := 163) zh dX9_look_143 rfl (fun q18 => ?_) (fun q18 => ?_)
                      · refine z_iloadn zh dX9_look_163 rfl ?_
                        refine z_bipush zh dX9_look_164 kb_18 ?_
                        refine z_icmp_ne (tgt := 174) zh dX9_look_166 rfl (fun q19 => ?_) (fun q19 => ?_)
                        · refine z_iloadn zh dX9_look_174 rfl ?_
                          refine z_bipush zh dX9_look_175 kb_19 ?_
                          refine z_icmp_ne (tgt := 190) zh dX9_look_177 rfl (fun q20 => ?_) (fun q20 => ?_)
                          · refine z_ldcw zh dX9_look_190 kc_Y_330 ?_
                            exact z_iret zh dX9_look_193 ⟨_, rfl, hG, trivial⟩
                          · have r21 := rb_eq (u := 19) (v := 19) (ra_tt a1) rl_19 q20 (by decide) (by decide)
                            refine z_aloadnR zh dX9_look_180 rfl ?_
                            refine z_getf zh fl_Y_7 dX9_look_181 ck_Y rfl rfl ?_
                            refine z_bipush zh dX9_look_184 kb_12 ?_
                            refine y_ialdN zh ck_now dX9_look_186 (by decide) (fun x22 ex22 => ?_)
                            refine z_goto (tgt := 193) zh dX9_look_187 rfl ?_
                            exact z_iret zh dX9_look_193 ⟨_, rfl, hG, trivial⟩
                        · have r23 := rb_eq (u := 18) (v := 18) (ra_tt a1) rl_18 q19 (by decide) (by decide)
                          refine z_aloadnR zh dX9_look_169 rfl ?_
                          refine z_callVI zh mv_Y_438 dX9_look_170 ck_Y rfl (s_X9_shortSet g  hG) ⟨Nat.le_of_ble_eq_true rfl, Nat.le_of_ble_eq_true rfl⟩ rfl rfl (Nat.le_of_ble_eq_true rfl) ?_
                          rintro x24 _ _ ⟨rfl, rfl, _⟩
                          exact z_iret zh dX9_look_173 ⟨_, rfl, hG, trivial⟩
                      · have r25 := rb_eq (u := 17) (v := 17) (ra_tt a1) rl_17 q18 (by decide) (by decide)
                        refine z_aloadnR zh dX9_look_146 rfl ?_
                        refine z_getf zh fl_Y_7 dX9_look_147 ck_Y rfl rfl ?_
                        refine z_bipush zh dX9_look_150 kb_11 ?_
                        refine y_ialdN zh ck_now dX9_look_152 (by decide) (fun x26 ex26 => ?_)
                        refine z_iconst zh dX9_look_153 ki_1 ?_
                        refine z_aloadnR zh dX9_look_154 rfl ?_
                        refine z_callVI zh mv_Y_61 dX9_look_155 ck_Y rfl (s_X9_memberMany g  hG) ⟨Nat.le_of_ble_eq_true rfl, Nat.le_of_ble_eq_true rfl⟩ rfl rfl (Nat.le_of_ble_eq_true rfl) ?_
                        rintro x27 _ _ ⟨rfl, rfl, hx27⟩
                        refine y_ishlT zh dX9_look_158 (fun x28 => ?_)
                        refine z_iconst zh dX9_look_159 ki_1 ?_
                        refine y_isubT zh dX9_look_160 (fun x29 => ?_)
                        refine y_iandT zh dX9_look_161 (fun x30 => ?_)
                        exact z_iret zh dX9_look_162 ⟨_, rfl, hG, trivial⟩
                    · have r31 := rb_eq (u := 16) (v := 16) (ra_tt a1) rl_16 q17 (by decide) (by decide)
                      refine z_aloadnR zh dX9_look_135 rfl ?_
                      refine z_callVI zh mv_Y_435 dX9_look_136 ck_Y rfl (s_X9_lackMany g  hG) ⟨Nat.le_of_ble_eq_true rfl, Nat.le_of_ble_eq_true rfl⟩ rfl rfl (Nat.le_of_ble_eq_true rfl) ?_
                      rintro x32 _ _ ⟨rfl, rfl, _⟩
                      exact z_iret zh dX9_look_139 ⟨_, rfl, hG, trivial⟩
                  · have r33 := rb_eq (u := 15) (v := 15) (ra_tt a1) rl_15 q16 (by decide) (by decide)
                    refine z_aloadnR zh dX9_look_122 rfl ?_
                    refine z_iconst zh dX9_look_123 ki_m1 ?_
                    refine z_iconst zh dX9_look_124 ki_0 ?_
                    refine z_callVI zh mv_Y_341 dX9_look_125 ck_Y rfl (s_X9_openOf g (ra_w rl_n1 (by decide) (by decide)) (ra_w rl_0 (by decide) (by decide)) hG) ⟨Nat.le_of_ble_eq_true rfl, Nat.le_of_ble_eq_true rfl⟩ rfl rfl (Nat.le_of_ble_eq_true rfl) ?_
                    rintro x34 _ _ ⟨rfl, rfl, _⟩
                    exact z_iret zh dX9_look_128 ⟨_, rfl, hG, trivial⟩
                · have r35 := rb_eq (u := 14) (v := 14) (ra_tt a1) rl_14 q15 (by decide) (by decide)
                  refine z_aloadnR zh dX9_look_108 rfl ?_
                  refine z_getf zh fl_Y_7 dX9_look_109 ck_Y rfl rfl ?_
                  refine z_bipush zh dX9_look_112 kb_10 ?_
                  refine y_ialdN zh ck_now dX9_look_114 (by decide) (fun x36 ex36 => ?_)
                  have hx36 : Ra 0 24 x36 := ra_of ex36 (nr_l hG 10 rfl)
                  exact z_iret zh dX9_look_115 ⟨_, rfl, hG, trivial⟩
              · have r37 := rb_eq (u := 13) (v := 13) (ra_tt a1) rl_13 q14 (by decide) (by decide)
                refine z_aloadnR zh dX9_look_97 rfl ?_
                refine y_getI zh fl_Y_407 dX9_look_98 ck_Y rfl rfl (fun x38 ex38 => ?_)
                have hx38 : Ra 0 24 x38 := ra_of ex38 (si_Y hG 0 (j := 27) rfl)
                exact z_iret zh dX9_look_101 ⟨_, rfl, hG, trivial⟩
            · have r39 := rb_eq (u := 12) (v := 12) (ra_tt a1) rl_12 q13 (by decide) (by decide)
              refine z_aloadnR zh dX9_look_86 rfl ?_
              refine z_callVI zh mv_Y_432 dX9_look_87 ck_Y rfl (s_X9_allCash g  hG) ⟨Nat.le_of_ble_eq_true rfl, Nat.le_of_ble_eq_true rfl⟩ rfl rfl (Nat.le_of_ble_eq_true rfl) ?_
              rintro x40 _ _ ⟨rfl, rfl, _⟩
              exact z_iret zh dX9_look_90 ⟨_, rfl, hG, trivial⟩
          · have r41 := rb_eq (u := 11) (v := 11) (ra_tt a1) rl_11 q12 (by decide) (by decide)
            refine z_aloadnR zh dX9_look_71 rfl ?_
            refine z_getf zh fl_Y_16 dX9_look_72 ck_Y rfl rfl ?_
            refine z_bipush zh dX9_look_75 kb_12 ?_
            refine y_lald zh ck_coins dX9_look_77 rl_12 (by decide) (by decide) (fun l42 => ?_)
            refine y_l2i zh dX9_look_78 (fun x43 => ?_)
            exact z_iret zh dX9_look_79 ⟨_, rfl, hG, trivial⟩
        · have r44 := rb_eq (u := 10) (v := 10) (ra_tt a1) rl_10 q11 (by decide) (by decide)
          refine z_aloadnR zh dX9_look_57 rfl ?_
          refine z_getf zh fl_Y_7 dX9_look_58 ck_Y rfl rfl ?_
          refine z_bipush zh dX9_look_61 kb_9 ?_
          refine y_ialdN zh ck_now dX9_look_63 (by decide) (fun x45 ex45 => ?_)
          have hx45 : Ra 0 300 x45 := ra_of ex45 (nr_l hG 9 rfl)
          exact z_iret zh dX9_look_64 ⟨_, rfl, hG, trivial⟩
      · have r46 := rb_eq (u := 9) (v := 9) (ra_tt a1) rl_9 q10 (by decide) (by decide)
        refine z_aloadnR zh dX9_look_46 rfl ?_
        refine z_callVI zh mv_Y_429 dX9_look_47 ck_Y rfl (s_X9_openNotices g  hG) ⟨Nat.le_of_ble_eq_true rfl, Nat.le_of_ble_eq_true rfl⟩ rfl rfl (Nat.le_of_ble_eq_true rfl) ?_
        rintro x47 _ _ ⟨rfl, rfl, _⟩
        exact z_iret zh dX9_look_50 ⟨_, rfl, hG, trivial⟩
    · have r48 : Ra 1 1 x6 := rb_ne_lo hx6 ra_z q8 (by decide)
      have r49 : Ra 6 8 a1 := (rb_in rl_6 rl_8 (hz7 q8))
      refine z_aloadnR zh dX9_look_33 rfl ?_
      refine z_getf zh fl_Y_7 dX9_look_34 ck_Y rfl rfl ?_
      refine z_iloadn zh dX9_look_37 rfl ?_
      refine y_iald zh ck_now dX9_look_38 r49 (by decide) (by decide) (fun x50 ex50 => ?_)
      exact z_iret zh dX9_look_39 ⟨_, rfl, hG, trivial⟩
  · have r51 : Ra 1 1 x2 := rb_ne_lo hx2 ra_z q4 (by decide)
    have r52 : Ra 0 5 a1 := (rb_in rl_0 rl_5 (hz3 q4))
    refine z_aloadnR zh dX9_look_15 rfl ?_
    refine z_iloadn zh dX9_look_16 rfl ?_
    refine z_callVI zh mv_Y_144 dX9_look_17 ck_Y rfl (s_X9_settingOf g r52 hG) ⟨Nat.le_of_ble_eq_true rfl, Nat.le_of_ble_eq_true rfl⟩ rfl rfl (Nat.le_of_ble_eq_true rfl) ?_
    rintro x53 _ _ ⟨rfl, rfl, _⟩
    exact z_iret zh dX9_look_20 ⟨_, rfl, hG, trivial⟩
set_option maxRecDepth 20000 in
theorem s_X9_lot (g : GE) {sp : Nat → Nat → Bool} {σ : Iv} {iv : Iv} {lv : Lv} {a1 : Int32} {a2 : Int32} {a3 : Int32} {a4 : Int32}  (hG : SI sp σ iv)  : ConI g yX9_lot cX9_lot 5 (some .int) 4 [rf g 551, .int a1, .int a2, .int a3, .int a4] iv lv (fun r iv lv => SI sp σ iv ∧ True) := by
  refine con_intro (own := "RollingNetsModel") (by decide +kernel) rfl (Nat.le_of_ble_eq_true rfl) (L0 := [some (rf g 551), some (.int a1), some (.int a2), some (.int a3), some (.int a4)]) rfl (fun Z zh => ?_)
  refine z_aloadnR zh dX9_lot_0 rfl ?_
  refine z_iconst zh dX9_lot_1 ki_0 ?_
  refine z_putI zh fl_Y_58 dX9_lot_2 ck_Y rfl rfl (Nat.le_of_ble_eq_true rfl) (Or.inl rfl) ?_
  have hG : SI sp σ (upI iv 551 0 (nI 0)) := si_w (k := 551) (j := 0) hG (by decide) (by decide) (sp_no hG ((spc_Y (q := 0)).trans rfl)) (fun lo hi q => (rx_none rfl) lo hi ((rg_Y (q := 0)).symm.trans q))
  have em1 : upI iv 551 0 (nI 0) 551 0 = nI 0 := by rw [upI_at, if_pos ⟨rfl, rfl⟩]
  generalize upI iv 551 0 (nI 0) = iv at hG em1 ⊢
  refine z_aloadnR zh dX9_lot_5 rfl ?_
  refine z_iloadn zh dX9_lot_6 rfl ?_
  refine z_callVI zh mv_Y_90 dX9_lot_7 ck_Y rfl (s_X9_isMember g  hG) ⟨Nat.le_of_ble_eq_true rfl, Nat.le_of_ble_eq_true rfl⟩ rfl rfl (Nat.le_of_ble_eq_true rfl) ?_
  rintro x2 _ _ ⟨rfl, rfl, hx2, hz3⟩
  refine z_if_eq (tgt := 49) zh dX9_lot_10 rfl (fun q4 => ?_) (fun q4 => ?_)
  · have r5 := rb_eq (u := 0) (v := 0) hx2 ra_z q4 (by decide) (by decide)
    refine z_iconst zh dX9_lot_49 ki_m1 ?_
    exact z_iret zh dX9_lot_50 ⟨_, rfl, hG, trivial⟩
  · have r6 : Ra 1 1 x2 := rb_ne_lo hx2 ra_z q4 (by decide)
    have r7 : Ra 0 11 a1 := (hz3 q4)
    refine z_aloadnR zh dX9_lot_13 rfl ?_
    refine z_iloadn zh dX9_lot_14 rfl ?_
    refine z_callVI zh mv_Y_94 dX9_lot_15 ck_Y rfl (s_X9_isIssue g  hG) ⟨Nat.le_of_ble_eq_true rfl, Nat.le_of_ble_eq_true rfl⟩ rfl rfl (Nat.le_of_ble_eq_true rfl) ?_
    rintro x8 _ _ ⟨rfl, rfl, hx8, hz9⟩
    refine z_if_eq (tgt := 49) zh dX9_lot_18 rfl (fun q10 => ?_) (fun q10 => ?_)
    · have r11 := rb_eq (u := 0) (v := 0) hx8 ra_z q10 (by decide) (by decide)
      refine z_iconst zh dX9_lot_49 ki_m1 ?_
      exact z_iret zh dX9_lot_50 ⟨_, rfl, hG, trivial⟩
    · have r12 : Ra 1 1 x8 := rb_ne_lo hx8 ra_z q10 (by decide)
      have r13 : Ra 0 5 a2 := (hz9 q10)
      refine z_aloadnR zh dX9_lot_21 rfl ?_
      refine z_iloadn zh dX9_lot_22 rfl ?_
      refine z_iconst zh dX9_lot_23 ki_0 ?_
      refine z_aloadnR zh dX9_lot_24 rfl ?_
      refine z_iloadn zh dX9_lot_25 rfl ?_
      refine z_iloadn zh dX9_lot_26 rfl ?_
      refine z_callVI zh mv_Y_110 dX9_lot_27 ck_Y rfl (s_X9_lotMany g r7 r13 hG) ⟨Nat.le_of_ble_eq_true rfl, Nat.le_of_ble_eq_true rfl⟩ rfl rfl (Nat.le_of_ble_eq_true rfl) ?_
      rintro x14 _ _ ⟨rfl, rfl, hx14, _⟩
      refine z_iconst zh dX9_lot_30 ki_1 ?_
      refine y_isub zh dX9_lot_31 hx14 rl_1 (u := (-1)) (v := 99) rfl rfl (by decide) (by decide) (fun x15 hc15 hx15 => ?_)
      refine z_callVI zh mv_Y_79 dX9_lot_32 ck_Y rfl (s_X9_isIn g) ⟨Nat.le_of_ble_eq_true rfl, Nat.le_of_ble_eq_true rfl⟩ rfl rfl (Nat.le_of_ble_eq_true rfl) ?_
      rintro x16 _ _ ⟨rfl, rfl, hx16, hz17⟩
      refine z_if_eq (tgt := 49) zh dX9_lot_35 rfl (fun q18 => ?_) (fun q18 => ?_)
      · have r19 := rb_eq (u := 0) (v := 0) hx16 ra_z q18 (by decide) (by decide)
        refine z_iconst zh dX9_lot_49 ki_m1 ?_
        exact z_iret zh dX9_lot_50 ⟨_, rfl, hG, trivial⟩
      · have r20 : Ra 1 1 x16 := rb_ne_lo hx16 ra_z q18 (by decide)
        have r21 : Ra 0 99 a3 := (rb_in rl_0 hx15 (hz17 q18))
        refine z_aloadnR zh dX9_lot_38 rfl ?_
        refine z_iload zh dX9_lot_39 rfl ?_
        refine z_iconst zh dX9_lot_41 ki_0 ?_
        refine z_iconst zh dX9_lot_42 ki_1 ?_
        refine z_callVI zh mv_Y_79 dX9_lot_43 ck_Y rfl (s_X9_isIn g) ⟨Nat.le_of_ble_eq_true rfl, Nat.le_of_ble_eq_true rfl⟩ rfl rfl (Nat.le_of_ble_eq_true rfl) ?_
        rintro x22 _ _ ⟨rfl, rfl, hx22, hz23⟩
        refine z_if_ne (tgt := 51) zh dX9_lot_46 rfl (fun q24 => ?_) (fun q24 => ?_)
        · have r25 : Ra 1 1 x22 := rb_ne_lo hx22 ra_z q24 (by decide)
          have r26 : Ra 0 1 a4 := (rb_in rl_0 rl_1 (hz23 q24))
          refine z_iload zh dX9_lot_51 rfl ?_
          refine z_if_ne (tgt := 66) zh dX9_lot_53 rfl (fun q27 => ?_) (fun q27 => ?_)
          · have r28 : Ra 1 1 a4 := rb_ne_lo r26 ra_z q27 (by decide)
            refine z_aloadnR zh dX9_lot_66 rfl ?_
            refine z_iloadn zh dX9_lot_67 rfl ?_
            refine z_iloadn zh dX9_lot_68 rfl ?_
            refine z_iloadn zh dX9_lot_69 rfl ?_
            refine z_callVI zh mv_Y_113 dX9_lot_70 ck_Y rfl (s_X9_sharesOf g r7 r13 (ra_w r21 (by decide) (by decide)) hG) ⟨Nat.le_of_ble_eq_true rfl, Nat.le_of_ble_eq_true rfl⟩ rfl rfl (Nat.le_of_ble_eq_true rfl) ?_
            rintro x29 _ _ ⟨rfl, rfl, _⟩
            exact z_iret zh dX9_lot_73 ⟨_, rfl, hG, trivial⟩
          · have r30 := rb_eq (u := 0) (v := 0) r26 ra_z q27 (by decide) (by decide)
            refine z_aloadnR zh dX9_lot_56 rfl ?_
            refine z_iloadn zh dX9_lot_57 rfl ?_
            refine z_iloadn zh dX9_lot_58 rfl ?_
            refine z_iloadn zh dX9_lot_59 rfl ?_
            refine z_callVI zh mv_Y_125 dX9_lot_60 ck_Y rfl (s_X9_dayOf g r7 r13 (ra_w r21 (by decide) (by decide)) hG) ⟨Nat.le_of_ble_eq_true rfl, Nat.le_of_ble_eq_true rfl⟩ rfl rfl (Nat.le_of_ble_eq_true rfl) ?_
            rintro x31 _ _ ⟨rfl, rfl, hx31, _⟩
            refine z_goto (tgt := 73) zh dX9_lot_63 rfl ?_
            exact z_iret zh dX9_lot_73 ⟨_, rfl, hG, trivial⟩
        · have r32 := rb_eq (u := 0) (v := 0) hx22 ra_z q24 (by decide) (by decide)
          refine z_iconst zh dX9_lot_49 ki_m1 ?_
          exact z_iret zh dX9_lot_50 ⟨_, rfl, hG, trivial⟩
set_option maxRecDepth 20000 in
theorem s_X9_lowOf (g : GE) {sp : Nat → Nat → Bool} {σ : Iv} {iv : Iv} {lv : Lv} {a1 : Int32} {a2 : Int32} (ha2 : Ra 0 4 a2) (hG : SI sp σ iv)  : ConI g yX9_lowOf cX9_lowOf 3 (some .int) 1 [rf g 551, .int a1, .int a2] iv lv (fun r iv' lv' => iv = iv' ∧ lv = lv' ∧ Ra 0 4 r) := by
  refine con_intro (own := "RollingNetsModel") (by decide +kernel) rfl (Nat.le_of_ble_eq_true rfl) (L0 := [some (rf g 551), some (.int a1), some (.int a2)]) rfl (fun Z zh => ?_)
  refine z_iloadn zh dX9_lowOf_0 rfl ?_
  refine z_iconst zh dX9_lowOf_1 ki_2 ?_
  refine z_icmp_ge (tgt := 16) zh dX9_lowOf_2 rfl (fun q1 => ?_) (fun q1 => ?_)
  · have r2 : Ra 2 2147483647 a1 := rb_le_r rl_2 (ra_tt a1) q1 (by decide)
    refine z_iloadn zh dX9_lowOf_16 rfl ?_
    refine z_bipush zh dX9_lowOf_17 kb_6 ?_
    refine z_icmp_ne (tgt := 24) zh dX9_lowOf_19 rfl (fun q3 => ?_) (fun q3 => ?_)
    · refine z_iloadn zh dX9_lowOf_24 rfl ?_
      refine z_bipush zh dX9_lowOf_25 kb_7 ?_
      refine z_icmp_ne (tgt := 41) zh dX9_lowOf_27 rfl (fun q4 => ?_) (fun q4 => ?_)
      · refine z_iloadn zh dX9_lowOf_41 rfl ?_
        refine z_bipush zh dX9_lowOf_42 kb_8 ?_
        refine z_icmp_le (tgt := 51) zh dX9_lowOf_44 rfl (fun q5 => ?_) (fun q5 => ?_)
        · have r6 : Ra 2 8 a1 := rb_le_l rl_8 r2 q5 (by decide)
          refine z_iconst zh dX9_lowOf_51 ki_0 ?_
          exact z_iret zh dX9_lowOf_52 ⟨_, rfl, rfl, rfl, (ra_w rl_0 (by decide) (by decide))⟩
        · have r7 : Ra 9 2147483647 a1 := rb_lt_r rl_8 r2 (rb_nle q5) (by decide)
          refine z_iconst zh dX9_lowOf_47 ki_1 ?_
          refine z_goto (tgt := 52) zh dX9_lowOf_48 rfl ?_
          exact z_iret zh dX9_lowOf_52 ⟨_, rfl, rfl, rfl, (ra_w rl_1 (by decide) (by decide))⟩
      · have r8 := rb_eq (u := 7) (v := 7) r2 rl_7 q4 (by decide) (by decide)
        refine z_iloadn zh dX9_lowOf_30 rfl ?_
        refine z_iconst zh dX9_lowOf_31 ki_2 ?_
        refine z_icmp_ge (tgt := 39) zh dX9_lowOf_32 rfl (fun q9 => ?_) (fun q9 => ?_)
        · have r10 : Ra 2 4 a2 := rb_le_r rl_2 ha2 q9 (by decide)
          refine z_iconst zh dX9_lowOf_39 ki_1 ?_
          exact z_iret zh dX9_lowOf_40 ⟨_, rfl, rfl, rfl, (ra_w rl_1 (by decide) (by decide))⟩
        · have r11 : Ra 0 1 a2 := rb_lt_l rl_2 ha2 (rb_nle q9) (by decide)
          refine z_iconst zh dX9_lowOf_35 ki_0 ?_
          refine z_goto (tgt := 40) zh dX9_lowOf_36 rfl ?_
          exact z_iret zh dX9_lowOf_40 ⟨_, rfl, rfl, rfl, (ra_w rl_0 (by decide) (by decide))⟩
    · have r12 := rb_eq (u := 6) (v := 6) r2 rl_6 q3 (by decide) (by decide)
      refine z_iloadn zh dX9_lowOf_22 rfl ?_
      exact z_iret zh dX9_lowOf_23 ⟨_, rfl, rfl, rfl, ha2⟩
  · have r13 : Ra (-2147483648) 1 a1 := rb_lt_l rl_2 (ra_tt a1) (rb_nle q1) (by decide)
    refine z_iloadn zh dX9_lowOf_5 rfl ?_
    refine z_iconst zh dX9_lowOf_6 ki_3 ?_
    refine z_icmp_ge (tgt := 14) zh dX9_lowOf_7 rfl (fun q14 => ?_) (fun q14 => ?_)
    · have r15 : Ra 3 4 a2 := rb_le_r rl_3 ha2 q14 (by decide)
      refine z_iconst zh dX9_lowOf_14 ki_1 ?_
      exact z_iret zh dX9_lowOf_15 ⟨_, rfl, rfl, rfl, (ra_w rl_1 (by decide) (by decide))⟩
    · have r16 : Ra 0 2 a2 := rb_lt_l rl_3 ha2 (rb_nle q14) (by decide)
      refine z_iconst zh dX9_lowOf_10 ki_0 ?_
      refine z_goto (tgt := 15) zh dX9_lowOf_11 rfl ?_
      exact z_iret zh dX9_lowOf_15 ⟨_, rfl, rfl, rfl, (ra_w rl_0 (by decide) (by decide))⟩
set_option maxRecDepth 20000 in
theorem s_X9_manyOf (g : GE) {sp : Nat → Nat → Bool} {σ : Iv} {iv : Iv} {lv : Lv} {a1 : Int32}  (hG : SI sp σ iv)  : ConI g yX9_manyOf cX9_manyOf 2 (some .int) 1 [rf g 551, .int a1] iv lv (fun r iv' lv' => iv = iv' ∧ lv = lv' ∧ Ra 1 5 r) := by
  refine con_intro (own := "RollingNetsModel") (by decide +kernel) rfl (Nat.le_of_ble_eq_true rfl) (L0 := [some (rf g 551), some (.int a1)]) rfl (fun Z zh => ?_)
  refine z_iloadn zh dX9_manyOf_0 rfl ?_
  refine z_iconst zh dX9_manyOf_1 ki_2 ?_
  refine z_icmp_ge (tgt := 9) zh dX9_manyOf_2 rfl (fun q1 => ?_) (fun q1 => ?_)
  · have r2 : Ra 2 2147483647 a1 := rb_le_r rl_2 (ra_tt a1) q1 (by decide)
    refine z_iloadn zh dX9_manyOf_9 rfl ?_
    refine z_iconst zh dX9_manyOf_10 ki_4 ?_
    refine z_icmp_le (tgt := 20) zh dX9_manyOf_11 rfl (fun q3 => ?_) (fun q3 => ?_)
    · have r4 : Ra 2 4 a1 := rb_le_l rl_4 r2 q3 (by decide)
      refine z_iconst zh dX9_manyOf_20 ki_3 ?_
      refine z_goto (tgt := 35) zh dX9_manyOf_21 rfl ?_
      exact z_iret zh dX9_manyOf_35 ⟨_, rfl, rfl, rfl, (ra_w rl_3 (by decide) (by decide))⟩
    · have r5 : Ra 5 2147483647 a1 := rb_lt_r rl_4 r2 (rb_nle q3) (by decide)
      refine z_iloadn zh dX9_manyOf_14 rfl ?_
      refine z_bipush zh dX9_manyOf_15 kb_7 ?_
      refine z_icmp_ne (tgt := 24) zh dX9_manyOf_17 rfl (fun q6 => ?_) (fun q6 => ?_)
      · refine z_iloadn zh dX9_manyOf_24 rfl ?_
        refine z_bipush zh dX9_manyOf_25 kb_6 ?_
        refine z_icmp_gt (tgt := 34) zh dX9_manyOf_27 rfl (fun q7 => ?_) (fun q7 => ?_)
        · have r8 : Ra 7 2147483647 a1 := rb_lt_r rl_6 r5 q7 (by decide)
          refine z_iconst zh dX9_manyOf_34 ki_1 ?_
          exact z_iret zh dX9_manyOf_35 ⟨_, rfl, rfl, rfl, (ra_w rl_1 (by decide) (by decide))⟩
        · have r9 : Ra 5 6 a1 := rb_le_l rl_6 r5 (rb_nlt q7) (by decide)
          refine z_iconst zh dX9_manyOf_30 ki_2 ?_
          refine z_goto (tgt := 35) zh dX9_manyOf_31 rfl ?_
          exact z_iret zh dX9_manyOf_35 ⟨_, rfl, rfl, rfl, (ra_w rl_2 (by decide) (by decide))⟩
      · have r10 := rb_eq (u := 7) (v := 7) r5 rl_7 q6 (by decide) (by decide)
        refine z_iconst zh dX9_manyOf_20 ki_3 ?_
        refine z_goto (tgt := 35) zh dX9_manyOf_21 rfl ?_
        exact z_iret zh dX9_manyOf_35 ⟨_, rfl, rfl, rfl, (ra_w rl_3 (by decide) (by decide))⟩
  · have r11 : Ra (-2147483648) 1 a1 := rb_lt_l rl_2 (ra_tt a1) (rb_nle q1) (by decide)
    refine z_iconst zh dX9_manyOf_5 ki_5 ?_
    refine z_goto (tgt := 35) zh dX9_manyOf_6 rfl ?_
    exact z_iret zh dX9_manyOf_35 ⟨_, rfl, rfl, rfl, (ra_w rl_5 (by decide) (by decide))⟩
set_option maxRecDepth 20000 in
theorem s_X9_margin (g : GE) {sp : Nat → Nat → Bool} {σ : Iv} {iv : Iv} {lv : Lv} {a1 : Int32} {a2 : Int32}  (hG : SI sp σ iv)  : ConL g yX9_margin cX9_margin 3 (some .long) 6 [rf g 551, .int a1, .int a2] iv lv (fun r iv lv => SI sp σ iv ∧ True) := by
  refine con_intro (own := "RollingNetsModel") (by decide +kernel) rfl (Nat.le_of_ble_eq_true rfl) (L0 := [some (rf g 551), some (.int a1), some (.int a2)]) rfl (fun Z zh => ?_)
  refine z_aloadnR zh dX9_margin_0 rfl ?_
  refine z_iconst zh dX9_margin_1 ki_0 ?_
  refine z_putI zh fl_Y_58 dX9_margin_2 ck_Y rfl rfl (Nat.le_of_ble_eq_true rfl) (Or.inl rfl) ?_
  have hG : SI sp σ (upI iv 551 0 (nI 0)) := si_w (k := 551) (j := 0) hG (by decide) (by decide) (sp_no hG ((spc_Y (q := 0)).trans rfl)) (fun lo hi q => (rx_none rfl) lo hi ((rg_Y (q := 0)).symm.trans q))
  have em1 : upI iv 551 0 (nI 0) 551 0 = nI 0 := by rw [upI_at, if_pos ⟨rfl, rfl⟩]
  generalize upI iv 551 0 (nI 0) = iv at hG em1 ⊢
  refine z_aloadnR zh dX9_margin_5 rfl ?_
  refine z_iloadn zh dX9_margin_6 rfl ?_
  refine z_callVI zh mv_Y_90 dX9_margin_7 ck_Y rfl (s_X9_isMember g  hG) ⟨Nat.le_of_ble_eq_true rfl, Nat.le_of_ble_eq_true rfl⟩ rfl rfl (Nat.le_of_ble_eq_true rfl) ?_
  rintro x2 _ _ ⟨rfl, rfl, hx2, hz3⟩
  refine z_if_eq (tgt := 23) zh dX9_margin_10 rfl (fun q4 => ?_) (fun q4 => ?_)
  · have r5 := rb_eq (u := 0) (v := 0) hx2 ra_z q4 (by decide) (by decide)
    refine z_ldc2 zh dX9_margin_23 kl_Y_322 ?_
    exact z_lret zh dX9_margin_26 ⟨_, rfl, hG, trivial⟩
  · have r6 : Ra 1 1 x2 := rb_ne_lo hx2 ra_z q4 (by decide)
    have r7 : Ra 0 11 a1 := (hz3 q4)
    refine z_aloadnR zh dX9_margin_13 rfl ?_
    refine z_iloadn zh dX9_margin_14 rfl ?_
    refine z_iconst zh dX9_margin_15 ki_0 ?_
    refine z_iconst zh dX9_margin_16 ki_2 ?_
    refine z_callVI zh mv_Y_79 dX9_margin_17 ck_Y rfl (s_X9_isIn g) ⟨Nat.le_of_ble_eq_true rfl, Nat.le_of_ble_eq_true rfl⟩ rfl rfl (Nat.le_of_ble_eq_true rfl) ?_
    rintro x8 _ _ ⟨rfl, rfl, hx8, hz9⟩
    refine z_if_ne (tgt := 27) zh dX9_margin_20 rfl (fun q10 => ?_) (fun q10 => ?_)
    · have r11 : Ra 1 1 x8 := rb_ne_lo hx8 ra_z q10 (by decide)
      have r12 : Ra 0 2 a2 := (rb_in rl_0 rl_2 (hz9 q10))
      refine z_iloadn zh dX9_margin_27 rfl ?_
      refine z_if_ne (tgt := 39) zh dX9_margin_28 rfl (fun q13 => ?_) (fun q13 => ?_)
      · have r14 : Ra 1 2 a2 := rb_ne_lo r12 ra_z q13 (by decide)
        refine z_iloadn zh dX9_margin_39 rfl ?_
        refine z_iconst zh dX9_margin_40 ki_1 ?_
        refine z_icmp_ne (tgt := 57) zh dX9_margin_41 rfl (fun q15 => ?_) (fun q15 => ?_)
        · have r16 : Ra 2 2 a2 := rb_ne_lo r14 rl_1 q15 (by decide)
          refine z_aloadnR zh dX9_margin_57 rfl ?_
          refine z_iloadn zh dX9_margin_58 rfl ?_
          refine z_callVL zh mv_Y_324 dX9_margin_59 ck_Y rfl (s_X9_lacksOf g r7 hG) ⟨Nat.le_of_ble_eq_true rfl, Nat.le_of_ble_eq_true rfl⟩ rfl rfl (Nat.le_of_ble_eq_true rfl) ?_
          rintro l17 _ _ ⟨rfl, rfl, _⟩
          exact z_lret zh dX9_margin_62 ⟨_, rfl, hG, trivial⟩
        · have r18 := rb_eq (u := 1) (v := 1) r14 rl_1 q15 (by decide) (by decide)
          refine z_aloadnR zh dX9_margin_44 rfl ?_
          refine z_getf zh fl_Y_7 dX9_margin_45 ck_Y rfl rfl ?_
          refine z_bipush zh dX9_margin_48 kb_46 ?_
          refine z_iloadn zh dX9_margin_50 rfl ?_
          refine y_iadd zh dX9_margin_51 rl_46 r7 (u := 46) (v := 57) rfl rfl (by decide) (by decide) (fun x19 hc19 hx19 => ?_)
          refine y_iald zh ck_now dX9_margin_52 hx19 (by decide) (by decide) (fun x20 ex20 => ?_)
          refine y_i2l zh dX9_margin_53 (fun l21 => ?_)
          refine z_goto (tgt := 62) zh dX9_margin_54 rfl ?_
          exact z_lret zh dX9_margin_62 ⟨_, rfl, hG, trivial⟩
      · have r22 := rb_eq (u := 0) (v := 0) r12 ra_z q13 (by decide) (by decide)
        refine z_aloadnR zh dX9_margin_31 rfl ?_
        refine z_iloadn zh dX9_margin_32 rfl ?_
        refine z_callVL zh mv_Y_318 dX9_margin_33 ck_Y rfl (s_X9_demandOf g r7 hG) ⟨Nat.le_of_ble_eq_true rfl, Nat.le_of_ble_eq_true rfl⟩ rfl rfl (Nat.le_of_ble_eq_true rfl) ?_
        rintro l23 _ _ ⟨rfl, rfl, _⟩
        refine z_goto (tgt := 62) zh dX9_margin_36 rfl ?_
        exact z_lret zh dX9_margin_62 ⟨_, rfl, hG, trivial⟩
    · have r24 := rb_eq (u := 0) (v := 0) hx8 ra_z q10 (by decide) (by decide)
      refine z_ldc2 zh dX9_margin_23 kl_Y_322 ?_
      exact z_lret zh dX9_margin_26 ⟨_, rfl, hG, trivial⟩
set_option maxRecDepth 20000 in
theorem s_X9_move (g : GE) {sp : Nat → Nat → Bool} {σ : Iv} {iv : Iv} {lv : Lv} {a1 : Int32} {a2 : Int32} {a3 : Int32} {a4 : Int32}  (hG : SI sp σ iv)  : ConI g yX9_move cX9_move 5 (some .boolean) 4 [rf g 551, .int a1, .int a2, .int a3, .int a4] iv lv (fun r iv lv => SI sp σ iv ∧ Ra 0 1 r ∧ (¬ r = 0 → Ra 0 11 a1) ∧ (¬ r = 0 → Ra 0 11 a2) ∧ (¬ r = 0 → Ra 0 5 a3) ∧ (¬ r = 0 → Ra 1 2147483647 a4)) := by
  refine con_intro (own := "RollingNetsModel") (by decide +kernel) rfl (Nat.le_of_ble_eq_true rfl) (L0 := [some (rf g 551), some (.int a1), some (.int a2), some (.int a3), some (.int a4)]) rfl (fun Z zh => ?_)
  refine z_aloadnR zh dX9_move_0 rfl ?_
  refine z_iconst zh dX9_move_1 ki_0 ?_
  refine z_putI zh fl_Y_58 dX9_move_2 ck_Y rfl rfl (Nat.le_of_ble_eq_true rfl) (Or.inl rfl) ?_
  have hG : SI sp σ (upI iv 551 0 (nI 0)) := si_w (k := 551) (j := 0) hG (by decide) (by decide) (sp_no hG ((spc_Y (q := 0)).trans rfl)) (fun lo hi q => (rx_none rfl) lo hi ((rg_Y (q := 0)).symm.trans q))
  have em1 : upI iv 551 0 (nI 0) 551 0 = nI 0 := by rw [upI_at, if_pos ⟨rfl, rfl⟩]
  generalize upI iv 551 0 (nI 0) = iv at hG em1 ⊢
  refine z_aloadnR zh dX9_move_5 rfl ?_
  refine z_iloadn zh dX9_move_6 rfl ?_
  refine z_callVI zh mv_Y_90 dX9_move_7 ck_Y rfl (s_X9_isMember g  hG) ⟨Nat.le_of_ble_eq_true rfl, Nat.le_of_ble_eq_true rfl⟩ rfl rfl (Nat.le_of_ble_eq_true rfl) ?_
  rintro x2 _ _ ⟨rfl, rfl, hx2, hz3⟩
  refine z_if_eq (tgt := 51) zh dX9_move_10 rfl (fun q4 => ?_) (fun q4 => ?_)
  · have r5 := rb_eq (u := 0) (v := 0) hx2 ra_z q4 (by decide) (by decide)
    refine z_iconst zh dX9_move_51 ki_0 ?_
    exact z_zret zh dX9_move_52 (ra_01 (ra_w rl_0 (by decide) (by decide))) ⟨_, rfl, hG, (ra_w rl_0 (by decide) (by decide)), (fun q => absurd rfl q), (fun q => absurd rfl q), (fun q => absurd rfl q), (fun q => absurd rfl q)⟩
  · have r6 : Ra 1 1 x2 := rb_ne_lo hx2 ra_z q4 (by decide)
    have r7 : Ra 0 11 a1 := (hz3 q4)
    refine z_aloadnR zh dX9_move_13 rfl ?_
    refine z_iloadn zh dX9_move_14 rfl ?_
    refine z_callVI zh mv_Y_90 dX9_move_15 ck_Y rfl (s_X9_isMember g  hG) ⟨Nat.le_of_ble_eq_true rfl, Nat.le_of_ble_eq_true rfl⟩ rfl rfl (Nat.le_of_ble_eq_true rfl) ?_
    rintro x8 _ _ ⟨rfl, rfl, hx8, hz9⟩
    refine z_if_eq (tgt := 51) zh dX9_move_18 rfl (fun q10 => ?_) (fun q10 => ?_)
    · have r11 := rb_eq (u := 0) (v := 0) hx8 ra_z q10 (by decide) (by decide)
      refine z_iconst zh dX9_move_51 ki_0 ?_
      exact z_zret zh dX9_move_52 (ra_01 (ra_w rl_0 (by decide) (by decide))) ⟨_, rfl, hG, (ra_w rl_0 (by decide) (by decide)), (fun q => absurd rfl q), (fun q => absurd rfl q), (fun q => absurd rfl q), (fun q => absurd rfl q)⟩
    · have r12 : Ra 1 1 x8 := rb_ne_lo hx8 ra_z q10 (by decide)
      have r13 : Ra 0 11 a2 := (hz9 q10)
      refine z_iloadn zh dX9_move_21 rfl ?_
      refine z_iloadn zh dX9_move_22 rfl ?_
      refine z_icmp_eq (tgt := 51) zh dX9_move_23 rfl (fun q14 => ?_) (fun q14 => ?_)
      · refine z_iconst zh dX9_move_51 ki_0 ?_
        exact z_zret zh dX9_move_52 (ra_01 (ra_w rl_0 (by decide) (by decide))) ⟨_, rfl, hG, (ra_w rl_0 (by decide) (by decide)), (fun q => absurd rfl q), (fun q => absurd rfl q), (fun q => absurd rfl q), (fun q => absurd rfl q)⟩
      · refine z_aloadnR zh dX9_move_26 rfl ?_
        refine z_iloadn zh dX9_move_27 rfl ?_
        refine z_callVI zh mv_Y_94 dX9_move_28 ck_Y rfl (s_X9_isIssue g  hG) ⟨Nat.le_of_ble_eq_true rfl, Nat.le_of_ble_eq_true rfl⟩ rfl rfl (Nat.le_of_ble_eq_true rfl) ?_
        rintro x16 _ _ ⟨rfl, rfl, hx16, hz17⟩
        refine z_if_eq (tgt := 51) zh dX9_move_31 rfl (fun q18 => ?_) (fun q18 => ?_)
        · have r19 := rb_eq (u := 0) (v := 0) hx16 ra_z q18 (by decide) (by decide)
          refine z_iconst zh dX9_move_51 ki_0 ?_
          exact z_zret zh dX9_move_52 (ra_01 (ra_w rl_0 (by decide) (by decide))) ⟨_, rfl, hG, (ra_w rl_0 (by decide) (by decide)), (fun q => absurd rfl q), (fun q => absurd rfl q), (fun q => absurd rfl q), (fun q => absurd rfl q)⟩
        · have r20 : Ra 1 1 x16 := rb_ne_lo hx16 ra_z q18 (by decide)
          have r21 : Ra 0 5 a3 := (hz17 q18)
          refine z_iload zh dX9_move_34 rfl ?_
          refine z_iconst zh dX9_move_36 ki_1 ?_
          refine z_icmp_lt (tgt := 51) zh dX9_move_37 rfl (fun q22 => ?_) (fun q22 => ?_)
          · have r23 : Ra (-2147483648) 0 a4 := rb_lt_l rl_1 (ra_tt a4) q22 (by decide)
            refine z_iconst zh dX9_move_51 ki_0 ?_
            exact z_zret zh dX9_move_52 (ra_01 (ra_w rl_0 (by decide) (by decide))) ⟨_, rfl, hG, (ra_w rl_0 (by decide) (by decide)), (fun q => absurd rfl q), (fun q => absurd rfl q), (fun q => absurd rfl q), (fun q => absurd rfl q)⟩
          · have r24 : Ra 1 2147483647 a4 := rb_le_r rl_1 (ra_tt a4) (rb_nlt q22) (by decide)
            refine z_iload zh dX9_move_40 rfl ?_
            refine z_aloadnR zh dX9_move_42 rfl ?_
            refine z_iloadn zh dX9_move_43 rfl ?_
            refine z_iloadn zh dX9_move_44 rfl ?_
            refine z_callVI zh mv_Y_98 dX9_move_45 ck_Y rfl (s_X9_freeOf g r7 r21 hG) ⟨Nat.le_of_ble_eq_true rfl, Nat.le_of_ble_eq_true rfl⟩ rfl rfl (Nat.le_of_ble_eq_true rfl) ?_
            rintro x25 _ _ ⟨rfl, rfl, _⟩
            refine z_icmp_le (tgt := 53) zh dX9_move_48 rfl (fun q26 => ?_) (fun q26 => ?_)
            · have r27 : Ra 1 2147483647 x25 := rb_le_r r24 (ra_tt x25) q26 (by decide)
              refine z_aloadnR zh dX9_move_53 rfl ?_
              refine z_iloadn zh dX9_move_54 rfl ?_
              refine z_iloadn zh dX9_move_55 rfl ?_
              refine z_iload zh dX9_move_56 rfl ?_
              refine y_ineg zh dX9_move_58 r24 (by decide) (u := (-2147483647)) (v := (-1)) rfl rfl (fun x28 _ hx28 => ?_)
              refine z_callVV zh mv_Y_101 dX9_move_59 ck_Y rfl (s_X9_stockMore g r7 r21 hG) ⟨Nat.le_of_ble_eq_true rfl, Nat.le_of_ble_eq_true rfl⟩ rfl rfl (Nat.le_of_ble_eq_true rfl) ?_
              rintro iv lv ⟨hG, _⟩
              refine z_aloadnR zh dX9_move_62 rfl ?_
              refine z_iloadn zh dX9_move_63 rfl ?_
              refine z_iloadn zh dX9_move_64 rfl ?_
              refine z_iload zh dX9_move_65 rfl ?_
              refine z_callVV zh mv_Y_101 dX9_move_67 ck_Y rfl (s_X9_stockMore g r13 r21 hG) ⟨Nat.le_of_ble_eq_true rfl, Nat.le_of_ble_eq_true rfl⟩ rfl rfl (Nat.le_of_ble_eq_true rfl) ?_
              rintro iv lv ⟨hG, _⟩
              refine z_iconst zh dX9_move_70 ki_1 ?_
              exact z_zret zh dX9_move_71 (ra_01 (ra_w rl_1 (by decide) (by decide))) ⟨_, rfl, hG, (ra_w rl_1 (by decide) (by decide)), (fun _ => r7), (fun _ => r13), (fun _ => r21), (fun _ => r24)⟩
            · have r29 : Ra (-2147483648) 2147483646 x25 := rb_lt_l r24 (ra_tt x25) (rb_nle q26) (by decide)
              refine z_iconst zh dX9_move_51 ki_0 ?_
              exact z_zret zh dX9_move_52 (ra_01 (ra_w rl_0 (by decide) (by decide))) ⟨_, rfl, hG, (ra_w rl_0 (by decide) (by decide)), (fun q => absurd rfl q), (fun q => absurd rfl q), (fun q => absurd rfl q), (fun q => absurd rfl q)⟩
set_option maxRecDepth 20000 in
theorem s_X9_notice (g : GE) {sp : Nat → Nat → Bool} {σ : Iv} {iv : Iv} {lv : Lv} {a1 : Int32} {a2 : Int32}  (hG : SI sp σ iv)  : ConI g yX9_notice cX9_notice 3 (some .int) 3 [rf g 551, .int a1, .int a2] iv lv (fun r iv lv => SI sp σ iv ∧ True) := by
  refine con_intro (own := "RollingNetsModel") (by decide +kernel) rfl (Nat.le_of_ble_eq_true rfl) (L0 := [some (rf g 551), some (.int a1), some (.int a2)]) rfl (fun Z zh => ?_)
  refine z_aloadnR zh dX9_notice_0 rfl ?_
  refine z_iconst zh dX9_notice_1 ki_0 ?_
  refine z_putI zh fl_Y_58 dX9_notice_2 ck_Y rfl rfl (Nat.le_of_ble_eq_true rfl) (Or.inl rfl) ?_
  have hG : SI sp σ (upI iv 551 0 (nI 0)) := si_w (k := 551) (j := 0) hG (by decide) (by decide) (sp_no hG ((spc_Y (q := 0)).trans rfl)) (fun lo hi q => (rx_none rfl) lo hi ((rg_Y (q := 0)).symm.trans q))
  have em1 : upI iv 551 0 (nI 0) 551 0 = nI 0 := by rw [upI_at, if_pos ⟨rfl, rfl⟩]
  generalize upI iv 551 0 (nI 0) = iv at hG em1 ⊢
  refine z_aloadnR zh dX9_notice_5 rfl ?_
  refine z_iloadn zh dX9_notice_6 rfl ?_
  refine z_iconst zh dX9_notice_7 ki_0 ?_
  refine z_aloadnR zh dX9_notice_8 rfl ?_
  refine z_getf zh fl_Y_7 dX9_notice_9 ck_Y rfl rfl ?_
  refine z_bipush zh dX9_notice_12 kb_8 ?_
  refine y_ialdN zh ck_now dX9_notice_14 (by decide) (fun x2 ex2 => ?_)
  have hx2 : Ra 0 60 x2 := ra_of ex2 (nr_l hG 8 rfl)
  refine z_iconst zh dX9_notice_15 ki_1 ?_
  refine y_isub zh dX9_notice_16 hx2 rl_1 (u := (-1)) (v := 59) rfl rfl (by decide) (by decide) (fun x3 hc3 hx3 => ?_)
  refine z_callVI zh mv_Y_79 dX9_notice_17 ck_Y rfl (s_X9_isIn g) ⟨Nat.le_of_ble_eq_true rfl, Nat.le_of_ble_eq_true rfl⟩ rfl rfl (Nat.le_of_ble_eq_true rfl) ?_
  rintro x4 _ _ ⟨rfl, rfl, hx4, hz5⟩
  refine z_if_ne (tgt := 25) zh dX9_notice_20 rfl (fun q6 => ?_) (fun q6 => ?_)
  · have r7 : Ra 1 1 x4 := rb_ne_lo hx4 ra_z q6 (by decide)
    have r8 : Ra 0 59 a1 := (rb_in rl_0 hx3 (hz5 q6))
    refine z_aloadnR zh dX9_notice_25 rfl ?_
    refine z_iloadn zh dX9_notice_26 rfl ?_
    refine z_bipush zh dX9_notice_27 kb_10 ?_
    refine z_bipush zh dX9_notice_29 kb_9 ?_
    refine z_aloadnR zh dX9_notice_31 rfl ?_
    refine z_callVI zh mv_Y_61 dX9_notice_32 ck_Y rfl (s_X9_memberMany g  hG) ⟨Nat.le_of_ble_eq_true rfl, Nat.le_of_ble_eq_true rfl⟩ rfl rfl (Nat.le_of_ble_eq_true rfl) ?_
    rintro x9 _ _ ⟨rfl, rfl, hx9⟩
    refine y_iadd zh dX9_notice_35 rl_9 hx9 (u := 11) (v := 21) rfl rfl (by decide) (by decide) (fun x10 hc10 hx10 => ?_)
    refine z_callVI zh mv_Y_79 dX9_notice_36 ck_Y rfl (s_X9_isIn g) ⟨Nat.le_of_ble_eq_true rfl, Nat.le_of_ble_eq_true rfl⟩ rfl rfl (Nat.le_of_ble_eq_true rfl) ?_
    rintro x11 _ _ ⟨rfl, rfl, hx11, hz12⟩
    refine z_if_eq (tgt := 55) zh dX9_notice_39 rfl (fun q13 => ?_) (fun q13 => ?_)
    · have r14 := rb_eq (u := 0) (v := 0) hx11 ra_z q13 (by decide) (by decide)
      refine z_aloadnR zh dX9_notice_55 rfl ?_
      refine z_iloadn zh dX9_notice_56 rfl ?_
      refine z_iconst zh dX9_notice_57 ki_0 ?_
      refine z_bipush zh dX9_notice_58 kb_6 ?_
      refine z_callVI zh mv_Y_79 dX9_notice_60 ck_Y rfl (s_X9_isIn g) ⟨Nat.le_of_ble_eq_true rfl, Nat.le_of_ble_eq_true rfl⟩ rfl rfl (Nat.le_of_ble_eq_true rfl) ?_
      rintro x15 _ _ ⟨rfl, rfl, hx15, hz16⟩
      refine z_if_ne (tgt := 70) zh dX9_notice_63 rfl (fun q17 => ?_) (fun q17 => ?_)
      · have r18 : Ra 1 1 x15 := rb_ne_lo hx15 ra_z q17 (by decide)
        have r19 : Ra 0 6 a2 := (rb_in rl_0 rl_6 (hz16 q17))
        refine z_iloadn zh dX9_notice_70 rfl ?_
        refine z_iconst zh dX9_notice_71 ki_5 ?_
        refine z_icmp_ne (tgt := 86) zh dX9_notice_72 rfl (fun q20 => ?_) (fun q20 => ?_)
        · refine z_aloadnR zh dX9_notice_86 rfl ?_
          refine z_iloadn zh dX9_notice_87 rfl ?_
          refine z_iloadn zh dX9_notice_88 rfl ?_
          refine z_callVI zh mv_Y_157 dX9_notice_89 ck_Y rfl (s_X9_noticeOf g r8 (ra_w r19 (by decide) (by decide)) hG) ⟨Nat.le_of_ble_eq_true rfl, Nat.le_of_ble_eq_true rfl⟩ rfl rfl (Nat.le_of_ble_eq_true rfl) ?_
          rintro x21 _ _ ⟨rfl, rfl, z22, ez22, ex21⟩
          exact z_iret zh dX9_notice_92 ⟨_, rfl, hG, trivial⟩
        · have r23 := rb_eq (u := 5) (v := 5) r19 rl_5 q20 (by decide) (by decide)
          refine z_aloadnR zh dX9_notice_75 rfl ?_
          refine z_iloadn zh dX9_notice_76 rfl ?_
          refine z_iconst zh dX9_notice_77 ki_5 ?_
          refine z_callVI zh mv_Y_157 dX9_notice_78 ck_Y rfl (s_X9_noticeOf g r8 (ra_w rl_5 (by decide) (by decide)) hG) ⟨Nat.le_of_ble_eq_true rfl, Nat.le_of_ble_eq_true rfl⟩ rfl rfl (Nat.le_of_ble_eq_true rfl) ?_
          rintro x24 _ _ ⟨rfl, rfl, z25, ez25, ex24⟩
          have hx24 : Ra 0 200 x24 := ra_of ex24 (nr_n5 hG a1.toInt (by have := r8.1; have := r8.2; have := rl_5.1; have := rl_5.2; omega) (by have := r8.1; have := r8.2; have := rl_5.1; have := rl_5.2; omega) (by have := r8.1; have := r8.2; have := rl_5.1; have := rl_5.2; omega))
          refine z_iconst zh dX9_notice_81 ki_1 ?_
          refine y_isub zh dX9_notice_82 hx24 rl_1 (u := (-1)) (v := 199) rfl rfl (by decide) (by decide) (fun x26 hc26 hx26 => ?_)
          refine z_goto (tgt := 92) zh dX9_notice_83 rfl ?_
          exact z_iret zh dX9_notice_92 ⟨_, rfl, hG, trivial⟩
      · have r27 := rb_eq (u := 0) (v := 0) hx15 ra_z q17 (by decide) (by decide)
        refine z_iconst zh dX9_notice_66 ki_m1 ?_
        refine z_goto (tgt := 92) zh dX9_notice_67 rfl ?_
        exact z_iret zh dX9_notice_92 ⟨_, rfl, hG, trivial⟩
    · have r28 : Ra 1 1 x11 := rb_ne_lo hx11 ra_z q13 (by decide)
      have r29 : Ra 10 21 a2 := (rb_in rl_10 hx10 (hz12 q13))
      refine z_aloadnR zh dX9_notice_42 rfl ?_
      refine z_iloadn zh dX9_notice_43 rfl ?_
      refine z_bipush zh dX9_notice_44 kb_8 ?_
      refine z_iloadn zh dX9_notice_46 rfl ?_
      refine y_iadd zh dX9_notice_47 rl_8 r29 (u := 18) (v := 29) rfl rfl (by decide) (by decide) (fun x30 hc30 hx30 => ?_)
      refine z_bipush zh dX9_notice_48 kb_10 ?_
      refine y_isub zh dX9_notice_50 hx30 rl_10 (u := 8) (v := 19) rfl rfl (by decide) (by decide) (fun x31 hc31 hx31 => ?_)
      refine z_callVI zh mv_Y_157 dX9_notice_51 ck_Y rfl (s_X9_noticeOf g r8 (ra_w hx31 (by decide) (by decide)) hG) ⟨Nat.le_of_ble_eq_true rfl, Nat.le_of_ble_eq_true rfl⟩ rfl rfl (Nat.le_of_ble_eq_true rfl) ?_
      rintro x32 _ _ ⟨rfl, rfl, z33, ez33, ex32⟩
      exact z_iret zh dX9_notice_54 ⟨_, rfl, hG, trivial⟩
  · have r34 := rb_eq (u := 0) (v := 0) hx4 ra_z q6 (by decide) (by decide)
    refine z_iconst zh dX9_notice_23 ki_m1 ?_
    exact z_iret zh dX9_notice_24 ⟨_, rfl, hG, trivial⟩
set_option maxRecDepth 20000 in
theorem s_X9_raw (g : GE) {sp : Nat → Nat → Bool} {σ : Iv} {iv : Iv} {lv : Lv} {a1 : Int32} (ha1 : Ra 0 401 a1) (hG : SI sp σ iv)  : ConI g yX9_raw cX9_raw 2 (some .int) 1 [rf g 551, .int a1] iv lv (fun r iv' lv' => iv = iv' ∧ lv = lv' ∧ (¬ r = (-1) → Ra 0 399 a1)) := by
  refine con_intro (own := "RollingNetsModel") (by decide +kernel) rfl (Nat.le_of_ble_eq_true rfl) (L0 := [some (rf g 551), some (.int a1)]) rfl (fun Z zh => ?_)
  refine z_iloadn zh dX9_raw_0 rfl ?_
  refine z_aloadnR zh dX9_raw_1 rfl ?_
  refine y_getI zh fl_Y_344 dX9_raw_2 ck_Y rfl rfl (fun x1 ex1 => ?_)
  have hx1 : Ra 0 400 x1 := ra_of ex1 (si_Y hG 0 (j := 17) rfl)
  refine z_icmp_ge (tgt := 17) zh dX9_raw_5 rfl (fun q2 => ?_) (fun q2 => ?_)
  · refine z_iconst zh dX9_raw_17 ki_m1 ?_
    exact z_iret zh dX9_raw_18 ⟨_, rfl, rfl, rfl, (fun q => absurd rfl q)⟩
  · have r3 : Ra 0 399 a1 := rb_lt_l hx1 ha1 (rb_nle q2) (by decide)
    have r4 : Ra 1 400 x1 := rb_lt_r ha1 hx1 (rb_nle q2) (by decide)
    refine z_aloadnR zh dX9_raw_8 rfl ?_
    refine z_getf zh fl_Y_39 dX9_raw_9 ck_Y rfl rfl ?_
    refine z_iloadn zh dX9_raw_12 rfl ?_
    refine y_iald zh ck_ytape dX9_raw_13 r3 (by decide) (by decide) (fun x5 ex5 => ?_)
    refine z_goto (tgt := 18) zh dX9_raw_14 rfl ?_
    exact z_iret zh dX9_raw_18 ⟨_, rfl, rfl, rfl, (fun _ => r3)⟩
set_option maxRecDepth 20000 in
theorem s_X9_price (g : GE) {sp : Nat → Nat → Bool} {σ : Iv} {iv : Iv} {lv : Lv} {a1 : Int32} {a2 : Int32}  (hG : SI sp σ iv)  : ConI g yX9_price cX9_price 3 (some .boolean) 2 [rf g 551, .int a1, .int a2] iv lv (fun r iv lv => SI sp σ iv ∧ Ra 0 1 r ∧ (¬ r = 0 → Ra 0 5 a1) ∧ (¬ r = 0 → Ra 1 9999 a2)) := by
  refine con_intro (own := "RollingNetsModel") (by decide +kernel) rfl (Nat.le_of_ble_eq_true rfl) (L0 := [some (rf g 551), some (.int a1), some (.int a2)]) rfl (fun Z zh => ?_)
  refine z_aloadnR zh dX9_price_0 rfl ?_
  refine z_iconst zh dX9_price_1 ki_0 ?_
  refine z_putI zh fl_Y_58 dX9_price_2 ck_Y rfl rfl (Nat.le_of_ble_eq_true rfl) (Or.inl rfl) ?_
  have hG : SI sp σ (upI iv 551 0 (nI 0)) := si_w (k := 551) (j := 0) hG (by decide) (by decide) (sp_no hG ((spc_Y (q := 0)).trans rfl)) (fun lo hi q => (rx_none rfl) lo hi ((rg_Y (q := 0)).symm.trans q))
  have em1 : upI iv 551 0 (nI 0) 551 0 = nI 0 := by rw [upI_at, if_pos ⟨rfl, rfl⟩]
  generalize upI iv 551 0 (nI 0) = iv at hG em1 ⊢
  refine z_aloadnR zh dX9_price_5 rfl ?_
  refine z_iloadn zh dX9_price_6 rfl ?_
  refine z_callVI zh mv_Y_94 dX9_price_7 ck_Y rfl (s_X9_isIssue g  hG) ⟨Nat.le_of_ble_eq_true rfl, Nat.le_of_ble_eq_true rfl⟩ rfl rfl (Nat.le_of_ble_eq_true rfl) ?_
  rintro x2 _ _ ⟨rfl, rfl, hx2, hz3⟩
  refine z_if_eq (tgt := 25) zh dX9_price_10 rfl (fun q4 => ?_) (fun q4 => ?_)
  · have r5 := rb_eq (u := 0) (v := 0) hx2 ra_z q4 (by decide) (by decide)
    refine z_iconst zh dX9_price_25 ki_0 ?_
    exact z_zret zh dX9_price_26 (ra_01 (ra_w rl_0 (by decide) (by decide))) ⟨_, rfl, hG, (ra_w rl_0 (by decide) (by decide)), (fun q => absurd rfl q), (fun q => absurd rfl q)⟩
  · have r6 : Ra 1 1 x2 := rb_ne_lo hx2 ra_z q4 (by decide)
    have r7 : Ra 0 5 a1 := (hz3 q4)
    refine z_aloadnR zh dX9_price_13 rfl ?_
    refine z_iloadn zh dX9_price_14 rfl ?_
    refine z_iconst zh dX9_price_15 ki_1 ?_
    refine z_sipush zh dX9_price_16 ks_9999 ?_
    refine z_callVI zh mv_Y_79 dX9_price_19 ck_Y rfl (s_X9_isIn g) ⟨Nat.le_of_ble_eq_true rfl, Nat.le_of_ble_eq_true rfl⟩ rfl rfl (Nat.le_of_ble_eq_true rfl) ?_
    rintro x8 _ _ ⟨rfl, rfl, hx8, hz9⟩
    refine z_if_ne (tgt := 27) zh dX9_price_22 rfl (fun q10 => ?_) (fun q10 => ?_)
    · have r11 : Ra 1 1 x8 := rb_ne_lo hx8 ra_z q10 (by decide)
      have r12 : Ra 1 9999 a2 := (rb_in rl_1 rl_9999 (hz9 q10))
      refine z_aloadnR zh dX9_price_27 rfl ?_
      refine z_getf zh fl_Y_7 dX9_price_28 ck_Y rfl rfl ?_
      refine z_bipush zh dX9_price_31 kb_16 ?_
      refine z_iloadn zh dX9_price_33 rfl ?_
      refine y_iadd zh dX9_price_34 rl_16 r7 (u := 16) (v := 21) rfl rfl (by decide) (by decide) (fun x13 hc13 hx13 => ?_)
      refine z_iloadn zh dX9_price_35 rfl ?_
      refine z_bipush zh dX9_price_36 kb_100 ?_
      refine y_isub zh dX9_price_38 r12 rl_100 (u := (-99)) (v := 9899) rfl rfl (by decide) (by decide) (fun x14 hc14 hx14 => ?_)
      refine z_iast zh ck_now dX9_price_39 (ra_in hx13 (by decide) (by decide)) ?_
      have hG : SI sp σ (upI iv 552 x13.toNatClampNeg x14) := (nw_free hG (by have := rl_16.1; have := rl_16.2; have := r7.1; have := r7.2; omega))
      have em15 := (upI_ne (iv := iv) (k := 552) (j := x13.toNatClampNeg) (x := x14) (a := 551) (b := 0) (Or.inl (by decide))).trans em1
      generalize upI iv 552 x13.toNatClampNeg x14 = iv at hG em15 ⊢
      refine z_iconst zh dX9_price_40 ki_1 ?_
      exact z_zret zh dX9_price_41 (ra_01 (ra_w rl_1 (by decide) (by decide))) ⟨_, rfl, hG, (ra_w rl_1 (by decide) (by decide)), (fun _ => r7), (fun _ => r12)⟩
    · have r16 := rb_eq (u := 0) (v := 0) hx8 ra_z q10 (by decide) (by decide)
      refine z_iconst zh dX9_price_25 ki_0 ?_
      exact z_zret zh dX9_price_26 (ra_01 (ra_w rl_0 (by decide) (by decide))) ⟨_, rfl, hG, (ra_w rl_0 (by decide) (by decide)), (fun q => absurd rfl q), (fun q => absurd rfl q)⟩
set_option maxRecDepth 20000 in
theorem s_X9_queue (g : GE) {sp : Nat → Nat → Bool} {σ : Iv} {iv : Iv} {lv : Lv} {a1 : Int32} {a2 : Int32} {a3 : Int32}  (hG : SI sp σ iv)  : ConI g yX9_queue cX9_queue 4 (some .int) 7 [rf g 551, .int a1, .int a2, .int a3] iv lv (fun r iv lv => SI sp σ iv ∧ True) := by
  refine con_intro (own := "RollingNetsModel") (by decide +kernel) rfl (Nat.le_of_ble_eq_true rfl) (L0 := [some (rf g 551), some (.int a1), some (.int a2), some (.int a3)]) rfl (fun Z zh => ?_)
  refine z_aloadnR zh dX9_queue_0 rfl ?_
  refine z_iconst zh dX9_queue_1 ki_0 ?_
  refine z_putI zh fl_Y_58 dX9_queue_2 ck_Y rfl rfl (Nat.le_of_ble_eq_true rfl) (Or.inl rfl) ?_
  have hG : SI sp σ (upI iv 551 0 (nI 0)) := si_w (k := 551) (j := 0) hG (by decide) (by decide) (sp_no hG ((spc_Y (q := 0)).trans rfl)) (fun lo hi q => (rx_none rfl) lo hi ((rg_Y (q := 0)).symm.trans q))
  have em1 : upI iv 551 0 (nI 0) 551 0 = nI 0 := by rw [upI_at, if_pos ⟨rfl, rfl⟩]
  generalize upI iv 551 0 (nI 0) = iv at hG em1 ⊢
  refine z_aloadnR zh dX9_queue_5 rfl ?_
  refine z_iloadn zh dX9_queue_6 rfl ?_
  refine z_callVI zh mv_Y_94 dX9_queue_7 ck_Y rfl (s_X9_isIssue g  hG) ⟨Nat.le_of_ble_eq_true rfl, Nat.le_of_ble_eq_true rfl⟩ rfl rfl (Nat.le_of_ble_eq_true rfl) ?_
  rintro x2 _ _ ⟨rfl, rfl, hx2, hz3⟩
  refine z_if_ne (tgt := 15) zh dX9_queue_10 rfl (fun q4 => ?_) (fun q4 => ?_)
  · have r5 : Ra 1 1 x2 := rb_ne_lo hx2 ra_z q4 (by decide)
    have r6 : Ra 0 5 a1 := (hz3 q4)
    refine z_aloadnR zh dX9_queue_15 rfl ?_
    refine z_iloadn zh dX9_queue_16 rfl ?_
    refine z_bipush zh dX9_queue_17 kb_99 ?_
    refine z_callVV zh mv_Y_271 dX9_queue_19 ck_Y rfl (s_X9_laysQueue g r6 hG) ⟨Nat.le_of_ble_eq_true rfl, Nat.le_of_ble_eq_true rfl⟩ rfl rfl (Nat.le_of_ble_eq_true rfl) ?_
    rintro iv lv hG
    refine z_iloadn zh dX9_queue_22 rfl ?_
    refine z_iconst zh dX9_queue_23 ki_m1 ?_
    refine z_icmp_ne (tgt := 32) zh dX9_queue_24 rfl (fun q7 => ?_) (fun q7 => ?_)
    · refine z_aloadnR zh dX9_queue_32 rfl ?_
      refine z_iloadn zh dX9_queue_33 rfl ?_
      refine z_iconst zh dX9_queue_34 ki_0 ?_
      refine z_aloadnR zh dX9_queue_35 rfl ?_
      refine y_getI zh fl_Y_240 dX9_queue_36 ck_Y rfl rfl (fun x8 ex8 => ?_)
      have hx8 : Ra 0 1224 x8 := ra_of ex8 (si_Y hG 0 (j := 10) rfl)
      refine z_iconst zh dX9_queue_39 ki_1 ?_
      refine y_isub zh dX9_queue_40 hx8 rl_1 (u := (-1)) (v := 1223) rfl rfl (by decide) (by decide) (fun x9 hc9 hx9 => ?_)
      refine z_callVI zh mv_Y_79 dX9_queue_41 ck_Y rfl (s_X9_isIn g) ⟨Nat.le_of_ble_eq_true rfl, Nat.le_of_ble_eq_true rfl⟩ rfl rfl (Nat.le_of_ble_eq_true rfl) ?_
      rintro x10 _ _ ⟨rfl, rfl, hx10, hz11⟩
      refine z_if_eq (tgt := 57) zh dX9_queue_44 rfl (fun q12 => ?_) (fun q12 => ?_)
      · have r13 := rb_eq (u := 0) (v := 0) hx10 ra_z q12 (by decide) (by decide)
        refine z_iconst zh dX9_queue_57 ki_m1 ?_
        exact z_iret zh dX9_queue_58 ⟨_, rfl, hG, trivial⟩
      · have r14 : Ra 1 1 x10 := rb_ne_lo hx10 ra_z q12 (by decide)
        have r15 : Ra 0 1223 a2 := (rb_in rl_0 hx9 (hz11 q12))
        refine z_aloadnR zh dX9_queue_47 rfl ?_
        refine z_iloadn zh dX9_queue_48 rfl ?_
        refine z_iconst zh dX9_queue_49 ki_0 ?_
        refine z_iconst zh dX9_queue_50 ki_2 ?_
        refine z_callVI zh mv_Y_79 dX9_queue_51 ck_Y rfl (s_X9_isIn g) ⟨Nat.le_of_ble_eq_true rfl, Nat.le_of_ble_eq_true rfl⟩ rfl rfl (Nat.le_of_ble_eq_true rfl) ?_
        rintro x16 _ _ ⟨rfl, rfl, hx16, hz17⟩
        refine z_if_ne (tgt := 59) zh dX9_queue_54 rfl (fun q18 => ?_) (fun q18 => ?_)
        · have r19 : Ra 1 1 x16 := rb_ne_lo hx16 ra_z q18 (by decide)
          have r20 : Ra 0 2 a3 := (rb_in rl_0 rl_2 (hz17 q18))
          refine z_iloadn zh dX9_queue_59 rfl ?_
          refine z_if_ne (tgt := 72) zh dX9_queue_60 rfl (fun q21 => ?_) (fun q21 => ?_)
          · have r22 : Ra 1 2 a3 := rb_ne_lo r20 ra_z q21 (by decide)
            refine z_iloadn zh dX9_queue_72 rfl ?_
            refine z_iconst zh dX9_queue_73 ki_1 ?_
            refine z_icmp_ne (tgt := 86) zh dX9_queue_74 rfl (fun q23 => ?_) (fun q23 => ?_)
            · have r24 : Ra 2 2 a3 := rb_ne_lo r22 rl_1 q23 (by decide)
              refine z_aloadnR zh dX9_queue_86 rfl ?_
              refine z_getf zh fl_Y_32 dX9_queue_87 ck_Y rfl rfl ?_
              refine z_iloadn zh dX9_queue_90 rfl ?_
              refine y_iald zh ck_qS dX9_queue_91 r15 (by decide) (by decide) (fun x25 ex25 => ?_)
              exact z_iret zh dX9_queue_92 ⟨_, rfl, hG, trivial⟩
            · have r26 := rb_eq (u := 1) (v := 1) r22 rl_1 q23 (by decide) (by decide)
              refine z_aloadnR zh dX9_queue_77 rfl ?_
              refine z_getf zh fl_Y_29 dX9_queue_78 ck_Y rfl rfl ?_
              refine z_iloadn zh dX9_queue_81 rfl ?_
              refine y_iald zh ck_qD dX9_queue_82 r15 (by decide) (by decide) (fun x27 ex27 => ?_)
              have hx27 : Ra 0 99 x27 := ra_of ex27 (si_Y hG 7 rfl)
              refine z_goto (tgt := 92) zh dX9_queue_83 rfl ?_
              exact z_iret zh dX9_queue_92 ⟨_, rfl, hG, trivial⟩
          · have r28 := rb_eq (u := 0) (v := 0) r20 ra_z q21 (by decide) (by decide)
            refine z_aloadnR zh dX9_queue_63 rfl ?_
            refine z_getf zh fl_Y_26 dX9_queue_64 ck_Y rfl rfl ?_
            refine z_iloadn zh dX9_queue_67 rfl ?_
            refine y_iald zh ck_qM dX9_queue_68 r15 (by decide) (by decide) (fun x29 ex29 => ?_)
            have hx29 : Ra 0 11 x29 := ra_of ex29 (si_Y hG 6 rfl)
            refine z_goto (tgt := 92) zh dX9_queue_69 rfl ?_
            exact z_iret zh dX9_queue_92 ⟨_, rfl, hG, trivial⟩
        · have r30 := rb_eq (u := 0) (v := 0) hx16 ra_z q18 (by decide) (by decide)
          refine z_iconst zh dX9_queue_57 ki_m1 ?_
          exact z_iret zh dX9_queue_58 ⟨_, rfl, hG, trivial⟩
    · have r31 := rb_eq (u := (-1)) (v := (-1)) (ra_tt a2) rl_n1 q7 (by decide) (by decide)
      refine z_aloadnR zh dX9_queue_27 rfl ?_
      refine y_getI zh fl_Y_240 dX9_queue_28 ck_Y rfl rfl (fun x32 ex32 => ?_)
      have hx32 : Ra 0 1224 x32 := ra_of ex32 (si_Y hG 0 (j := 10) rfl)
      exact z_iret zh dX9_queue_31 ⟨_, rfl, hG, trivial⟩
  · have r33 := rb_eq (u := 0) (v := 0) hx2 ra_z q4 (by decide) (by decide)
    refine z_iconst zh dX9_queue_13 ki_m1 ?_
    exact z_iret zh dX9_queue_14 ⟨_, rfl, hG, trivial⟩
set_option maxRecDepth 20000 in
theorem s_X9_tell (g : GE) {sp : Nat → Nat → Bool} {σ : Iv} {iv : Iv} {lv : Lv} {a1 : Int32} {a2 : Int32} {a3 : Int32} {a4 : Int32}  (hG : SI sp σ iv)  : ConI g yX9_tell cX9_tell 5 (some .boolean) 3 [rf g 551, .int a1, .int a2, .int a3, .int a4] iv lv (fun r iv lv => SI sp σ iv ∧ Ra 0 1 r ∧ (¬ r = 0 → Ra 0 11 a1) ∧ (¬ r = 0 → Ra 0 3 a3) ∧ (¬ r = 0 → Ra 0 99999 a4)) := by
  refine con_intro (own := "RollingNetsModel") (by decide +kernel) rfl (Nat.le_of_ble_eq_true rfl) (L0 := [some (rf g 551), some (.int a1), some (.int a2), some (.int a3), some (.int a4)]) rfl (fun Z zh => ?_)
  refine z_aloadnR zh dX9_tell_0 rfl ?_
  refine z_iconst zh dX9_tell_1 ki_0 ?_
  refine z_putI zh fl_Y_58 dX9_tell_2 ck_Y rfl rfl (Nat.le_of_ble_eq_true rfl) (Or.inl rfl) ?_
  have hG : SI sp σ (upI iv 551 0 (nI 0)) := si_w (k := 551) (j := 0) hG (by decide) (by decide) (sp_no hG ((spc_Y (q := 0)).trans rfl)) (fun lo hi q => (rx_none rfl) lo hi ((rg_Y (q := 0)).symm.trans q))
  have em1 : upI iv 551 0 (nI 0) 551 0 = nI 0 := by rw [upI_at, if_pos ⟨rfl, rfl⟩]
  generalize upI iv 551 0 (nI 0) = iv at hG em1 ⊢
  refine z_aloadnR zh dX9_tell_5 rfl ?_
  refine z_iloadn zh dX9_tell_6 rfl ?_
  refine z_callVI zh mv_Y_90 dX9_tell_7 ck_Y rfl (s_X9_isMember g  hG) ⟨Nat.le_of_ble_eq_true rfl, Nat.le_of_ble_eq_true rfl⟩ rfl rfl (Nat.le_of_ble_eq_true rfl) ?_
  rintro x2 _ _ ⟨rfl, rfl, hx2, hz3⟩
  refine z_if_eq (tgt := 23) zh dX9_tell_10 rfl (fun q4 => ?_) (fun q4 => ?_)
  · have r5 := rb_eq (u := 0) (v := 0) hx2 ra_z q4 (by decide) (by decide)
    refine z_iconst zh dX9_tell_23 ki_0 ?_
    exact z_zret zh dX9_tell_24 (ra_01 (ra_w rl_0 (by decide) (by decide))) ⟨_, rfl, hG, (ra_w rl_0 (by decide) (by decide)), (fun q => absurd rfl q), (fun q => absurd rfl q), (fun q => absurd rfl q)⟩
  · have r6 : Ra 1 1 x2 := rb_ne_lo hx2 ra_z q4 (by decide)
    have r7 : Ra 0 11 a1 := (hz3 q4)
    refine z_aloadnR zh dX9_tell_13 rfl ?_
    refine z_iloadn zh dX9_tell_14 rfl ?_
    refine z_iconst zh dX9_tell_15 ki_0 ?_
    refine z_iconst zh dX9_tell_16 ki_3 ?_
    refine z_callVI zh mv_Y_79 dX9_tell_17 ck_Y rfl (s_X9_isIn g) ⟨Nat.le_of_ble_eq_true rfl, Nat.le_of_ble_eq_true rfl⟩ rfl rfl (Nat.le_of_ble_eq_true rfl) ?_
    rintro x8 _ _ ⟨rfl, rfl, hx8, hz9⟩
    refine z_if_ne (tgt := 25) zh dX9_tell_20 rfl (fun q10 => ?_) (fun q10 => ?_)
    · have r11 : Ra 1 1 x8 := rb_ne_lo hx8 ra_z q10 (by decide)
      have r12 : Ra 0 3 a3 := (rb_in rl_0 rl_3 (hz9 q10))
      refine z_iloadn zh dX9_tell_25 rfl ?_
      refine z_iconst zh dX9_tell_26 ki_3 ?_
      refine z_icmp_ne (tgt := 57) zh dX9_tell_27 rfl (fun q13 => ?_) (fun q13 => ?_)
      · have r14 : Ra 0 2 a3 := rb_ne_hi r12 rl_3 q13 (by decide)
        refine z_aloadnR zh dX9_tell_57 rfl ?_
        refine z_iloadn zh dX9_tell_58 rfl ?_
        refine z_callVI zh mv_Y_94 dX9_tell_59 ck_Y rfl (s_X9_isIssue g  hG) ⟨Nat.le_of_ble_eq_true rfl, Nat.le_of_ble_eq_true rfl⟩ rfl rfl (Nat.le_of_ble_eq_true rfl) ?_
        rintro x15 _ _ ⟨rfl, rfl, hx15, hz16⟩
        refine z_if_eq (tgt := 77) zh dX9_tell_62 rfl (fun q17 => ?_) (fun q17 => ?_)
        · have r18 := rb_eq (u := 0) (v := 0) hx15 ra_z q17 (by decide) (by decide)
          refine z_iconst zh dX9_tell_77 ki_0 ?_
          exact z_zret zh dX9_tell_78 (ra_01 (ra_w rl_0 (by decide) (by decide))) ⟨_, rfl, hG, (ra_w rl_0 (by decide) (by decide)), (fun q => absurd rfl q), (fun q => absurd rfl q), (fun q => absurd rfl q)⟩
        · have r19 : Ra 1 1 x15 := rb_ne_lo hx15 ra_z q17 (by decide)
          have r20 : Ra 0 5 a2 := (hz16 q17)
          refine z_aloadnR zh dX9_tell_65 rfl ?_
          refine z_iload zh dX9_tell_66 rfl ?_
          refine z_iconst zh dX9_tell_68 ki_0 ?_
          refine z_ldc zh dX9_tell_69 kc_Y_97 ?_
          refine z_callVI zh mv_Y_79 dX9_tell_71 ck_Y rfl (s_X9_isIn g) ⟨Nat.le_of_ble_eq_true rfl, Nat.le_of_ble_eq_true rfl⟩ rfl rfl (Nat.le_of_ble_eq_true rfl) ?_
          rintro x21 _ _ ⟨rfl, rfl, hx21, hz22⟩
          refine z_if_ne (tgt := 79) zh dX9_tell_74 rfl (fun q23 => ?_) (fun q23 => ?_)
          · have r24 : Ra 1 1 x21 := rb_ne_lo hx21 ra_z q23 (by decide)
            have r25 : Ra 0 99999 a4 := (rb_in rl_0 rl_99999 (hz22 q23))
            refine z_aloadnR zh dX9_tell_79 rfl ?_
            refine z_getf zh fl_Y_7 dX9_tell_80 ck_Y rfl rfl ?_
            refine z_bipush zh dX9_tell_83 kb_60 ?_
            refine z_bipush zh dX9_tell_85 kb_72 ?_
            refine z_iloadn zh dX9_tell_87 rfl ?_
            refine y_imul2 zh dX9_tell_88 r14 rl_72 (by decide) (u := 0) (v := 144) rfl rfl (by decide) (by decide) (fun x26 hc26 hx26 => ?_)
            refine y_iadd zh dX9_tell_89 rl_60 hx26 (u := 60) (v := 204) rfl rfl (by decide) (by decide) (fun x27 hc27 hx27 => ?_)
            refine z_aloadnR zh dX9_tell_90 rfl ?_
            refine z_iloadn zh dX9_tell_91 rfl ?_
            refine z_iloadn zh dX9_tell_92 rfl ?_
            refine z_callVI zh mv_Y_65 dX9_tell_93 ck_Y rfl (s_X9_cellOf g r7 r20 hG) ⟨Nat.le_of_ble_eq_true rfl, Nat.le_of_ble_eq_true rfl⟩ rfl rfl (Nat.le_of_ble_eq_true rfl) ?_
            rintro x28 _ _ ⟨rfl, rfl, hx28, hc28⟩
            refine y_iadd zh dX9_tell_96 hx27 hx28 (u := 60) (v := 275) rfl rfl (by decide) (by decide) (fun x29 hc29 hx29 => ?_)
            refine z_iload zh dX9_tell_97 rfl ?_
            refine z_iast zh ck_now dX9_tell_99 (ra_in hx29 (by decide) (by decide)) ?_
            have hG : SI sp σ (upI iv 552 x29.toNatClampNeg a4) := (nw_free hG (by have := rl_60.1; have := rl_60.2; have := rl_72.1; have := rl_72.2; have := r14.1; have := r14.2; have := r7.1; have := r7.2; have := r20.1; have := r20.2; omega))
            have em30 := (upI_ne (iv := iv) (k := 552) (j := x29.toNatClampNeg) (x := a4) (a := 551) (b := 0) (Or.inl (by decide))).trans em1
            generalize upI iv 552 x29.toNatClampNeg a4 = iv at hG em30 ⊢
            refine z_iconst zh dX9_tell_100 ki_1 ?_
            exact z_zret zh dX9_tell_101 (ra_01 (ra_w rl_1 (by decide) (by decide))) ⟨_, rfl, hG, (ra_w rl_1 (by decide) (by decide)), (fun _ => r7), (fun _ => (ra_w r14 (by decide) (by decide))), (fun _ => r25)⟩
          · have r31 := rb_eq (u := 0) (v := 0) hx21 ra_z q23 (by decide) (by decide)
            refine z_iconst zh dX9_tell_77 ki_0 ?_
            exact z_zret zh dX9_tell_78 (ra_01 (ra_w rl_0 (by decide) (by decide))) ⟨_, rfl, hG, (ra_w rl_0 (by decide) (by decide)), (fun q => absurd rfl q), (fun q => absurd rfl q), (fun q => absurd rfl q)⟩
      · have r32 := rb_eq (u := 3) (v := 3) r12 rl_3 q13 (by decide) (by decide)
        refine z_aloadnR zh dX9_tell_30 rfl ?_
        refine z_iload zh dX9_tell_31 rfl ?_
        refine z_iconst zh dX9_tell_33 ki_0 ?_
        refine z_bipush zh dX9_tell_34 kb_9 ?_
        refine z_callVI zh mv_Y_79 dX9_tell_36 ck_Y rfl (s_X9_isIn g) ⟨Nat.le_of_ble_eq_true rfl, Nat.le_of_ble_eq_true rfl⟩ rfl rfl (Nat.le_of_ble_eq_true rfl) ?_
        rintro x33 _ _ ⟨rfl, rfl, hx33, hz34⟩
        refine z_if_ne (tgt := 44) zh dX9_tell_39 rfl (fun q35 => ?_) (fun q35 => ?_)
        · have r36 : Ra 1 1 x33 := rb_ne_lo hx33 ra_z q35 (by decide)
          have r37 : Ra 0 9 a4 := (rb_in rl_0 rl_9 (hz34 q35))
          refine z_aloadnR zh dX9_tell_44 rfl ?_
          refine z_getf zh fl_Y_7 dX9_tell_45 ck_Y rfl rfl ?_
          refine z_bipush zh dX9_tell_48 kb_34 ?_
          refine z_iloadn zh dX9_tell_50 rfl ?_
          refine y_iadd zh dX9_tell_51 rl_34 r7 (u := 34) (v := 45) rfl rfl (by decide) (by decide) (fun x38 hc38 hx38 => ?_)
          refine z_iload zh dX9_tell_52 rfl ?_
          refine z_iast zh ck_now dX9_tell_54 (ra_in hx38 (by decide) (by decide)) ?_
          have hG : SI sp σ (upI iv 552 x38.toNatClampNeg a4) := (nw_free hG (by have := rl_34.1; have := rl_34.2; have := r7.1; have := r7.2; omega))
          have em39 := (upI_ne (iv := iv) (k := 552) (j := x38.toNatClampNeg) (x := a4) (a := 551) (b := 0) (Or.inl (by decide))).trans em1
          generalize upI iv 552 x38.toNatClampNeg a4 = iv at hG em39 ⊢
          refine z_iconst zh dX9_tell_55 ki_1 ?_
          exact z_zret zh dX9_tell_56 (ra_01 (ra_w rl_1 (by decide) (by decide))) ⟨_, rfl, hG, (ra_w rl_1 (by decide) (by decide)), (fun _ => r7), (fun _ => (ra_w r32.1 (by decide) (by decide))), (fun _ => (ra_w r37 (by decide) (by decide)))⟩
        · have r40 := rb_eq (u := 0) (v := 0) hx33 ra_z q35 (by decide) (by decide)
          refine z_iconst zh dX9_tell_42 ki_0 ?_
          exact z_zret zh dX9_tell_43 (ra_01 (ra_w rl_0 (by decide) (by decide))) ⟨_, rfl, hG, (ra_w rl_0 (by decide) (by decide)), (fun q => absurd rfl q), (fun q => absurd rfl q), (fun q => absurd rfl q)⟩
    · have r41 := rb_eq (u := 0) (v := 0) hx8 ra_z q10 (by decide) (by decide)
      refine z_iconst zh dX9_tell_23 ki_0 ?_
      exact z_zret zh dX9_tell_24 (ra_01 (ra_w rl_0 (by decide) (by decide))) ⟨_, rfl, hG, (ra_w rl_0 (by decide) (by decide)), (fun q => absurd rfl q), (fun q => absurd rfl q), (fun q => absurd rfl q)⟩
set_option maxRecDepth 20000 in
theorem s_X9_set_0 (g : GE) {sp : Nat → Nat → Bool} {σ : Iv} {iv : Iv} {lv : Lv} {a2 : Int32}  (hG : SI sp σ iv) (hq : Sq sp) : ConI g yX9_set cX9_set 3 (some .boolean) 3 [rf g 551, .int (nI 0), .int a2] iv lv (fun r iv lv => SI sp σ iv ∧ Ra 0 1 r ∧ (¬ r = 0 → Ra 2 12 a2)) := by
  refine con_intro (own := "RollingNetsModel") (by decide +kernel) rfl (Nat.le_of_ble_eq_true rfl) (L0 := [some (rf g 551), some (.int (nI 0)), some (.int a2)]) rfl (fun Z zh => ?_)
  refine z_aloadnR zh dX9_set_0 rfl ?_
  refine z_iconst zh dX9_set_1 ki_0 ?_
  refine z_putI zh fl_Y_58 dX9_set_2 ck_Y rfl rfl (Nat.le_of_ble_eq_true rfl) (Or.inl rfl) ?_
  have hG : SI sp σ (upI iv 551 0 (nI 0)) := si_w (k := 551) (j := 0) hG (by decide) (by decide) (sp_no hG ((spc_Y (q := 0)).trans rfl)) (fun lo hi q => (rx_none rfl) lo hi ((rg_Y (q := 0)).symm.trans q))
  have em1 : upI iv 551 0 (nI 0) 551 0 = nI 0 := by rw [upI_at, if_pos ⟨rfl, rfl⟩]
  generalize upI iv 551 0 (nI 0) = iv at hG em1 ⊢
  refine z_aloadnR zh dX9_set_5 rfl ?_
  refine z_iloadn zh dX9_set_6 rfl ?_
  refine z_iloadn zh dX9_set_7 rfl ?_
  refine z_callVI zh mv_Y_87 dX9_set_8 ck_Y rfl (s_X9_canSet_0 g  hG) ⟨Nat.le_of_ble_eq_true rfl, Nat.le_of_ble_eq_true rfl⟩ rfl rfl (Nat.le_of_ble_eq_true rfl) ?_
  rintro x2 _ _ ⟨rfl, rfl, hx2, hz3⟩
  refine z_if_ne (tgt := 16) zh dX9_set_11 rfl (fun q4 => ?_) (fun q4 => ?_)
  · have r5 : Ra 1 1 x2 := rb_ne_lo hx2 ra_z q4 (by decide)
    have r6 : Ra 2 12 a2 := (hz3 q4)
    refine z_iloadn zh dX9_set_16 rfl ?_
    refine z_bipush zh dX9_set_17 kb_6 ?_
    refine z_icmp_ne (tgt := 33) zh dX9_set_19 rfl (fun q7 => ?_) (fun q7 => ?_)
    · refine z_aloadnR zh dX9_set_33 rfl ?_
      refine z_getf zh fl_Y_7 dX9_set_34 ck_Y rfl rfl ?_
      refine z_iloadn zh dX9_set_37 rfl ?_
      refine z_iloadn zh dX9_set_38 rfl ?_
      refine z_aloadnR zh dX9_set_39 rfl ?_
      refine z_iloadn zh dX9_set_40 rfl ?_
      refine z_callVI zh mv_Y_83 dX9_set_41 ck_Y rfl (s_X9_firstOf_0 g  hG) ⟨Nat.le_of_ble_eq_true rfl, Nat.le_of_ble_eq_true rfl⟩ rfl rfl (Nat.le_of_ble_eq_true rfl) ?_
      rintro x8 _ _ ⟨rfl, rfl, hx8⟩
      refine y_isub zh dX9_set_44 r6 hx8 (u := (-4)) (v := 6) rfl rfl (by decide) (by decide) (fun x9 hc9 hx9 => ?_)
      refine z_iastN (j := 0) zh ck_now dX9_set_45 (by decide) ?_
      have hG : SI sp σ (upI iv 552 0 x9) := (nw_lq hG hq (j := 0) (by decide) (by decide) (by decide) (rx_some hx9))
      have em10 := (upI_ne (iv := iv) (k := 552) (j := 0) (x := x9) (a := 551) (b := 0) (Or.inl (by decide))).trans em1
      have em11 : upI iv 552 0 x9 552 0 = x9 := by rw [upI_at, if_pos ⟨rfl, rfl⟩]
      generalize upI iv 552 0 x9 = iv at hG em10 em11 ⊢
      refine z_iconst zh dX9_set_46 ki_1 ?_
      exact z_zret zh dX9_set_47 (ra_01 (ra_w rl_1 (by decide) (by decide))) ⟨_, rfl, hG, (ra_w rl_1 (by decide) (by decide)), (fun _ => r6)⟩
    · have r12 := rb_eq (u := 6) (v := 0) rl_0 rl_6 q7 (by decide) (by decide)
      exact (ra_no r12.1 (by decide)).elim
  · have r13 := rb_eq (u := 0) (v := 0) hx2 ra_z q4 (by decide) (by decide)
    refine z_iconst zh dX9_set_14 ki_0 ?_
    exact z_zret zh dX9_set_15 (ra_01 (ra_w rl_0 (by decide) (by decide))) ⟨_, rfl, hG, (ra_w rl_0 (by decide) (by decide)), (fun q => absurd rfl q)⟩
set_option maxRecDepth 20000 in
theorem s_X9_set_n (g : GE) {sp : Nat → Nat → Bool} {σ : Iv} {iv : Iv} {lv : Lv} {a1 : Int32} {a2 : Int32}  (hG : SI sp σ iv) (hq : Sq sp) (h0 : ¬ a1 = nI 0) : ConI g yX9_set cX9_set 3 (some .boolean) 3 [rf g 551, .int a1, .int a2] iv lv (fun r iv lv => SI sp σ iv ∧ Ra 0 1 r ∧ (¬ r = 0 → Ra 1 6 a1) ∧ (¬ r = 0 → Ra 0 100 a2)) := by
  refine con_intro (own := "RollingNetsModel") (by decide +kernel) rfl (Nat.le_of_ble_eq_true rfl) (L0 := [some (rf g 551), some (.int a1), some (.int a2)]) rfl (fun Z zh => ?_)
  refine z_aloadnR zh dX9_set_0 rfl ?_
  refine z_iconst zh dX9_set_1 ki_0 ?_
  refine z_putI zh fl_Y_58 dX9_set_2 ck_Y rfl rfl (Nat.le_of_ble_eq_true rfl) (Or.inl rfl) ?_
  have hG : SI sp σ (upI iv 551 0 (nI 0)) := si_w (k := 551) (j := 0) hG (by decide) (by decide) (sp_no hG ((spc_Y (q := 0)).trans rfl)) (fun lo hi q => (rx_none rfl) lo hi ((rg_Y (q := 0)).symm.trans q))
  have em1 : upI iv 551 0 (nI 0) 551 0 = nI 0 := by rw [upI_at, if_pos ⟨rfl, rfl⟩]
  generalize upI iv 551 0 (nI 0) = iv at hG em1 ⊢
  refine z_aloadnR zh dX9_set_5 rfl ?_
  refine z_iloadn zh dX9_set_6 rfl ?_
  refine z_iloadn zh dX9_set_7 rfl ?_
  refine z_callVI zh mv_Y_87 dX9_set_8 ck_Y rfl (s_X9_canSet g  hG) ⟨Nat.le_of_ble_eq_true rfl, Nat.le_of_ble_eq_true rfl⟩ rfl rfl (Nat.le_of_ble_eq_true rfl) ?_
  rintro x2 _ _ ⟨rfl, rfl, hx2, hz3, hz4⟩
  refine z_if_ne (tgt := 16) zh dX9_set_11 rfl (fun q5 => ?_) (fun q5 => ?_)
  · have r6 : Ra 1 1 x2 := rb_ne_lo hx2 ra_z q5 (by decide)
    have r7 : Ra 0 6 a1 := (hz3 q5)
    have r8 : Ra 0 100 a2 := (hz4 q5)
    refine z_iloadn zh dX9_set_16 rfl ?_
    refine z_bipush zh dX9_set_17 kb_6 ?_
    refine z_icmp_ne (tgt := 33) zh dX9_set_19 rfl (fun q9 => ?_) (fun q9 => ?_)
    · have r10 : Ra 0 5 a1 := rb_ne_hi r7 rl_6 q9 (by decide)
      have r11 : Ra 1 5 a1 := rb_ne_lo r10 rl_0 h0 (by decide)
      refine z_aloadnR zh dX9_set_33 rfl ?_
      refine z_getf zh fl_Y_7 dX9_set_34 ck_Y rfl rfl ?_
      refine z_iloadn zh dX9_set_37 rfl ?_
      refine z_iloadn zh dX9_set_38 rfl ?_
      refine z_aloadnR zh dX9_set_39 rfl ?_
      refine z_iloadn zh dX9_set_40 rfl ?_
      refine z_callVI zh mv_Y_83 dX9_set_41 ck_Y rfl (s_X9_firstOf g (ra_w r11 (by decide) (by decide)) hG) ⟨Nat.le_of_ble_eq_true rfl, Nat.le_of_ble_eq_true rfl⟩ rfl rfl (Nat.le_of_ble_eq_true rfl) ?_
      rintro x12 _ _ ⟨rfl, rfl, hx12⟩
      refine y_isub zh dX9_set_44 r8 hx12 (u := (-10)) (v := 99) rfl rfl (by decide) (by decide) (fun x13 hc13 hx13 => ?_)
      refine z_iast zh ck_now dX9_set_45 (ra_in r11 (by decide) (by decide)) ?_
      have hG : SI sp σ (upI iv 552 a1.toNatClampNeg x13) := (nw_15 hG hq r11)
      have em14 := (upI_ne (iv := iv) (k := 552) (j := a1.toNatClampNeg) (x := x13) (a := 551) (b := 0) (Or.inl (by decide))).trans em1
      generalize upI iv 552 a1.toNatClampNeg x13 = iv at hG em14 ⊢
      refine z_iconst zh dX9_set_46 ki_1 ?_
      exact z_zret zh dX9_set_47 (ra_01 (ra_w rl_1 (by decide) (by decide))) ⟨_, rfl, hG, (ra_w rl_1 (by decide) (by decide)), (fun _ => (ra_w r11 (by decide) (by decide))), (fun _ => r8)⟩
    · have r15 := rb_eq (u := 6) (v := 6) r7 rl_6 q9 (by decide) (by decide)
      refine z_aloadnR zh dX9_set_22 rfl ?_
      refine z_getf zh fl_Y_7 dX9_set_23 ck_Y rfl rfl ?_
      refine z_bipush zh dX9_set_26 kb_12 ?_
      refine z_iloadn zh dX9_set_28 rfl ?_
      refine z_iastN (j := 12) zh ck_now dX9_set_29 (by decide) ?_
      have hG : SI sp σ (upI iv 552 12 a2) := (nw_lq hG hq (j := 12) (by decide) (by decide) (by decide) (rx_none rfl))
      have em16 := (upI_ne (iv := iv) (k := 552) (j := 12) (x := a2) (a := 551) (b := 0) (Or.inl (by decide))).trans em1
      have em17 : upI iv 552 12 a2 552 12 = a2 := by rw [upI_at, if_pos ⟨rfl, rfl⟩]
      generalize upI iv 552 12 a2 = iv at hG em16 em17 ⊢
      refine z_goto (tgt := 46) zh dX9_set_30 rfl ?_
      refine z_iconst zh dX9_set_46 ki_1 ?_
      exact z_zret zh dX9_set_47 (ra_01 (ra_w rl_1 (by decide) (by decide))) ⟨_, rfl, hG, (ra_w rl_1 (by decide) (by decide)), (fun _ => (ra_w r15.1 (by decide) (by decide))), (fun _ => r8)⟩
  · have r18 := rb_eq (u := 0) (v := 0) hx2 ra_z q5 (by decide) (by decide)
    refine z_iconst zh dX9_set_14 ki_0 ?_
    exact z_zret zh dX9_set_15 (ra_01 (ra_w rl_0 (by decide) (by decide))) ⟨_, rfl, hG, (ra_w rl_0 (by decide) (by decide)), (fun q => absurd rfl q), (fun q => absurd rfl q)⟩
set_option maxRecDepth 20000 in
theorem s_X9_split (g : GE) {sp : Nat → Nat → Bool} {σ : Iv} {iv : Iv} {lv : Lv} {a1 : Int32} {a2 : Int32}  (hG : SI sp σ iv)  : ConI g yX9_split cX9_split 5 (some .boolean) 6 [rf g 551, .int a1, .int a2] iv lv (fun r iv lv => SI sp σ iv ∧ Ra 0 1 r ∧ (¬ r = 0 → Ra 0 5 a1) ∧ (¬ r = 0 → Ra 2 5 a2)) := by
  refine con_intro (own := "RollingNetsModel") (by decide +kernel) rfl (Nat.le_of_ble_eq_true rfl) (L0 := [some (rf g 551), some (.int a1), some (.int a2), none, none]) rfl (fun Z zh => ?_)
  refine z_aloadnR zh dX9_split_0 rfl ?_
  refine z_iconst zh dX9_split_1 ki_0 ?_
  refine z_putI zh fl_Y_58 dX9_split_2 ck_Y rfl rfl (Nat.le_of_ble_eq_true rfl) (Or.inl rfl) ?_
  have hG : SI sp σ (upI iv 551 0 (nI 0)) := si_w (k := 551) (j := 0) hG (by decide) (by decide) (sp_no hG ((spc_Y (q := 0)).trans rfl)) (fun lo hi q => (rx_none rfl) lo hi ((rg_Y (q := 0)).symm.trans q))
  have em1 : upI iv 551 0 (nI 0) 551 0 = nI 0 := by rw [upI_at, if_pos ⟨rfl, rfl⟩]
  generalize upI iv 551 0 (nI 0) = iv at hG em1 ⊢
  refine z_aloadnR zh dX9_split_5 rfl ?_
  refine z_iloadn zh dX9_split_6 rfl ?_
  refine z_callVI zh mv_Y_94 dX9_split_7 ck_Y rfl (s_X9_isIssue g  hG) ⟨Nat.le_of_ble_eq_true rfl, Nat.le_of_ble_eq_true rfl⟩ rfl rfl (Nat.le_of_ble_eq_true rfl) ?_
  rintro x2 _ _ ⟨rfl, rfl, hx2, hz3⟩
  refine z_if_eq (tgt := 60) zh dX9_split_10 rfl (fun q4 => ?_) (fun q4 => ?_)
  · have r5 := rb_eq (u := 0) (v := 0) hx2 ra_z q4 (by decide) (by decide)
    refine z_iconst zh dX9_split_60 ki_0 ?_
    exact z_zret zh dX9_split_61 (ra_01 (ra_w rl_0 (by decide) (by decide))) ⟨_, rfl, hG, (ra_w rl_0 (by decide) (by decide)), (fun q => absurd rfl q), (fun q => absurd rfl q)⟩
  · have r6 : Ra 1 1 x2 := rb_ne_lo hx2 ra_z q4 (by decide)
    have r7 : Ra 0 5 a1 := (hz3 q4)
    refine z_aloadnR zh dX9_split_13 rfl ?_
    refine z_iloadn zh dX9_split_14 rfl ?_
    refine z_iconst zh dX9_split_15 ki_2 ?_
    refine z_iconst zh dX9_split_16 ki_5 ?_
    refine z_callVI zh mv_Y_79 dX9_split_17 ck_Y rfl (s_X9_isIn g) ⟨Nat.le_of_ble_eq_true rfl, Nat.le_of_ble_eq_true rfl⟩ rfl rfl (Nat.le_of_ble_eq_true rfl) ?_
    rintro x8 _ _ ⟨rfl, rfl, hx8, hz9⟩
    refine z_if_eq (tgt := 60) zh dX9_split_20 rfl (fun q10 => ?_) (fun q10 => ?_)
    · have r11 := rb_eq (u := 0) (v := 0) hx8 ra_z q10 (by decide) (by decide)
      refine z_iconst zh dX9_split_60 ki_0 ?_
      exact z_zret zh dX9_split_61 (ra_01 (ra_w rl_0 (by decide) (by decide))) ⟨_, rfl, hG, (ra_w rl_0 (by decide) (by decide)), (fun q => absurd rfl q), (fun q => absurd rfl q)⟩
    · have r12 : Ra 1 1 x8 := rb_ne_lo hx8 ra_z q10 (by decide)
      have r13 : Ra 2 5 a2 := (rb_in rl_2 rl_5 (hz9 q10))
      refine z_aloadnR zh dX9_split_23 rfl ?_
      refine z_iloadn zh dX9_split_24 rfl ?_
      refine z_callVI zh mv_Y_310 dX9_split_25 ck_Y rfl (s_X9_isFinished g r7 hG) ⟨Nat.le_of_ble_eq_true rfl, Nat.le_of_ble_eq_true rfl⟩ rfl rfl (Nat.le_of_ble_eq_true rfl) ?_
      rintro x14 _ _ ⟨rfl, rfl, hx14⟩
      refine z_if_eq (tgt := 60) zh dX9_split_28 rfl (fun q15 => ?_) (fun q15 => ?_)
      · have r16 := rb_eq (u := 0) (v := 0) hx14 ra_z q15 (by decide) (by decide)
        refine z_iconst zh dX9_split_60 ki_0 ?_
        exact z_zret zh dX9_split_61 (ra_01 (ra_w rl_0 (by decide) (by decide))) ⟨_, rfl, hG, (ra_w rl_0 (by decide) (by decide)), (fun q => absurd rfl q), (fun q => absurd rfl q)⟩
      · have r17 : Ra 1 1 x14 := rb_ne_lo hx14 ra_z q15 (by decide)
        refine z_aloadnR zh dX9_split_31 rfl ?_
        refine z_iloadn zh dX9_split_32 rfl ?_
        refine z_callVI zh mv_Y_197 dX9_split_33 ck_Y rfl (s_X9_priceOf g r7 hG) ⟨Nat.le_of_ble_eq_true rfl, Nat.le_of_ble_eq_true rfl⟩ rfl rfl (Nat.le_of_ble_eq_true rfl) ?_
        rintro x18 _ _ ⟨rfl, rfl, _⟩
        refine z_iloadn zh dX9_split_36 rfl ?_
        refine y_iremT zh dX9_split_37 (ra_nz r13 (by decide)) (fun x19 => ?_)
        refine z_if_ne (tgt := 60) zh dX9_split_38 rfl (fun q20 => ?_) (fun q20 => ?_)
        · refine z_iconst zh dX9_split_60 ki_0 ?_
          exact z_zret zh dX9_split_61 (ra_01 (ra_w rl_0 (by decide) (by decide))) ⟨_, rfl, hG, (ra_w rl_0 (by decide) (by decide)), (fun q => absurd rfl q), (fun q => absurd rfl q)⟩
        · have r21 := rb_eq (u := 0) (v := 0) (ra_tt x19) ra_z q20 (by decide) (by decide)
          refine z_aloadnR zh dX9_split_41 rfl ?_
          refine z_iloadn zh dX9_split_42 rfl ?_
          refine z_callVI zh mv_Y_203 dX9_split_43 ck_Y rfl (s_X9_markedOf g r7 hG) ⟨Nat.le_of_ble_eq_true rfl, Nat.le_of_ble_eq_true rfl⟩ rfl rfl (Nat.le_of_ble_eq_true rfl) ?_
          rintro x22 _ _ ⟨rfl, rfl, _⟩
          refine z_iloadn zh dX9_split_46 rfl ?_
          refine y_iremT zh dX9_split_47 (ra_nz r13 (by decide)) (fun x23 => ?_)
          refine z_if_ne (tgt := 60) zh dX9_split_48 rfl (fun q24 => ?_) (fun q24 => ?_)
          · refine z_iconst zh dX9_split_60 ki_0 ?_
            exact z_zret zh dX9_split_61 (ra_01 (ra_w rl_0 (by decide) (by decide))) ⟨_, rfl, hG, (ra_w rl_0 (by decide) (by decide)), (fun q => absurd rfl q), (fun q => absurd rfl q)⟩
          · have r25 := rb_eq (u := 0) (v := 0) (ra_tt x23) ra_z q24 (by decide) (by decide)
            refine z_aloadnR zh dX9_split_51 rfl ?_
            refine z_iloadn zh dX9_split_52 rfl ?_
            refine z_iloadn zh dX9_split_53 rfl ?_
            refine z_callVI zh mv_Y_313 dX9_split_54 ck_Y rfl (s_X9_canSplit g r7 r13 hG) ⟨Nat.le_of_ble_eq_true rfl, Nat.le_of_ble_eq_true rfl⟩ rfl rfl (Nat.le_of_ble_eq_true rfl) ?_
            rintro x26 _ _ ⟨rfl, rfl, hx26⟩
            refine z_if_ne (tgt := 62) zh dX9_split_57 rfl (fun q27 => ?_) (fun q27 => ?_)
            · have r28 : Ra 1 1 x26 := rb_ne_lo hx26 ra_z q27 (by decide)
              refine z_iconst zh dX9_split_62 ki_0 ?_
              refine z_istoren zh dX9_split_63 (by decide) (L' := [some (rf g 551), some (.int a1), some (.int a2), some (.int (nI 0)), none]) rfl ?_
              have J64 : ∀ (n : Nat) (iv : Iv) (lv : Lv) (x29 : Int32), SI sp σ iv → Ra 0 12 x29 → iv 551 0 = nI 0 → 12 - x29.toInt < (n : Int) → Z 64 [some (rf g 551), some (.int a1), some (.int a2), some (.int x29), none] [] iv lv := by
                intro n
                induction n with
                | zero => intro iv lv x29 hG hx29 em30 hn64; exact (ms_uz hx29 hn64).elim
                | succ n ih64 =>
                  intro iv lv x29 hG hx29 em30 hn64
                  refine z_iloadn zh dX9_split_64 rfl ?_
                  refine z_aloadnR zh dX9_split_65 rfl ?_
                  refine z_callVI zh mv_Y_61 dX9_split_66 ck_Y rfl (s_X9_memberMany g  hG) ⟨Nat.le_of_ble_eq_true rfl, Nat.le_of_ble_eq_true rfl⟩ rfl rfl (Nat.le_of_ble_eq_true rfl) ?_
                  rintro x31 _ _ ⟨rfl, rfl, hx31⟩
                  refine z_icmp_ge (tgt := 182) zh dX9_split_69 rfl (fun q32 => ?_) (fun q32 => ?_)
                  · have r33 : Ra 2 12 x29 := rb_le_r hx31 hx29 q32 (by decide)
                    refine z_aloadnR zh dX9_split_182 rfl ?_
                    refine z_getf zh fl_Y_7 dX9_split_183 ck_Y rfl rfl ?_
                    refine z_bipush zh dX9_split_186 kb_16 ?_
                    refine z_iloadn zh dX9_split_188 rfl ?_
                    refine y_iadd zh dX9_split_189 rl_16 r7 (u := 16) (v := 21) rfl rfl (by decide) (by decide) (fun x34 hc34 hx34 => ?_)
                    refine z_aloadnR zh dX9_split_190 rfl ?_
                    refine z_iloadn zh dX9_split_191 rfl ?_
                    refine z_callVI zh mv_Y_197 dX9_split_192 ck_Y rfl (s_X9_priceOf g r7 hG) ⟨Nat.le_of_ble_eq_true rfl, Nat.le_of_ble_eq_true rfl⟩ rfl rfl (Nat.le_of_ble_eq_true rfl) ?_
                    rintro x35 _ _ ⟨rfl, rfl, _⟩
                    refine z_iloadn zh dX9_split_195 rfl ?_
                    refine y_idivT zh dX9_split_196 (ra_nz r13 (by decide)) (fun x36 => ?_)
                    refine z_bipush zh dX9_split_197 kb_100 ?_
                    refine y_isubT zh dX9_split_199 (fun x37 => ?_)
                    refine z_iast zh ck_now dX9_split_200 (ra_in hx34 (by decide) (by decide)) ?_
                    have hG : SI sp σ (upI iv 552 x34.toNatClampNeg x37) := (nw_free hG (by have := rl_16.1; have := rl_16.2; have := r7.1; have := r7.2; omega))
                    have em38 := (upI_ne (iv := iv) (k := 552) (j := x34.toNatClampNeg) (x := x37) (a := 551) (b := 0) (Or.inl (by decide))).trans em30
                    generalize upI iv 552 x34.toNatClampNeg x37 = iv at hG em38 ⊢
                    refine z_aloadnR zh dX9_split_201 rfl ?_
                    refine z_getf zh fl_Y_7 dX9_split_202 ck_Y rfl rfl ?_
                    refine z_bipush zh dX9_split_205 kb_22 ?_
                    refine z_iloadn zh dX9_split_207 rfl ?_
                    refine y_iadd zh dX9_split_208 rl_22 r7 (u := 22) (v := 27) rfl rfl (by decide) (by decide) (fun x39 hc39 hx39 => ?_)
                    refine z_aloadnR zh dX9_split_209 rfl ?_
                    refine z_iloadn zh dX9_split_210 rfl ?_
                    refine z_callVI zh mv_Y_203 dX9_split_211 ck_Y rfl (s_X9_markedOf g r7 hG) ⟨Nat.le_of_ble_eq_true rfl, Nat.le_of_ble_eq_true rfl⟩ rfl rfl (Nat.le_of_ble_eq_true rfl) ?_
                    rintro x40 _ _ ⟨rfl, rfl, _⟩
                    refine z_iloadn zh dX9_split_214 rfl ?_
                    refine y_idivT zh dX9_split_215 (ra_nz r13 (by decide)) (fun x41 => ?_)
                    refine z_bipush zh dX9_split_216 kb_100 ?_
                    refine y_isubT zh dX9_split_218 (fun x42 => ?_)
                    refine z_iast zh ck_now dX9_split_219 (ra_in hx39 (by decide) (by decide)) ?_
                    have hG : SI sp σ (upI iv 552 x39.toNatClampNeg x42) := (nw_free hG (by have := rl_22.1; have := rl_22.2; have := r7.1; have := r7.2; omega))
                    have em43 := (upI_ne (iv := iv) (k := 552) (j := x39.toNatClampNeg) (x := x42) (a := 551) (b := 0) (Or.inl (by decide))).trans em38
                    generalize upI iv 552 x39.toNatClampNeg x42 = iv at hG em43 ⊢
                    refine z_iconst zh dX9_split_220 ki_1 ?_
                    exact z_zret zh dX9_split_221 (ra_01 (ra_w rl_1 (by decide) (by decide))) ⟨_, rfl, hG, (ra_w rl_1 (by decide) (by decide)), (fun _ => r7), (fun _ => r13)⟩
                  · have r44 : Ra 0 11 x29 := rb_lt_l hx31 hx29 (rb_nle q32) (by decide)
                    refine z_iconst zh dX9_split_72 ki_0 ?_
                    refine z_istore zh dX9_split_73 (by decide) (L' := [some (rf g 551), some (.int a1), some (.int a2), some (.int x29), some (.int (nI 0))]) rfl ?_
                    have J75 : ∀ (n : Nat) (iv : Iv) (lv : Lv) (x45 : Int32), SI sp σ iv → Ra 0 4 x45 → iv 551 0 = nI 0 → 4 - x45.toInt < (n : Int) → Z 75 [some (rf g 551), some (.int a1), some (.int a2), some (.int x29), some (.int x45)] [] iv lv := by
                      intro n
                      induction n with
                      | zero => intro iv lv x45 hG hx45 em46 hn75; exact (ms_uz hx45 hn75).elim
                      | succ n ih75 =>
                        intro iv lv x45 hG hx45 em46 hn75
                        refine z_iload zh dX9_split_75 rfl ?_
                        refine z_iconst zh dX9_split_77 ki_4 ?_
                        refine z_icmp_ge (tgt := 129) zh dX9_split_78 rfl (fun q47 => ?_) (fun q47 => ?_)
                        · have r48 : Ra 4 4 x45 := rb_le_r rl_4 hx45 q47 (by decide)
                          refine z_iconst zh dX9_split_129 ki_0 ?_
                          refine z_istore zh dX9_split_130 (by decide) (L' := [some (rf g 551), some (.int a1), some (.int a2), some (.int x29), some (.int (nI 0))]) rfl ?_
                          have J132 : ∀ (n : Nat) (iv : Iv) (lv : Lv) (x49 : Int32), SI sp σ iv → Ra 0 100 x49 → iv 551 0 = nI 0 → 100 - x49.toInt < (n : Int) → Z 132 [some (rf g 551), some (.int a1), some (.int a2), some (.int x29), some (.int x49)] [] iv lv := by
                            intro n
                            induction n with
                            | zero => intro iv lv x49 hG hx49 em50 hn132; exact (ms_uz hx49 hn132).elim
                            | succ n ih132 =>
                              intro iv lv x49 hG hx49 em50 hn132
                              refine z_iload zh dX9_split_132 rfl ?_
                              refine z_aloadnR zh dX9_split_134 rfl ?_
                              refine z_iloadn zh dX9_split_135 rfl ?_
                              refine z_iloadn zh dX9_split_136 rfl ?_
                              refine z_callVI zh mv_Y_110 dX9_split_137 ck_Y rfl (s_X9_lotMany g r44 r7 hG) ⟨Nat.le_of_ble_eq_true rfl, Nat.le_of_ble_eq_true rfl⟩ rfl rfl (Nat.le_of_ble_eq_true rfl) ?_
                              rintro x51 _ _ ⟨rfl, rfl, hx51, _⟩
                              refine z_icmp_ge (tgt := 176) zh dX9_split_140 rfl (fun q52 => ?_) (fun q52 => ?_)
                              · refine y_iinc (L' := fun z => [some (rf g 551), some (.int a1), some (.int a2), some (.int z), some (.int x49)]) zh dX9_split_176 (by decide) rfl (by decide +kernel) r44 (u := 1) (v := 12) rfl rfl (by decide) (by decide) (fun _ => rfl) (fun x53 hc53 hx53 => ?_)
                                refine z_goto (tgt := 64) zh dX9_split_179 rfl ?_
                                refine z_forget zh [true, true, true, true, false] (L2 := [some (rf g 551), some (.int a1), some (.int a2), some (.int x53), none]) rfl ?_
                                exact ih64 iv lv x53 hG (ra_w hx53 (by decide) (by decide)) em50 (ms_up hc53 (by decide) hn64)
                              · have r54 : Ra 0 99 x49 := rb_lt_l hx51 hx49 (rb_nle q52) (by decide)
                                have r55 : Ra 1 100 x51 := rb_lt_r hx49 hx51 (rb_nle q52) (by decide)
                                refine z_aloadnR zh dX9_split_143 rfl ?_
                                refine z_getf zh fl_Y_7 dX9_split_144 ck_Y rfl rfl ?_
                                refine z_sipush zh dX9_split_147 ks_7764 ?_
                                refine z_aloadnR zh dX9_split_150 rfl ?_
                                refine z_iloadn zh dX9_split_151 rfl ?_
                                refine z_iloadn zh dX9_split_152 rfl ?_
                                refine z_iload zh dX9_split_153 rfl ?_
                                refine z_callVI zh mv_Y_106 dX9_split_155 ck_Y rfl (s_X9_lotAt g r44 r7 (ra_w r54 (by decide) (by decide)) hG) ⟨Nat.le_of_ble_eq_true rfl, Nat.le_of_ble_eq_true rfl⟩ rfl rfl (Nat.le_of_ble_eq_true rfl) ?_
                                rintro x56 _ _ ⟨rfl, rfl, hx56, hc56⟩
                                refine y_iadd zh dX9_split_158 rl_7764 hx56 (u := 7764) (v := 15107) rfl rfl (by decide) (by decide) (fun x57 hc57 hx57 => ?_)
                                refine z_iloadn zh dX9_split_159 rfl ?_
                                refine z_aloadnR zh dX9_split_160 rfl ?_
                                refine z_iloadn zh dX9_split_161 rfl ?_
                                refine z_iloadn zh dX9_split_162 rfl ?_
                                refine z_iload zh dX9_split_163 rfl ?_
                                refine z_callVI zh mv_Y_113 dX9_split_165 ck_Y rfl (s_X9_sharesOf g r44 r7 (ra_w r54 (by decide) (by decide)) hG) ⟨Nat.le_of_ble_eq_true rfl, Nat.le_of_ble_eq_true rfl⟩ rfl rfl (Nat.le_of_ble_eq_true rfl) ?_
                                rintro x58 _ _ ⟨rfl, rfl, _⟩
                                refine y_imulT zh dX9_split_168 (fun x59 => ?_)
                                refine z_iast zh ck_now dX9_split_169 (ra_in hx57 (by decide) (by decide)) ?_
                                have hG : SI sp σ (upI iv 552 x57.toNatClampNeg x59) := (nw_free hG (by have := rl_7764.1; have := rl_7764.2; have := r44.1; have := r44.2; have := r7.1; have := r7.2; have := r54.1; have := r54.2; omega))
                                have em60 := (upI_ne (iv := iv) (k := 552) (j := x57.toNatClampNeg) (x := x59) (a := 551) (b := 0) (Or.inl (by decide))).trans em50
                                generalize upI iv 552 x57.toNatClampNeg x59 = iv at hG em60 ⊢
                                refine y_iinc (L' := fun z => [some (rf g 551), some (.int a1), some (.int a2), some (.int x29), some (.int z)]) zh dX9_split_170 (by decide) rfl (by decide +kernel) r54 (u := 1) (v := 100) rfl rfl (by decide) (by decide) (fun _ => rfl) (fun x61 hc61 hx61 => ?_)
                                refine z_goto (tgt := 132) zh dX9_split_173 rfl ?_
                                exact ih132 iv lv x61 hG (ra_w hx61 (by decide) (by decide)) em60 (ms_up hc61 (by decide) hn132)
                          exact J132 101 iv lv (nI 0) hG (ra_w rl_0 (by decide) (by decide)) em46 (ms_u0 rl_0 (by decide))
                        · have r62 : Ra 0 3 x45 := rb_lt_l rl_4 hx45 (rb_nle q47) (by decide)
                          refine z_aloadnR zh dX9_split_81 rfl ?_
                          refine z_getf zh fl_Y_7 dX9_split_82 ck_Y rfl rfl ?_
                          refine z_bipush zh dX9_split_85 kb_60 ?_
                          refine z_bipush zh dX9_split_87 kb_72 ?_
                          refine z_iload zh dX9_split_89 rfl ?_
                          refine y_imul2 zh dX9_split_91 r62 rl_72 (by decide) (u := 0) (v := 216) rfl rfl (by decide) (by decide) (fun x63 hc63 hx63 => ?_)
                          refine y_iadd zh dX9_split_92 rl_60 hx63 (u := 60) (v := 276) rfl rfl (by decide) (by decide) (fun x64 hc64 hx64 => ?_)
                          refine z_aloadnR zh dX9_split_93 rfl ?_
                          refine z_iloadn zh dX9_split_94 rfl ?_
                          refine z_iloadn zh dX9_split_95 rfl ?_
                          refine z_callVI zh mv_Y_65 dX9_split_96 ck_Y rfl (s_X9_cellOf g r44 r7 hG) ⟨Nat.le_of_ble_eq_true rfl, Nat.le_of_ble_eq_true rfl⟩ rfl rfl (Nat.le_of_ble_eq_true rfl) ?_
                          rintro x65 _ _ ⟨rfl, rfl, hx65, hc65⟩
                          refine y_iadd zh dX9_split_99 hx64 hx65 (u := 60) (v := 347) rfl rfl (by decide) (by decide) (fun x66 hc66 hx66 => ?_)
                          refine z_iloadn zh dX9_split_100 rfl ?_
                          refine z_aloadnR zh dX9_split_101 rfl ?_
                          refine z_getf zh fl_Y_7 dX9_split_102 ck_Y rfl rfl ?_
                          refine z_bipush zh dX9_split_105 kb_60 ?_
                          refine z_bipush zh dX9_split_107 kb_72 ?_
                          refine z_iload zh dX9_split_109 rfl ?_
                          refine y_imul2 zh dX9_split_111 r62 rl_72 (by decide) (u := 0) (v := 216) rfl rfl (by decide) (by decide) (fun x67 hc67 hx67 => ?_)
                          refine y_iadd zh dX9_split_112 rl_60 hx67 (u := 60) (v := 276) rfl rfl (by decide) (by decide) (fun x68 hc68 hx68 => ?_)
                          refine z_aloadnR zh dX9_split_113 rfl ?_
                          refine z_iloadn zh dX9_split_114 rfl ?_
                          refine z_iloadn zh dX9_split_115 rfl ?_
                          refine z_callVI zh mv_Y_65 dX9_split_116 ck_Y rfl (s_X9_cellOf g r44 r7 hG) ⟨Nat.le_of_ble_eq_true rfl, Nat.le_of_ble_eq_true rfl⟩ rfl rfl (Nat.le_of_ble_eq_true rfl) ?_
                          rintro x69 _ _ ⟨rfl, rfl, hx69, hc69⟩
                          refine y_iadd zh dX9_split_119 hx68 hx69 (u := 60) (v := 347) rfl rfl (by decide) (by decide) (fun x70 hc70 hx70 => ?_)
                          refine y_iald zh ck_now dX9_split_120 hx70 (by decide) (by decide) (fun x71 ex71 => ?_)
                          refine y_imulT zh dX9_split_121 (fun x72 => ?_)
                          refine z_iast zh ck_now dX9_split_122 (ra_in hx66 (by decide) (by decide)) ?_
                          have hG : SI sp σ (upI iv 552 x66.toNatClampNeg x72) := (nw_free hG (by have := rl_60.1; have := rl_60.2; have := rl_72.1; have := rl_72.2; have := r62.1; have := r62.2; have := r44.1; have := r44.2; have := r7.1; have := r7.2; omega))
                          have em73 := (upI_ne (iv := iv) (k := 552) (j := x66.toNatClampNeg) (x := x72) (a := 551) (b := 0) (Or.inl (by decide))).trans em46
                          generalize upI iv 552 x66.toNatClampNeg x72 = iv at hG em73 ⊢
                          refine y_iinc (L' := fun z => [some (rf g 551), some (.int a1), some (.int a2), some (.int x29), some (.int z)]) zh dX9_split_123 (by decide) rfl (by decide +kernel) r62 (u := 1) (v := 4) rfl rfl (by decide) (by decide) (fun _ => rfl) (fun x74 hc74 hx74 => ?_)
                          refine z_goto (tgt := 75) zh dX9_split_126 rfl ?_
                          exact ih75 iv lv x74 hG (ra_w hx74 (by decide) (by decide)) em73 (ms_up hc74 (by decide) hn75)
                    exact J75 5 iv lv (nI 0) hG (ra_w rl_0 (by decide) (by decide)) em30 (ms_u0 rl_0 (by decide))
              exact J64 13 iv lv (nI 0) hG (ra_w rl_0 (by decide) (by decide)) em1 (ms_u0 rl_0 (by decide))
            · have r75 := rb_eq (u := 0) (v := 0) hx26 ra_z q27 (by decide) (by decide)
              refine z_iconst zh dX9_split_60 ki_0 ?_
              exact z_zret zh dX9_split_61 (ra_01 (ra_w rl_0 (by decide) (by decide))) ⟨_, rfl, hG, (ra_w rl_0 (by decide) (by decide)), (fun q => absurd rfl q), (fun q => absurd rfl q)⟩
set_option maxRecDepth 20000 in
theorem s_X9_statement (g : GE) {sp : Nat → Nat → Bool} {σ : Iv} {iv : Iv} {lv : Lv} {a1 : Int32} {a2 : Int32} {a3 : Int32}  (hG : SI sp σ iv)  : ConI g yX9_statement cX9_statement 7 (some .int) 3 [rf g 551, .int a1, .int a2, .int a3] iv lv (fun r iv lv => SI sp σ iv ∧ True) := by
  refine con_intro (own := "RollingNetsModel") (by decide +kernel) rfl (Nat.le_of_ble_eq_true rfl) (L0 := [some (rf g 551), some (.int a1), some (.int a2), some (.int a3), none, none, none]) rfl (fun Z zh => ?_)
  refine z_aloadnR zh dX9_statement_0 rfl ?_
  refine z_iconst zh dX9_statement_1 ki_0 ?_
  refine z_putI zh fl_Y_58 dX9_statement_2 ck_Y rfl rfl (Nat.le_of_ble_eq_true rfl) (Or.inl rfl) ?_
  have hG : SI sp σ (upI iv 551 0 (nI 0)) := si_w (k := 551) (j := 0) hG (by decide) (by decide) (sp_no hG ((spc_Y (q := 0)).trans rfl)) (fun lo hi q => (rx_none rfl) lo hi ((rg_Y (q := 0)).symm.trans q))
  have em1 : upI iv 551 0 (nI 0) 551 0 = nI 0 := by rw [upI_at, if_pos ⟨rfl, rfl⟩]
  generalize upI iv 551 0 (nI 0) = iv at hG em1 ⊢
  refine z_aloadnR zh dX9_statement_5 rfl ?_
  refine z_iloadn zh dX9_statement_6 rfl ?_
  refine z_callVI zh mv_Y_90 dX9_statement_7 ck_Y rfl (s_X9_isMember g  hG) ⟨Nat.le_of_ble_eq_true rfl, Nat.le_of_ble_eq_true rfl⟩ rfl rfl (Nat.le_of_ble_eq_true rfl) ?_
  rintro x2 _ _ ⟨rfl, rfl, hx2, hz3⟩
  refine z_if_eq (tgt := 23) zh dX9_statement_10 rfl (fun q4 => ?_) (fun q4 => ?_)
  · have r5 := rb_eq (u := 0) (v := 0) hx2 ra_z q4 (by decide) (by decide)
    refine z_iconst zh dX9_statement_23 ki_m1 ?_
    exact z_iret zh dX9_statement_24 ⟨_, rfl, hG, trivial⟩
  · have r6 : Ra 1 1 x2 := rb_ne_lo hx2 ra_z q4 (by decide)
    have r7 : Ra 0 11 a1 := (hz3 q4)
    refine z_aloadnR zh dX9_statement_13 rfl ?_
    refine z_iloadn zh dX9_statement_14 rfl ?_
    refine z_iconst zh dX9_statement_15 ki_0 ?_
    refine z_iconst zh dX9_statement_16 ki_4 ?_
    refine z_callVI zh mv_Y_79 dX9_statement_17 ck_Y rfl (s_X9_isIn g) ⟨Nat.le_of_ble_eq_true rfl, Nat.le_of_ble_eq_true rfl⟩ rfl rfl (Nat.le_of_ble_eq_true rfl) ?_
    rintro x8 _ _ ⟨rfl, rfl, hx8, hz9⟩
    refine z_if_ne (tgt := 25) zh dX9_statement_20 rfl (fun q10 => ?_) (fun q10 => ?_)
    · have r11 : Ra 1 1 x8 := rb_ne_lo hx8 ra_z q10 (by decide)
      have r12 : Ra 0 4 a2 := (rb_in rl_0 rl_4 (hz9 q10))
      refine z_iconst zh dX9_statement_25 ki_0 ?_
      refine z_istore zh dX9_statement_26 (by decide) (L' := [some (rf g 551), some (.int a1), some (.int a2), some (.int a3), some (.int (nI 0)), none, none]) rfl ?_
      refine z_iconst zh dX9_statement_28 ki_0 ?_
      refine z_istore zh dX9_statement_29 (by decide) (L' := [some (rf g 551), some (.int a1), some (.int a2), some (.int a3), some (.int (nI 0)), some (.int (nI 0)), none]) rfl ?_
      have J31 : ∀ (n : Nat) (iv : Iv) (lv : Lv) (x13 : Int32) (x14 : Int32), SI sp σ iv → Ra 0 300 x14 → iv 551 0 = nI 0 → 300 - x14.toInt < (n : Int) → Z 31 [some (rf g 551), some (.int a1), some (.int a2), some (.int a3), some (.int x13), some (.int x14), none] [] iv lv := by
        intro n
        induction n with
        | zero => intro iv lv x13 x14 hG hx14 em15 hn31; exact (ms_uz hx14 hn31).elim
        | succ n ih31 =>
          intro iv lv x13 x14 hG hx14 em15 hn31
          refine z_iload zh dX9_statement_31 rfl ?_
          refine z_aloadnR zh dX9_statement_33 rfl ?_
          refine z_getf zh fl_Y_7 dX9_statement_34 ck_Y rfl rfl ?_
          refine z_bipush zh dX9_statement_37 kb_9 ?_
          refine y_ialdN zh ck_now dX9_statement_39 (by decide) (fun x16 ex16 => ?_)
          have hx16 : Ra 0 300 x16 := ra_of ex16 (nr_l hG 9 rfl)
          refine z_icmp_ge (tgt := 110) zh dX9_statement_40 rfl (fun q17 => ?_) (fun q17 => ?_)
          · refine z_iload zh dX9_statement_110 rfl ?_
            exact z_iret zh dX9_statement_112 ⟨_, rfl, hG, trivial⟩
          · have r18 : Ra 0 299 x14 := rb_lt_l hx16 hx14 (rb_nle q17) (by decide)
            have r19 : Ra 1 300 x16 := rb_lt_r hx14 hx16 (rb_nle q17) (by decide)
            refine z_sipush zh dX9_statement_43 ks_17910 ?_
            refine z_bipush zh dX9_statement_46 kb_6 ?_
            refine z_iload zh dX9_statement_48 rfl ?_
            refine y_imul2 zh dX9_statement_50 r18 rl_6 (by decide) (u := 0) (v := 1794) rfl rfl (by decide) (by decide) (fun x20 hc20 hx20 => ?_)
            refine y_iadd zh dX9_statement_51 rl_17910 hx20 (u := 17910) (v := 19704) rfl rfl (by decide) (by decide) (fun x21 hc21 hx21 => ?_)
            refine z_istore zh dX9_statement_52 (by decide) (L' := [some (rf g 551), some (.int a1), some (.int a2), some (.int a3), some (.int x13), some (.int x14), some (.int x21)]) rfl ?_
            refine z_aloadnR zh dX9_statement_54 rfl ?_
            refine z_getf zh fl_Y_7 dX9_statement_55 ck_Y rfl rfl ?_
            refine z_iload zh dX9_statement_58 rfl ?_
            refine z_iconst zh dX9_statement_60 ki_1 ?_
            refine y_iadd zh dX9_statement_61 hx21 rl_1 (u := 17911) (v := 19705) rfl rfl (by decide) (by decide) (fun x22 hc22 hx22 => ?_)
            refine y_iald zh ck_now dX9_statement_62 hx22 (by decide) (by decide) (fun x23 ex23 => ?_)
            refine z_iloadn zh dX9_statement_63 rfl ?_
            have J104 : ∀ (iv : Iv) (lv : Lv) (x24 : Int32), SI sp σ iv → iv 551 0 = nI 0 → iv 552 9 = x16 → Z 104 [some (rf g 551), some (.int a1), some (.int a2), some (.int a3), some (.int x24), some (.int x14), some (.int x21)] [] iv lv := by
              intro iv lv x24 hG em25 em26
              refine y_iinc (L' := fun z => [some (rf g 551), some (.int a1), some (.int a2), some (.int a3), some (.int x24), some (.int z), some (.int x21)]) zh dX9_statement_104 (by decide) rfl (by decide +kernel) r18 (u := 1) (v := 300) rfl rfl (by decide) (by decide) (fun _ => rfl) (fun x27 hc27 hx27 => ?_)
              refine z_goto (tgt := 31) zh dX9_statement_107 rfl ?_
              refine z_forget zh [true, true, true, true, true, true, false] (L2 := [some (rf g 551), some (.int a1), some (.int a2), some (.int a3), some (.int x24), some (.int x27), none]) rfl ?_
              exact ih31 iv lv x24 x27 hG (ra_w hx27 (by decide) (by decide)) em25 (ms_up hc27 (by decide) hn31)
            refine z_icmp_ne (tgt := 104) zh dX9_statement_64 rfl (fun q28 => ?_) (fun q28 => ?_)
            · exact J104 iv lv x13 hG em15 ex16
            · have r29 := rb_eq (u := 0) (v := 4) (ra_tt x23) r12 q28 (by decide) (by decide)
              refine z_aloadnR zh dX9_statement_67 rfl ?_
              refine z_getf zh fl_Y_7 dX9_statement_68 ck_Y rfl rfl ?_
              refine z_iload zh dX9_statement_71 rfl ?_
              refine z_iloadn zh dX9_statement_73 rfl ?_
              have J82 : ∀ (iv : Iv) (lv : Lv) (x30 : Int32), SI sp σ iv → Ra 3 4 x30 → iv 551 0 = nI 0 → iv 552 9 = x16 → Z 82 [some (rf g 551), some (.int a1), some (.int a2), some (.int a3), some (.int x13), some (.int x14), some (.int x21)] [.int x30, .int x21, rf g 552] iv lv := by
                intro iv lv x30 hG hx30 em31 em32
                refine y_iadd zh dX9_statement_82 hx21 hx30 (u := 17913) (v := 19708) rfl rfl (by decide) (by decide) (fun x33 hc33 hx33 => ?_)
                refine y_iald zh ck_now dX9_statement_83 hx33 (by decide) (by decide) (fun x34 ex34 => ?_)
                refine z_iloadn zh dX9_statement_84 rfl ?_
                refine z_iconst zh dX9_statement_85 ki_1 ?_
                refine y_iadd zh dX9_statement_86 r7 rl_1 (u := 1) (v := 12) rfl rfl (by decide) (by decide) (fun x35 hc35 hx35 => ?_)
                refine z_icmp_ne (tgt := 104) zh dX9_statement_87 rfl (fun q36 => ?_) (fun q36 => ?_)
                · exact J104 iv lv x13 hG em31 em32
                · have r37 := rb_eq (u := 1) (v := 12) (ra_tt x34) hx35 q36 (by decide) (by decide)
                  refine z_iload zh dX9_statement_90 rfl ?_
                  refine z_aloadnR zh dX9_statement_92 rfl ?_
                  refine z_getf zh fl_Y_7 dX9_statement_93 ck_Y rfl rfl ?_
                  refine z_iload zh dX9_statement_96 rfl ?_
                  refine z_iconst zh dX9_statement_98 ki_5 ?_
                  refine y_iadd zh dX9_statement_99 hx21 rl_5 (u := 17915) (v := 19709) rfl rfl (by decide) (by decide) (fun x38 hc38 hx38 => ?_)
                  refine y_iald zh ck_now dX9_statement_100 hx38 (by decide) (by decide) (fun x39 ex39 => ?_)
                  refine y_iaddT zh dX9_statement_101 (fun x40 => ?_)
                  refine z_istore zh dX9_statement_102 (by decide) (L' := [some (rf g 551), some (.int a1), some (.int a2), some (.int a3), some (.int x40), some (.int x14), some (.int x21)]) rfl ?_
                  exact J104 iv lv x40 hG em31 em32
              refine z_if_eq (tgt := 81) zh dX9_statement_74 rfl (fun q41 => ?_) (fun q41 => ?_)
              · have r42 := rb_eq (u := 0) (v := 0) (ra_tt a3) ra_z q41 (by decide) (by decide)
                refine z_iconst zh dX9_statement_81 ki_3 ?_
                exact J82 iv lv (nI 3) hG (ra_w rl_3 (by decide) (by decide)) em15 ex16
              · refine z_iconst zh dX9_statement_77 ki_4 ?_
                refine z_goto (tgt := 82) zh dX9_statement_78 rfl ?_
                exact J82 iv lv (nI 4) hG (ra_w rl_4 (by decide) (by decide)) em15 ex16
      exact J31 301 iv lv (nI 0) (nI 0) hG (ra_w rl_0 (by decide) (by decide)) em1 (ms_u0 rl_0 (by decide))
    · have r43 := rb_eq (u := 0) (v := 0) hx8 ra_z q10 (by decide) (by decide)
      refine z_iconst zh dX9_statement_23 ki_m1 ?_
      exact z_iret zh dX9_statement_24 ⟨_, rfl, hG, trivial⟩
set_option maxRecDepth 20000 in
theorem s_X9_stress (g : GE) {sp : Nat → Nat → Bool} {σ : Iv} {iv : Iv} {lv : Lv} {a1 : Int32}  (hG : SI sp σ iv)  : ConI g yX9_stress cX9_stress 7 (some .int) 5 [rf g 551, .int a1] iv lv (fun r iv lv => SI sp σ iv ∧ True) := by
  refine con_intro (own := "RollingNetsModel") (by decide +kernel) rfl (Nat.le_of_ble_eq_true rfl) (L0 := [some (rf g 551), some (.int a1), none, none, none, none, none]) rfl (fun Z zh => ?_)
  refine z_aloadnR zh dX9_stress_0 rfl ?_
  refine z_iconst zh dX9_stress_1 ki_0 ?_
  refine z_putI zh fl_Y_58 dX9_stress_2 ck_Y rfl rfl (Nat.le_of_ble_eq_true rfl) (Or.inl rfl) ?_
  have hG : SI sp σ (upI iv 551 0 (nI 0)) := si_w (k := 551) (j := 0) hG (by decide) (by decide) (sp_no hG ((spc_Y (q := 0)).trans rfl)) (fun lo hi q => (rx_none rfl) lo hi ((rg_Y (q := 0)).symm.trans q))
  have em1 : upI iv 551 0 (nI 0) 551 0 = nI 0 := by rw [upI_at, if_pos ⟨rfl, rfl⟩]
  generalize upI iv 551 0 (nI 0) = iv at hG em1 ⊢
  refine z_aloadnR zh dX9_stress_5 rfl ?_
  refine z_iloadn zh dX9_stress_6 rfl ?_
  refine z_bipush zh dX9_stress_7 kb_n99 ?_
  refine z_bipush zh dX9_stress_9 kb_99 ?_
  refine z_callVI zh mv_Y_79 dX9_stress_11 ck_Y rfl (s_X9_isIn g) ⟨Nat.le_of_ble_eq_true rfl, Nat.le_of_ble_eq_true rfl⟩ rfl rfl (Nat.le_of_ble_eq_true rfl) ?_
  rintro x2 _ _ ⟨rfl, rfl, hx2, hz3⟩
  refine z_if_ne (tgt := 19) zh dX9_stress_14 rfl (fun q4 => ?_) (fun q4 => ?_)
  · have r5 : Ra 1 1 x2 := rb_ne_lo hx2 ra_z q4 (by decide)
    have r6 : Ra (-99) 99 a1 := (rb_in rl_n99 rl_99 (hz3 q4))
    refine z_iconst zh dX9_stress_19 ki_0 ?_
    refine z_istoren zh dX9_stress_20 (by decide) (L' := [some (rf g 551), some (.int a1), some (.int (nI 0)), none, none, none, none]) rfl ?_
    refine z_iconst zh dX9_stress_21 ki_0 ?_
    refine z_istoren zh dX9_stress_22 (by decide) (L' := [some (rf g 551), some (.int a1), some (.int (nI 0)), some (.int (nI 0)), none, none, none]) rfl ?_
    have J23 : ∀ (n : Nat) (iv : Iv) (lv : Lv) (x7 : Int32) (x8 : Int32), SI sp σ iv → Ra 0 12 x8 → iv 551 0 = nI 0 → 12 - x8.toInt < (n : Int) → Z 23 [some (rf g 551), some (.int a1), some (.int x7), some (.int x8), none, none, none] [] iv lv := by
      intro n
      induction n with
      | zero => intro iv lv x7 x8 hG hx8 em9 hn23; exact (ms_uz hx8 hn23).elim
      | succ n ih23 =>
        intro iv lv x7 x8 hG hx8 em9 hn23
        refine z_iloadn zh dX9_stress_23 rfl ?_
        refine z_aloadnR zh dX9_stress_24 rfl ?_
        refine z_callVI zh mv_Y_61 dX9_stress_25 ck_Y rfl (s_X9_memberMany g  hG) ⟨Nat.le_of_ble_eq_true rfl, Nat.le_of_ble_eq_true rfl⟩ rfl rfl (Nat.le_of_ble_eq_true rfl) ?_
        rintro x10 _ _ ⟨rfl, rfl, hx10⟩
        refine z_icmp_ge (tgt := 113) zh dX9_stress_28 rfl (fun q11 => ?_) (fun q11 => ?_)
        · have r12 : Ra 2 12 x8 := rb_le_r hx10 hx8 q11 (by decide)
          refine z_iloadn zh dX9_stress_113 rfl ?_
          exact z_iret zh dX9_stress_114 ⟨_, rfl, hG, trivial⟩
        · have r13 : Ra 0 11 x8 := rb_lt_l hx10 hx8 (rb_nle q11) (by decide)
          refine z_aloadnR zh dX9_stress_31 rfl ?_
          refine z_getf zh fl_Y_16 dX9_stress_32 ck_Y rfl rfl ?_
          refine z_iloadn zh dX9_stress_35 rfl ?_
          refine y_lald zh ck_coins dX9_stress_36 r13 (by decide) (by decide) (fun l14 => ?_)
          refine z_aloadnR zh dX9_stress_37 rfl ?_
          refine z_getf zh fl_Y_7 dX9_stress_38 ck_Y rfl rfl ?_
          refine z_bipush zh dX9_stress_41 kb_46 ?_
          refine z_iloadn zh dX9_stress_43 rfl ?_
          refine y_iadd zh dX9_stress_44 rl_46 r13 (u := 46) (v := 57) rfl rfl (by decide) (by decide) (fun x15 hc15 hx15 => ?_)
          refine y_iald zh ck_now dX9_stress_45 hx15 (by decide) (by decide) (fun x16 ex16 => ?_)
          refine y_i2l zh dX9_stress_46 (fun l17 => ?_)
          refine y_ladd zh dX9_stress_47 (fun l18 => ?_)
          refine z_lstore zh dX9_stress_48 (by decide) (L' := [some (rf g 551), some (.int a1), some (.int x7), some (.int x8), some (.long l18), none, none]) rfl ?_
          refine z_iconst zh dX9_stress_50 ki_0 ?_
          refine z_istore zh dX9_stress_51 (by decide) (L' := [some (rf g 551), some (.int a1), some (.int x7), some (.int x8), some (.long l18), none, some (.int (nI 0))]) rfl ?_
          have J53 : ∀ (n : Nat) (iv : Iv) (lv : Lv) (l19 : Int64) (x20 : Int32), SI sp σ iv → Ra 0 6 x20 → iv 551 0 = nI 0 → 6 - x20.toInt < (n : Int) → Z 53 [some (rf g 551), some (.int a1), some (.int x7), some (.int x8), some (.long l19), none, some (.int x20)] [] iv lv := by
            intro n
            induction n with
            | zero => intro iv lv l19 x20 hG hx20 em21 hn53; exact (ms_uz hx20 hn53).elim
            | succ n ih53 =>
              intro iv lv l19 x20 hG hx20 em21 hn53
              refine z_iload zh dX9_stress_53 rfl ?_
              refine z_bipush zh dX9_stress_55 kb_6 ?_
              refine z_icmp_ge (tgt := 94) zh dX9_stress_57 rfl (fun q22 => ?_) (fun q22 => ?_)
              · have r23 : Ra 6 6 x20 := rb_le_r rl_6 hx20 q22 (by decide)
                refine z_lload zh dX9_stress_94 rfl ?_
                refine z_lconst (v := 0) zh dX9_stress_96 (by decide) ?_
                refine y_lcmp zh dX9_stress_97 (fun x24 hx24 => ?_)
                have J107 : ∀ (iv : Iv) (lv : Lv) (x25 : Int32), SI sp σ iv → iv 551 0 = nI 0 → Z 107 [some (rf g 551), some (.int a1), some (.int x25), some (.int x8), some (.long l19), none, some (.int x20)] [] iv lv := by
                  intro iv lv x25 hG em26
                  refine y_iinc (L' := fun z => [some (rf g 551), some (.int a1), some (.int x25), some (.int z), some (.long l19), none, some (.int x20)]) zh dX9_stress_107 (by decide) rfl (by decide +kernel) r13 (u := 1) (v := 12) rfl rfl (by decide) (by decide) (fun _ => rfl) (fun x27 hc27 hx27 => ?_)
                  refine z_goto (tgt := 23) zh dX9_stress_110 rfl ?_
                  refine z_forget zh [true, true, true, true, false, false, false] (L2 := [some (rf g 551), some (.int a1), some (.int x25), some (.int x27), none, none, none]) rfl ?_
                  exact ih23 iv lv x25 x27 hG (ra_w hx27 (by decide) (by decide)) em26 (ms_up hc27 (by decide) hn23)
                refine z_if_ge (tgt := 107) zh dX9_stress_98 rfl (fun q28 => ?_) (fun q28 => ?_)
                · have r29 : Ra 0 1 x24 := rb_le_r ra_z hx24 q28 (by decide)
                  exact J107 iv lv x7 hG em21
                · have r30 : Ra (-1) (-1) x24 := rb_lt_l ra_z hx24 (rb_nle q28) (by decide)
                  refine z_iloadn zh dX9_stress_101 rfl ?_
                  refine z_iconst zh dX9_stress_102 ki_1 ?_
                  refine z_iloadn zh dX9_stress_103 rfl ?_
                  refine y_ishlT zh dX9_stress_104 (fun x31 => ?_)
                  refine y_iorT zh dX9_stress_105 (fun x32 => ?_)
                  refine z_istoren zh dX9_stress_106 (by decide) (L' := [some (rf g 551), some (.int a1), some (.int x32), some (.int x8), some (.long l19), none, some (.int x20)]) rfl ?_
                  exact J107 iv lv x32 hG em21
              · have r33 : Ra 0 5 x20 := rb_lt_l rl_6 hx20 (rb_nle q22) (by decide)
                refine z_lload zh dX9_stress_60 rfl ?_
                refine z_aloadnR zh dX9_stress_62 rfl ?_
                refine z_iloadn zh dX9_stress_63 rfl ?_
                refine z_iload zh dX9_stress_64 rfl ?_
                refine z_callVI zh mv_Y_119 dX9_stress_66 ck_Y rfl (s_X9_positionOf g r13 r33 hG) ⟨Nat.le_of_ble_eq_true rfl, Nat.le_of_ble_eq_true rfl⟩ rfl rfl (Nat.le_of_ble_eq_true rfl) ?_
                rintro x34 _ _ ⟨rfl, rfl, _⟩
                refine y_i2l zh dX9_stress_69 (fun l35 => ?_)
                refine z_aloadnR zh dX9_stress_70 rfl ?_
                refine z_iload zh dX9_stress_71 rfl ?_
                refine z_callVI zh mv_Y_203 dX9_stress_73 ck_Y rfl (s_X9_markedOf g r33 hG) ⟨Nat.le_of_ble_eq_true rfl, Nat.le_of_ble_eq_true rfl⟩ rfl rfl (Nat.le_of_ble_eq_true rfl) ?_
                rintro x36 _ _ ⟨rfl, rfl, _⟩
                refine y_i2l zh dX9_stress_76 (fun l37 => ?_)
                refine y_lmul zh dX9_stress_77 (fun l38 => ?_)
                refine z_iloadn zh dX9_stress_78 rfl ?_
                refine y_i2l zh dX9_stress_79 (fun l39 => ?_)
                refine y_lmul zh dX9_stress_80 (fun l40 => ?_)
                refine z_ldc2 zh dX9_stress_81 kl_Y_316 ?_
                refine y_ldiv zh dX9_stress_84 (by decide) (fun l41 => ?_)
                refine y_ladd zh dX9_stress_85 (fun l42 => ?_)
                refine z_lstore zh dX9_stress_86 (by decide) (L' := [some (rf g 551), some (.int a1), some (.int x7), some (.int x8), some (.long l42), none, some (.int x20)]) rfl ?_
                refine y_iinc (L' := fun z => [some (rf g 551), some (.int a1), some (.int x7), some (.int x8), some (.long l42), none, some (.int z)]) zh dX9_stress_88 (by decide) rfl (by decide +kernel) r33 (u := 1) (v := 6) rfl rfl (by decide) (by decide) (fun _ => rfl) (fun x43 hc43 hx43 => ?_)
                refine z_goto (tgt := 53) zh dX9_stress_91 rfl ?_
                exact ih53 iv lv l42 x43 hG (ra_w hx43 (by decide) (by decide)) em21 (ms_up hc43 (by decide) hn53)
          exact J53 7 iv lv l18 (nI 0) hG (ra_w rl_0 (by decide) (by decide)) em9 (ms_u0 rl_0 (by decide))
    exact J23 13 iv lv (nI 0) (nI 0) hG (ra_w rl_0 (by decide) (by decide)) em1 (ms_u0 rl_0 (by decide))
  · have r44 := rb_eq (u := 0) (v := 0) hx2 ra_z q4 (by decide) (by decide)
    refine z_iconst zh dX9_stress_17 ki_m1 ?_
    exact z_iret zh dX9_stress_18 ⟨_, rfl, hG, trivial⟩
set_option maxRecDepth 20000 in
theorem s_X9_suspend (g : GE) {sp : Nat → Nat → Bool} {σ : Iv} {iv : Iv} {lv : Lv} {a1 : Int32} {a2 : Int32}  (hG : SI sp σ iv)  : ConI g yX9_suspend cX9_suspend 3 (some .boolean) 3 [rf g 551, .int a1, .int a2] iv lv (fun r iv lv => SI sp σ iv ∧ Ra 0 1 r ∧ (¬ r = 0 → Ra 0 11 a1)) := by
  refine con_intro (own := "RollingNetsModel") (by decide +kernel) rfl (Nat.le_of_ble_eq_true rfl) (L0 := [some (rf g 551), some (.int a1), some (.int a2)]) rfl (fun Z zh => ?_)
  refine z_aloadnR zh dX9_suspend_0 rfl ?_
  refine z_iconst zh dX9_suspend_1 ki_0 ?_
  refine z_putI zh fl_Y_58 dX9_suspend_2 ck_Y rfl rfl (Nat.le_of_ble_eq_true rfl) (Or.inl rfl) ?_
  have hG : SI sp σ (upI iv 551 0 (nI 0)) := si_w (k := 551) (j := 0) hG (by decide) (by decide) (sp_no hG ((spc_Y (q := 0)).trans rfl)) (fun lo hi q => (rx_none rfl) lo hi ((rg_Y (q := 0)).symm.trans q))
  have em1 : upI iv 551 0 (nI 0) 551 0 = nI 0 := by rw [upI_at, if_pos ⟨rfl, rfl⟩]
  generalize upI iv 551 0 (nI 0) = iv at hG em1 ⊢
  refine z_aloadnR zh dX9_suspend_5 rfl ?_
  refine z_iloadn zh dX9_suspend_6 rfl ?_
  refine z_callVI zh mv_Y_90 dX9_suspend_7 ck_Y rfl (s_X9_isMember g  hG) ⟨Nat.le_of_ble_eq_true rfl, Nat.le_of_ble_eq_true rfl⟩ rfl rfl (Nat.le_of_ble_eq_true rfl) ?_
  rintro x2 _ _ ⟨rfl, rfl, hx2, hz3⟩
  refine z_if_ne (tgt := 15) zh dX9_suspend_10 rfl (fun q4 => ?_) (fun q4 => ?_)
  · have r5 : Ra 1 1 x2 := rb_ne_lo hx2 ra_z q4 (by decide)
    have r6 : Ra 0 11 a1 := (hz3 q4)
    refine z_aloadnR zh dX9_suspend_15 rfl ?_
    refine z_getf zh fl_Y_7 dX9_suspend_16 ck_Y rfl rfl ?_
    refine z_bipush zh dX9_suspend_19 kb_11 ?_
    refine z_iloadn zh dX9_suspend_21 rfl ?_
    have J52 : ∀ (iv : Iv) (lv : Lv) (x7 : Int32), SI sp σ iv → iv 551 0 = nI 0 → Z 52 [some (rf g 551), some (.int a1), some (.int a2)] [.int x7, .int (nI 11), rf g 552] iv lv := by
      intro iv lv x7 hG em8
      refine z_iastN (j := 11) zh ck_now dX9_suspend_52 (by decide) ?_
      have hG : SI sp σ (upI iv 552 11 x7) := (nw_l hG (j := 11) (by decide) rfl rfl)
      have em9 := (upI_ne (iv := iv) (k := 552) (j := 11) (x := x7) (a := 551) (b := 0) (Or.inl (by decide))).trans em8
      have em10 : upI iv 552 11 x7 552 11 = x7 := by rw [upI_at, if_pos ⟨rfl, rfl⟩]
      generalize upI iv 552 11 x7 = iv at hG em9 em10 ⊢
      refine z_iconst zh dX9_suspend_53 ki_1 ?_
      exact z_zret zh dX9_suspend_54 (ra_01 (ra_w rl_1 (by decide) (by decide))) ⟨_, rfl, hG, (ra_w rl_1 (by decide) (by decide)), (fun _ => r6)⟩
    refine z_if_eq (tgt := 39) zh dX9_suspend_22 rfl (fun q11 => ?_) (fun q11 => ?_)
    · have r12 := rb_eq (u := 0) (v := 0) (ra_tt a2) ra_z q11 (by decide) (by decide)
      refine z_aloadnR zh dX9_suspend_39 rfl ?_
      refine z_getf zh fl_Y_7 dX9_suspend_40 ck_Y rfl rfl ?_
      refine z_bipush zh dX9_suspend_43 kb_11 ?_
      refine y_ialdN zh ck_now dX9_suspend_45 (by decide) (fun x13 ex13 => ?_)
      refine z_iconst zh dX9_suspend_46 ki_1 ?_
      refine z_iloadn zh dX9_suspend_47 rfl ?_
      refine y_ishlT zh dX9_suspend_48 (fun x14 => ?_)
      refine z_iconst zh dX9_suspend_49 ki_m1 ?_
      refine y_ixorT zh dX9_suspend_50 (fun x15 => ?_)
      refine y_iandT zh dX9_suspend_51 (fun x16 => ?_)
      exact J52 iv lv x16 hG em1
    · refine z_aloadnR zh dX9_suspend_25 rfl ?_
      refine z_getf zh fl_Y_7 dX9_suspend_26 ck_Y rfl rfl ?_
      refine z_bipush zh dX9_suspend_29 kb_11 ?_
      refine y_ialdN zh ck_now dX9_suspend_31 (by decide) (fun x17 ex17 => ?_)
      refine z_iconst zh dX9_suspend_32 ki_1 ?_
      refine z_iloadn zh dX9_suspend_33 rfl ?_
      refine y_ishlT zh dX9_suspend_34 (fun x18 => ?_)
      refine y_iorT zh dX9_suspend_35 (fun x19 => ?_)
      refine z_goto (tgt := 52) zh dX9_suspend_36 rfl ?_
      exact J52 iv lv x19 hG em1
  · have r20 := rb_eq (u := 0) (v := 0) hx2 ra_z q4 (by decide) (by decide)
    refine z_iconst zh dX9_suspend_13 ki_0 ?_
    exact z_zret zh dX9_suspend_14 (ra_01 (ra_w rl_0 (by decide) (by decide))) ⟨_, rfl, hG, (ra_w rl_0 (by decide) (by decide)), (fun q => absurd rfl q)⟩
set_option maxRecDepth 20000 in
theorem s_X9_trade (g : GE) {sp : Nat → Nat → Bool} {σ : Iv} {iv : Iv} {lv : Lv} {a1 : Int32} {a2 : Int32} {a3 : Int32} {a4 : Int32} {a5 : Int32}  (hG : SI sp σ iv) (hq : Sq sp) : ConI g yX9_trade cX9_trade 6 (some .int) 4 [rf g 551, .int a1, .int a2, .int a3, .int a4, .int a5] iv lv (fun r iv lv => SI sp σ iv ∧ Ra (-1) 199 r) := by
  refine con_intro (own := "RollingNetsModel") (by decide +kernel) rfl (Nat.le_of_ble_eq_true rfl) (L0 := [some (rf g 551), some (.int a1), some (.int a2), some (.int a3), some (.int a4), some (.int a5)]) rfl (fun Z zh => ?_)
  refine z_aloadnR zh dX9_trade_0 rfl ?_
  refine z_iconst zh dX9_trade_1 ki_0 ?_
  refine z_putI zh fl_Y_58 dX9_trade_2 ck_Y rfl rfl (Nat.le_of_ble_eq_true rfl) (Or.inl rfl) ?_
  have hG : SI sp σ (upI iv 551 0 (nI 0)) := si_w (k := 551) (j := 0) hG (by decide) (by decide) (sp_no hG ((spc_Y (q := 0)).trans rfl)) (fun lo hi q => (rx_none rfl) lo hi ((rg_Y (q := 0)).symm.trans q))
  have em1 : upI iv 551 0 (nI 0) 551 0 = nI 0 := by rw [upI_at, if_pos ⟨rfl, rfl⟩]
  generalize upI iv 551 0 (nI 0) = iv at hG em1 ⊢
  refine z_aloadnR zh dX9_trade_5 rfl ?_
  refine z_iloadn zh dX9_trade_6 rfl ?_
  refine z_iloadn zh dX9_trade_7 rfl ?_
  refine z_iloadn zh dX9_trade_8 rfl ?_
  refine z_iload zh dX9_trade_9 rfl ?_
  refine z_iload zh dX9_trade_11 rfl ?_
  refine z_iconst zh dX9_trade_13 ki_0 ?_
  refine z_callVI zh mv_Y_147 dX9_trade_14 ck_Y rfl (s_X9_trades g (ra_w rl_0 (by decide) (by decide)) hG hq) ⟨Nat.le_of_ble_eq_true rfl, Nat.le_of_ble_eq_true rfl⟩ rfl rfl (Nat.le_of_ble_eq_true rfl) ?_
  rintro x2 iv lv ⟨hG, hx2⟩
  exact z_iret zh dX9_trade_17 ⟨_, rfl, hG, hx2⟩
