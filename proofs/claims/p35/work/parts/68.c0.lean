set_option maxRecDepth 20000 in
theorem s_X6_read (g : GE) {sp : Nat → Nat → Bool} {σ : Iv} {iv : Iv} {lv : Lv}   (hG : SI sp σ iv) (hq : Sq sp) (hL : sp 541 1 = false) : ConI g yX6_read cX6_read 2 (some .boolean) 8 [rf g 541] iv lv (fun r iv lv => SI sp σ iv ∧ Ra 0 1 r) := by
  refine con_intro (own := "RollingNets$Reader") (by decide +kernel) rfl (Nat.le_of_ble_eq_true rfl) (L0 := [some (rf g 541), none]) rfl (fun Z zh => ?_)
  refine z_aloadnR zh dX6_read_0 rfl ?_
  refine z_getf zh fl_Reader_24 dX6_read_1 ck_R rfl rfl ?_
  refine z_callVV zh mv_Reader_37 dX6_read_4 (ck_T isT_r) rfl (s_X7_clear g isT_r hG hq) ⟨Nat.le_of_ble_eq_true rfl, Nat.le_of_ble_eq_true rfl⟩ rfl rfl (Nat.le_of_ble_eq_true rfl) ?_
  rintro iv lv hG
  refine z_aloadnR zh dX6_read_7 rfl ?_
  refine z_iconst zh dX6_read_8 ki_0 ?_
  refine z_putI zh fl_Reader_28 dX6_read_9 ck_R rfl rfl (Nat.le_of_ble_eq_true rfl) (Or.inl rfl) ?_
  have hG : SI sp σ (upI iv 541 3 (nI 0)) := si_w (k := 541) (j := 3) hG (by decide) (by decide) (sq_no hq rfl) (rx_some (ra_w rl_0 (by decide) (by decide)))
  have em1 : upI iv 541 3 (nI 0) 541 3 = nI 0 := by rw [upI_at, if_pos ⟨rfl, rfl⟩]
  generalize upI iv 541 3 (nI 0) = iv at hG em1 ⊢
  refine z_aloadnR zh dX6_read_12 rfl ?_
  refine z_iconst zh dX6_read_13 ki_0 ?_
  refine z_putI zh fl_Reader_31 dX6_read_14 ck_R rfl rfl (Nat.le_of_ble_eq_true rfl) (Or.inl rfl) ?_
  have hG : SI sp σ (upI iv 541 4 (nI 0)) := si_w (k := 541) (j := 4) hG (by decide) (by decide) (sq_no hq rfl) (rx_none rfl)
  have em2 := (upI_ne (iv := iv) (k := 541) (j := 4) (x := nI 0) (a := 541) (b := 3) (Or.inr (by decide))).trans em1
  have em3 : upI iv 541 4 (nI 0) 541 4 = nI 0 := by rw [upI_at, if_pos ⟨rfl, rfl⟩]
  generalize upI iv 541 4 (nI 0) = iv at hG em2 em3 ⊢
  refine z_aloadnR zh dX6_read_17 rfl ?_
  refine z_iconst zh dX6_read_18 ki_m1 ?_
  refine z_putI zh fl_Reader_34 dX6_read_19 ck_R rfl rfl (Nat.le_of_ble_eq_true rfl) (Or.inl rfl) ?_
  have hG : SI sp σ (upI iv 541 5 (-1)) := si_w (k := 541) (j := 5) hG (by decide) (by decide) (sq_no hq rfl) (rx_none rfl)
  have em4 := (upI_ne (iv := iv) (k := 541) (j := 5) (x := (-1)) (a := 541) (b := 3) (Or.inr (by decide))).trans em2
  have em5 := (upI_ne (iv := iv) (k := 541) (j := 5) (x := (-1)) (a := 541) (b := 4) (Or.inr (by decide))).trans em3
  have em6 : upI iv 541 5 (-1) 541 5 = (-1) := by rw [upI_at, if_pos ⟨rfl, rfl⟩]
  generalize upI iv 541 5 (-1) = iv at hG em4 em5 em6 ⊢
  refine z_aloadnR zh dX6_read_22 rfl ?_
  refine z_callVV zh mv_Reader_40 dX6_read_23 ck_R rfl (s_X6_skipBlanks g  hG hq) ⟨Nat.le_of_ble_eq_true rfl, Nat.le_of_ble_eq_true rfl⟩ rfl rfl (Nat.le_of_ble_eq_true rfl) ?_
  rintro iv lv hG
  refine z_iconst zh dX6_read_26 ki_0 ?_
  refine z_istoren zh dX6_read_27 (by decide) (L' := [some (rf g 541), some (.int (nI 0))]) rfl ?_
  have J28 : ∀ (n : Nat) (iv : Iv) (lv : Lv) (x7 : Int32), SI sp σ iv → Ra 0 25 x7 → 25 - x7.toInt < (n : Int) → Z 28 [some (rf g 541), some (.int x7)] [] iv lv := by
    intro n
    induction n with
    | zero => intro iv lv x7 hG hx7 hn28; exact (ms_uz hx7 hn28).elim
    | succ n ih28 =>
      intro iv lv x7 hG hx7 hn28
      refine z_iloadn zh dX6_read_28 rfl ?_
      refine z_bipush zh dX6_read_29 kb_24 ?_
      have J66 : ∀ (iv : Iv) (lv : Lv), SI sp σ iv → Z 66 [some (rf g 541), some (.int x7)] [] iv lv := by
        intro iv lv hG
        refine z_aloadnR zh dX6_read_66 rfl ?_
        refine z_iconst zh dX6_read_67 ki_0 ?_
        refine z_putI zh fl_Reader_15 dX6_read_68 ck_R rfl rfl (Nat.le_of_ble_eq_true rfl) (Or.inl rfl) ?_
        have hG : SI sp σ (upI iv 541 1 (nI 0)) := si_w (k := 541) (j := 1) hG (by decide) (by decide) hL (rx_some (ra_w rl_0 (by decide) (by decide)))
        have em8 : upI iv 541 1 (nI 0) 541 1 = nI 0 := by rw [upI_at, if_pos ⟨rfl, rfl⟩]
        generalize upI iv 541 1 (nI 0) = iv at hG em8 ⊢
        refine z_aloadnR zh dX6_read_71 rfl ?_
        refine y_getI zh fl_Reader_31 dX6_read_72 ck_R rfl rfl (fun x9 ex9 => ?_)
        refine z_if_ne (tgt := 82) zh dX6_read_75 rfl (fun q10 => ?_) (fun q10 => ?_)
        · refine z_iconst zh dX6_read_82 ki_0 ?_
          exact z_zret zh dX6_read_83 (ra_01 (ra_w rl_0 (by decide) (by decide))) ⟨_, rfl, hG, (ra_w rl_0 (by decide) (by decide))⟩
        · have r11 := rb_eq (u := 0) (v := 0) (ra_tt x9) ra_z q10 (by decide) (by decide)
          refine z_iconst zh dX6_read_78 ki_1 ?_
          refine z_goto (tgt := 83) zh dX6_read_79 rfl ?_
          exact z_zret zh dX6_read_83 (ra_01 (ra_w rl_1 (by decide) (by decide))) ⟨_, rfl, hG, (ra_w rl_1 (by decide) (by decide))⟩
      refine z_icmp_gt (tgt := 66) zh dX6_read_31 rfl (fun q12 => ?_) (fun q12 => ?_)
      · have r13 : Ra 25 25 x7 := rb_lt_r rl_24 hx7 q12 (by decide)
        exact J66 iv lv hG
      · have r14 : Ra 0 24 x7 := rb_le_l rl_24 hx7 (rb_nlt q12) (by decide)
        refine z_aloadnR zh dX6_read_34 rfl ?_
        refine y_getI zh fl_Reader_28 dX6_read_35 ck_R rfl rfl (fun x15 ex15 => ?_)
        have hx15 : Ra 0 401 x15 := ra_of ex15 (si_c hG (k := 541) (j := 3) rfl)
        refine z_aloadnR zh dX6_read_38 rfl ?_
        refine y_getI zh fl_Reader_15 dX6_read_39 ck_R rfl rfl (fun x16 ex16 => ?_)
        have hx16 : Ra 0 400 x16 := ra_of ex16 (si_c hG (k := 541) (j := 1) rfl)
        refine z_icmp_ge (tgt := 66) zh dX6_read_42 rfl (fun q17 => ?_) (fun q17 => ?_)
        · exact J66 iv lv hG
        · have r18 : Ra 0 399 x15 := rb_lt_l hx16 hx15 (rb_nle q17) (by decide)
          have r19 : Ra 1 400 x16 := rb_lt_r hx15 hx16 (rb_nle q17) (by decide)
          refine z_aloadnR zh dX6_read_45 rfl ?_
          refine y_getI zh fl_Reader_31 dX6_read_46 ck_R rfl rfl (fun x20 ex20 => ?_)
          refine z_if_ne (tgt := 66) zh dX6_read_49 rfl (fun q21 => ?_) (fun q21 => ?_)
          · exact J66 iv lv hG
          · have r22 := rb_eq (u := 0) (v := 0) (ra_tt x20) ra_z q21 (by decide) (by decide)
            refine z_aloadnR zh dX6_read_52 rfl ?_
            refine z_callVV zh mv_Reader_43 dX6_read_53 ck_R rfl (s_X6_readLine g  hG hq) ⟨Nat.le_of_ble_eq_true rfl, Nat.le_of_ble_eq_true rfl⟩ rfl rfl (Nat.le_of_ble_eq_true rfl) ?_
            rintro iv lv hG
            refine z_aloadnR zh dX6_read_56 rfl ?_
            refine z_callVV zh mv_Reader_40 dX6_read_57 ck_R rfl (s_X6_skipBlanks g  hG hq) ⟨Nat.le_of_ble_eq_true rfl, Nat.le_of_ble_eq_true rfl⟩ rfl rfl (Nat.le_of_ble_eq_true rfl) ?_
            rintro iv lv hG
            refine y_iinc (L' := fun z => [some (rf g 541), some (.int z)]) zh dX6_read_60 (by decide) rfl (by decide +kernel) r14 (u := 1) (v := 25) rfl rfl (by decide) (by decide) (fun _ => rfl) (fun x23 hc23 hx23 => ?_)
            refine z_goto (tgt := 28) zh dX6_read_63 rfl ?_
            exact ih28 iv lv x23 hG (ra_w hx23 (by decide) (by decide)) (ms_up hc23 (by decide) hn28)
  exact J28 26 iv lv (nI 0) hG (ra_w rl_0 (by decide) (by decide)) (ms_u0 rl_0 (by decide))
set_option maxRecDepth 20000 in
theorem s_X8_image (g : GE) {sp : Nat → Nat → Bool} {σ : Iv} {iv : Iv} {lv : Lv} {a1 : Int32}  (hG : SI sp σ iv) (hq : Sq sp) (hI : sp 0 4 = false) : ConI g yX8_image cX8_image 2 (some .boolean) 3 [rf g 0, .int a1] iv lv (fun r iv lv => SI sp σ iv ∧ Ra 0 1 r) := by
  refine con_intro (own := "RollingNets") (by decide +kernel) rfl (Nat.le_of_ble_eq_true rfl) (L0 := [some (rf g 0), some (.int a1)]) rfl (fun Z zh => ?_)
  refine z_iloadn zh dX8_image_0 rfl ?_
  refine z_if_eq (tgt := 22) zh dX8_image_1 rfl (fun q1 => ?_) (fun q1 => ?_)
  · have r2 := rb_eq (u := 0) (v := 0) (ra_tt a1) ra_z q1 (by decide) (by decide)
    refine z_aloadnR zh dX8_image_22 rfl ?_
    refine y_getI zh fl_RollingNets_29 dX8_image_23 ck_X rfl rfl (fun x3 ex3 => ?_)
    refine z_if_ne (tgt := 31) zh dX8_image_26 rfl (fun q4 => ?_) (fun q4 => ?_)
    · refine z_aloadnR zh dX8_image_31 rfl ?_
      refine z_getf zh fl_RollingNets_12 dX8_image_32 ck_X rfl rfl ?_
      refine z_aloadnR zh dX8_image_35 rfl ?_
      refine z_getf zh fl_RollingNets_16 dX8_image_36 ck_X rfl rfl ?_
      refine z_callVV zh mv_RollingNets_191 dX8_image_39 (ck_H isH_1) rfl (s_X1_copyFrom g isH_1 isH_2 hG hq) ⟨Nat.le_of_ble_eq_true rfl, Nat.le_of_ble_eq_true rfl⟩ rfl rfl (Nat.le_of_ble_eq_true rfl) ?_
      rintro iv lv hG
      refine z_iconst zh dX8_image_42 ki_1 ?_
      exact z_zret zh dX8_image_43 (ra_01 (ra_w rl_1 (by decide) (by decide))) ⟨_, rfl, hG, (ra_w rl_1 (by decide) (by decide))⟩
    · have r5 := rb_eq (u := 0) (v := 0) (ra_tt x3) ra_z q4 (by decide) (by decide)
      refine z_iconst zh dX8_image_29 ki_0 ?_
      exact z_zret zh dX8_image_30 (ra_01 (ra_w rl_0 (by decide) (by decide))) ⟨_, rfl, hG, (ra_w rl_0 (by decide) (by decide))⟩
  · refine z_aloadnR zh dX8_image_4 rfl ?_
    refine z_getf zh fl_RollingNets_16 dX8_image_5 ck_X rfl rfl ?_
    refine z_aloadnR zh dX8_image_8 rfl ?_
    refine z_getf zh fl_RollingNets_12 dX8_image_9 ck_X rfl rfl ?_
    refine z_callVV zh mv_RollingNets_191 dX8_image_12 (ck_H isH_2) rfl (s_X1_copyFrom g isH_2 isH_1 hG hq) ⟨Nat.le_of_ble_eq_true rfl, Nat.le_of_ble_eq_true rfl⟩ rfl rfl (Nat.le_of_ble_eq_true rfl) ?_
    rintro iv lv hG
    refine z_aloadnR zh dX8_image_15 rfl ?_
    refine z_iconst zh dX8_image_16 ki_1 ?_
    refine z_putI zh fl_RollingNets_29 dX8_image_17 ck_X rfl rfl (Nat.le_of_ble_eq_true rfl) (Or.inr ⟨rfl, ra_01 (ra_w rl_1 (by decide) (by decide))⟩) ?_
    have hG : SI sp σ (upI iv 0 4 (nI 1)) := si_w (k := 0) (j := 4) hG (by decide) (by decide) hI (rx_none rfl)
    have em6 : upI iv 0 4 (nI 1) 0 4 = nI 1 := by rw [upI_at, if_pos ⟨rfl, rfl⟩]
    generalize upI iv 0 4 (nI 1) = iv at hG em6 ⊢
    refine z_iconst zh dX8_image_20 ki_1 ?_
    exact z_zret zh dX8_image_21 (ra_01 (ra_w rl_1 (by decide) (by decide))) ⟨_, rfl, hG, (ra_w rl_1 (by decide) (by decide))⟩
set_option maxRecDepth 20000 in
theorem s_X8_plan (g : GE) {sp : Nat → Nat → Bool} {σ : Iv} {iv : Iv} {lv : Lv}   (hG : SI sp σ iv) (hq : Sq sp) (hL : sp 541 1 = false) : ConI g yX8_plan cX8_plan 1 (some .int) 9 [rf g 0] iv lv (fun r iv lv => SI sp σ iv ∧ Ra (-1) 24 r) := by
  refine con_intro (own := "RollingNets") (by decide +kernel) rfl (Nat.le_of_ble_eq_true rfl) (L0 := [some (rf g 0)]) rfl (fun Z zh => ?_)
  refine z_aloadnR zh dX8_plan_0 rfl ?_
  refine z_getf zh fl_RollingNets_25 dX8_plan_1 ck_X rfl rfl ?_
  refine z_callVI zh mv_RollingNets_149 dX8_plan_4 ck_R rfl (s_X6_read g  hG hq hL) ⟨Nat.le_of_ble_eq_true rfl, Nat.le_of_ble_eq_true rfl⟩ rfl rfl (Nat.le_of_ble_eq_true rfl) ?_
  rintro x1 iv lv ⟨hG, hx1⟩
  refine z_if_ne (tgt := 12) zh dX8_plan_7 rfl (fun q2 => ?_) (fun q2 => ?_)
  · have r3 : Ra 1 1 x1 := rb_ne_lo hx1 ra_z q2 (by decide)
    refine z_aloadnR zh dX8_plan_12 rfl ?_
    refine z_getf zh fl_RollingNets_12 dX8_plan_13 ck_X rfl rfl ?_
    refine z_getf zh fl_RollingNets_152 dX8_plan_16 (ck_H isH_1) rfl rfl ?_
    refine z_aloadnR zh dX8_plan_19 rfl ?_
    refine z_getf zh fl_RollingNets_25 dX8_plan_20 ck_X rfl rfl ?_
    refine z_getf zh fl_RollingNets_155 dX8_plan_23 ck_R rfl rfl ?_
    refine z_callVV zh mv_RollingNets_158 dX8_plan_26 (ck_T (isT_p isH_1)) rfl (s_X7_copyFrom g (isT_p isH_1) isT_r hG hq) ⟨Nat.le_of_ble_eq_true rfl, Nat.le_of_ble_eq_true rfl⟩ rfl rfl (Nat.le_of_ble_eq_true rfl) ?_
    rintro iv lv hG
    refine z_aloadnR zh dX8_plan_29 rfl ?_
    refine z_getf zh fl_RollingNets_12 dX8_plan_30 ck_X rfl rfl ?_
    refine z_iconst zh dX8_plan_33 ki_0 ?_
    refine z_putI zh fl_RollingNets_162 dX8_plan_34 (ck_H isH_1) rfl rfl (Nat.le_of_ble_eq_true rfl) (Or.inl rfl) ?_
    have hG : SI sp σ (upI iv 1 10 (nI 0)) := si_wHq hG hq isH_1 0 (by decide) (rx_none rfl)
    have em4 : upI iv 1 10 (nI 0) 1 10 = nI 0 := by rw [upI_at, if_pos ⟨rfl, rfl⟩]
    generalize upI iv 1 10 (nI 0) = iv at hG em4 ⊢
    refine z_aloadnR zh dX8_plan_37 rfl ?_
    refine z_getf zh fl_RollingNets_12 dX8_plan_38 ck_X rfl rfl ?_
    refine z_getf zh fl_RollingNets_152 dX8_plan_41 (ck_H isH_1) rfl rfl ?_
    obtain ⟨x5, ex5⟩ : ∃ z, iv (1 + 46) 2 = z := ⟨_, rfl⟩
    have hx5 : Ra 0 24 x5 := ra_of ex5 (si_T hG (isT_p isH_1))
    refine z_callVIp zh mv_RollingNets_51 dX8_plan_44 (ck_T (isT_p isH_1)) rfl (s_X7_size g (isT_p isH_1) ex5) ⟨Nat.le_of_ble_eq_true rfl, Nat.le_of_ble_eq_true rfl⟩ rfl rfl (Nat.le_of_ble_eq_true rfl) ?_
    exact z_iret zh dX8_plan_47 ⟨_, rfl, hG, (ra_w hx5 (by decide) (by decide))⟩
  · have r6 := rb_eq (u := 0) (v := 0) hx1 ra_z q2 (by decide) (by decide)
    refine z_iconst zh dX8_plan_10 ki_m1 ?_
    exact z_iret zh dX8_plan_11 ⟨_, rfl, hG, (ra_w rl_n1 (by decide) (by decide))⟩
set_option maxRecDepth 20000 in
theorem s_X8_tomorrow (g : GE) {sp : Nat → Nat → Bool} {σ : Iv} {iv : Iv} {lv : Lv} {a1 : Int32} {a2 : Int32} {a3 : Int32}  (hG : SI sp σ iv) (hq : Sq sp) : ConI g yX8_tomorrow cX8_tomorrow 4 (some .int) 7 [rf g 0, .int a1, .int a2, .int a3] iv lv (fun r iv lv => SI sp σ iv ∧ True) := by
  refine con_intro (own := "RollingNets") (by decide +kernel) rfl (Nat.le_of_ble_eq_true rfl) (L0 := [some (rf g 0), some (.int a1), some (.int a2), some (.int a3)]) rfl (fun Z zh => ?_)
  refine z_aloadnR zh dX8_tomorrow_0 rfl ?_
  refine z_getf zh fl_RollingNets_12 dX8_tomorrow_1 ck_X rfl rfl ?_
  refine z_iloadn zh dX8_tomorrow_4 rfl ?_
  refine z_callVI zh mv_RollingNets_60 dX8_tomorrow_5 (ck_H isH_1) rfl (s_X1_hasMember g isH_1 hG) ⟨Nat.le_of_ble_eq_true rfl, Nat.le_of_ble_eq_true rfl⟩ rfl rfl (Nat.le_of_ble_eq_true rfl) ?_
  rintro x1 _ _ ⟨rfl, rfl, hx1, hz2⟩
  refine z_if_eq (tgt := 30) zh dX8_tomorrow_8 rfl (fun q3 => ?_) (fun q3 => ?_)
  · have r4 := rb_eq (u := 0) (v := 0) hx1 ra_z q3 (by decide) (by decide)
    refine z_ldc zh dX8_tomorrow_30 kc_RollingNets_194 ?_
    exact z_iret zh dX8_tomorrow_32 ⟨_, rfl, hG, trivial⟩
  · have r5 : Ra 1 1 x1 := rb_ne_lo hx1 ra_z q3 (by decide)
    have r6 : Ra 0 11 a1 := (hz2 q3)
    refine z_iloadn zh dX8_tomorrow_11 rfl ?_
    refine z_callSI zh ms_RollingNets_68 dX8_tomorrow_12 (s_X8_isIssue g  hG) ⟨Nat.le_of_ble_eq_true rfl, Nat.le_of_ble_eq_true rfl⟩ rfl rfl (Nat.le_of_ble_eq_true rfl) ?_
    rintro x7 _ _ ⟨rfl, rfl, hx7, hz8⟩
    refine z_if_eq (tgt := 30) zh dX8_tomorrow_15 rfl (fun q9 => ?_) (fun q9 => ?_)
    · have r10 := rb_eq (u := 0) (v := 0) hx7 ra_z q9 (by decide) (by decide)
      refine z_ldc zh dX8_tomorrow_30 kc_RollingNets_194 ?_
      exact z_iret zh dX8_tomorrow_32 ⟨_, rfl, hG, trivial⟩
    · have r11 : Ra 1 1 x7 := rb_ne_lo hx7 ra_z q9 (by decide)
      have r12 : Ra 0 5 a2 := (hz8 q9)
      refine z_aloadnR zh dX8_tomorrow_18 rfl ?_
      refine z_getf zh fl_RollingNets_12 dX8_tomorrow_19 ck_X rfl rfl ?_
      refine y_getI zh fl_RollingNets_261 dX8_tomorrow_22 (ck_H isH_1) rfl rfl (fun x13 ex13 => ?_)
      have hx13 : Ra 0 99 x13 := ra_of ex13 (si_H hG isH_1 0 (by decide) rfl)
      refine z_bipush zh dX8_tomorrow_25 kb_99 ?_
      refine z_icmp_lt (tgt := 33) zh dX8_tomorrow_27 rfl (fun q14 => ?_) (fun q14 => ?_)
      · have r15 : Ra 0 98 x13 := rb_lt_l rl_99 hx13 q14 (by decide)
        refine z_aloadnR zh dX8_tomorrow_33 rfl ?_
        refine z_getf zh fl_RollingNets_19 dX8_tomorrow_34 ck_X rfl rfl ?_
        refine z_aloadnR zh dX8_tomorrow_37 rfl ?_
        refine z_getf zh fl_RollingNets_12 dX8_tomorrow_38 ck_X rfl rfl ?_
        refine z_callVV zh mv_RollingNets_191 dX8_tomorrow_41 (ck_H isH_3) rfl (s_X1_copyFrom g isH_3 isH_1 hG hq) ⟨Nat.le_of_ble_eq_true rfl, Nat.le_of_ble_eq_true rfl⟩ rfl rfl (Nat.le_of_ble_eq_true rfl) ?_
        rintro iv lv hG
        refine z_aloadnR zh dX8_tomorrow_44 rfl ?_
        refine z_getf zh fl_RollingNets_19 dX8_tomorrow_45 ck_X rfl rfl ?_
        refine z_iconst zh dX8_tomorrow_48 ki_1 ?_
        refine z_callSI zh ms_RollingNets_123 dX8_tomorrow_49 (s_X4_pass g isH_3 hG hq) ⟨Nat.le_of_ble_eq_true rfl, Nat.le_of_ble_eq_true rfl⟩ rfl rfl (Nat.le_of_ble_eq_true rfl) ?_
        rintro x16 iv lv ⟨hG, hx16⟩
        refine z_pop zh dX8_tomorrow_52 rfl ?_
        refine z_iloadn zh dX8_tomorrow_53 rfl ?_
        refine z_bipush zh dX8_tomorrow_54 kb_9 ?_
        refine z_icmp_ne (tgt := 80) zh dX8_tomorrow_56 rfl (fun q17 => ?_) (fun q17 => ?_)
        · refine z_aloadnR zh dX8_tomorrow_80 rfl ?_
          refine z_getf zh fl_RollingNets_19 dX8_tomorrow_81 ck_X rfl rfl ?_
          refine z_iloadn zh dX8_tomorrow_84 rfl ?_
          refine z_iloadn zh dX8_tomorrow_85 rfl ?_
          refine z_iloadn zh dX8_tomorrow_86 rfl ?_
          refine z_callVI zh mv_RollingNets_198 dX8_tomorrow_87 (ck_H isH_3) rfl (s_X1_holding g isH_3 r6 r12 hG) ⟨Nat.le_of_ble_eq_true rfl, Nat.le_of_ble_eq_true rfl⟩ rfl rfl (Nat.le_of_ble_eq_true rfl) ?_
          rintro x18 _ _ ⟨rfl, rfl, _⟩
          exact z_iret zh dX8_tomorrow_90 ⟨_, rfl, hG, trivial⟩
        · have r19 := rb_eq (u := 9) (v := 9) (ra_tt a3) rl_9 q17 (by decide) (by decide)
          refine z_aloadnR zh dX8_tomorrow_59 rfl ?_
          refine z_getf zh fl_RollingNets_19 dX8_tomorrow_60 ck_X rfl rfl ?_
          refine z_getf zh fl_RollingNets_209 dX8_tomorrow_63 (ck_H isH_3) rfl rfl ?_
          refine z_iloadn zh dX8_tomorrow_66 rfl ?_
          refine y_lald zh (ck_cash isH_3) dX8_tomorrow_67 r6 (by decide) (by decide) (fun l20 => ?_)
          refine z_aloadnR zh dX8_tomorrow_68 rfl ?_
          refine z_getf zh fl_RollingNets_12 dX8_tomorrow_69 ck_X rfl rfl ?_
          refine z_getf zh fl_RollingNets_209 dX8_tomorrow_72 (ck_H isH_1) rfl rfl ?_
          refine z_iloadn zh dX8_tomorrow_75 rfl ?_
          refine y_lald zh (ck_cash isH_1) dX8_tomorrow_76 r6 (by decide) (by decide) (fun l21 => ?_)
          refine y_lsub zh dX8_tomorrow_77 (fun l22 => ?_)
          refine y_l2i zh dX8_tomorrow_78 (fun x23 => ?_)
          exact z_iret zh dX8_tomorrow_79 ⟨_, rfl, hG, trivial⟩
      · have r24 : Ra 99 99 x13 := rb_le_r rl_99 hx13 (rb_nlt q14) (by decide)
        refine z_ldc zh dX8_tomorrow_30 kc_RollingNets_194 ?_
        exact z_iret zh dX8_tomorrow_32 ⟨_, rfl, hG, trivial⟩
