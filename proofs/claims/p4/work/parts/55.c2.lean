set_option maxRecDepth 20000 in
theorem s_X8_aged (g : GE) {sp : Nat → Nat → Bool} {σ : Iv} {iv : Iv} {lv : Lv} {a1 : Int32} {a2 : Int32}  (hG : SI sp σ iv)  : ConI g yX8_aged cX8_aged 3 (some .int) 3 [rf g 0, .int a1, .int a2] iv lv (fun r iv' lv' => iv = iv' ∧ lv = lv' ∧ True) := by
  refine con_intro (own := "RollingNets") (by decide +kernel) rfl (Nat.le_of_ble_eq_true rfl) (L0 := [some (rf g 0), some (.int a1), some (.int a2)]) rfl (fun Z zh => ?_)
  refine z_iloadn zh dX8_aged_0 rfl ?_
  refine z_callSI zh ms_RollingNets_68 dX8_aged_1 (s_X8_isIssue g  hG) ⟨Nat.le_of_ble_eq_true rfl, Nat.le_of_ble_eq_true rfl⟩ rfl rfl (Nat.le_of_ble_eq_true rfl) ?_
  rintro x1 _ _ ⟨rfl, rfl, hx1, hz2⟩
  refine z_if_eq (tgt := 17) zh dX8_aged_4 rfl (fun q3 => ?_) (fun q3 => ?_)
  · have r4 := rb_eq (u := 0) (v := 0) hx1 ra_z q3 (by decide) (by decide)
    refine z_iconst zh dX8_aged_17 ki_m1 ?_
    exact z_iret zh dX8_aged_18 ⟨_, rfl, rfl, rfl, trivial⟩
  · have r5 : Ra 1 1 x1 := rb_ne_lo hx1 ra_z q3 (by decide)
    have r6 : Ra 0 5 a1 := (hz2 q3)
    refine z_iloadn zh dX8_aged_7 rfl ?_
    refine z_iconst zh dX8_aged_8 ki_0 ?_
    refine z_bipush zh dX8_aged_9 kb_99 ?_
    refine z_callSI zh ms_RollingNets_43 dX8_aged_11 (s_X8_within g) ⟨Nat.le_of_ble_eq_true rfl, Nat.le_of_ble_eq_true rfl⟩ rfl rfl (Nat.le_of_ble_eq_true rfl) ?_
    rintro x7 _ _ ⟨rfl, rfl, hx7, hz8⟩
    refine z_if_ne (tgt := 19) zh dX8_aged_14 rfl (fun q9 => ?_) (fun q9 => ?_)
    · have r10 : Ra 1 1 x7 := rb_ne_lo hx7 ra_z q9 (by decide)
      have r11 : Ra 0 99 a2 := (rb_in rl_0 rl_99 (hz8 q9))
      refine z_aloadnR zh dX8_aged_19 rfl ?_
      refine z_getf zh fl_RollingNets_12 dX8_aged_20 ck_X rfl rfl ?_
      refine z_iloadn zh dX8_aged_23 rfl ?_
      refine z_iloadn zh dX8_aged_24 rfl ?_
      refine z_callSI zh ms_RollingNets_254 dX8_aged_25 (s_X0_agedShort g isH_1 r6 r11 hG) ⟨Nat.le_of_ble_eq_true rfl, Nat.le_of_ble_eq_true rfl⟩ rfl rfl (Nat.le_of_ble_eq_true rfl) ?_
      rintro x12 _ _ ⟨rfl, rfl, _⟩
      exact z_iret zh dX8_aged_28 ⟨_, rfl, rfl, rfl, trivial⟩
    · have r13 := rb_eq (u := 0) (v := 0) hx7 ra_z q9 (by decide) (by decide)
      refine z_iconst zh dX8_aged_17 ki_m1 ?_
      exact z_iret zh dX8_aged_18 ⟨_, rfl, rfl, rfl, trivial⟩
set_option maxRecDepth 20000 in
theorem s_X8_ahead (g : GE) {sp : Nat → Nat → Bool} {σ : Iv} {iv : Iv} {lv : Lv} {a1 : Int32} {a2 : Int32}  (hG : SI sp σ iv)  : ConI g yX8_ahead cX8_ahead 3 (some .int) 6 [rf g 0, .int a1, .int a2] iv lv (fun r iv lv => SI sp σ iv ∧ True) := by
  refine con_intro (own := "RollingNets") (by decide +kernel) rfl (Nat.le_of_ble_eq_true rfl) (L0 := [some (rf g 0), some (.int a1), some (.int a2)]) rfl (fun Z zh => ?_)
  refine z_aloadnR zh dX8_ahead_0 rfl ?_
  refine z_getf zh fl_RollingNets_12 dX8_ahead_1 ck_X rfl rfl ?_
  refine z_iloadn zh dX8_ahead_4 rfl ?_
  refine z_callVI zh mv_RollingNets_60 dX8_ahead_5 (ck_H isH_1) rfl (s_X1_hasMember g isH_1 hG) ⟨Nat.le_of_ble_eq_true rfl, Nat.le_of_ble_eq_true rfl⟩ rfl rfl (Nat.le_of_ble_eq_true rfl) ?_
  rintro x1 _ _ ⟨rfl, rfl, hx1, hz2⟩
  refine z_if_eq (tgt := 34) zh dX8_ahead_8 rfl (fun q3 => ?_) (fun q3 => ?_)
  · have r4 := rb_eq (u := 0) (v := 0) hx1 ra_z q3 (by decide) (by decide)
    refine z_iconst zh dX8_ahead_34 ki_m1 ?_
    exact z_iret zh dX8_ahead_35 ⟨_, rfl, hG, trivial⟩
  · have r5 : Ra 1 1 x1 := rb_ne_lo hx1 ra_z q3 (by decide)
    have r6 : Ra 0 11 a1 := (hz2 q3)
    refine z_iloadn zh dX8_ahead_11 rfl ?_
    refine z_callSI zh ms_RollingNets_68 dX8_ahead_12 (s_X8_isIssue g  hG) ⟨Nat.le_of_ble_eq_true rfl, Nat.le_of_ble_eq_true rfl⟩ rfl rfl (Nat.le_of_ble_eq_true rfl) ?_
    rintro x7 _ _ ⟨rfl, rfl, hx7, hz8⟩
    refine z_if_eq (tgt := 34) zh dX8_ahead_15 rfl (fun q9 => ?_) (fun q9 => ?_)
    · have r10 := rb_eq (u := 0) (v := 0) hx7 ra_z q9 (by decide) (by decide)
      refine z_iconst zh dX8_ahead_34 ki_m1 ?_
      exact z_iret zh dX8_ahead_35 ⟨_, rfl, hG, trivial⟩
    · have r11 : Ra 1 1 x7 := rb_ne_lo hx7 ra_z q9 (by decide)
      have r12 : Ra 0 5 a2 := (hz8 q9)
      refine z_aloadnR zh dX8_ahead_18 rfl ?_
      refine z_getf zh fl_RollingNets_12 dX8_ahead_19 ck_X rfl rfl ?_
      refine z_getf zh fl_RollingNets_72 dX8_ahead_22 (ck_H isH_1) rfl rfl ?_
      refine z_iloadn zh dX8_ahead_25 rfl ?_
      refine y_mald zh (ck_markets isH_1) dX8_ahead_26 r12 (by decide) (by decide) (fun j13 hj13 _ _ => ?_)
      refine z_iloadn zh dX8_ahead_27 rfl ?_
      refine z_callVI zh mv_RollingNets_263 dX8_ahead_28 (ck_M (isM_of isH_1 hj13)) rfl (s_X3_longOf g (isM_of isH_1 hj13) r6 hG) ⟨Nat.le_of_ble_eq_true rfl, Nat.le_of_ble_eq_true rfl⟩ rfl rfl (Nat.le_of_ble_eq_true rfl) ?_
      rintro x14 _ _ ⟨rfl, rfl, hx14⟩
      refine z_if_ne (tgt := 36) zh dX8_ahead_31 rfl (fun q15 => ?_) (fun q15 => ?_)
      · have r16 : Ra 1 2147483647 x14 := rb_ne_lo hx14 ra_z q15 (by decide)
        refine z_aloadnR zh dX8_ahead_36 rfl ?_
        refine z_getf zh fl_RollingNets_12 dX8_ahead_37 ck_X rfl rfl ?_
        refine z_iloadn zh dX8_ahead_40 rfl ?_
        refine z_iloadn zh dX8_ahead_41 rfl ?_
        refine z_callSI zh ms_RollingNets_267 dX8_ahead_42 (s_X0_aheadOf g isH_1 r6 r12 hG) ⟨Nat.le_of_ble_eq_true rfl, Nat.le_of_ble_eq_true rfl⟩ rfl rfl (Nat.le_of_ble_eq_true rfl) ?_
        rintro x17 iv lv ⟨hG, _⟩
        exact z_iret zh dX8_ahead_45 ⟨_, rfl, hG, trivial⟩
      · have r18 := rb_eq (u := 0) (v := 0) hx14 ra_z q15 (by decide) (by decide)
        refine z_iconst zh dX8_ahead_34 ki_m1 ?_
        exact z_iret zh dX8_ahead_35 ⟨_, rfl, hG, trivial⟩
set_option maxRecDepth 20000 in
theorem s_X8_apart (g : GE) {sp : Nat → Nat → Bool} {σ : Iv} {iv : Iv} {lv : Lv} {a1 : Int32} {a2 : Int32} {a3 : Int32} {a4 : Int32} {a5 : Int32}  (hG : SI sp σ iv) (hq : Sq sp) : ConI g yX8_apart cX8_apart 6 (some .int) 4 [rf g 0, .int a1, .int a2, .int a3, .int a4, .int a5] iv lv (fun r iv lv => SI sp σ iv ∧ Ra (-1) 199 r) := by
  refine con_intro (own := "RollingNets") (by decide +kernel) rfl (Nat.le_of_ble_eq_true rfl) (L0 := [some (rf g 0), some (.int a1), some (.int a2), some (.int a3), some (.int a4), some (.int a5)]) rfl (fun Z zh => ?_)
  refine z_aloadnR zh dX8_apart_0 rfl ?_
  refine z_getf zh fl_RollingNets_12 dX8_apart_1 ck_X rfl rfl ?_
  refine z_iloadn zh dX8_apart_4 rfl ?_
  refine z_iloadn zh dX8_apart_5 rfl ?_
  refine z_iloadn zh dX8_apart_6 rfl ?_
  refine z_iload zh dX8_apart_7 rfl ?_
  refine z_iload zh dX8_apart_9 rfl ?_
  refine z_iconst zh dX8_apart_11 ki_1 ?_
  refine z_callVI zh mv_RollingNets_95 dX8_apart_12 (ck_H isH_1) rfl (s_X1_addDeal g isH_1 (ra_w rl_1 (by decide) (by decide)) hG hq) ⟨Nat.le_of_ble_eq_true rfl, Nat.le_of_ble_eq_true rfl⟩ rfl rfl (Nat.le_of_ble_eq_true rfl) ?_
  rintro x1 iv lv ⟨hG, hx1⟩
  exact z_iret zh dX8_apart_15 ⟨_, rfl, hG, hx1⟩
set_option maxRecDepth 20000 in
theorem s_X8_at (g : GE) {sp : Nat → Nat → Bool} {σ : Iv} {iv : Iv} {lv : Lv} {a1 : Int32} {a2 : Int32} {a3 : Int32}  (hG : SI sp σ iv)  : ConI g yX8_at cX8_at 4 (some .int) 4 [rf g 0, .int a1, .int a2, .int a3] iv lv (fun r iv' lv' => iv = iv' ∧ lv = lv' ∧ True) := by
  refine con_intro (own := "RollingNets") (by decide +kernel) rfl (Nat.le_of_ble_eq_true rfl) (L0 := [some (rf g 0), some (.int a1), some (.int a2), some (.int a3)]) rfl (fun Z zh => ?_)
  refine z_aloadnR zh dX8_at_0 rfl ?_
  refine z_getf zh fl_RollingNets_12 dX8_at_1 ck_X rfl rfl ?_
  refine z_iloadn zh dX8_at_4 rfl ?_
  refine z_callVI zh mv_RollingNets_60 dX8_at_5 (ck_H isH_1) rfl (s_X1_hasMember g isH_1 hG) ⟨Nat.le_of_ble_eq_true rfl, Nat.le_of_ble_eq_true rfl⟩ rfl rfl (Nat.le_of_ble_eq_true rfl) ?_
  rintro x1 _ _ ⟨rfl, rfl, hx1, hz2⟩
  refine z_if_eq (tgt := 18) zh dX8_at_8 rfl (fun q3 => ?_) (fun q3 => ?_)
  · have r4 := rb_eq (u := 0) (v := 0) hx1 ra_z q3 (by decide) (by decide)
    refine z_ldc zh dX8_at_18 kc_RollingNets_194 ?_
    exact z_iret zh dX8_at_20 ⟨_, rfl, rfl, rfl, trivial⟩
  · have r5 : Ra 1 1 x1 := rb_ne_lo hx1 ra_z q3 (by decide)
    have r6 : Ra 0 11 a1 := (hz2 q3)
    refine z_iloadn zh dX8_at_11 rfl ?_
    refine z_callSI zh ms_RollingNets_68 dX8_at_12 (s_X8_isIssue g  hG) ⟨Nat.le_of_ble_eq_true rfl, Nat.le_of_ble_eq_true rfl⟩ rfl rfl (Nat.le_of_ble_eq_true rfl) ?_
    rintro x7 _ _ ⟨rfl, rfl, hx7, hz8⟩
    refine z_if_ne (tgt := 21) zh dX8_at_15 rfl (fun q9 => ?_) (fun q9 => ?_)
    · have r10 : Ra 1 1 x7 := rb_ne_lo hx7 ra_z q9 (by decide)
      have r11 : Ra 0 5 a2 := (hz8 q9)
      refine z_iloadn zh dX8_at_21 rfl ?_
      refine z_bipush zh dX8_at_22 kb_9 ?_
      refine z_icmp_ne (tgt := 44) zh dX8_at_24 rfl (fun q12 => ?_) (fun q12 => ?_)
      · refine z_aloadnR zh dX8_at_44 rfl ?_
        refine z_getf zh fl_RollingNets_12 dX8_at_45 ck_X rfl rfl ?_
        refine z_iloadn zh dX8_at_48 rfl ?_
        refine z_iloadn zh dX8_at_49 rfl ?_
        refine z_iloadn zh dX8_at_50 rfl ?_
        refine z_callVI zh mv_RollingNets_198 dX8_at_51 (ck_H isH_1) rfl (s_X1_holding g isH_1 r6 r11 hG) ⟨Nat.le_of_ble_eq_true rfl, Nat.le_of_ble_eq_true rfl⟩ rfl rfl (Nat.le_of_ble_eq_true rfl) ?_
        rintro x13 _ _ ⟨rfl, rfl, _⟩
        exact z_iret zh dX8_at_54 ⟨_, rfl, rfl, rfl, trivial⟩
      · have r14 := rb_eq (u := 9) (v := 9) (ra_tt a3) rl_9 q12 (by decide) (by decide)
        refine z_aloadnR zh dX8_at_27 rfl ?_
        refine z_getf zh fl_RollingNets_12 dX8_at_28 ck_X rfl rfl ?_
        refine z_getf zh fl_RollingNets_72 dX8_at_31 (ck_H isH_1) rfl rfl ?_
        refine z_iloadn zh dX8_at_34 rfl ?_
        refine y_mald zh (ck_markets isH_1) dX8_at_35 r11 (by decide) (by decide) (fun j15 hj15 _ _ => ?_)
        refine z_getf zh fl_RollingNets_195 dX8_at_36 (ck_M (isM_of isH_1 hj15)) rfl rfl ?_
        refine z_iloadn zh dX8_at_39 rfl ?_
        refine y_iald zh (ck_mi 5 (by decide) (isM_of isH_1 hj15)) dX8_at_40 r6 (by decide) (by decide) (fun x16 ex16 => ?_)
        refine z_goto (tgt := 54) zh dX8_at_41 rfl ?_
        exact z_iret zh dX8_at_54 ⟨_, rfl, rfl, rfl, trivial⟩
    · have r17 := rb_eq (u := 0) (v := 0) hx7 ra_z q9 (by decide) (by decide)
      refine z_ldc zh dX8_at_18 kc_RollingNets_194 ?_
      exact z_iret zh dX8_at_20 ⟨_, rfl, rfl, rfl, trivial⟩
set_option maxRecDepth 20000 in
theorem s_X8_book (g : GE) {sp : Nat → Nat → Bool} {σ : Iv} {iv : Iv} {lv : Lv} {a1 : Int32} {a2 : Int32}  (hG : SI sp σ iv)  : ConI g yX8_book cX8_book 3 (some .int) 2 [rf g 0, .int a1, .int a2] iv lv (fun r iv' lv' => iv = iv' ∧ lv = lv' ∧ True) := by
  refine con_intro (own := "RollingNets") (by decide +kernel) rfl (Nat.le_of_ble_eq_true rfl) (L0 := [some (rf g 0), some (.int a1), some (.int a2)]) rfl (fun Z zh => ?_)
  refine z_aloadnR zh dX8_book_0 rfl ?_
  refine z_getf zh fl_RollingNets_12 dX8_book_1 ck_X rfl rfl ?_
  refine z_getf zh fl_RollingNets_221 dX8_book_4 (ck_H isH_1) rfl rfl ?_
  refine z_iloadn zh dX8_book_7 rfl ?_
  refine z_iloadn zh dX8_book_8 rfl ?_
  obtain ⟨x1, ex1⟩ : ∃ z, iv (1 + 38) 2 = z := ⟨_, rfl⟩
  have hx1 : Ra 0 300 x1 := ra_of ex1 (si_T hG (isT_b isH_1))
  refine z_callVI zh mv_RollingNets_171 dX8_book_9 (ck_T (isT_b isH_1)) rfl (s_X7_get g (isT_b isH_1) ex1 hx1) ⟨Nat.le_of_ble_eq_true rfl, Nat.le_of_ble_eq_true rfl⟩ rfl rfl (Nat.le_of_ble_eq_true rfl) ?_
  rintro x2 _ _ ⟨rfl, rfl, gx2⟩
  exact z_iret zh dX8_book_12 ⟨_, rfl, rfl, rfl, trivial⟩
set_option maxRecDepth 20000 in
theorem s_X8_call (g : GE) {sp : Nat → Nat → Bool} {σ : Iv} {iv : Iv} {lv : Lv} {a1 : Int32}  (hG : SI sp σ iv) (hq : Sq sp) : ConI g yX8_call cX8_call 2 (some .int) 5 [rf g 0, .int a1] iv lv (fun r iv lv => SI sp σ iv ∧ Ra (-1) 59 r) := by
  refine con_intro (own := "RollingNets") (by decide +kernel) rfl (Nat.le_of_ble_eq_true rfl) (L0 := [some (rf g 0), some (.int a1)]) rfl (fun Z zh => ?_)
  refine z_aloadnR zh dX8_call_0 rfl ?_
  refine z_getf zh fl_RollingNets_12 dX8_call_1 ck_X rfl rfl ?_
  refine z_iloadn zh dX8_call_4 rfl ?_
  refine z_callSI zh ms_RollingNets_135 dX8_call_5 (s_X5_giveApart g isH_1 hG hq) ⟨Nat.le_of_ble_eq_true rfl, Nat.le_of_ble_eq_true rfl⟩ rfl rfl (Nat.le_of_ble_eq_true rfl) ?_
  rintro x1 iv lv ⟨hG, hx1⟩
  exact z_iret zh dX8_call_8 ⟨_, rfl, hG, hx1⟩
set_option maxRecDepth 20000 in
theorem s_X8_cash (g : GE) {sp : Nat → Nat → Bool} {σ : Iv} {iv : Iv} {lv : Lv} {a1 : Int32}  (hG : SI sp σ iv)  : ConL g yX8_cash cX8_cash 2 (some .long) 2 [rf g 0, .int a1] iv lv (fun r iv' lv' => iv = iv' ∧ lv = lv' ∧ True) := by
  refine con_intro (own := "RollingNets") (by decide +kernel) rfl (Nat.le_of_ble_eq_true rfl) (L0 := [some (rf g 0), some (.int a1)]) rfl (fun Z zh => ?_)
  refine z_aloadnR zh dX8_cash_0 rfl ?_
  refine z_getf zh fl_RollingNets_12 dX8_cash_1 ck_X rfl rfl ?_
  refine z_iloadn zh dX8_cash_4 rfl ?_
  refine z_callVI zh mv_RollingNets_60 dX8_cash_5 (ck_H isH_1) rfl (s_X1_hasMember g isH_1 hG) ⟨Nat.le_of_ble_eq_true rfl, Nat.le_of_ble_eq_true rfl⟩ rfl rfl (Nat.le_of_ble_eq_true rfl) ?_
  rintro x1 _ _ ⟨rfl, rfl, hx1, hz2⟩
  refine z_if_eq (tgt := 23) zh dX8_cash_8 rfl (fun q3 => ?_) (fun q3 => ?_)
  · have r4 := rb_eq (u := 0) (v := 0) hx1 ra_z q3 (by decide) (by decide)
    refine z_lconst (v := 0) zh dX8_cash_23 (by decide) ?_
    exact z_lret zh dX8_cash_24 ⟨_, rfl, rfl, rfl, trivial⟩
  · have r5 : Ra 1 1 x1 := rb_ne_lo hx1 ra_z q3 (by decide)
    have r6 : Ra 0 11 a1 := (hz2 q3)
    refine z_aloadnR zh dX8_cash_11 rfl ?_
    refine z_getf zh fl_RollingNets_12 dX8_cash_12 ck_X rfl rfl ?_
    refine z_getf zh fl_RollingNets_209 dX8_cash_15 (ck_H isH_1) rfl rfl ?_
    refine z_iloadn zh dX8_cash_18 rfl ?_
    refine y_lald zh (ck_cash isH_1) dX8_cash_19 r6 (by decide) (by decide) (fun l7 => ?_)
    refine z_goto (tgt := 24) zh dX8_cash_20 rfl ?_
    exact z_lret zh dX8_cash_24 ⟨_, rfl, rfl, rfl, trivial⟩
set_option maxRecDepth 20000 in
theorem s_X8_collateral (g : GE) {sp : Nat → Nat → Bool} {σ : Iv} {iv : Iv} {lv : Lv} {a1 : Int32} {a2 : Int32}  (hG : SI sp σ iv)  : ConI g yX8_collateral cX8_collateral 3 (some .boolean) 2 [rf g 0, .int a1, .int a2] iv lv (fun r iv lv => SI sp σ iv ∧ Ra 0 1 r ∧ (¬ r = 0 → Ra 0 11 a1) ∧ (¬ r = 0 → Ra 0 9999999 a2)) := by
  refine con_intro (own := "RollingNets") (by decide +kernel) rfl (Nat.le_of_ble_eq_true rfl) (L0 := [some (rf g 0), some (.int a1), some (.int a2)]) rfl (fun Z zh => ?_)
  refine z_aloadnR zh dX8_collateral_0 rfl ?_
  refine z_getf zh fl_RollingNets_12 dX8_collateral_1 ck_X rfl rfl ?_
  refine z_iloadn zh dX8_collateral_4 rfl ?_
  refine z_callVI zh mv_RollingNets_60 dX8_collateral_5 (ck_H isH_1) rfl (s_X1_hasMember g isH_1 hG) ⟨Nat.le_of_ble_eq_true rfl, Nat.le_of_ble_eq_true rfl⟩ rfl rfl (Nat.le_of_ble_eq_true rfl) ?_
  rintro x1 _ _ ⟨rfl, rfl, hx1, hz2⟩
  refine z_if_eq (tgt := 21) zh dX8_collateral_8 rfl (fun q3 => ?_) (fun q3 => ?_)
  · have r4 := rb_eq (u := 0) (v := 0) hx1 ra_z q3 (by decide) (by decide)
    refine z_iconst zh dX8_collateral_21 ki_0 ?_
    exact z_zret zh dX8_collateral_22 (ra_01 (ra_w rl_0 (by decide) (by decide))) ⟨_, rfl, hG, (ra_w rl_0 (by decide) (by decide)), (fun q => absurd rfl q), (fun q => absurd rfl q)⟩
  · have r5 : Ra 1 1 x1 := rb_ne_lo hx1 ra_z q3 (by decide)
    have r6 : Ra 0 11 a1 := (hz2 q3)
    refine z_iloadn zh dX8_collateral_11 rfl ?_
    refine z_iconst zh dX8_collateral_12 ki_0 ?_
    refine z_ldc zh dX8_collateral_13 kc_RollingNets_119 ?_
    refine z_callSI zh ms_RollingNets_43 dX8_collateral_15 (s_X8_within g) ⟨Nat.le_of_ble_eq_true rfl, Nat.le_of_ble_eq_true rfl⟩ rfl rfl (Nat.le_of_ble_eq_true rfl) ?_
    rintro x7 _ _ ⟨rfl, rfl, hx7, hz8⟩
    refine z_if_ne (tgt := 23) zh dX8_collateral_18 rfl (fun q9 => ?_) (fun q9 => ?_)
    · have r10 : Ra 1 1 x7 := rb_ne_lo hx7 ra_z q9 (by decide)
      have r11 : Ra 0 9999999 a2 := (rb_in rl_0 rl_9999999 (hz8 q9))
      refine z_aloadnR zh dX8_collateral_23 rfl ?_
      refine z_getf zh fl_RollingNets_12 dX8_collateral_24 ck_X rfl rfl ?_
      refine z_getf zh fl_RollingNets_120 dX8_collateral_27 (ck_H isH_1) rfl rfl ?_
      refine z_iloadn zh dX8_collateral_30 rfl ?_
      refine z_iloadn zh dX8_collateral_31 rfl ?_
      refine z_iast zh (ck_pledged isH_1) dX8_collateral_32 (ra_in r6 (by decide) (by decide)) ?_
      have hG : SI sp σ (upI iv (1 + 4) a1.toNatClampNeg a2) := si_wH hG isH_1 4 (by decide) rfl (rx_none rfl)
      generalize upI iv (1 + 4) a1.toNatClampNeg a2 = iv at hG  ⊢
      refine z_iconst zh dX8_collateral_33 ki_1 ?_
      exact z_zret zh dX8_collateral_34 (ra_01 (ra_w rl_1 (by decide) (by decide))) ⟨_, rfl, hG, (ra_w rl_1 (by decide) (by decide)), (fun _ => r6), (fun _ => r11)⟩
    · have r12 := rb_eq (u := 0) (v := 0) hx7 ra_z q9 (by decide) (by decide)
      refine z_iconst zh dX8_collateral_21 ki_0 ?_
      exact z_zret zh dX8_collateral_22 (ra_01 (ra_w rl_0 (by decide) (by decide))) ⟨_, rfl, hG, (ra_w rl_0 (by decide) (by decide)), (fun q => absurd rfl q), (fun q => absurd rfl q)⟩
set_option maxRecDepth 20000 in
theorem s_X8_deal (g : GE) {sp : Nat → Nat → Bool} {σ : Iv} {iv : Iv} {lv : Lv} {a1 : Int32} {a2 : Int32}  (hG : SI sp σ iv)  : ConI g yX8_deal cX8_deal 3 (some .int) 2 [rf g 0, .int a1, .int a2] iv lv (fun r iv' lv' => iv = iv' ∧ lv = lv' ∧ True) := by
  refine con_intro (own := "RollingNets") (by decide +kernel) rfl (Nat.le_of_ble_eq_true rfl) (L0 := [some (rf g 0), some (.int a1), some (.int a2)]) rfl (fun Z zh => ?_)
  refine z_aloadnR zh dX8_deal_0 rfl ?_
  refine z_getf zh fl_RollingNets_12 dX8_deal_1 ck_X rfl rfl ?_
  refine z_getf zh fl_RollingNets_47 dX8_deal_4 (ck_H isH_1) rfl rfl ?_
  refine z_iloadn zh dX8_deal_7 rfl ?_
  refine z_iloadn zh dX8_deal_8 rfl ?_
  obtain ⟨x1, ex1⟩ : ∃ z, iv (1 + 7) 2 = z := ⟨_, rfl⟩
  have hx1 : Ra 0 200 x1 := ra_of ex1 (si_T hG (isT_d isH_1))
  refine z_callVI zh mv_RollingNets_171 dX8_deal_9 (ck_T (isT_d isH_1)) rfl (s_X7_get g (isT_d isH_1) ex1 hx1) ⟨Nat.le_of_ble_eq_true rfl, Nat.le_of_ble_eq_true rfl⟩ rfl rfl (Nat.le_of_ble_eq_true rfl) ?_
  rintro x2 _ _ ⟨rfl, rfl, gx2⟩
  exact z_iret zh dX8_deal_12 ⟨_, rfl, rfl, rfl, trivial⟩
set_option maxRecDepth 20000 in
theorem s_X8_dividend (g : GE) {sp : Nat → Nat → Bool} {σ : Iv} {iv : Iv} {lv : Lv} {a1 : Int32} {a2 : Int32}  (hG : SI sp σ iv)  : ConI g yX8_dividend cX8_dividend 3 (some .boolean) 2 [rf g 0, .int a1, .int a2] iv lv (fun r iv lv => SI sp σ iv ∧ Ra 0 1 r ∧ (¬ r = 0 → Ra 0 5 a1) ∧ (¬ r = 0 → Ra 0 99 a2)) := by
  refine con_intro (own := "RollingNets") (by decide +kernel) rfl (Nat.le_of_ble_eq_true rfl) (L0 := [some (rf g 0), some (.int a1), some (.int a2)]) rfl (fun Z zh => ?_)
  refine z_iloadn zh dX8_dividend_0 rfl ?_
  refine z_callSI zh ms_RollingNets_68 dX8_dividend_1 (s_X8_isIssue g  hG) ⟨Nat.le_of_ble_eq_true rfl, Nat.le_of_ble_eq_true rfl⟩ rfl rfl (Nat.le_of_ble_eq_true rfl) ?_
  rintro x1 _ _ ⟨rfl, rfl, hx1, hz2⟩
  refine z_if_eq (tgt := 17) zh dX8_dividend_4 rfl (fun q3 => ?_) (fun q3 => ?_)
  · have r4 := rb_eq (u := 0) (v := 0) hx1 ra_z q3 (by decide) (by decide)
    refine z_iconst zh dX8_dividend_17 ki_0 ?_
    exact z_zret zh dX8_dividend_18 (ra_01 (ra_w rl_0 (by decide) (by decide))) ⟨_, rfl, hG, (ra_w rl_0 (by decide) (by decide)), (fun q => absurd rfl q), (fun q => absurd rfl q)⟩
  · have r5 : Ra 1 1 x1 := rb_ne_lo hx1 ra_z q3 (by decide)
    have r6 : Ra 0 5 a1 := (hz2 q3)
    refine z_iloadn zh dX8_dividend_7 rfl ?_
    refine z_iconst zh dX8_dividend_8 ki_0 ?_
    refine z_bipush zh dX8_dividend_9 kb_99 ?_
    refine z_callSI zh ms_RollingNets_43 dX8_dividend_11 (s_X8_within g) ⟨Nat.le_of_ble_eq_true rfl, Nat.le_of_ble_eq_true rfl⟩ rfl rfl (Nat.le_of_ble_eq_true rfl) ?_
    rintro x7 _ _ ⟨rfl, rfl, hx7, hz8⟩
    refine z_if_ne (tgt := 19) zh dX8_dividend_14 rfl (fun q9 => ?_) (fun q9 => ?_)
    · have r10 : Ra 1 1 x7 := rb_ne_lo hx7 ra_z q9 (by decide)
      have r11 : Ra 0 99 a2 := (rb_in rl_0 rl_99 (hz8 q9))
      refine z_aloadnR zh dX8_dividend_19 rfl ?_
      refine z_getf zh fl_RollingNets_12 dX8_dividend_20 ck_X rfl rfl ?_
      refine z_getf zh fl_RollingNets_72 dX8_dividend_23 (ck_H isH_1) rfl rfl ?_
      refine z_iloadn zh dX8_dividend_26 rfl ?_
      refine y_mald zh (ck_markets isH_1) dX8_dividend_27 r6 (by decide) (by decide) (fun j12 hj12 _ _ => ?_)
      refine z_iloadn zh dX8_dividend_28 rfl ?_
      refine z_putI zh fl_RollingNets_99 dX8_dividend_29 (ck_M (isM_of isH_1 hj12)) rfl rfl (Nat.le_of_ble_eq_true rfl) (Or.inl rfl) ?_
      have hG : SI sp σ (upI iv (1 + 60 + 20 * j12) 9 a2) := si_wM hG (isM_of isH_1 hj12) 0 (by decide) (rx_none rfl)
      generalize upI iv (1 + 60 + 20 * j12) 9 a2 = iv at hG  ⊢
      refine z_iconst zh dX8_dividend_32 ki_1 ?_
      exact z_zret zh dX8_dividend_33 (ra_01 (ra_w rl_1 (by decide) (by decide))) ⟨_, rfl, hG, (ra_w rl_1 (by decide) (by decide)), (fun _ => r6), (fun _ => r11)⟩
    · have r13 := rb_eq (u := 0) (v := 0) hx7 ra_z q9 (by decide) (by decide)
      refine z_iconst zh dX8_dividend_17 ki_0 ?_
      exact z_zret zh dX8_dividend_18 (ra_01 (ra_w rl_0 (by decide) (by decide))) ⟨_, rfl, hG, (ra_w rl_0 (by decide) (by decide)), (fun q => absurd rfl q), (fun q => absurd rfl q)⟩
set_option maxRecDepth 20000 in
theorem s_X8_end (g : GE) {sp : Nat → Nat → Bool} {σ : Iv} {iv : Iv} {lv : Lv} {a1 : Int32}  (hG : SI sp σ iv) (hq : Sq sp) (hL : sp 541 1 = false) : ConI g yX8_end cX8_end 2 (some .boolean) 1 [rf g 0, .int a1] iv lv (fun r iv lv => SI sp σ iv ∧ Ra 0 1 r ∧ (¬ r = 0 → Ra 0 400 a1)) := by
  refine con_intro (own := "RollingNets") (by decide +kernel) rfl (Nat.le_of_ble_eq_true rfl) (L0 := [some (rf g 0), some (.int a1)]) rfl (fun Z zh => ?_)
  refine z_iloadn zh dX8_end_0 rfl ?_
  refine z_if_lt (tgt := 15) zh dX8_end_1 rfl (fun q1 => ?_) (fun q1 => ?_)
  · have r2 : Ra (-2147483648) (-1) a1 := rb_lt_l ra_z (ra_tt a1) q1 (by decide)
    refine z_iconst zh dX8_end_15 ki_0 ?_
    exact z_zret zh dX8_end_16 (ra_01 (ra_w rl_0 (by decide) (by decide))) ⟨_, rfl, hG, (ra_w rl_0 (by decide) (by decide)), (fun q => absurd rfl q)⟩
  · have r3 : Ra 0 2147483647 a1 := rb_le_r ra_z (ra_tt a1) (rb_nlt q1) (by decide)
    refine z_iloadn zh dX8_end_4 rfl ?_
    refine z_aloadnR zh dX8_end_5 rfl ?_
    refine z_getf zh fl_RollingNets_25 dX8_end_6 ck_X rfl rfl ?_
    refine y_getI zh fl_RollingNets_146 dX8_end_9 ck_R rfl rfl (fun x4 ex4 => ?_)
    have hx4 : Ra 0 400 x4 := ra_of ex4 (si_c hG (k := 541) (j := 1) rfl)
    refine z_icmp_le (tgt := 17) zh dX8_end_12 rfl (fun q5 => ?_) (fun q5 => ?_)
    · have r6 : Ra 0 400 a1 := rb_le_l hx4 r3 q5 (by decide)
      refine z_aloadnR zh dX8_end_17 rfl ?_
      refine z_getf zh fl_RollingNets_25 dX8_end_18 ck_X rfl rfl ?_
      refine z_iloadn zh dX8_end_21 rfl ?_
      refine z_putI zh fl_RollingNets_146 dX8_end_22 ck_R rfl rfl (Nat.le_of_ble_eq_true rfl) (Or.inl rfl) ?_
      have hG : SI sp σ (upI iv 541 1 a1) := si_w (k := 541) (j := 1) hG (by decide) (by decide) hL (rx_some r6)
      generalize upI iv 541 1 a1 = iv at hG  ⊢
      refine z_iconst zh dX8_end_25 ki_1 ?_
      exact z_zret zh dX8_end_26 (ra_01 (ra_w rl_1 (by decide) (by decide))) ⟨_, rfl, hG, (ra_w rl_1 (by decide) (by decide)), (fun _ => r6)⟩
    · have r7 : Ra 1 2147483647 a1 := rb_lt_r hx4 r3 (rb_nle q5) (by decide)
      refine z_iconst zh dX8_end_15 ki_0 ?_
      exact z_zret zh dX8_end_16 (ra_01 (ra_w rl_0 (by decide) (by decide))) ⟨_, rfl, hG, (ra_w rl_0 (by decide) (by decide)), (fun q => absurd rfl q)⟩
set_option maxRecDepth 20000 in
theorem s_X8_fault (g : GE) {sp : Nat → Nat → Bool} {σ : Iv} {iv : Iv} {lv : Lv} {a1 : Int32}  (hG : SI sp σ iv)  : ConI g yX8_fault cX8_fault 2 (some .int) 1 [rf g 0, .int a1] iv lv (fun r iv' lv' => iv = iv' ∧ lv = lv' ∧ True) := by
  refine con_intro (own := "RollingNets") (by decide +kernel) rfl (Nat.le_of_ble_eq_true rfl) (L0 := [some (rf g 0), some (.int a1)]) rfl (fun Z zh => ?_)
  refine z_iloadn zh dX8_fault_0 rfl ?_
  by_cases lq0 : a1.toInt = 0
  · have r1 : Ra 0 0 a1 := ⟨Int.le_of_eq lq0.symm, Int.le_of_eq lq0⟩
    refine z_lookup (off := 27) (tgt := 28) zh dX8_fault_1 (by decide) (by rw [lq0]; rfl) rfl ?_
    refine z_aloadnR zh dX8_fault_28 rfl ?_
    refine z_getf zh fl_RollingNets_25 dX8_fault_29 ck_X rfl rfl ?_
    refine y_getI zh fl_RollingNets_165 dX8_fault_32 ck_R rfl rfl (fun x2 ex2 => ?_)
    exact z_iret zh dX8_fault_35 ⟨_, rfl, rfl, rfl, trivial⟩
  · by_cases lq1 : a1.toInt = 1
    · have r3 : Ra 1 1 a1 := ⟨Int.le_of_eq lq1.symm, Int.le_of_eq lq1⟩
      refine z_lookup (off := 35) (tgt := 36) zh dX8_fault_1 (by decide) (by rw [lq1]; rfl) rfl ?_
      refine z_aloadnR zh dX8_fault_36 rfl ?_
      refine z_getf zh fl_RollingNets_25 dX8_fault_37 ck_X rfl rfl ?_
      refine y_getI zh fl_RollingNets_168 dX8_fault_40 ck_R rfl rfl (fun x4 ex4 => ?_)
      exact z_iret zh dX8_fault_43 ⟨_, rfl, rfl, rfl, trivial⟩
    · refine z_lookup (off := 43) (tgt := 44) zh dX8_fault_1 (by decide) (by simp [Op.lookupswitch.offset, lq0, lq1]) rfl ?_
      refine z_iconst zh dX8_fault_44 ki_m1 ?_
      exact z_iret zh dX8_fault_45 ⟨_, rfl, rfl, rfl, trivial⟩
set_option maxRecDepth 20000 in
theorem s_X8_feed (g : GE) {sp : Nat → Nat → Bool} {σ : Iv} {iv : Iv} {lv : Lv} {a1 : Int32} {a2 : Int32} {a3 : Int32} {a4 : Int32} {a5 : Int32}  (hG : SI sp σ iv) (hq : Sq sp) (hL : sp 541 1 = false) : ConI g yX8_feed cX8_feed 6 (some .int) 2 [rf g 0, .int a1, .int a2, .int a3, .int a4, .int a5] iv lv (fun r iv lv => SI sp σ iv ∧ Ra (-1) 400 r) := by
  refine con_intro (own := "RollingNets") (by decide +kernel) rfl (Nat.le_of_ble_eq_true rfl) (L0 := [some (rf g 0), some (.int a1), some (.int a2), some (.int a3), some (.int a4), some (.int a5)]) rfl (fun Z zh => ?_)
  refine z_aloadnR zh dX8_feed_0 rfl ?_
  refine z_getf zh fl_RollingNets_25 dX8_feed_1 ck_X rfl rfl ?_
  refine z_callVI zh mv_RollingNets_138 dX8_feed_4 ck_R rfl (s_X6_hasRoom g  hG) ⟨Nat.le_of_ble_eq_true rfl, Nat.le_of_ble_eq_true rfl⟩ rfl rfl (Nat.le_of_ble_eq_true rfl) ?_
  rintro x1 _ _ ⟨rfl, rfl, hx1⟩
  refine z_if_ne (tgt := 12) zh dX8_feed_7 rfl (fun q2 => ?_) (fun q2 => ?_)
  · have r3 : Ra 1 1 x1 := rb_ne_lo hx1 ra_z q2 (by decide)
    refine z_aloadnR zh dX8_feed_12 rfl ?_
    refine z_getf zh fl_RollingNets_25 dX8_feed_13 ck_X rfl rfl ?_
    refine z_iloadn zh dX8_feed_16 rfl ?_
    refine z_callVV zh mv_RollingNets_142 dX8_feed_17 ck_R rfl (s_X6_append g  hG hq hL) ⟨Nat.le_of_ble_eq_true rfl, Nat.le_of_ble_eq_true rfl⟩ rfl rfl (Nat.le_of_ble_eq_true rfl) ?_
    rintro iv lv hG
    refine z_aloadnR zh dX8_feed_20 rfl ?_
    refine z_getf zh fl_RollingNets_25 dX8_feed_21 ck_X rfl rfl ?_
    refine z_iloadn zh dX8_feed_24 rfl ?_
    refine z_callVV zh mv_RollingNets_142 dX8_feed_25 ck_R rfl (s_X6_append g  hG hq hL) ⟨Nat.le_of_ble_eq_true rfl, Nat.le_of_ble_eq_true rfl⟩ rfl rfl (Nat.le_of_ble_eq_true rfl) ?_
    rintro iv lv hG
    refine z_aloadnR zh dX8_feed_28 rfl ?_
    refine z_getf zh fl_RollingNets_25 dX8_feed_29 ck_X rfl rfl ?_
    refine z_iloadn zh dX8_feed_32 rfl ?_
    refine z_callVV zh mv_RollingNets_142 dX8_feed_33 ck_R rfl (s_X6_append g  hG hq hL) ⟨Nat.le_of_ble_eq_true rfl, Nat.le_of_ble_eq_true rfl⟩ rfl rfl (Nat.le_of_ble_eq_true rfl) ?_
    rintro iv lv hG
    refine z_aloadnR zh dX8_feed_36 rfl ?_
    refine z_getf zh fl_RollingNets_25 dX8_feed_37 ck_X rfl rfl ?_
    refine z_iload zh dX8_feed_40 rfl ?_
    refine z_callVV zh mv_RollingNets_142 dX8_feed_42 ck_R rfl (s_X6_append g  hG hq hL) ⟨Nat.le_of_ble_eq_true rfl, Nat.le_of_ble_eq_true rfl⟩ rfl rfl (Nat.le_of_ble_eq_true rfl) ?_
    rintro iv lv hG
    refine z_aloadnR zh dX8_feed_45 rfl ?_
    refine z_getf zh fl_RollingNets_25 dX8_feed_46 ck_X rfl rfl ?_
    refine z_iload zh dX8_feed_49 rfl ?_
    refine z_callVV zh mv_RollingNets_142 dX8_feed_51 ck_R rfl (s_X6_append g  hG hq hL) ⟨Nat.le_of_ble_eq_true rfl, Nat.le_of_ble_eq_true rfl⟩ rfl rfl (Nat.le_of_ble_eq_true rfl) ?_
    rintro iv lv hG
    refine z_aloadnR zh dX8_feed_54 rfl ?_
    refine z_getf zh fl_RollingNets_25 dX8_feed_55 ck_X rfl rfl ?_
    refine y_getI zh fl_RollingNets_146 dX8_feed_58 ck_R rfl rfl (fun x4 ex4 => ?_)
    have hx4 : Ra 0 400 x4 := ra_of ex4 (si_c hG (k := 541) (j := 1) rfl)
    exact z_iret zh dX8_feed_61 ⟨_, rfl, hG, (ra_w hx4 (by decide) (by decide))⟩
  · have r5 := rb_eq (u := 0) (v := 0) hx1 ra_z q2 (by decide) (by decide)
    refine z_iconst zh dX8_feed_10 ki_m1 ?_
    exact z_iret zh dX8_feed_11 ⟨_, rfl, hG, (ra_w rl_n1 (by decide) (by decide))⟩
set_option maxRecDepth 20000 in
theorem s_X8_give (g : GE) {sp : Nat → Nat → Bool} {σ : Iv} {iv : Iv} {lv : Lv} {a1 : Int32} {a2 : Int32} {a3 : Int32}  (hG : SI sp σ iv) (hq : Sq sp) : ConI g yX8_give cX8_give 4 (some .int) 6 [rf g 0, .int a1, .int a2, .int a3] iv lv (fun r iv lv => SI sp σ iv ∧ Ra (-1) 59 r) := by
  refine con_intro (own := "RollingNets") (by decide +kernel) rfl (Nat.le_of_ble_eq_true rfl) (L0 := [some (rf g 0), some (.int a1), some (.int a2), some (.int a3)]) rfl (fun Z zh => ?_)
  refine z_aloadnR zh dX8_give_0 rfl ?_
  refine z_getf zh fl_RollingNets_12 dX8_give_1 ck_X rfl rfl ?_
  refine z_iloadn zh dX8_give_4 rfl ?_
  refine z_iloadn zh dX8_give_5 rfl ?_
  refine z_iloadn zh dX8_give_6 rfl ?_
  refine z_callSI zh ms_RollingNets_129 dX8_give_7 (s_X5_giveNet g isH_1 hG hq) ⟨Nat.le_of_ble_eq_true rfl, Nat.le_of_ble_eq_true rfl⟩ rfl rfl (Nat.le_of_ble_eq_true rfl) ?_
  rintro x1 iv lv ⟨hG, hx1⟩
  exact z_iret zh dX8_give_10 ⟨_, rfl, hG, hx1⟩
set_option maxRecDepth 20000 in
theorem s_X8_image (g : GE) {sp : Nat → Nat → Bool} {σ : Iv} {iv : Iv} {lv : Lv} {a1 : Int32}  (hG : SI sp σ iv) (hq : Sq sp) (hI : sp 0 4 = false) : ConI g yX8_image cX8_image 2 (some .boolean) 3 [rf g 0, .int a1] iv lv (fun r iv lv => SI sp σ iv ∧ Ra 0 1 r) := by
  refine con_intro (own := "RollingNets") (by decide +kernel) rfl (Nat.le_of_ble_eq_true rfl) (L0 := [some (rf g 0), some (.int a1)]) rfl (fun Z zh => ?_)
  refine z_iloadn zh dX8_image_0 rfl ?_
  refine z_if_eq (tgt := 22) zh dX8_image_1 rfl (fun q1 => ?_) (fun q1 => ?_)
  · have r2 := rb_eq (u := 0) (v := 0) (ra_tt a1) ra_z q1 (by decide) (by decide)
    refine z_aloadnR zh dX8_image_22 rfl ?_
    refine y_getI zh fl_RollingNets_29 dX8_image_23 ck_X rfl rfl (fun x3 ex3 => ?_)
    refine z_if_ne (tgt := 31) zh dX8_image_26 rfl (fun q4 => ?_) (fun q4 => ?_)
    · refine z_aloadnR zh dX8_image_31 rfl ?_
      refine z_getf zh fl_RollingNets_12 dX8_image_32 ck_X rfl rfl ?_
      refine z_aloadnR zh dX8_image_35 rfl ?_
      refine z_getf zh fl_RollingNets_16 dX8_image_36 ck_X rfl rfl ?_
      refine z_callVV zh mv_RollingNets_191 dX8_image_39 (ck_H isH_1) rfl (s_X1_copyFrom g isH_1 isH_2 hG hq) ⟨Nat.le_of_ble_eq_true rfl, Nat.le_of_ble_eq_true rfl⟩ rfl rfl (Nat.le_of_ble_eq_true rfl) ?_
      rintro iv lv hG
      refine z_iconst zh dX8_image_42 ki_1 ?_
      exact z_zret zh dX8_image_43 (ra_01 (ra_w rl_1 (by decide) (by decide))) ⟨_, rfl, hG, (ra_w rl_1 (by decide) (by decide))⟩
    · have r5 := rb_eq (u := 0) (v := 0) (ra_tt x3) ra_z q4 (by decide) (by decide)
      refine z_iconst zh dX8_image_29 ki_0 ?_
      exact z_zret zh dX8_image_30 (ra_01 (ra_w rl_0 (by decide) (by decide))) ⟨_, rfl, hG, (ra_w rl_0 (by decide) (by decide))⟩
  · refine z_aloadnR zh dX8_image_4 rfl ?_
    refine z_getf zh fl_RollingNets_16 dX8_image_5 ck_X rfl rfl ?_
    refine z_aloadnR zh dX8_image_8 rfl ?_
    refine z_getf zh fl_RollingNets_12 dX8_image_9 ck_X rfl rfl ?_
    refine z_callVV zh mv_RollingNets_191 dX8_image_12 (ck_H isH_2) rfl (s_X1_copyFrom g isH_2 isH_1 hG hq) ⟨Nat.le_of_ble_eq_true rfl, Nat.le_of_ble_eq_true rfl⟩ rfl rfl (Nat.le_of_ble_eq_true rfl) ?_
    rintro iv lv hG
    refine z_aloadnR zh dX8_image_15 rfl ?_
    refine z_iconst zh dX8_image_16 ki_1 ?_
    refine z_putI zh fl_RollingNets_29 dX8_image_17 ck_X rfl rfl (Nat.le_of_ble_eq_true rfl) (Or.inr ⟨rfl, ra_01 (ra_w rl_1 (by decide) (by decide))⟩) ?_
    have hG : SI sp σ (upI iv 0 4 (nI 1)) := si_w (k := 0) (j := 4) hG (by decide) (by decide) hI (rx_none rfl)
    generalize upI iv 0 4 (nI 1) = iv at hG  ⊢
    refine z_iconst zh dX8_image_20 ki_1 ?_
    exact z_zret zh dX8_image_21 (ra_01 (ra_w rl_1 (by decide) (by decide))) ⟨_, rfl, hG, (ra_w rl_1 (by decide) (by decide))⟩
set_option maxRecDepth 20000 in
theorem s_X8_issue (g : GE) {sp : Nat → Nat → Bool} {σ : Iv} {iv : Iv} {lv : Lv} {a1 : Int32} {a2 : Int32}  (hG : SI sp σ iv)  : ConI g yX8_issue cX8_issue 3 (some .int) 4 [rf g 0, .int a1, .int a2] iv lv (fun r iv' lv' => iv = iv' ∧ lv = lv' ∧ True) := by
  refine con_intro (own := "RollingNets") (by decide +kernel) rfl (Nat.le_of_ble_eq_true rfl) (L0 := [some (rf g 0), some (.int a1), some (.int a2)]) rfl (fun Z zh => ?_)
  refine z_iloadn zh dX8_issue_0 rfl ?_
  refine z_callSI zh ms_RollingNets_68 dX8_issue_1 (s_X8_isIssue g  hG) ⟨Nat.le_of_ble_eq_true rfl, Nat.le_of_ble_eq_true rfl⟩ rfl rfl (Nat.le_of_ble_eq_true rfl) ?_
  rintro x1 _ _ ⟨rfl, rfl, hx1, hz2⟩
  refine z_if_eq (tgt := 19) zh dX8_issue_4 rfl (fun q3 => ?_) (fun q3 => ?_)
  · have r4 := rb_eq (u := 0) (v := 0) hx1 ra_z q3 (by decide) (by decide)
    refine z_iconst zh dX8_issue_19 ki_m1 ?_
    exact z_iret zh dX8_issue_20 ⟨_, rfl, rfl, rfl, trivial⟩
  · have r5 : Ra 1 1 x1 := rb_ne_lo hx1 ra_z q3 (by decide)
    have r6 : Ra 0 5 a1 := (hz2 q3)
    refine z_aloadnR zh dX8_issue_7 rfl ?_
    refine z_getf zh fl_RollingNets_12 dX8_issue_8 ck_X rfl rfl ?_
    refine z_iloadn zh dX8_issue_11 rfl ?_
    refine z_iloadn zh dX8_issue_12 rfl ?_
    refine z_callSI zh ms_RollingNets_215 dX8_issue_13 (s_X0_ofIssue g isH_1 r6 hG) ⟨Nat.le_of_ble_eq_true rfl, Nat.le_of_ble_eq_true rfl⟩ rfl rfl (Nat.le_of_ble_eq_true rfl) ?_
    rintro x7 _ _ ⟨rfl, rfl, _⟩
    refine z_goto (tgt := 20) zh dX8_issue_16 rfl ?_
    exact z_iret zh dX8_issue_20 ⟨_, rfl, rfl, rfl, trivial⟩
set_option maxRecDepth 20000 in
theorem s_X8_look (g : GE) {sp : Nat → Nat → Bool} {σ : Iv} {iv : Iv} {lv : Lv} {a1 : Int32}  (hG : SI sp σ iv)  : ConI g yX8_look cX8_look 2 (some .int) 5 [rf g 0, .int a1] iv lv (fun r iv' lv' => iv = iv' ∧ lv = lv' ∧ True) := by
  refine con_intro (own := "RollingNets") (by decide +kernel) rfl (Nat.le_of_ble_eq_true rfl) (L0 := [some (rf g 0), some (.int a1)]) rfl (fun Z zh => ?_)
  refine z_iloadn zh dX8_look_0 rfl ?_
  have J19 : Z 19 [some (rf g 0), some (.int a1)] [] iv lv := by
    refine z_iloadn zh dX8_look_19 rfl ?_
    by_cases q1 : 6 ≤ a1.toInt ∧ a1.toInt ≤ 19
    · obtain ⟨jw, hjw, hkw⟩ : ∃ jw : Nat, jw ≤ 13 ∧ a1.toInt = 6 + (jw : Int) := ⟨(a1.toInt - 6).toNat, by omega, by omega⟩
      rcases (by omega : jw = 0 ∨ jw = 1 ∨ jw = 2 ∨ jw = 3 ∨ jw = 4 ∨ jw = 5 ∨ jw = 6 ∨ jw = 7 ∨ jw = 8 ∨ jw = 9 ∨ jw = 10 ∨ jw = 11 ∨ jw = 12 ∨ jw = 13) with rfl | rfl | rfl | rfl | rfl | rfl | rfl | rfl | rfl | rfl | rfl | rfl | rfl | rfl
      · have r3 : Ra 6 6 a1 := sw_ra hkw rfl
        refine z_tabIn (off := 72) (tgt := 92) zh dX8_look_20 (sw_lo r3 (by decide)) (sw_hi r3 (by decide)) (sw_at r3 (by decide)) rfl ?_
        refine z_aloadnR zh dX8_look_92 rfl ?_
        refine z_getf zh fl_RollingNets_12 dX8_look_93 ck_X rfl rfl ?_
        refine y_getI zh fl_RollingNets_261 dX8_look_96 (ck_H isH_1) rfl rfl (fun x4 ex4 => ?_)
        have hx4 : Ra 0 99 x4 := ra_of ex4 (si_H hG isH_1 0 (by decide) rfl)
        exact z_iret zh dX8_look_99 ⟨_, rfl, rfl, rfl, trivial⟩
      · have r5 : Ra 7 7 a1 := sw_ra hkw rfl
        refine z_tabIn (off := 80) (tgt := 100) zh dX8_look_20 (sw_lo r5 (by decide)) (sw_hi r5 (by decide)) (sw_at r5 (by decide)) rfl ?_
        refine z_aloadnR zh dX8_look_100 rfl ?_
        refine z_getf zh fl_RollingNets_12 dX8_look_101 ck_X rfl rfl ?_
        refine z_getf zh fl_RollingNets_47 dX8_look_104 (ck_H isH_1) rfl rfl ?_
        obtain ⟨x6, ex6⟩ : ∃ z, iv (1 + 7) 2 = z := ⟨_, rfl⟩
        have hx6 : Ra 0 200 x6 := ra_of ex6 (si_T hG (isT_d isH_1))
        refine z_callVIp zh mv_RollingNets_51 dX8_look_107 (ck_T (isT_d isH_1)) rfl (s_X7_size g (isT_d isH_1) ex6) ⟨Nat.le_of_ble_eq_true rfl, Nat.le_of_ble_eq_true rfl⟩ rfl rfl (Nat.le_of_ble_eq_true rfl) ?_
        exact z_iret zh dX8_look_110 ⟨_, rfl, rfl, rfl, trivial⟩
      · have r7 : Ra 8 8 a1 := sw_ra hkw rfl
        refine z_tabIn (off := 91) (tgt := 111) zh dX8_look_20 (sw_lo r7 (by decide)) (sw_hi r7 (by decide)) (sw_at r7 (by decide)) rfl ?_
        refine z_aloadnR zh dX8_look_111 rfl ?_
        refine z_getf zh fl_RollingNets_12 dX8_look_112 ck_X rfl rfl ?_
        refine z_getf zh fl_RollingNets_212 dX8_look_115 (ck_H isH_1) rfl rfl ?_
        obtain ⟨x8, ex8⟩ : ∃ z, iv (1 + 17) 2 = z := ⟨_, rfl⟩
        have hx8 : Ra 0 60 x8 := ra_of ex8 (si_T hG (isT_n isH_1))
        refine z_callVIp zh mv_RollingNets_51 dX8_look_118 (ck_T (isT_n isH_1)) rfl (s_X7_size g (isT_n isH_1) ex8) ⟨Nat.le_of_ble_eq_true rfl, Nat.le_of_ble_eq_true rfl⟩ rfl rfl (Nat.le_of_ble_eq_true rfl) ?_
        exact z_iret zh dX8_look_121 ⟨_, rfl, rfl, rfl, trivial⟩
      · have r9 : Ra 9 9 a1 := sw_ra hkw rfl
        refine z_tabIn (off := 102) (tgt := 122) zh dX8_look_20 (sw_lo r9 (by decide)) (sw_hi r9 (by decide)) (sw_at r9 (by decide)) rfl ?_
        refine z_aloadnR zh dX8_look_122 rfl ?_
        refine z_getf zh fl_RollingNets_12 dX8_look_123 ck_X rfl rfl ?_
        refine z_callSI zh ms_RollingNets_281 dX8_look_126 (s_X0_openNotices g isH_1 hG) ⟨Nat.le_of_ble_eq_true rfl, Nat.le_of_ble_eq_true rfl⟩ rfl rfl (Nat.le_of_ble_eq_true rfl) ?_
        rintro x10 _ _ ⟨rfl, rfl, _⟩
        exact z_iret zh dX8_look_129 ⟨_, rfl, rfl, rfl, trivial⟩
      · have r11 : Ra 10 10 a1 := sw_ra hkw rfl
        refine z_tabIn (off := 110) (tgt := 130) zh dX8_look_20 (sw_lo r11 (by decide)) (sw_hi r11 (by decide)) (sw_at r11 (by decide)) rfl ?_
        refine z_aloadnR zh dX8_look_130 rfl ?_
        refine z_getf zh fl_RollingNets_12 dX8_look_131 ck_X rfl rfl ?_
        refine z_getf zh fl_RollingNets_221 dX8_look_134 (ck_H isH_1) rfl rfl ?_
        obtain ⟨x12, ex12⟩ : ∃ z, iv (1 + 38) 2 = z := ⟨_, rfl⟩
        have hx12 : Ra 0 300 x12 := ra_of ex12 (si_T hG (isT_b isH_1))
        refine z_callVIp zh mv_RollingNets_51 dX8_look_137 (ck_T (isT_b isH_1)) rfl (s_X7_size g (isT_b isH_1) ex12) ⟨Nat.le_of_ble_eq_true rfl, Nat.le_of_ble_eq_true rfl⟩ rfl rfl (Nat.le_of_ble_eq_true rfl) ?_
        exact z_iret zh dX8_look_140 ⟨_, rfl, rfl, rfl, trivial⟩
      · have r13 : Ra 11 11 a1 := sw_ra hkw rfl
        refine z_tabIn (off := 121) (tgt := 141) zh dX8_look_20 (sw_lo r13 (by decide)) (sw_hi r13 (by decide)) (sw_at r13 (by decide)) rfl ?_
        refine z_aloadnR zh dX8_look_141 rfl ?_
        refine z_getf zh fl_RollingNets_12 dX8_look_142 ck_X rfl rfl ?_
        refine y_getL zh fl_RollingNets_284 dX8_look_145 (ck_H isH_1) rfl rfl (fun l14 => ?_)
        refine y_l2i zh dX8_look_148 (fun x15 => ?_)
        exact z_iret zh dX8_look_149 ⟨_, rfl, rfl, rfl, trivial⟩
      · have r16 : Ra 12 12 a1 := sw_ra hkw rfl
        refine z_tabIn (off := 130) (tgt := 150) zh dX8_look_20 (sw_lo r16 (by decide)) (sw_hi r16 (by decide)) (sw_at r16 (by decide)) rfl ?_
        refine z_aloadnR zh dX8_look_150 rfl ?_
        refine z_getf zh fl_RollingNets_12 dX8_look_151 ck_X rfl rfl ?_
        refine z_callSL zh ms_RollingNets_288 dX8_look_154 (s_X0_allCash g isH_1 hG) ⟨Nat.le_of_ble_eq_true rfl, Nat.le_of_ble_eq_true rfl⟩ rfl rfl (Nat.le_of_ble_eq_true rfl) ?_
        rintro l17 _ _ ⟨rfl, rfl, _⟩
        refine y_l2i zh dX8_look_157 (fun x18 => ?_)
        exact z_iret zh dX8_look_158 ⟨_, rfl, rfl, rfl, trivial⟩
      · have r19 : Ra 13 13 a1 := sw_ra hkw rfl
        refine z_tabIn (off := 139) (tgt := 159) zh dX8_look_20 (sw_lo r19 (by decide)) (sw_hi r19 (by decide)) (sw_at r19 (by decide)) rfl ?_
        refine z_aloadnR zh dX8_look_159 rfl ?_
        refine z_getf zh fl_RollingNets_12 dX8_look_160 ck_X rfl rfl ?_
        refine z_getf zh fl_RollingNets_152 dX8_look_163 (ck_H isH_1) rfl rfl ?_
        obtain ⟨x20, ex20⟩ : ∃ z, iv (1 + 46) 2 = z := ⟨_, rfl⟩
        have hx20 : Ra 0 24 x20 := ra_of ex20 (si_T hG (isT_p isH_1))
        refine z_callVIp zh mv_RollingNets_51 dX8_look_166 (ck_T (isT_p isH_1)) rfl (s_X7_size g (isT_p isH_1) ex20) ⟨Nat.le_of_ble_eq_true rfl, Nat.le_of_ble_eq_true rfl⟩ rfl rfl (Nat.le_of_ble_eq_true rfl) ?_
        exact z_iret zh dX8_look_169 ⟨_, rfl, rfl, rfl, trivial⟩
      · have r21 : Ra 14 14 a1 := sw_ra hkw rfl
        refine z_tabIn (off := 150) (tgt := 170) zh dX8_look_20 (sw_lo r21 (by decide)) (sw_hi r21 (by decide)) (sw_at r21 (by decide)) rfl ?_
        refine z_aloadnR zh dX8_look_170 rfl ?_
        refine z_getf zh fl_RollingNets_12 dX8_look_171 ck_X rfl rfl ?_
        refine y_getI zh fl_RollingNets_162 dX8_look_174 (ck_H isH_1) rfl rfl (fun x22 ex22 => ?_)
        exact z_iret zh dX8_look_177 ⟨_, rfl, rfl, rfl, trivial⟩
      · have r23 : Ra 15 15 a1 := sw_ra hkw rfl
        refine z_tabIn (off := 158) (tgt := 178) zh dX8_look_20 (sw_lo r23 (by decide)) (sw_hi r23 (by decide)) (sw_at r23 (by decide)) rfl ?_
        refine z_aloadnR zh dX8_look_178 rfl ?_
        refine z_getf zh fl_RollingNets_12 dX8_look_179 ck_X rfl rfl ?_
        refine z_iconst zh dX8_look_182 ki_m1 ?_
        refine z_iconst zh dX8_look_183 ki_0 ?_
        refine z_bipush zh dX8_look_184 kb_7 ?_
        refine z_callSI zh ms_RollingNets_292 dX8_look_186 (s_X0_overDeals g isH_1 (ra_w rl_n1 (by decide) (by decide)) (ra_w rl_0 (by decide) (by decide)) (ra_w rl_7 (by decide) (by decide)) hG) ⟨Nat.le_of_ble_eq_true rfl, Nat.le_of_ble_eq_true rfl⟩ rfl rfl (Nat.le_of_ble_eq_true rfl) ?_
        rintro x24 _ _ ⟨rfl, rfl, _⟩
        exact z_iret zh dX8_look_189 ⟨_, rfl, rfl, rfl, trivial⟩
      · have r25 : Ra 16 16 a1 := sw_ra hkw rfl
        refine z_tabIn (off := 170) (tgt := 190) zh dX8_look_20 (sw_lo r25 (by decide)) (sw_hi r25 (by decide)) (sw_at r25 (by decide)) rfl ?_
        refine z_aloadnR zh dX8_look_190 rfl ?_
        refine z_getf zh fl_RollingNets_12 dX8_look_191 ck_X rfl rfl ?_
        refine z_callSI zh ms_RollingNets_295 dX8_look_194 (s_X0_lacking g isH_1 hG) ⟨Nat.le_of_ble_eq_true rfl, Nat.le_of_ble_eq_true rfl⟩ rfl rfl (Nat.le_of_ble_eq_true rfl) ?_
        rintro x26 _ _ ⟨rfl, rfl, _⟩
        exact z_iret zh dX8_look_197 ⟨_, rfl, rfl, rfl, trivial⟩
      · have r27 : Ra 17 17 a1 := sw_ra hkw rfl
        refine z_tabIn (off := 178) (tgt := 198) zh dX8_look_20 (sw_lo r27 (by decide)) (sw_hi r27 (by decide)) (sw_at r27 (by decide)) rfl ?_
        refine z_aloadnR zh dX8_look_198 rfl ?_
        refine z_getf zh fl_RollingNets_12 dX8_look_199 ck_X rfl rfl ?_
        refine z_callSI zh ms_RollingNets_298 dX8_look_202 (s_X0_suspendedSet g isH_1 hG) ⟨Nat.le_of_ble_eq_true rfl, Nat.le_of_ble_eq_true rfl⟩ rfl rfl (Nat.le_of_ble_eq_true rfl) ?_
        rintro x28 _ _ ⟨rfl, rfl, _⟩
        exact z_iret zh dX8_look_205 ⟨_, rfl, rfl, rfl, trivial⟩
      · have r29 : Ra 18 18 a1 := sw_ra hkw rfl
        refine z_tabIn (off := 186) (tgt := 206) zh dX8_look_20 (sw_lo r29 (by decide)) (sw_hi r29 (by decide)) (sw_at r29 (by decide)) rfl ?_
        refine z_aloadnR zh dX8_look_206 rfl ?_
        refine z_getf zh fl_RollingNets_12 dX8_look_207 ck_X rfl rfl ?_
        refine z_callSI zh ms_RollingNets_301 dX8_look_210 (s_X0_shortSet g isH_1 hG) ⟨Nat.le_of_ble_eq_true rfl, Nat.le_of_ble_eq_true rfl⟩ rfl rfl (Nat.le_of_ble_eq_true rfl) ?_
        rintro x30 _ _ ⟨rfl, rfl, _⟩
        exact z_iret zh dX8_look_213 ⟨_, rfl, rfl, rfl, trivial⟩
      · have r31 : Ra 19 19 a1 := sw_ra hkw rfl
        refine z_tabIn (off := 194) (tgt := 214) zh dX8_look_20 (sw_lo r31 (by decide)) (sw_hi r31 (by decide)) (sw_at r31 (by decide)) rfl ?_
        refine z_aloadnR zh dX8_look_214 rfl ?_
        refine z_getf zh fl_RollingNets_12 dX8_look_215 ck_X rfl rfl ?_
        refine z_getf zh fl_RollingNets_57 dX8_look_218 (ck_H isH_1) rfl rfl ?_
        refine z_bipush zh dX8_look_221 kb_6 ?_
        refine y_ialdN zh (ck_told isH_1) dX8_look_223 (by decide) (fun x32 ex32 => ?_)
        exact z_iret zh dX8_look_224 ⟨_, rfl, rfl, rfl, trivial⟩
    · refine z_tabOut (tgt := 225) zh dX8_look_20 (sw_out q1) rfl ?_
      refine z_ldc zh dX8_look_225 kc_RollingNets_194 ?_
      exact z_iret zh dX8_look_227 ⟨_, rfl, rfl, rfl, trivial⟩
  refine z_if_lt (tgt := 19) zh dX8_look_1 rfl (fun q33 => ?_) (fun q33 => ?_)
  · have r34 : Ra (-2147483648) (-1) a1 := rb_lt_l ra_z (ra_tt a1) q33 (by decide)
    exact J19
  · have r35 : Ra 0 2147483647 a1 := rb_le_r ra_z (ra_tt a1) (rb_nlt q33) (by decide)
    refine z_iloadn zh dX8_look_4 rfl ?_
    refine z_iconst zh dX8_look_5 ki_5 ?_
    refine z_icmp_gt (tgt := 19) zh dX8_look_6 rfl (fun q36 => ?_) (fun q36 => ?_)
    · have r37 : Ra 6 2147483647 a1 := rb_lt_r rl_5 r35 q36 (by decide)
      exact J19
    · have r38 : Ra 0 5 a1 := rb_le_l rl_5 r35 (rb_nlt q36) (by decide)
      refine z_aloadnR zh dX8_look_9 rfl ?_
      refine z_getf zh fl_RollingNets_12 dX8_look_10 ck_X rfl rfl ?_
      refine z_getf zh fl_RollingNets_57 dX8_look_13 (ck_H isH_1) rfl rfl ?_
      refine z_iloadn zh dX8_look_16 rfl ?_
      refine y_iald zh (ck_told isH_1) dX8_look_17 r38 (by decide) (by decide) (fun x39 ex39 => ?_)
      exact z_iret zh dX8_look_18 ⟨_, rfl, rfl, rfl, trivial⟩
set_option maxRecDepth 20000 in
theorem s_X8_lot (g : GE) {sp : Nat → Nat → Bool} {σ : Iv} {iv : Iv} {lv : Lv} {a1 : Int32} {a2 : Int32} {a3 : Int32} {a4 : Int32}  (hG : SI sp σ iv)  : ConI g yX8_lot cX8_lot 7 (some .int) 2 [rf g 0, .int a1, .int a2, .int a3, .int a4] iv lv (fun r iv' lv' => iv = iv' ∧ lv = lv' ∧ True) := by
  refine con_intro (own := "RollingNets") (by decide +kernel) rfl (Nat.le_of_ble_eq_true rfl) (L0 := [some (rf g 0), some (.int a1), some (.int a2), some (.int a3), some (.int a4), none, none]) rfl (fun Z zh => ?_)
  refine z_aloadnR zh dX8_lot_0 rfl ?_
  refine z_getf zh fl_RollingNets_12 dX8_lot_1 ck_X rfl rfl ?_
  refine z_iloadn zh dX8_lot_4 rfl ?_
  refine z_callVI zh mv_RollingNets_60 dX8_lot_5 (ck_H isH_1) rfl (s_X1_hasMember g isH_1 hG) ⟨Nat.le_of_ble_eq_true rfl, Nat.le_of_ble_eq_true rfl⟩ rfl rfl (Nat.le_of_ble_eq_true rfl) ?_
  rintro x1 _ _ ⟨rfl, rfl, hx1, hz2⟩
  refine z_if_eq (tgt := 18) zh dX8_lot_8 rfl (fun q3 => ?_) (fun q3 => ?_)
  · have r4 := rb_eq (u := 0) (v := 0) hx1 ra_z q3 (by decide) (by decide)
    refine z_iconst zh dX8_lot_18 ki_m1 ?_
    exact z_iret zh dX8_lot_19 ⟨_, rfl, rfl, rfl, trivial⟩
  · have r5 : Ra 1 1 x1 := rb_ne_lo hx1 ra_z q3 (by decide)
    have r6 : Ra 0 11 a1 := (hz2 q3)
    refine z_iloadn zh dX8_lot_11 rfl ?_
    refine z_callSI zh ms_RollingNets_68 dX8_lot_12 (s_X8_isIssue g  hG) ⟨Nat.le_of_ble_eq_true rfl, Nat.le_of_ble_eq_true rfl⟩ rfl rfl (Nat.le_of_ble_eq_true rfl) ?_
    rintro x7 _ _ ⟨rfl, rfl, hx7, hz8⟩
    refine z_if_ne (tgt := 20) zh dX8_lot_15 rfl (fun q9 => ?_) (fun q9 => ?_)
    · have r10 : Ra 1 1 x7 := rb_ne_lo hx7 ra_z q9 (by decide)
      have r11 : Ra 0 5 a2 := (hz8 q9)
      refine z_aloadnR zh dX8_lot_20 rfl ?_
      refine z_getf zh fl_RollingNets_12 dX8_lot_21 ck_X rfl rfl ?_
      refine z_getf zh fl_RollingNets_72 dX8_lot_24 (ck_H isH_1) rfl rfl ?_
      refine z_iloadn zh dX8_lot_27 rfl ?_
      refine y_mald zh (ck_markets isH_1) dX8_lot_28 r11 (by decide) (by decide) (fun j12 hj12 _ _ => ?_)
      refine z_astore zh dX8_lot_29 (by decide) (L' := [some (rf g 0), some (.int a1), some (.int a2), some (.int a3), some (.int a4), some (rf g (1 + 60 + 20 * j12)), none]) rfl ?_
      refine z_aloadR zh dX8_lot_31 rfl ?_
      refine z_iloadn zh dX8_lot_33 rfl ?_
      refine z_iloadn zh dX8_lot_34 rfl ?_
      refine z_callVI zh mv_RollingNets_202 dX8_lot_35 (ck_M (isM_of isH_1 hj12)) rfl (s_X3_dayOfLot g (isM_of isH_1 hj12) r6 hG) ⟨Nat.le_of_ble_eq_true rfl, Nat.le_of_ble_eq_true rfl⟩ rfl rfl (Nat.le_of_ble_eq_true rfl) ?_
      rintro x13 _ _ ⟨rfl, rfl, hx13⟩
      refine z_istore zh dX8_lot_38 (by decide) (L' := [some (rf g 0), some (.int a1), some (.int a2), some (.int a3), some (.int a4), some (rf g (1 + 60 + 20 * j12)), some (.int x13)]) rfl ?_
      refine z_iload zh dX8_lot_40 rfl ?_
      refine z_iconst zh dX8_lot_42 ki_m1 ?_
      refine z_icmp_ne (tgt := 48) zh dX8_lot_43 rfl (fun q14 => ?_) (fun q14 => ?_)
      · have r15 : Ra 0 99 x13 := rb_ne_lo hx13 rl_n1 q14 (by decide)
        refine z_iload zh dX8_lot_48 rfl ?_
        by_cases lq0 : a4.toInt = 0
        · have r16 : Ra 0 0 a4 := ⟨Int.le_of_eq lq0.symm, Int.le_of_eq lq0⟩
          refine z_lookup (off := 26) (tgt := 76) zh dX8_lot_50 (by decide) (by rw [lq0]; rfl) rfl ?_
          refine z_iload zh dX8_lot_76 rfl ?_
          exact z_iret zh dX8_lot_78 ⟨_, rfl, rfl, rfl, trivial⟩
        · by_cases lq1 : a4.toInt = 1
          · have r17 : Ra 1 1 a4 := ⟨Int.le_of_eq lq1.symm, Int.le_of_eq lq1⟩
            refine z_lookup (off := 29) (tgt := 79) zh dX8_lot_50 (by decide) (by rw [lq1]; rfl) rfl ?_
            refine z_aloadR zh dX8_lot_79 rfl ?_
            refine z_getf zh fl_RollingNets_205 dX8_lot_81 (ck_M (isM_of isH_1 hj12)) rfl rfl ?_
            refine z_iloadn zh dX8_lot_84 rfl ?_
            refine y_gald zh (ck_lots (isM_of isH_1 hj12)) dX8_lot_85 r6 (by decide) (by decide) (fun j18 hj18 _ _ => ?_)
            refine z_iload zh dX8_lot_86 rfl ?_
            refine y_iald zh (ck_row (isM_of isH_1 hj12) hj18) dX8_lot_88 r15 (by decide) (by decide) (fun x19 ex19 => ?_)
            exact z_iret zh dX8_lot_89 ⟨_, rfl, rfl, rfl, trivial⟩
          · refine z_lookup (off := 40) (tgt := 90) zh dX8_lot_50 (by decide) (by simp [Op.lookupswitch.offset, lq0, lq1]) rfl ?_
            refine z_iconst zh dX8_lot_90 ki_m1 ?_
            exact z_iret zh dX8_lot_91 ⟨_, rfl, rfl, rfl, trivial⟩
      · have r20 := rb_eq (u := (-1)) (v := (-1)) hx13 rl_n1 q14 (by decide) (by decide)
        refine z_iconst zh dX8_lot_46 ki_m1 ?_
        exact z_iret zh dX8_lot_47 ⟨_, rfl, rfl, rfl, trivial⟩
    · have r21 := rb_eq (u := 0) (v := 0) hx7 ra_z q9 (by decide) (by decide)
      refine z_iconst zh dX8_lot_18 ki_m1 ?_
      exact z_iret zh dX8_lot_19 ⟨_, rfl, rfl, rfl, trivial⟩
set_option maxRecDepth 20000 in
theorem s_X8_margin (g : GE) {sp : Nat → Nat → Bool} {σ : Iv} {iv : Iv} {lv : Lv} {a1 : Int32} {a2 : Int32}  (hG : SI sp σ iv)  : ConL g yX8_margin cX8_margin 3 (some .long) 4 [rf g 0, .int a1, .int a2] iv lv (fun r iv' lv' => iv = iv' ∧ lv = lv' ∧ True) := by
  refine con_intro (own := "RollingNets") (by decide +kernel) rfl (Nat.le_of_ble_eq_true rfl) (L0 := [some (rf g 0), some (.int a1), some (.int a2)]) rfl (fun Z zh => ?_)
  refine z_aloadnR zh dX8_margin_0 rfl ?_
  refine z_getf zh fl_RollingNets_12 dX8_margin_1 ck_X rfl rfl ?_
  refine z_iloadn zh dX8_margin_4 rfl ?_
  refine z_callVI zh mv_RollingNets_60 dX8_margin_5 (ck_H isH_1) rfl (s_X1_hasMember g isH_1 hG) ⟨Nat.le_of_ble_eq_true rfl, Nat.le_of_ble_eq_true rfl⟩ rfl rfl (Nat.le_of_ble_eq_true rfl) ?_
  rintro x1 _ _ ⟨rfl, rfl, hx1, hz2⟩
  refine z_if_ne (tgt := 15) zh dX8_margin_8 rfl (fun q3 => ?_) (fun q3 => ?_)
  · have r4 : Ra 1 1 x1 := rb_ne_lo hx1 ra_z q3 (by decide)
    have r5 : Ra 0 11 a1 := (hz2 q3)
    refine z_iloadn zh dX8_margin_15 rfl ?_
    by_cases q6 : 0 ≤ a2.toInt ∧ a2.toInt ≤ 2
    · obtain ⟨jw, hjw, hkw⟩ : ∃ jw : Nat, jw ≤ 2 ∧ a2.toInt = 0 + (jw : Int) := ⟨(a2.toInt - 0).toNat, by omega, by omega⟩
      rcases (by omega : jw = 0 ∨ jw = 1 ∨ jw = 2) with rfl | rfl | rfl
      · have r8 : Ra 0 0 a2 := sw_ra hkw rfl
        refine z_tabIn (off := 28) (tgt := 44) zh dX8_margin_16 (sw_lo r8 (by decide)) (sw_hi r8 (by decide)) (sw_at r8 (by decide)) rfl ?_
        refine z_aloadnR zh dX8_margin_44 rfl ?_
        refine z_getf zh fl_RollingNets_12 dX8_margin_45 ck_X rfl rfl ?_
        refine z_iloadn zh dX8_margin_48 rfl ?_
        refine z_callSL zh ms_RollingNets_226 dX8_margin_49 (s_X0_demand g isH_1 r5 hG) ⟨Nat.le_of_ble_eq_true rfl, Nat.le_of_ble_eq_true rfl⟩ rfl rfl (Nat.le_of_ble_eq_true rfl) ?_
        rintro l9 _ _ ⟨rfl, rfl, _⟩
        exact z_lret zh dX8_margin_52 ⟨_, rfl, rfl, rfl, trivial⟩
      · have r10 : Ra 1 1 a2 := sw_ra hkw rfl
        refine z_tabIn (off := 37) (tgt := 53) zh dX8_margin_16 (sw_lo r10 (by decide)) (sw_hi r10 (by decide)) (sw_at r10 (by decide)) rfl ?_
        refine z_aloadnR zh dX8_margin_53 rfl ?_
        refine z_getf zh fl_RollingNets_12 dX8_margin_54 ck_X rfl rfl ?_
        refine z_getf zh fl_RollingNets_120 dX8_margin_57 (ck_H isH_1) rfl rfl ?_
        refine z_iloadn zh dX8_margin_60 rfl ?_
        refine y_iald zh (ck_pledged isH_1) dX8_margin_61 r5 (by decide) (by decide) (fun x11 ex11 => ?_)
        refine y_i2l zh dX8_margin_62 (fun l12 => ?_)
        exact z_lret zh dX8_margin_63 ⟨_, rfl, rfl, rfl, trivial⟩
      · have r13 : Ra 2 2 a2 := sw_ra hkw rfl
        refine z_tabIn (off := 48) (tgt := 64) zh dX8_margin_16 (sw_lo r13 (by decide)) (sw_hi r13 (by decide)) (sw_at r13 (by decide)) rfl ?_
        refine z_aloadnR zh dX8_margin_64 rfl ?_
        refine z_getf zh fl_RollingNets_12 dX8_margin_65 ck_X rfl rfl ?_
        refine z_iloadn zh dX8_margin_68 rfl ?_
        refine z_callSL zh ms_RollingNets_230 dX8_margin_69 (s_X0_lacks g isH_1 r5 hG) ⟨Nat.le_of_ble_eq_true rfl, Nat.le_of_ble_eq_true rfl⟩ rfl rfl (Nat.le_of_ble_eq_true rfl) ?_
        rintro l14 _ _ ⟨rfl, rfl, _⟩
        exact z_lret zh dX8_margin_72 ⟨_, rfl, rfl, rfl, trivial⟩
    · refine z_tabOut (tgt := 73) zh dX8_margin_16 (sw_out q6) rfl ?_
      refine z_ldc2 zh dX8_margin_73 kl_RollingNets_224 ?_
      exact z_lret zh dX8_margin_76 ⟨_, rfl, rfl, rfl, trivial⟩
  · have r15 := rb_eq (u := 0) (v := 0) hx1 ra_z q3 (by decide) (by decide)
    refine z_ldc2 zh dX8_margin_11 kl_RollingNets_224 ?_
    exact z_lret zh dX8_margin_14 ⟨_, rfl, rfl, rfl, trivial⟩
set_option maxRecDepth 20000 in
theorem s_X8_move (g : GE) {sp : Nat → Nat → Bool} {σ : Iv} {iv : Iv} {lv : Lv} {a1 : Int32} {a2 : Int32} {a3 : Int32} {a4 : Int32}  (hG : SI sp σ iv)  : ConI g yX8_move cX8_move 6 (some .boolean) 2 [rf g 0, .int a1, .int a2, .int a3, .int a4] iv lv (fun r iv lv => SI sp σ iv ∧ Ra 0 1 r ∧ (¬ r = 0 → Ra 0 11 a1) ∧ (¬ r = 0 → Ra 0 11 a2) ∧ (¬ r = 0 → Ra 0 5 a3) ∧ (¬ r = 0 → Ra 1 2147483647 a4)) := by
  refine con_intro (own := "RollingNets") (by decide +kernel) rfl (Nat.le_of_ble_eq_true rfl) (L0 := [some (rf g 0), some (.int a1), some (.int a2), some (.int a3), some (.int a4), none]) rfl (fun Z zh => ?_)
  refine z_aloadnR zh dX8_move_0 rfl ?_
  refine z_getf zh fl_RollingNets_12 dX8_move_1 ck_X rfl rfl ?_
  refine z_iloadn zh dX8_move_4 rfl ?_
  refine z_callVI zh mv_RollingNets_60 dX8_move_5 (ck_H isH_1) rfl (s_X1_hasMember g isH_1 hG) ⟨Nat.le_of_ble_eq_true rfl, Nat.le_of_ble_eq_true rfl⟩ rfl rfl (Nat.le_of_ble_eq_true rfl) ?_
  rintro x1 _ _ ⟨rfl, rfl, hx1, hz2⟩
  refine z_if_eq (tgt := 34) zh dX8_move_8 rfl (fun q3 => ?_) (fun q3 => ?_)
  · have r4 := rb_eq (u := 0) (v := 0) hx1 ra_z q3 (by decide) (by decide)
    refine z_iconst zh dX8_move_34 ki_0 ?_
    exact z_zret zh dX8_move_35 (ra_01 (ra_w rl_0 (by decide) (by decide))) ⟨_, rfl, hG, (ra_w rl_0 (by decide) (by decide)), (fun q => absurd rfl q), (fun q => absurd rfl q), (fun q => absurd rfl q), (fun q => absurd rfl q)⟩
  · have r5 : Ra 1 1 x1 := rb_ne_lo hx1 ra_z q3 (by decide)
    have r6 : Ra 0 11 a1 := (hz2 q3)
    refine z_aloadnR zh dX8_move_11 rfl ?_
    refine z_getf zh fl_RollingNets_12 dX8_move_12 ck_X rfl rfl ?_
    refine z_iloadn zh dX8_move_15 rfl ?_
    refine z_callVI zh mv_RollingNets_60 dX8_move_16 (ck_H isH_1) rfl (s_X1_hasMember g isH_1 hG) ⟨Nat.le_of_ble_eq_true rfl, Nat.le_of_ble_eq_true rfl⟩ rfl rfl (Nat.le_of_ble_eq_true rfl) ?_
    rintro x7 _ _ ⟨rfl, rfl, hx7, hz8⟩
    refine z_if_eq (tgt := 34) zh dX8_move_19 rfl (fun q9 => ?_) (fun q9 => ?_)
    · have r10 := rb_eq (u := 0) (v := 0) hx7 ra_z q9 (by decide) (by decide)
      refine z_iconst zh dX8_move_34 ki_0 ?_
      exact z_zret zh dX8_move_35 (ra_01 (ra_w rl_0 (by decide) (by decide))) ⟨_, rfl, hG, (ra_w rl_0 (by decide) (by decide)), (fun q => absurd rfl q), (fun q => absurd rfl q), (fun q => absurd rfl q), (fun q => absurd rfl q)⟩
    · have r11 : Ra 1 1 x7 := rb_ne_lo hx7 ra_z q9 (by decide)
      have r12 : Ra 0 11 a2 := (hz8 q9)
      refine z_iloadn zh dX8_move_22 rfl ?_
      refine z_iloadn zh dX8_move_23 rfl ?_
      refine z_icmp_eq (tgt := 34) zh dX8_move_24 rfl (fun q13 => ?_) (fun q13 => ?_)
      · refine z_iconst zh dX8_move_34 ki_0 ?_
        exact z_zret zh dX8_move_35 (ra_01 (ra_w rl_0 (by decide) (by decide))) ⟨_, rfl, hG, (ra_w rl_0 (by decide) (by decide)), (fun q => absurd rfl q), (fun q => absurd rfl q), (fun q => absurd rfl q), (fun q => absurd rfl q)⟩
      · refine z_iloadn zh dX8_move_27 rfl ?_
        refine z_callSI zh ms_RollingNets_68 dX8_move_28 (s_X8_isIssue g  hG) ⟨Nat.le_of_ble_eq_true rfl, Nat.le_of_ble_eq_true rfl⟩ rfl rfl (Nat.le_of_ble_eq_true rfl) ?_
        rintro x15 _ _ ⟨rfl, rfl, hx15, hz16⟩
        refine z_if_ne (tgt := 36) zh dX8_move_31 rfl (fun q17 => ?_) (fun q17 => ?_)
        · have r18 : Ra 1 1 x15 := rb_ne_lo hx15 ra_z q17 (by decide)
          have r19 : Ra 0 5 a3 := (hz16 q17)
          refine z_iload zh dX8_move_36 rfl ?_
          refine z_iconst zh dX8_move_38 ki_1 ?_
          refine z_icmp_lt (tgt := 58) zh dX8_move_39 rfl (fun q20 => ?_) (fun q20 => ?_)
          · have r21 : Ra (-2147483648) 0 a4 := rb_lt_l rl_1 (ra_tt a4) q20 (by decide)
            refine z_iconst zh dX8_move_58 ki_0 ?_
            exact z_zret zh dX8_move_59 (ra_01 (ra_w rl_0 (by decide) (by decide))) ⟨_, rfl, hG, (ra_w rl_0 (by decide) (by decide)), (fun q => absurd rfl q), (fun q => absurd rfl q), (fun q => absurd rfl q), (fun q => absurd rfl q)⟩
          · have r22 : Ra 1 2147483647 a4 := rb_le_r rl_1 (ra_tt a4) (rb_nlt q20) (by decide)
            refine z_iload zh dX8_move_42 rfl ?_
            refine y_i2l zh dX8_move_44 (fun l23 => ?_)
            refine z_aloadnR zh dX8_move_45 rfl ?_
            refine z_getf zh fl_RollingNets_12 dX8_move_46 ck_X rfl rfl ?_
            refine z_iloadn zh dX8_move_49 rfl ?_
            refine z_iloadn zh dX8_move_50 rfl ?_
            refine z_callVL zh mv_RollingNets_102 dX8_move_51 (ck_H isH_1) rfl (s_X1_freeOf g isH_1 r19 r6 hG) ⟨Nat.le_of_ble_eq_true rfl, Nat.le_of_ble_eq_true rfl⟩ rfl rfl (Nat.le_of_ble_eq_true rfl) ?_
            rintro l24 _ _ ⟨rfl, rfl, _⟩
            refine y_lcmp zh dX8_move_54 (fun x25 hx25 => ?_)
            refine z_if_le (tgt := 60) zh dX8_move_55 rfl (fun q26 => ?_) (fun q26 => ?_)
            · have r27 : Ra (-1) 0 x25 := rb_le_l ra_z hx25 q26 (by decide)
              refine z_aloadnR zh dX8_move_60 rfl ?_
              refine z_getf zh fl_RollingNets_12 dX8_move_61 ck_X rfl rfl ?_
              refine z_getf zh fl_RollingNets_72 dX8_move_64 (ck_H isH_1) rfl rfl ?_
              refine z_iloadn zh dX8_move_67 rfl ?_
              refine y_mald zh (ck_markets isH_1) dX8_move_68 r19 (by decide) (by decide) (fun j28 hj28 _ _ => ?_)
              refine z_astore zh dX8_move_69 (by decide) (L' := [some (rf g 0), some (.int a1), some (.int a2), some (.int a3), some (.int a4), some (rf g (1 + 60 + 20 * j28))]) rfl ?_
              refine z_aloadR zh dX8_move_71 rfl ?_
              refine z_getf zh fl_RollingNets_76 dX8_move_73 (ck_M (isM_of isH_1 hj28)) rfl rfl ?_
              refine z_iloadn zh dX8_move_76 rfl ?_
              refine z_dup2 zh dX8_move_77 rfl rfl ?_
              refine y_lald zh (ck_stock (isM_of isH_1 hj28)) dX8_move_78 r6 (by decide) (by decide) (fun l29 => ?_)
              refine z_iload zh dX8_move_79 rfl ?_
              refine y_i2l zh dX8_move_81 (fun l30 => ?_)
              refine y_lsub zh dX8_move_82 (fun l31 => ?_)
              refine z_last zh (ck_stock (isM_of isH_1 hj28)) dX8_move_83 (ra_in r6 (by decide) (by decide)) ?_
              generalize upL lv (1 + 60 + 20 * j28 + 1) a1.toNatClampNeg l31 = lv
              refine z_aloadR zh dX8_move_84 rfl ?_
              refine z_getf zh fl_RollingNets_76 dX8_move_86 (ck_M (isM_of isH_1 hj28)) rfl rfl ?_
              refine z_iloadn zh dX8_move_89 rfl ?_
              refine z_dup2 zh dX8_move_90 rfl rfl ?_
              refine y_lald zh (ck_stock (isM_of isH_1 hj28)) dX8_move_91 r12 (by decide) (by decide) (fun l32 => ?_)
              refine z_iload zh dX8_move_92 rfl ?_
              refine y_i2l zh dX8_move_94 (fun l33 => ?_)
              refine y_ladd zh dX8_move_95 (fun l34 => ?_)
              refine z_last zh (ck_stock (isM_of isH_1 hj28)) dX8_move_96 (ra_in r12 (by decide) (by decide)) ?_
              generalize upL lv (1 + 60 + 20 * j28 + 1) a2.toNatClampNeg l34 = lv
              refine z_iconst zh dX8_move_97 ki_1 ?_
              exact z_zret zh dX8_move_98 (ra_01 (ra_w rl_1 (by decide) (by decide))) ⟨_, rfl, hG, (ra_w rl_1 (by decide) (by decide)), (fun _ => r6), (fun _ => r12), (fun _ => r19), (fun _ => r22)⟩
            · have r35 : Ra 1 1 x25 := rb_lt_r ra_z hx25 (rb_nle q26) (by decide)
              refine z_iconst zh dX8_move_58 ki_0 ?_
              exact z_zret zh dX8_move_59 (ra_01 (ra_w rl_0 (by decide) (by decide))) ⟨_, rfl, hG, (ra_w rl_0 (by decide) (by decide)), (fun q => absurd rfl q), (fun q => absurd rfl q), (fun q => absurd rfl q), (fun q => absurd rfl q)⟩
        · have r36 := rb_eq (u := 0) (v := 0) hx15 ra_z q17 (by decide) (by decide)
          refine z_iconst zh dX8_move_34 ki_0 ?_
          exact z_zret zh dX8_move_35 (ra_01 (ra_w rl_0 (by decide) (by decide))) ⟨_, rfl, hG, (ra_w rl_0 (by decide) (by decide)), (fun q => absurd rfl q), (fun q => absurd rfl q), (fun q => absurd rfl q), (fun q => absurd rfl q)⟩
set_option maxRecDepth 20000 in
theorem s_X8_night (g : GE) {sp : Nat → Nat → Bool} {σ : Iv} {iv : Iv} {lv : Lv} {a1 : Int32}  (hG : SI sp σ iv)  : ConI g yX8_night cX8_night 2 (some .int) 7 [rf g 0, .int a1] iv lv (fun r iv lv => SI sp σ iv ∧ True) := by
  refine con_intro (own := "RollingNets") (by decide +kernel) rfl (Nat.le_of_ble_eq_true rfl) (L0 := [some (rf g 0), some (.int a1)]) rfl (fun Z zh => ?_)
  refine z_aloadnR zh dX8_night_0 rfl ?_
  refine z_getf zh fl_RollingNets_12 dX8_night_1 ck_X rfl rfl ?_
  refine z_iloadn zh dX8_night_4 rfl ?_
  refine z_callSI zh ms_RollingNets_123 dX8_night_5 (s_X4_pass g isH_1 hG) ⟨Nat.le_of_ble_eq_true rfl, Nat.le_of_ble_eq_true rfl⟩ rfl rfl (Nat.le_of_ble_eq_true rfl) ?_
  rintro x1 iv lv ⟨hG, _⟩
  exact z_iret zh dX8_night_8 ⟨_, rfl, hG, trivial⟩
set_option maxRecDepth 20000 in
theorem s_X8_notice (g : GE) {sp : Nat → Nat → Bool} {σ : Iv} {iv : Iv} {lv : Lv} {a1 : Int32} {a2 : Int32}  (hG : SI sp σ iv)  : ConI g yX8_notice cX8_notice 3 (some .int) 2 [rf g 0, .int a1, .int a2] iv lv (fun r iv' lv' => iv = iv' ∧ lv = lv' ∧ True) := by
  refine con_intro (own := "RollingNets") (by decide +kernel) rfl (Nat.le_of_ble_eq_true rfl) (L0 := [some (rf g 0), some (.int a1), some (.int a2)]) rfl (fun Z zh => ?_)
  refine z_iloadn zh dX8_notice_0 rfl ?_
  have J23 : Z 23 [some (rf g 0), some (.int a1), some (.int a2)] [] iv lv := by
    refine z_iloadn zh dX8_notice_23 rfl ?_
    refine z_bipush zh dX8_notice_24 kb_10 ?_
    refine z_icmp_lt (tgt := 43) zh dX8_notice_26 rfl (fun q1 => ?_) (fun q1 => ?_)
    · have r2 : Ra (-2147483648) 9 a2 := rb_lt_l rl_10 (ra_tt a2) q1 (by decide)
      refine z_iconst zh dX8_notice_43 ki_m1 ?_
      exact z_iret zh dX8_notice_44 ⟨_, rfl, rfl, rfl, trivial⟩
    · have r3 : Ra 10 2147483647 a2 := rb_le_r rl_10 (ra_tt a2) (rb_nlt q1) (by decide)
      refine z_aloadnR zh dX8_notice_29 rfl ?_
      refine z_getf zh fl_RollingNets_12 dX8_notice_30 ck_X rfl rfl ?_
      refine z_iloadn zh dX8_notice_33 rfl ?_
      refine z_bipush zh dX8_notice_34 kb_10 ?_
      refine y_isub zh dX8_notice_36 r3 rl_10 (u := 0) (v := 2147483637) rfl rfl (by decide) (by decide) (fun x4 hc4 hx4 => ?_)
      refine z_callVI zh mv_RollingNets_60 dX8_notice_37 (ck_H isH_1) rfl (s_X1_hasMember g isH_1 hG) ⟨Nat.le_of_ble_eq_true rfl, Nat.le_of_ble_eq_true rfl⟩ rfl rfl (Nat.le_of_ble_eq_true rfl) ?_
      rintro x5 _ _ ⟨rfl, rfl, hx5, hz6⟩
      refine z_if_ne (tgt := 45) zh dX8_notice_40 rfl (fun q7 => ?_) (fun q7 => ?_)
      · have r8 : Ra 1 1 x5 := rb_ne_lo hx5 ra_z q7 (by decide)
        have r9 : Ra 0 11 x4 := (hz6 q7)
        refine z_aloadnR zh dX8_notice_45 rfl ?_
        refine z_getf zh fl_RollingNets_12 dX8_notice_46 ck_X rfl rfl ?_
        refine z_getf zh fl_RollingNets_212 dX8_notice_49 (ck_H isH_1) rfl rfl ?_
        refine z_bipush zh dX8_notice_52 kb_7 ?_
        refine z_iloadn zh dX8_notice_54 rfl ?_
        refine y_iaddT zh dX8_notice_55 (fun x10 => ?_)
        refine z_bipush zh dX8_notice_56 kb_10 ?_
        refine y_isubT zh dX8_notice_58 (fun x11 => ?_)
        refine z_iloadn zh dX8_notice_59 rfl ?_
        obtain ⟨x12, ex12⟩ : ∃ z, iv (1 + 17) 2 = z := ⟨_, rfl⟩
        have hx12 : Ra 0 60 x12 := ra_of ex12 (si_T hG (isT_n isH_1))
        refine z_callVI zh mv_RollingNets_171 dX8_notice_60 (ck_T (isT_n isH_1)) rfl (s_X7_get g (isT_n isH_1) ex12 hx12) ⟨Nat.le_of_ble_eq_true rfl, Nat.le_of_ble_eq_true rfl⟩ rfl rfl (Nat.le_of_ble_eq_true rfl) ?_
        rintro x13 _ _ ⟨rfl, rfl, gx13⟩
        exact z_iret zh dX8_notice_63 ⟨_, rfl, rfl, rfl, trivial⟩
      · have r14 := rb_eq (u := 0) (v := 0) hx5 ra_z q7 (by decide) (by decide)
        refine z_iconst zh dX8_notice_43 ki_m1 ?_
        exact z_iret zh dX8_notice_44 ⟨_, rfl, rfl, rfl, trivial⟩
  refine z_if_lt (tgt := 23) zh dX8_notice_1 rfl (fun q15 => ?_) (fun q15 => ?_)
  · have r16 : Ra (-2147483648) (-1) a2 := rb_lt_l ra_z (ra_tt a2) q15 (by decide)
    exact J23
  · have r17 : Ra 0 2147483647 a2 := rb_le_r ra_z (ra_tt a2) (rb_nlt q15) (by decide)
    refine z_iloadn zh dX8_notice_4 rfl ?_
    refine z_bipush zh dX8_notice_5 kb_6 ?_
    refine z_icmp_gt (tgt := 23) zh dX8_notice_7 rfl (fun q18 => ?_) (fun q18 => ?_)
    · have r19 : Ra 7 2147483647 a2 := rb_lt_r rl_6 r17 q18 (by decide)
      exact J23
    · have r20 : Ra 0 6 a2 := rb_le_l rl_6 r17 (rb_nlt q18) (by decide)
      refine z_aloadnR zh dX8_notice_10 rfl ?_
      refine z_getf zh fl_RollingNets_12 dX8_notice_11 ck_X rfl rfl ?_
      refine z_getf zh fl_RollingNets_212 dX8_notice_14 (ck_H isH_1) rfl rfl ?_
      refine z_iloadn zh dX8_notice_17 rfl ?_
      refine z_iloadn zh dX8_notice_18 rfl ?_
      obtain ⟨x21, ex21⟩ : ∃ z, iv (1 + 17) 2 = z := ⟨_, rfl⟩
      have hx21 : Ra 0 60 x21 := ra_of ex21 (si_T hG (isT_n isH_1))
      refine z_callVI zh mv_RollingNets_171 dX8_notice_19 (ck_T (isT_n isH_1)) rfl (s_X7_get g (isT_n isH_1) ex21 hx21) ⟨Nat.le_of_ble_eq_true rfl, Nat.le_of_ble_eq_true rfl⟩ rfl rfl (Nat.le_of_ble_eq_true rfl) ?_
      rintro x22 _ _ ⟨rfl, rfl, gx22⟩
      exact z_iret zh dX8_notice_22 ⟨_, rfl, rfl, rfl, trivial⟩
set_option maxRecDepth 20000 in
theorem s_X8_price (g : GE) {sp : Nat → Nat → Bool} {σ : Iv} {iv : Iv} {lv : Lv} {a1 : Int32} {a2 : Int32}  (hG : SI sp σ iv)  : ConI g yX8_price cX8_price 3 (some .boolean) 2 [rf g 0, .int a1, .int a2] iv lv (fun r iv lv => SI sp σ iv ∧ Ra 0 1 r ∧ (¬ r = 0 → Ra 0 5 a1) ∧ (¬ r = 0 → Ra 1 9999 a2)) := by
  refine con_intro (own := "RollingNets") (by decide +kernel) rfl (Nat.le_of_ble_eq_true rfl) (L0 := [some (rf g 0), some (.int a1), some (.int a2)]) rfl (fun Z zh => ?_)
  refine z_iloadn zh dX8_price_0 rfl ?_
  refine z_callSI zh ms_RollingNets_68 dX8_price_1 (s_X8_isIssue g  hG) ⟨Nat.le_of_ble_eq_true rfl, Nat.le_of_ble_eq_true rfl⟩ rfl rfl (Nat.le_of_ble_eq_true rfl) ?_
  rintro x1 _ _ ⟨rfl, rfl, hx1, hz2⟩
  refine z_if_eq (tgt := 18) zh dX8_price_4 rfl (fun q3 => ?_) (fun q3 => ?_)
  · have r4 := rb_eq (u := 0) (v := 0) hx1 ra_z q3 (by decide) (by decide)
    refine z_iconst zh dX8_price_18 ki_0 ?_
    exact z_zret zh dX8_price_19 (ra_01 (ra_w rl_0 (by decide) (by decide))) ⟨_, rfl, hG, (ra_w rl_0 (by decide) (by decide)), (fun q => absurd rfl q), (fun q => absurd rfl q)⟩
  · have r5 : Ra 1 1 x1 := rb_ne_lo hx1 ra_z q3 (by decide)
    have r6 : Ra 0 5 a1 := (hz2 q3)
    refine z_iloadn zh dX8_price_7 rfl ?_
    refine z_iconst zh dX8_price_8 ki_1 ?_
    refine z_sipush zh dX8_price_9 ks_9999 ?_
    refine z_callSI zh ms_RollingNets_43 dX8_price_12 (s_X8_within g) ⟨Nat.le_of_ble_eq_true rfl, Nat.le_of_ble_eq_true rfl⟩ rfl rfl (Nat.le_of_ble_eq_true rfl) ?_
    rintro x7 _ _ ⟨rfl, rfl, hx7, hz8⟩
    refine z_if_ne (tgt := 20) zh dX8_price_15 rfl (fun q9 => ?_) (fun q9 => ?_)
    · have r10 : Ra 1 1 x7 := rb_ne_lo hx7 ra_z q9 (by decide)
      have r11 : Ra 1 9999 a2 := (rb_in rl_1 rl_9999 (hz8 q9))
      refine z_aloadnR zh dX8_price_20 rfl ?_
      refine z_getf zh fl_RollingNets_12 dX8_price_21 ck_X rfl rfl ?_
      refine z_getf zh fl_RollingNets_72 dX8_price_24 (ck_H isH_1) rfl rfl ?_
      refine z_iloadn zh dX8_price_27 rfl ?_
      refine y_mald zh (ck_markets isH_1) dX8_price_28 r6 (by decide) (by decide) (fun j12 hj12 _ _ => ?_)
      refine z_iloadn zh dX8_price_29 rfl ?_
      refine z_putI zh fl_RollingNets_91 dX8_price_30 (ck_M (isM_of isH_1 hj12)) rfl rfl (Nat.le_of_ble_eq_true rfl) (Or.inl rfl) ?_
      have hG : SI sp σ (upI iv (1 + 60 + 20 * j12) 7 a2) := si_wM hG (isM_of isH_1 hj12) 0 (by decide) (rx_none rfl)
      generalize upI iv (1 + 60 + 20 * j12) 7 a2 = iv at hG  ⊢
      refine z_iconst zh dX8_price_33 ki_1 ?_
      exact z_zret zh dX8_price_34 (ra_01 (ra_w rl_1 (by decide) (by decide))) ⟨_, rfl, hG, (ra_w rl_1 (by decide) (by decide)), (fun _ => r6), (fun _ => r11)⟩
    · have r13 := rb_eq (u := 0) (v := 0) hx7 ra_z q9 (by decide) (by decide)
      refine z_iconst zh dX8_price_18 ki_0 ?_
      exact z_zret zh dX8_price_19 (ra_01 (ra_w rl_0 (by decide) (by decide))) ⟨_, rfl, hG, (ra_w rl_0 (by decide) (by decide)), (fun q => absurd rfl q), (fun q => absurd rfl q)⟩
set_option maxRecDepth 20000 in
theorem s_X8_tellRank (g : GE) {sp : Nat → Nat → Bool} {σ : Iv} {iv : Iv} {lv : Lv} {a1 : Int32} {a2 : Int32} (ha1 : Ra 0 11 a1) (hG : SI sp σ iv)  : ConI g yX8_tellRank cX8_tellRank 3 (some .boolean) 2 [rf g 0, .int a1, .int a2] iv lv (fun r iv lv => SI sp σ iv ∧ Ra 0 1 r ∧ (¬ r = 0 → Ra 0 9 a2)) := by
  refine con_intro (own := "RollingNets") (by decide +kernel) rfl (Nat.le_of_ble_eq_true rfl) (L0 := [some (rf g 0), some (.int a1), some (.int a2)]) rfl (fun Z zh => ?_)
  refine z_iloadn zh dX8_tellRank_0 rfl ?_
  refine z_iconst zh dX8_tellRank_1 ki_0 ?_
  refine z_bipush zh dX8_tellRank_2 kb_9 ?_
  refine z_callSI zh ms_RollingNets_43 dX8_tellRank_4 (s_X8_within g) ⟨Nat.le_of_ble_eq_true rfl, Nat.le_of_ble_eq_true rfl⟩ rfl rfl (Nat.le_of_ble_eq_true rfl) ?_
  rintro x1 _ _ ⟨rfl, rfl, hx1, hz2⟩
  refine z_if_ne (tgt := 12) zh dX8_tellRank_7 rfl (fun q3 => ?_) (fun q3 => ?_)
  · have r4 : Ra 1 1 x1 := rb_ne_lo hx1 ra_z q3 (by decide)
    have r5 : Ra 0 9 a2 := (rb_in rl_0 rl_9 (hz2 q3))
    refine z_aloadnR zh dX8_tellRank_12 rfl ?_
    refine z_getf zh fl_RollingNets_12 dX8_tellRank_13 ck_X rfl rfl ?_
    refine z_getf zh fl_RollingNets_88 dX8_tellRank_16 (ck_H isH_1) rfl rfl ?_
    refine z_iloadn zh dX8_tellRank_19 rfl ?_
    refine z_iloadn zh dX8_tellRank_20 rfl ?_
    refine z_iast zh (ck_rank isH_1) dX8_tellRank_21 (ra_in ha1 (by decide) (by decide)) ?_
    have hG : SI sp σ (upI iv (1 + 3) a1.toNatClampNeg a2) := si_wH hG isH_1 3 (by decide) rfl (rx_none rfl)
    generalize upI iv (1 + 3) a1.toNatClampNeg a2 = iv at hG  ⊢
    refine z_iconst zh dX8_tellRank_22 ki_1 ?_
    exact z_zret zh dX8_tellRank_23 (ra_01 (ra_w rl_1 (by decide) (by decide))) ⟨_, rfl, hG, (ra_w rl_1 (by decide) (by decide)), (fun _ => r5)⟩
  · have r6 := rb_eq (u := 0) (v := 0) hx1 ra_z q3 (by decide) (by decide)
    refine z_iconst zh dX8_tellRank_10 ki_0 ?_
    exact z_zret zh dX8_tellRank_11 (ra_01 (ra_w rl_0 (by decide) (by decide))) ⟨_, rfl, hG, (ra_w rl_0 (by decide) (by decide)), (fun q => absurd rfl q)⟩
set_option maxRecDepth 20000 in
theorem s_X8_tell (g : GE) {sp : Nat → Nat → Bool} {σ : Iv} {iv : Iv} {lv : Lv} {a1 : Int32} {a2 : Int32} {a3 : Int32} {a4 : Int32}  (hG : SI sp σ iv)  : ConI g yX8_tell cX8_tell 6 (some .boolean) 3 [rf g 0, .int a1, .int a2, .int a3, .int a4] iv lv (fun r iv lv => SI sp σ iv ∧ Ra 0 1 r ∧ (¬ r = 0 → Ra 0 11 a1) ∧ (¬ r = 0 → Ra 0 3 a3) ∧ (¬ r = 0 → Ra 0 99999 a4)) := by
  refine con_intro (own := "RollingNets") (by decide +kernel) rfl (Nat.le_of_ble_eq_true rfl) (L0 := [some (rf g 0), some (.int a1), some (.int a2), some (.int a3), some (.int a4), none]) rfl (fun Z zh => ?_)
  refine z_aloadnR zh dX8_tell_0 rfl ?_
  refine z_getf zh fl_RollingNets_12 dX8_tell_1 ck_X rfl rfl ?_
  refine z_iloadn zh dX8_tell_4 rfl ?_
  refine z_callVI zh mv_RollingNets_60 dX8_tell_5 (ck_H isH_1) rfl (s_X1_hasMember g isH_1 hG) ⟨Nat.le_of_ble_eq_true rfl, Nat.le_of_ble_eq_true rfl⟩ rfl rfl (Nat.le_of_ble_eq_true rfl) ?_
  rintro x1 _ _ ⟨rfl, rfl, hx1, hz2⟩
  refine z_if_ne (tgt := 13) zh dX8_tell_8 rfl (fun q3 => ?_) (fun q3 => ?_)
  · have r4 : Ra 1 1 x1 := rb_ne_lo hx1 ra_z q3 (by decide)
    have r5 : Ra 0 11 a1 := (hz2 q3)
    refine z_iloadn zh dX8_tell_13 rfl ?_
    refine z_iconst zh dX8_tell_14 ki_3 ?_
    refine z_icmp_ne (tgt := 26) zh dX8_tell_15 rfl (fun q6 => ?_) (fun q6 => ?_)
    · refine z_iloadn zh dX8_tell_26 rfl ?_
      refine z_callSI zh ms_RollingNets_68 dX8_tell_27 (s_X8_isIssue g  hG) ⟨Nat.le_of_ble_eq_true rfl, Nat.le_of_ble_eq_true rfl⟩ rfl rfl (Nat.le_of_ble_eq_true rfl) ?_
      rintro x7 _ _ ⟨rfl, rfl, hx7, hz8⟩
      refine z_if_eq (tgt := 44) zh dX8_tell_30 rfl (fun q9 => ?_) (fun q9 => ?_)
      · have r10 := rb_eq (u := 0) (v := 0) hx7 ra_z q9 (by decide) (by decide)
        refine z_iconst zh dX8_tell_44 ki_0 ?_
        exact z_zret zh dX8_tell_45 (ra_01 (ra_w rl_0 (by decide) (by decide))) ⟨_, rfl, hG, (ra_w rl_0 (by decide) (by decide)), (fun q => absurd rfl q), (fun q => absurd rfl q), (fun q => absurd rfl q)⟩
      · have r11 : Ra 1 1 x7 := rb_ne_lo hx7 ra_z q9 (by decide)
        have r12 : Ra 0 5 a2 := (hz8 q9)
        refine z_iload zh dX8_tell_33 rfl ?_
        refine z_iconst zh dX8_tell_35 ki_0 ?_
        refine z_ldc zh dX8_tell_36 kc_RollingNets_71 ?_
        refine z_callSI zh ms_RollingNets_43 dX8_tell_38 (s_X8_within g) ⟨Nat.le_of_ble_eq_true rfl, Nat.le_of_ble_eq_true rfl⟩ rfl rfl (Nat.le_of_ble_eq_true rfl) ?_
        rintro x13 _ _ ⟨rfl, rfl, hx13, hz14⟩
        refine z_if_ne (tgt := 46) zh dX8_tell_41 rfl (fun q15 => ?_) (fun q15 => ?_)
        · have r16 : Ra 1 1 x13 := rb_ne_lo hx13 ra_z q15 (by decide)
          have r17 : Ra 0 99999 a4 := (rb_in rl_0 rl_99999 (hz14 q15))
          refine z_aloadnR zh dX8_tell_46 rfl ?_
          refine z_getf zh fl_RollingNets_12 dX8_tell_47 ck_X rfl rfl ?_
          refine z_getf zh fl_RollingNets_72 dX8_tell_50 (ck_H isH_1) rfl rfl ?_
          refine z_iloadn zh dX8_tell_53 rfl ?_
          refine y_mald zh (ck_markets isH_1) dX8_tell_54 r12 (by decide) (by decide) (fun j18 hj18 _ _ => ?_)
          refine z_astore zh dX8_tell_55 (by decide) (L' := [some (rf g 0), some (.int a1), some (.int a2), some (.int a3), some (.int a4), some (rf g (1 + 60 + 20 * j18))]) rfl ?_
          refine z_iloadn zh dX8_tell_57 rfl ?_
          by_cases q19 : 0 ≤ a3.toInt ∧ a3.toInt ≤ 2
          · obtain ⟨jw, hjw, hkw⟩ : ∃ jw : Nat, jw ≤ 2 ∧ a3.toInt = 0 + (jw : Int) := ⟨(a3.toInt - 0).toNat, by omega, by omega⟩
            rcases (by omega : jw = 0 ∨ jw = 1 ∨ jw = 2) with rfl | rfl | rfl
            · have r21 : Ra 0 0 a3 := sw_ra hkw rfl
              refine z_tabIn (off := 26) (tgt := 84) zh dX8_tell_58 (sw_lo r21 (by decide)) (sw_hi r21 (by decide)) (sw_at r21 (by decide)) rfl ?_
              refine z_aloadR zh dX8_tell_84 rfl ?_
              refine z_getf zh fl_RollingNets_76 dX8_tell_86 (ck_M (isM_of isH_1 hj18)) rfl rfl ?_
              refine z_iloadn zh dX8_tell_89 rfl ?_
              refine z_iload zh dX8_tell_90 rfl ?_
              refine y_i2l zh dX8_tell_92 (fun l22 => ?_)
              refine z_last zh (ck_stock (isM_of isH_1 hj18)) dX8_tell_93 (ra_in r5 (by decide) (by decide)) ?_
              generalize upL lv (1 + 60 + 20 * j18 + 1) a1.toNatClampNeg l22 = lv
              refine z_iconst zh dX8_tell_94 ki_1 ?_
              exact z_zret zh dX8_tell_95 (ra_01 (ra_w rl_1 (by decide) (by decide))) ⟨_, rfl, hG, (ra_w rl_1 (by decide) (by decide)), (fun _ => r5), (fun _ => (ra_w r21 (by decide) (by decide))), (fun _ => r17)⟩
            · have r23 : Ra 1 1 a3 := sw_ra hkw rfl
              refine z_tabIn (off := 38) (tgt := 96) zh dX8_tell_58 (sw_lo r23 (by decide)) (sw_hi r23 (by decide)) (sw_at r23 (by decide)) rfl ?_
              refine z_aloadR zh dX8_tell_96 rfl ?_
              refine z_getf zh fl_RollingNets_82 dX8_tell_98 (ck_M (isM_of isH_1 hj18)) rfl rfl ?_
              refine z_iloadn zh dX8_tell_101 rfl ?_
              refine z_iload zh dX8_tell_102 rfl ?_
              refine z_iast zh (ck_mi 2 (by decide) (isM_of isH_1 hj18)) dX8_tell_104 (ra_in r5 (by decide) (by decide)) ?_
              have hG : SI sp σ (upI iv (1 + 60 + 20 * j18 + 2) a1.toNatClampNeg a4) := si_wM hG (isM_of isH_1 hj18) 2 (by decide) (rx_none rfl)
              generalize upI iv (1 + 60 + 20 * j18 + 2) a1.toNatClampNeg a4 = iv at hG  ⊢
              refine z_iconst zh dX8_tell_105 ki_1 ?_
              exact z_zret zh dX8_tell_106 (ra_01 (ra_w rl_1 (by decide) (by decide))) ⟨_, rfl, hG, (ra_w rl_1 (by decide) (by decide)), (fun _ => r5), (fun _ => (ra_w r23 (by decide) (by decide))), (fun _ => r17)⟩
            · have r24 : Ra 2 2 a3 := sw_ra hkw rfl
              refine z_tabIn (off := 49) (tgt := 107) zh dX8_tell_58 (sw_lo r24 (by decide)) (sw_hi r24 (by decide)) (sw_at r24 (by decide)) rfl ?_
              refine z_aloadR zh dX8_tell_107 rfl ?_
              refine z_getf zh fl_RollingNets_85 dX8_tell_109 (ck_M (isM_of isH_1 hj18)) rfl rfl ?_
              refine z_iloadn zh dX8_tell_112 rfl ?_
              refine z_iload zh dX8_tell_113 rfl ?_
              refine z_iast zh (ck_mi 3 (by decide) (isM_of isH_1 hj18)) dX8_tell_115 (ra_in r5 (by decide) (by decide)) ?_
              have hG : SI sp σ (upI iv (1 + 60 + 20 * j18 + 3) a1.toNatClampNeg a4) := si_wM hG (isM_of isH_1 hj18) 3 (by decide) (rx_none rfl)
              generalize upI iv (1 + 60 + 20 * j18 + 3) a1.toNatClampNeg a4 = iv at hG  ⊢
              refine z_iconst zh dX8_tell_116 ki_1 ?_
              exact z_zret zh dX8_tell_117 (ra_01 (ra_w rl_1 (by decide) (by decide))) ⟨_, rfl, hG, (ra_w rl_1 (by decide) (by decide)), (fun _ => r5), (fun _ => (ra_w r24 (by decide) (by decide))), (fun _ => r17)⟩
          · refine z_tabOut (tgt := 118) zh dX8_tell_58 (sw_out q19) rfl ?_
            refine z_iconst zh dX8_tell_118 ki_0 ?_
            exact z_zret zh dX8_tell_119 (ra_01 (ra_w rl_0 (by decide) (by decide))) ⟨_, rfl, hG, (ra_w rl_0 (by decide) (by decide)), (fun q => absurd rfl q), (fun q => absurd rfl q), (fun q => absurd rfl q)⟩
        · have r25 := rb_eq (u := 0) (v := 0) hx13 ra_z q15 (by decide) (by decide)
          refine z_iconst zh dX8_tell_44 ki_0 ?_
          exact z_zret zh dX8_tell_45 (ra_01 (ra_w rl_0 (by decide) (by decide))) ⟨_, rfl, hG, (ra_w rl_0 (by decide) (by decide)), (fun q => absurd rfl q), (fun q => absurd rfl q), (fun q => absurd rfl q)⟩
    · have r26 := rb_eq (u := 3) (v := 3) (ra_tt a3) rl_3 q6 (by decide) (by decide)
      refine z_aloadnR zh dX8_tell_18 rfl ?_
      refine z_iloadn zh dX8_tell_19 rfl ?_
      refine z_iload zh dX8_tell_20 rfl ?_
      refine z_callVI zh mv_RollingNets_64 dX8_tell_22 ck_X rfl (s_X8_tellRank g r5 hG) ⟨Nat.le_of_ble_eq_true rfl, Nat.le_of_ble_eq_true rfl⟩ rfl rfl (Nat.le_of_ble_eq_true rfl) ?_
      rintro x27 iv lv ⟨hG, hx27, hz28⟩
      exact z_zret zh dX8_tell_25 (ra_01 hx27) ⟨_, rfl, hG, hx27, (fun _ => r5), (fun _ => (ra_w r26.1 (by decide) (by decide))), (fun q => ra_w (hz28 q) (by decide) (by decide))⟩
  · have r29 := rb_eq (u := 0) (v := 0) hx1 ra_z q3 (by decide) (by decide)
    refine z_iconst zh dX8_tell_11 ki_0 ?_
    exact z_zret zh dX8_tell_12 (ra_01 (ra_w rl_0 (by decide) (by decide))) ⟨_, rfl, hG, (ra_w rl_0 (by decide) (by decide)), (fun q => absurd rfl q), (fun q => absurd rfl q), (fun q => absurd rfl q)⟩
set_option maxRecDepth 20000 in
theorem s_X8_trade (g : GE) {sp : Nat → Nat → Bool} {σ : Iv} {iv : Iv} {lv : Lv} {a1 : Int32} {a2 : Int32} {a3 : Int32} {a4 : Int32} {a5 : Int32}  (hG : SI sp σ iv) (hq : Sq sp) : ConI g yX8_trade cX8_trade 6 (some .int) 4 [rf g 0, .int a1, .int a2, .int a3, .int a4, .int a5] iv lv (fun r iv lv => SI sp σ iv ∧ Ra (-1) 199 r) := by
  refine con_intro (own := "RollingNets") (by decide +kernel) rfl (Nat.le_of_ble_eq_true rfl) (L0 := [some (rf g 0), some (.int a1), some (.int a2), some (.int a3), some (.int a4), some (.int a5)]) rfl (fun Z zh => ?_)
  refine z_aloadnR zh dX8_trade_0 rfl ?_
  refine z_getf zh fl_RollingNets_12 dX8_trade_1 ck_X rfl rfl ?_
  refine z_iloadn zh dX8_trade_4 rfl ?_
  refine z_iloadn zh dX8_trade_5 rfl ?_
  refine z_iloadn zh dX8_trade_6 rfl ?_
  refine z_iload zh dX8_trade_7 rfl ?_
  refine z_iload zh dX8_trade_9 rfl ?_
  refine z_iconst zh dX8_trade_11 ki_0 ?_
  refine z_callVI zh mv_RollingNets_95 dX8_trade_12 (ck_H isH_1) rfl (s_X1_addDeal g isH_1 (ra_w rl_0 (by decide) (by decide)) hG hq) ⟨Nat.le_of_ble_eq_true rfl, Nat.le_of_ble_eq_true rfl⟩ rfl rfl (Nat.le_of_ble_eq_true rfl) ?_
  rintro x1 iv lv ⟨hG, hx1⟩
  exact z_iret zh dX8_trade_15 ⟨_, rfl, hG, hx1⟩
set_option maxRecDepth 20000 in
theorem s_X8_perform (g : GE) {sp : Nat → Nat → Bool} {σ : Iv} {iv : Iv} {lv : Lv} {a1 : Int32} (ha1 : Ra (-2147483648) 23 a1) (hG : SI sp σ iv) (hq : Sq sp) : ConI g yX8_perform cX8_perform 6 (some .boolean) 6 [rf g 0, .int a1] iv lv (fun r iv lv => SI sp σ iv ∧ Ra 0 1 r) := by
  refine con_intro (own := "RollingNets") (by decide +kernel) rfl (Nat.le_of_ble_eq_true rfl) (L0 := [some (rf g 0), some (.int a1), none, none, none, none]) rfl (fun Z zh => ?_)
  refine z_aloadnR zh dX8_perform_0 rfl ?_
  refine z_getf zh fl_RollingNets_12 dX8_perform_1 ck_X rfl rfl ?_
  refine z_getf zh fl_RollingNets_152 dX8_perform_4 (ck_H isH_1) rfl rfl ?_
  refine z_astoren zh dX8_perform_7 (by decide) (L' := [some (rf g 0), some (.int a1), some (rf g (1 + 46)), none, none, none]) rfl ?_
  refine z_aloadnR zh dX8_perform_8 rfl ?_
  refine z_iconst zh dX8_perform_9 ki_1 ?_
  refine z_iloadn zh dX8_perform_10 rfl ?_
  obtain ⟨x1, ex1⟩ : ∃ z, iv (1 + 46) 2 = z := ⟨_, rfl⟩
  have hx1 : Ra 0 24 x1 := ra_of ex1 (si_T hG (isT_p isH_1))
  refine z_callVI zh mv_RollingNets_171 dX8_perform_11 (ck_T (isT_p isH_1)) rfl (s_X7_get g (isT_p isH_1) ex1 hx1) ⟨Nat.le_of_ble_eq_true rfl, Nat.le_of_ble_eq_true rfl⟩ rfl rfl (Nat.le_of_ble_eq_true rfl) ?_
  rintro x2 _ _ ⟨rfl, rfl, gx2⟩
  refine z_istoren zh dX8_perform_14 (by decide) (L' := [some (rf g 0), some (.int a1), some (rf g (1 + 46)), some (.int x2), none, none]) rfl ?_
  refine z_aloadnR zh dX8_perform_15 rfl ?_
  refine z_iconst zh dX8_perform_16 ki_2 ?_
  refine z_iloadn zh dX8_perform_17 rfl ?_
  refine z_callVI zh mv_RollingNets_171 dX8_perform_18 (ck_T (isT_p isH_1)) rfl (s_X7_get g (isT_p isH_1) ex1 hx1) ⟨Nat.le_of_ble_eq_true rfl, Nat.le_of_ble_eq_true rfl⟩ rfl rfl (Nat.le_of_ble_eq_true rfl) ?_
  rintro x3 _ _ ⟨rfl, rfl, gx3⟩
  refine z_istore zh dX8_perform_21 (by decide) (L' := [some (rf g 0), some (.int a1), some (rf g (1 + 46)), some (.int x2), some (.int x3), none]) rfl ?_
  refine z_aloadnR zh dX8_perform_23 rfl ?_
  refine z_iconst zh dX8_perform_24 ki_3 ?_
  refine z_iloadn zh dX8_perform_25 rfl ?_
  refine z_callVI zh mv_RollingNets_171 dX8_perform_26 (ck_T (isT_p isH_1)) rfl (s_X7_get g (isT_p isH_1) ex1 hx1) ⟨Nat.le_of_ble_eq_true rfl, Nat.le_of_ble_eq_true rfl⟩ rfl rfl (Nat.le_of_ble_eq_true rfl) ?_
  rintro x4 _ _ ⟨rfl, rfl, gx4⟩
  refine z_istore zh dX8_perform_29 (by decide) (L' := [some (rf g 0), some (.int a1), some (rf g (1 + 46)), some (.int x2), some (.int x3), some (.int x4)]) rfl ?_
  refine z_aloadnR zh dX8_perform_31 rfl ?_
  refine z_iconst zh dX8_perform_32 ki_0 ?_
  refine z_iloadn zh dX8_perform_33 rfl ?_
  refine z_callVI zh mv_RollingNets_171 dX8_perform_34 (ck_T (isT_p isH_1)) rfl (s_X7_get g (isT_p isH_1) ex1 hx1) ⟨Nat.le_of_ble_eq_true rfl, Nat.le_of_ble_eq_true rfl⟩ rfl rfl (Nat.le_of_ble_eq_true rfl) ?_
  rintro x5 _ _ ⟨rfl, rfl, gx5⟩
  by_cases q6 : 0 ≤ x5.toInt ∧ x5.toInt ≤ 8
  · obtain ⟨jw, hjw, hkw⟩ : ∃ jw : Nat, jw ≤ 8 ∧ x5.toInt = 0 + (jw : Int) := ⟨(x5.toInt - 0).toNat, by omega, by omega⟩
    rcases (by omega : jw = 0 ∨ jw = 1 ∨ jw = 2 ∨ jw = 3 ∨ jw = 4 ∨ jw = 5 ∨ jw = 6 ∨ jw = 7 ∨ jw = 8) with rfl | rfl | rfl | rfl | rfl | rfl | rfl | rfl | rfl
    · have r8 : Ra 0 0 x5 := sw_ra hkw rfl
      refine z_tabIn (off := 51) (tgt := 88) zh dX8_perform_37 (sw_lo r8 (by decide)) (sw_hi r8 (by decide)) (sw_at r8 (by decide)) rfl ?_
      refine z_aloadnR zh dX8_perform_88 rfl ?_
      refine z_iloadn zh dX8_perform_89 rfl ?_
      refine z_iload zh dX8_perform_90 rfl ?_
      refine z_iload zh dX8_perform_92 rfl ?_
      refine z_aloadnR zh dX8_perform_94 rfl ?_
      refine z_iconst zh dX8_perform_95 ki_4 ?_
      refine z_iloadn zh dX8_perform_96 rfl ?_
      refine z_callVI zh mv_RollingNets_171 dX8_perform_97 (ck_T (isT_p isH_1)) rfl (s_X7_get g (isT_p isH_1) ex1 hx1) ⟨Nat.le_of_ble_eq_true rfl, Nat.le_of_ble_eq_true rfl⟩ rfl rfl (Nat.le_of_ble_eq_true rfl) ?_
      rintro x9 _ _ ⟨rfl, rfl, gx9⟩
      refine z_aloadnR zh dX8_perform_100 rfl ?_
      refine z_iconst zh dX8_perform_101 ki_5 ?_
      refine z_iloadn zh dX8_perform_102 rfl ?_
      refine z_callVI zh mv_RollingNets_171 dX8_perform_103 (ck_T (isT_p isH_1)) rfl (s_X7_get g (isT_p isH_1) ex1 hx1) ⟨Nat.le_of_ble_eq_true rfl, Nat.le_of_ble_eq_true rfl⟩ rfl rfl (Nat.le_of_ble_eq_true rfl) ?_
      rintro x10 _ _ ⟨rfl, rfl, gx10⟩
      refine z_callVI zh mv_RollingNets_178 dX8_perform_106 ck_X rfl (s_X8_trade g  hG hq) ⟨Nat.le_of_ble_eq_true rfl, Nat.le_of_ble_eq_true rfl⟩ rfl rfl (Nat.le_of_ble_eq_true rfl) ?_
      rintro x11 iv lv ⟨hG, hx11⟩
      refine z_iconst zh dX8_perform_109 ki_m1 ?_
      refine z_icmp_eq (tgt := 117) zh dX8_perform_110 rfl (fun q12 => ?_) (fun q12 => ?_)
      · have r13 := rb_eq (u := (-1)) (v := (-1)) hx11 rl_n1 q12 (by decide) (by decide)
        refine z_iconst zh dX8_perform_117 ki_0 ?_
        exact z_zret zh dX8_perform_118 (ra_01 (ra_w rl_0 (by decide) (by decide))) ⟨_, rfl, hG, (ra_w rl_0 (by decide) (by decide))⟩
      · have r14 : Ra 0 199 x11 := rb_ne_lo hx11 rl_n1 q12 (by decide)
        refine z_iconst zh dX8_perform_113 ki_1 ?_
        refine z_goto (tgt := 118) zh dX8_perform_114 rfl ?_
        exact z_zret zh dX8_perform_118 (ra_01 (ra_w rl_1 (by decide) (by decide))) ⟨_, rfl, hG, (ra_w rl_1 (by decide) (by decide))⟩
    · have r15 : Ra 1 1 x5 := sw_ra hkw rfl
      refine z_tabIn (off := 82) (tgt := 119) zh dX8_perform_37 (sw_lo r15 (by decide)) (sw_hi r15 (by decide)) (sw_at r15 (by decide)) rfl ?_
      refine z_aloadnR zh dX8_perform_119 rfl ?_
      refine z_iloadn zh dX8_perform_120 rfl ?_
      refine z_iload zh dX8_perform_121 rfl ?_
      refine z_iload zh dX8_perform_123 rfl ?_
      refine z_aloadnR zh dX8_perform_125 rfl ?_
      refine z_iconst zh dX8_perform_126 ki_4 ?_
      refine z_iloadn zh dX8_perform_127 rfl ?_
      refine z_callVI zh mv_RollingNets_171 dX8_perform_128 (ck_T (isT_p isH_1)) rfl (s_X7_get g (isT_p isH_1) ex1 hx1) ⟨Nat.le_of_ble_eq_true rfl, Nat.le_of_ble_eq_true rfl⟩ rfl rfl (Nat.le_of_ble_eq_true rfl) ?_
      rintro x16 _ _ ⟨rfl, rfl, gx16⟩
      refine z_aloadnR zh dX8_perform_131 rfl ?_
      refine z_iconst zh dX8_perform_132 ki_5 ?_
      refine z_iloadn zh dX8_perform_133 rfl ?_
      refine z_callVI zh mv_RollingNets_171 dX8_perform_134 (ck_T (isT_p isH_1)) rfl (s_X7_get g (isT_p isH_1) ex1 hx1) ⟨Nat.le_of_ble_eq_true rfl, Nat.le_of_ble_eq_true rfl⟩ rfl rfl (Nat.le_of_ble_eq_true rfl) ?_
      rintro x17 _ _ ⟨rfl, rfl, gx17⟩
      refine z_callVI zh mv_RollingNets_182 dX8_perform_137 ck_X rfl (s_X8_apart g  hG hq) ⟨Nat.le_of_ble_eq_true rfl, Nat.le_of_ble_eq_true rfl⟩ rfl rfl (Nat.le_of_ble_eq_true rfl) ?_
      rintro x18 iv lv ⟨hG, hx18⟩
      refine z_iconst zh dX8_perform_140 ki_m1 ?_
      refine z_icmp_eq (tgt := 148) zh dX8_perform_141 rfl (fun q19 => ?_) (fun q19 => ?_)
      · have r20 := rb_eq (u := (-1)) (v := (-1)) hx18 rl_n1 q19 (by decide) (by decide)
        refine z_iconst zh dX8_perform_148 ki_0 ?_
        exact z_zret zh dX8_perform_149 (ra_01 (ra_w rl_0 (by decide) (by decide))) ⟨_, rfl, hG, (ra_w rl_0 (by decide) (by decide))⟩
      · have r21 : Ra 0 199 x18 := rb_ne_lo hx18 rl_n1 q19 (by decide)
        refine z_iconst zh dX8_perform_144 ki_1 ?_
        refine z_goto (tgt := 149) zh dX8_perform_145 rfl ?_
        exact z_zret zh dX8_perform_149 (ra_01 (ra_w rl_1 (by decide) (by decide))) ⟨_, rfl, hG, (ra_w rl_1 (by decide) (by decide))⟩
    · have r22 : Ra 2 2 x5 := sw_ra hkw rfl
      refine z_tabIn (off := 113) (tgt := 150) zh dX8_perform_37 (sw_lo r22 (by decide)) (sw_hi r22 (by decide)) (sw_at r22 (by decide)) rfl ?_
      refine z_aloadnR zh dX8_perform_150 rfl ?_
      refine z_iloadn zh dX8_perform_151 rfl ?_
      refine z_iload zh dX8_perform_152 rfl ?_
      refine z_iconst zh dX8_perform_154 ki_0 ?_
      refine z_iload zh dX8_perform_155 rfl ?_
      refine z_callVI zh mv_RollingNets_185 dX8_perform_157 ck_X rfl (s_X8_tell g  hG) ⟨Nat.le_of_ble_eq_true rfl, Nat.le_of_ble_eq_true rfl⟩ rfl rfl (Nat.le_of_ble_eq_true rfl) ?_
      rintro x23 iv lv ⟨hG, hx23, hz24, hz25, hz26⟩
      exact z_zret zh dX8_perform_160 (ra_01 hx23) ⟨_, rfl, hG, hx23⟩
    · have r27 : Ra 3 3 x5 := sw_ra hkw rfl
      refine z_tabIn (off := 124) (tgt := 161) zh dX8_perform_37 (sw_lo r27 (by decide)) (sw_hi r27 (by decide)) (sw_at r27 (by decide)) rfl ?_
      refine z_aloadnR zh dX8_perform_161 rfl ?_
      refine z_iloadn zh dX8_perform_162 rfl ?_
      refine z_iload zh dX8_perform_163 rfl ?_
      refine z_iconst zh dX8_perform_165 ki_1 ?_
      refine z_iload zh dX8_perform_166 rfl ?_
      refine z_callVI zh mv_RollingNets_185 dX8_perform_168 ck_X rfl (s_X8_tell g  hG) ⟨Nat.le_of_ble_eq_true rfl, Nat.le_of_ble_eq_true rfl⟩ rfl rfl (Nat.le_of_ble_eq_true rfl) ?_
      rintro x28 iv lv ⟨hG, hx28, hz29, hz30, hz31⟩
      exact z_zret zh dX8_perform_171 (ra_01 hx28) ⟨_, rfl, hG, hx28⟩
    · have r32 : Ra 4 4 x5 := sw_ra hkw rfl
      refine z_tabIn (off := 135) (tgt := 172) zh dX8_perform_37 (sw_lo r32 (by decide)) (sw_hi r32 (by decide)) (sw_at r32 (by decide)) rfl ?_
      refine z_aloadnR zh dX8_perform_172 rfl ?_
      refine z_iloadn zh dX8_perform_173 rfl ?_
      refine z_iload zh dX8_perform_174 rfl ?_
      refine z_iconst zh dX8_perform_176 ki_2 ?_
      refine z_iload zh dX8_perform_177 rfl ?_
      refine z_callVI zh mv_RollingNets_185 dX8_perform_179 ck_X rfl (s_X8_tell g  hG) ⟨Nat.le_of_ble_eq_true rfl, Nat.le_of_ble_eq_true rfl⟩ rfl rfl (Nat.le_of_ble_eq_true rfl) ?_
      rintro x33 iv lv ⟨hG, hx33, hz34, hz35, hz36⟩
      exact z_zret zh dX8_perform_182 (ra_01 hx33) ⟨_, rfl, hG, hx33⟩
    · have r37 : Ra 5 5 x5 := sw_ra hkw rfl
      refine z_tabIn (off := 146) (tgt := 183) zh dX8_perform_37 (sw_lo r37 (by decide)) (sw_hi r37 (by decide)) (sw_at r37 (by decide)) rfl ?_
      refine z_aloadnR zh dX8_perform_183 rfl ?_
      refine z_iloadn zh dX8_perform_184 rfl ?_
      refine z_iconst zh dX8_perform_185 ki_0 ?_
      refine z_iconst zh dX8_perform_186 ki_3 ?_
      refine z_iload zh dX8_perform_187 rfl ?_
      refine z_callVI zh mv_RollingNets_185 dX8_perform_189 ck_X rfl (s_X8_tell g  hG) ⟨Nat.le_of_ble_eq_true rfl, Nat.le_of_ble_eq_true rfl⟩ rfl rfl (Nat.le_of_ble_eq_true rfl) ?_
      rintro x38 iv lv ⟨hG, hx38, hz39, hz40, hz41⟩
      exact z_zret zh dX8_perform_192 (ra_01 hx38) ⟨_, rfl, hG, hx38⟩
    · have r42 : Ra 6 6 x5 := sw_ra hkw rfl
      refine z_tabIn (off := 156) (tgt := 193) zh dX8_perform_37 (sw_lo r42 (by decide)) (sw_hi r42 (by decide)) (sw_at r42 (by decide)) rfl ?_
      refine z_aloadnR zh dX8_perform_193 rfl ?_
      refine z_iloadn zh dX8_perform_194 rfl ?_
      refine z_iload zh dX8_perform_195 rfl ?_
      refine z_callVI zh mv_RollingNets_189 dX8_perform_197 ck_X rfl (s_X8_price g  hG) ⟨Nat.le_of_ble_eq_true rfl, Nat.le_of_ble_eq_true rfl⟩ rfl rfl (Nat.le_of_ble_eq_true rfl) ?_
      rintro x43 iv lv ⟨hG, hx43, hz44, hz45⟩
      exact z_zret zh dX8_perform_200 (ra_01 hx43) ⟨_, rfl, hG, hx43⟩
    · have r46 : Ra 7 7 x5 := sw_ra hkw rfl
      refine z_tabIn (off := 164) (tgt := 201) zh dX8_perform_37 (sw_lo r46 (by decide)) (sw_hi r46 (by decide)) (sw_at r46 (by decide)) rfl ?_
      refine z_aloadnR zh dX8_perform_201 rfl ?_
      refine z_getf zh fl_RollingNets_12 dX8_perform_202 ck_X rfl rfl ?_
      refine z_iloadn zh dX8_perform_205 rfl ?_
      refine z_iload zh dX8_perform_206 rfl ?_
      refine z_iload zh dX8_perform_208 rfl ?_
      refine z_callSI zh ms_RollingNets_129 dX8_perform_210 (s_X5_giveNet g isH_1 hG hq) ⟨Nat.le_of_ble_eq_true rfl, Nat.le_of_ble_eq_true rfl⟩ rfl rfl (Nat.le_of_ble_eq_true rfl) ?_
      rintro x47 iv lv ⟨hG, hx47⟩
      refine z_iconst zh dX8_perform_213 ki_m1 ?_
      refine z_icmp_eq (tgt := 221) zh dX8_perform_214 rfl (fun q48 => ?_) (fun q48 => ?_)
      · have r49 := rb_eq (u := (-1)) (v := (-1)) hx47 rl_n1 q48 (by decide) (by decide)
        refine z_iconst zh dX8_perform_221 ki_0 ?_
        exact z_zret zh dX8_perform_222 (ra_01 (ra_w rl_0 (by decide) (by decide))) ⟨_, rfl, hG, (ra_w rl_0 (by decide) (by decide))⟩
      · have r50 : Ra 0 59 x47 := rb_ne_lo hx47 rl_n1 q48 (by decide)
        refine z_iconst zh dX8_perform_217 ki_1 ?_
        refine z_goto (tgt := 222) zh dX8_perform_218 rfl ?_
        exact z_zret zh dX8_perform_222 (ra_01 (ra_w rl_1 (by decide) (by decide))) ⟨_, rfl, hG, (ra_w rl_1 (by decide) (by decide))⟩
    · have r51 : Ra 8 8 x5 := sw_ra hkw rfl
      refine z_tabIn (off := 186) (tgt := 223) zh dX8_perform_37 (sw_lo r51 (by decide)) (sw_hi r51 (by decide)) (sw_at r51 (by decide)) rfl ?_
      refine z_aloadnR zh dX8_perform_223 rfl ?_
      refine z_getf zh fl_RollingNets_12 dX8_perform_224 ck_X rfl rfl ?_
      refine z_iloadn zh dX8_perform_227 rfl ?_
      refine z_callSI zh ms_RollingNets_135 dX8_perform_228 (s_X5_giveApart g isH_1 hG hq) ⟨Nat.le_of_ble_eq_true rfl, Nat.le_of_ble_eq_true rfl⟩ rfl rfl (Nat.le_of_ble_eq_true rfl) ?_
      rintro x52 iv lv ⟨hG, hx52⟩
      refine z_iconst zh dX8_perform_231 ki_m1 ?_
      refine z_icmp_eq (tgt := 239) zh dX8_perform_232 rfl (fun q53 => ?_) (fun q53 => ?_)
      · have r54 := rb_eq (u := (-1)) (v := (-1)) hx52 rl_n1 q53 (by decide) (by decide)
        refine z_iconst zh dX8_perform_239 ki_0 ?_
        exact z_zret zh dX8_perform_240 (ra_01 (ra_w rl_0 (by decide) (by decide))) ⟨_, rfl, hG, (ra_w rl_0 (by decide) (by decide))⟩
      · have r55 : Ra 0 59 x52 := rb_ne_lo hx52 rl_n1 q53 (by decide)
        refine z_iconst zh dX8_perform_235 ki_1 ?_
        refine z_goto (tgt := 240) zh dX8_perform_236 rfl ?_
        exact z_zret zh dX8_perform_240 (ra_01 (ra_w rl_1 (by decide) (by decide))) ⟨_, rfl, hG, (ra_w rl_1 (by decide) (by decide))⟩
  · refine z_tabOut (tgt := 241) zh dX8_perform_37 (sw_out q6) rfl ?_
    refine z_iconst zh dX8_perform_241 ki_0 ?_
    exact z_zret zh dX8_perform_242 (ra_01 (ra_w rl_0 (by decide) (by decide))) ⟨_, rfl, hG, (ra_w rl_0 (by decide) (by decide))⟩
set_option maxRecDepth 20000 in
theorem s_X8_plan (g : GE) {sp : Nat → Nat → Bool} {σ : Iv} {iv : Iv} {lv : Lv}   (hG : SI sp σ iv) (hq : Sq sp) (hL : sp 541 1 = false) : ConI g yX8_plan cX8_plan 1 (some .int) 7 [rf g 0] iv lv (fun r iv lv => SI sp σ iv ∧ Ra (-1) 24 r) := by
  refine con_intro (own := "RollingNets") (by decide +kernel) rfl (Nat.le_of_ble_eq_true rfl) (L0 := [some (rf g 0)]) rfl (fun Z zh => ?_)
  refine z_aloadnR zh dX8_plan_0 rfl ?_
  refine z_getf zh fl_RollingNets_25 dX8_plan_1 ck_X rfl rfl ?_
  refine z_callVI zh mv_RollingNets_149 dX8_plan_4 ck_R rfl (s_X6_read g  hG hq hL) ⟨Nat.le_of_ble_eq_true rfl, Nat.le_of_ble_eq_true rfl⟩ rfl rfl (Nat.le_of_ble_eq_true rfl) ?_
  rintro x1 iv lv ⟨hG, hx1⟩
  refine z_if_ne (tgt := 12) zh dX8_plan_7 rfl (fun q2 => ?_) (fun q2 => ?_)
  · have r3 : Ra 1 1 x1 := rb_ne_lo hx1 ra_z q2 (by decide)
    refine z_aloadnR zh dX8_plan_12 rfl ?_
    refine z_getf zh fl_RollingNets_12 dX8_plan_13 ck_X rfl rfl ?_
    refine z_getf zh fl_RollingNets_152 dX8_plan_16 (ck_H isH_1) rfl rfl ?_
    refine z_aloadnR zh dX8_plan_19 rfl ?_
    refine z_getf zh fl_RollingNets_25 dX8_plan_20 ck_X rfl rfl ?_
    refine z_getf zh fl_RollingNets_155 dX8_plan_23 ck_R rfl rfl ?_
    refine z_callVV zh mv_RollingNets_158 dX8_plan_26 (ck_T (isT_p isH_1)) rfl (s_X7_copyFrom g (isT_p isH_1) isT_r hG hq) ⟨Nat.le_of_ble_eq_true rfl, Nat.le_of_ble_eq_true rfl⟩ rfl rfl (Nat.le_of_ble_eq_true rfl) ?_
    rintro iv lv hG
    refine z_aloadnR zh dX8_plan_29 rfl ?_
    refine z_getf zh fl_RollingNets_12 dX8_plan_30 ck_X rfl rfl ?_
    refine z_iconst zh dX8_plan_33 ki_0 ?_
    refine z_putI zh fl_RollingNets_162 dX8_plan_34 (ck_H isH_1) rfl rfl (Nat.le_of_ble_eq_true rfl) (Or.inl rfl) ?_
    have hG : SI sp σ (upI iv 1 10 (nI 0)) := si_wH hG isH_1 0 (by decide) hsp (rx_none rfl)
    generalize upI iv 1 10 (nI 0) = iv at hG  ⊢
    refine z_aloadnR zh dX8_plan_37 rfl ?_
    refine z_getf zh fl_RollingNets_12 dX8_plan_38 ck_X rfl rfl ?_
    refine z_getf zh fl_RollingNets_152 dX8_plan_41 (ck_H isH_1) rfl rfl ?_
    obtain ⟨x4, ex4⟩ : ∃ z, iv (1 + 46) 2 = z := ⟨_, rfl⟩
    have hx4 : Ra 0 24 x4 := ra_of ex4 (si_T hG (isT_p isH_1))
    refine z_callVIp zh mv_RollingNets_51 dX8_plan_44 (ck_T (isT_p isH_1)) rfl (s_X7_size g (isT_p isH_1) ex4) ⟨Nat.le_of_ble_eq_true rfl, Nat.le_of_ble_eq_true rfl⟩ rfl rfl (Nat.le_of_ble_eq_true rfl) ?_
    exact z_iret zh dX8_plan_47 ⟨_, rfl, hG, (ra_w hx4 (by decide) (by decide))⟩
  · have r5 := rb_eq (u := 0) (v := 0) hx1 ra_z q2 (by decide) (by decide)
    refine z_iconst zh dX8_plan_10 ki_m1 ?_
    exact z_iret zh dX8_plan_11 ⟨_, rfl, hG, (ra_w rl_n1 (by decide) (by decide))⟩
set_option maxRecDepth 20000 in
theorem s_X8_queue (g : GE) {sp : Nat → Nat → Bool} {σ : Iv} {iv : Iv} {lv : Lv} {a1 : Int32} {a2 : Int32} {a3 : Int32}  (hG : SI sp σ iv)  : ConI g yX8_queue cX8_queue 5 (some .int) 5 [rf g 0, .int a1, .int a2, .int a3] iv lv (fun r iv lv => SI sp σ iv ∧ True) := by
  refine con_intro (own := "RollingNets") (by decide +kernel) rfl (Nat.le_of_ble_eq_true rfl) (L0 := [some (rf g 0), some (.int a1), some (.int a2), some (.int a3), none]) rfl (fun Z zh => ?_)
  refine z_iloadn zh dX8_queue_0 rfl ?_
  refine z_callSI zh ms_RollingNets_68 dX8_queue_1 (s_X8_isIssue g  hG) ⟨Nat.le_of_ble_eq_true rfl, Nat.le_of_ble_eq_true rfl⟩ rfl rfl (Nat.le_of_ble_eq_true rfl) ?_
  rintro x1 _ _ ⟨rfl, rfl, hx1, hz2⟩
  refine z_if_ne (tgt := 9) zh dX8_queue_4 rfl (fun q3 => ?_) (fun q3 => ?_)
  · have r4 : Ra 1 1 x1 := rb_ne_lo hx1 ra_z q3 (by decide)
    have r5 : Ra 0 5 a1 := (hz2 q3)
    refine z_aloadnR zh dX8_queue_9 rfl ?_
    refine z_getf zh fl_RollingNets_12 dX8_queue_10 ck_X rfl rfl ?_
    refine z_getf zh fl_RollingNets_236 dX8_queue_13 (ck_H isH_1) rfl rfl ?_
    refine z_astore zh dX8_queue_16 (by decide) (L' := [some (rf g 0), some (.int a1), some (.int a2), some (.int a3), some (rf g (1 + 54))]) rfl ?_
    refine z_aloadR zh dX8_queue_18 rfl ?_
    refine z_aloadnR zh dX8_queue_20 rfl ?_
    refine z_getf zh fl_RollingNets_12 dX8_queue_21 ck_X rfl rfl ?_
    refine z_iloadn zh dX8_queue_24 rfl ?_
    refine z_callVV zh mv_RollingNets_240 dX8_queue_25 (ck_line isH_1) rfl (s_X2_form g isH_1 isH_1 r5 hG) ⟨Nat.le_of_ble_eq_true rfl, Nat.le_of_ble_eq_true rfl⟩ rfl rfl (Nat.le_of_ble_eq_true rfl) ?_
    rintro iv lv hG
    refine z_iloadn zh dX8_queue_28 rfl ?_
    refine z_iconst zh dX8_queue_29 ki_m1 ?_
    refine z_icmp_ne (tgt := 39) zh dX8_queue_30 rfl (fun q6 => ?_) (fun q6 => ?_)
    · refine z_iloadn zh dX8_queue_39 rfl ?_
      refine z_if_lt (tgt := 52) zh dX8_queue_40 rfl (fun q7 => ?_) (fun q7 => ?_)
      · have r8 : Ra (-2147483648) (-1) a2 := rb_lt_l ra_z (ra_tt a2) q7 (by decide)
        refine z_iconst zh dX8_queue_52 ki_m1 ?_
        exact z_iret zh dX8_queue_53 ⟨_, rfl, hG, trivial⟩
      · have r9 : Ra 0 2147483647 a2 := rb_le_r ra_z (ra_tt a2) (rb_nlt q7) (by decide)
        refine z_iloadn zh dX8_queue_43 rfl ?_
        refine z_aloadR zh dX8_queue_44 rfl ?_
        refine y_getI zh fl_RollingNets_246 dX8_queue_46 (ck_line isH_1) rfl rfl (fun x10 ex10 => ?_)
        have hx10 : Ra 0 1200 x10 := ra_of ex10 (si_H hG isH_1 54 (by decide) rfl)
        refine z_icmp_lt (tgt := 54) zh dX8_queue_49 rfl (fun q11 => ?_) (fun q11 => ?_)
        · have r12 : Ra 0 1199 a2 := rb_lt_l hx10 r9 q11 (by decide)
          have r13 : Ra 1 1200 x10 := rb_lt_r r9 hx10 q11 (by decide)
          refine z_iloadn zh dX8_queue_54 rfl ?_
          by_cases q14 : 0 ≤ a3.toInt ∧ a3.toInt ≤ 2
          · obtain ⟨jw, hjw, hkw⟩ : ∃ jw : Nat, jw ≤ 2 ∧ a3.toInt = 0 + (jw : Int) := ⟨(a3.toInt - 0).toNat, by omega, by omega⟩
            rcases (by omega : jw = 0 ∨ jw = 1 ∨ jw = 2) with rfl | rfl | rfl
            · have r16 : Ra 0 0 a3 := sw_ra hkw rfl
              refine z_tabIn (off := 25) (tgt := 80) zh dX8_queue_55 (sw_lo r16 (by decide)) (sw_hi r16 (by decide)) (sw_at r16 (by decide)) rfl ?_
              refine z_aloadR zh dX8_queue_80 rfl ?_
              refine z_getf zh fl_RollingNets_248 dX8_queue_82 (ck_line isH_1) rfl rfl ?_
              refine z_iloadn zh dX8_queue_85 rfl ?_
              refine y_iald zh (ck_lineM isH_1) dX8_queue_86 r12 (by decide) (by decide) (fun x17 ex17 => ?_)
              have hx17 : Ra 0 11 x17 := ra_of ex17 (si_H hG isH_1 55 (by decide) rfl)
              exact z_iret zh dX8_queue_87 ⟨_, rfl, hG, trivial⟩
            · have r18 : Ra 1 1 a3 := sw_ra hkw rfl
              refine z_tabIn (off := 33) (tgt := 88) zh dX8_queue_55 (sw_lo r18 (by decide)) (sw_hi r18 (by decide)) (sw_at r18 (by decide)) rfl ?_
              refine z_aloadR zh dX8_queue_88 rfl ?_
              refine z_getf zh fl_RollingNets_251 dX8_queue_90 (ck_line isH_1) rfl rfl ?_
              refine z_iloadn zh dX8_queue_93 rfl ?_
              refine y_iald zh (ck_lineD isH_1) dX8_queue_94 r12 (by decide) (by decide) (fun x19 ex19 => ?_)
              have hx19 : Ra 0 99 x19 := ra_of ex19 (si_H hG isH_1 56 (by decide) rfl)
              exact z_iret zh dX8_queue_95 ⟨_, rfl, hG, trivial⟩
            · have r20 : Ra 2 2 a3 := sw_ra hkw rfl
              refine z_tabIn (off := 41) (tgt := 96) zh dX8_queue_55 (sw_lo r20 (by decide)) (sw_hi r20 (by decide)) (sw_at r20 (by decide)) rfl ?_
              refine z_aloadnR zh dX8_queue_96 rfl ?_
              refine z_getf zh fl_RollingNets_12 dX8_queue_97 ck_X rfl rfl ?_
              refine z_getf zh fl_RollingNets_72 dX8_queue_100 (ck_H isH_1) rfl rfl ?_
              refine z_iloadn zh dX8_queue_103 rfl ?_
              refine y_mald zh (ck_markets isH_1) dX8_queue_104 r5 (by decide) (by decide) (fun j21 hj21 _ _ => ?_)
              refine z_getf zh fl_RollingNets_205 dX8_queue_105 (ck_M (isM_of isH_1 hj21)) rfl rfl ?_
              refine z_aloadR zh dX8_queue_108 rfl ?_
              refine z_getf zh fl_RollingNets_248 dX8_queue_110 (ck_line isH_1) rfl rfl ?_
              refine z_iloadn zh dX8_queue_113 rfl ?_
              refine y_iald zh (ck_lineM isH_1) dX8_queue_114 r12 (by decide) (by decide) (fun x22 ex22 => ?_)
              have hx22 : Ra 0 11 x22 := ra_of ex22 (si_H hG isH_1 55 (by decide) rfl)
              refine y_gald zh (ck_lots (isM_of isH_1 hj21)) dX8_queue_115 hx22 (by decide) (by decide) (fun j23 hj23 _ _ => ?_)
              refine z_aloadR zh dX8_queue_116 rfl ?_
              refine z_getf zh fl_RollingNets_251 dX8_queue_118 (ck_line isH_1) rfl rfl ?_
              refine z_iloadn zh dX8_queue_121 rfl ?_
              refine y_iald zh (ck_lineD isH_1) dX8_queue_122 r12 (by decide) (by decide) (fun x24 ex24 => ?_)
              have hx24 : Ra 0 99 x24 := ra_of ex24 (si_H hG isH_1 56 (by decide) rfl)
              refine y_iald zh (ck_row (isM_of isH_1 hj21) hj23) dX8_queue_123 hx24 (by decide) (by decide) (fun x25 ex25 => ?_)
              exact z_iret zh dX8_queue_124 ⟨_, rfl, hG, trivial⟩
          · refine z_tabOut (tgt := 125) zh dX8_queue_55 (sw_out q14) rfl ?_
            refine z_iconst zh dX8_queue_125 ki_m1 ?_
            exact z_iret zh dX8_queue_126 ⟨_, rfl, hG, trivial⟩
        · refine z_iconst zh dX8_queue_52 ki_m1 ?_
          exact z_iret zh dX8_queue_53 ⟨_, rfl, hG, trivial⟩
    · have r26 := rb_eq (u := (-1)) (v := (-1)) (ra_tt a2) rl_n1 q6 (by decide) (by decide)
      refine z_aloadR zh dX8_queue_33 rfl ?_
      refine y_getI zh fl_RollingNets_246 dX8_queue_35 (ck_line isH_1) rfl rfl (fun x27 ex27 => ?_)
      have hx27 : Ra 0 1200 x27 := ra_of ex27 (si_H hG isH_1 54 (by decide) rfl)
      exact z_iret zh dX8_queue_38 ⟨_, rfl, hG, trivial⟩
  · have r28 := rb_eq (u := 0) (v := 0) hx1 ra_z q3 (by decide) (by decide)
    refine z_iconst zh dX8_queue_7 ki_m1 ?_
    exact z_iret zh dX8_queue_8 ⟨_, rfl, hG, trivial⟩
set_option maxRecDepth 20000 in
theorem s_X8_reached (g : GE) {sp : Nat → Nat → Bool} {σ : Iv} {iv : Iv} {lv : Lv} {a1 : Int32} {a2 : Int32}  (hG : SI sp σ iv)  : ConI g yX8_reached cX8_reached 4 (some .int) 4 [rf g 0, .int a1, .int a2] iv lv (fun r iv lv => SI sp σ iv ∧ Ra (-1) 12 r) := by
  refine con_intro (own := "RollingNets") (by decide +kernel) rfl (Nat.le_of_ble_eq_true rfl) (L0 := [some (rf g 0), some (.int a1), some (.int a2), none]) rfl (fun Z zh => ?_)
  refine z_aloadnR zh dX8_reached_0 rfl ?_
  refine z_getf zh fl_RollingNets_12 dX8_reached_1 ck_X rfl rfl ?_
  refine z_getf zh fl_RollingNets_47 dX8_reached_4 (ck_H isH_1) rfl rfl ?_
  refine z_astoren zh dX8_reached_7 (by decide) (L' := [some (rf g 0), some (.int a1), some (.int a2), some (rf g (1 + 7))]) rfl ?_
  refine z_aloadnR zh dX8_reached_8 rfl ?_
  refine z_iconst zh dX8_reached_9 ki_5 ?_
  refine z_iloadn zh dX8_reached_10 rfl ?_
  obtain ⟨x1, ex1⟩ : ∃ z, iv (1 + 7) 2 = z := ⟨_, rfl⟩
  have hx1 : Ra 0 200 x1 := ra_of ex1 (si_T hG (isT_d isH_1))
  refine z_callVI zh mv_RollingNets_171 dX8_reached_11 (ck_T (isT_d isH_1)) rfl (s_X7_get g (isT_d isH_1) ex1 hx1) ⟨Nat.le_of_ble_eq_true rfl, Nat.le_of_ble_eq_true rfl⟩ rfl rfl (Nat.le_of_ble_eq_true rfl) ?_
  rintro x2 _ _ ⟨rfl, rfl, gx2⟩
  refine z_iconst zh dX8_reached_14 ki_1 ?_
  refine z_icmp_ne (tgt := 29) zh dX8_reached_15 rfl (fun q3 => ?_) (fun q3 => ?_)
  · refine z_iconst zh dX8_reached_29 ki_m1 ?_
    exact z_iret zh dX8_reached_30 ⟨_, rfl, hG, (ra_w rl_n1 (by decide) (by decide))⟩
  · have r4 := rb_eq (u := 1) (v := 1) (ra_tt x2) rl_1 q3 (by decide) (by decide)
    refine z_aloadnR zh dX8_reached_18 rfl ?_
    refine z_bipush zh dX8_reached_19 kb_7 ?_
    refine z_iloadn zh dX8_reached_21 rfl ?_
    refine z_callVI zh mv_RollingNets_171 dX8_reached_22 (ck_T (isT_d isH_1)) rfl (s_X7_get g (isT_d isH_1) ex1 hx1) ⟨Nat.le_of_ble_eq_true rfl, Nat.le_of_ble_eq_true rfl⟩ rfl rfl (Nat.le_of_ble_eq_true rfl) ?_
    rintro x5 _ _ ⟨rfl, rfl, gx5⟩
    refine z_iconst zh dX8_reached_25 ki_1 ?_
    refine z_icmp_ge (tgt := 31) zh dX8_reached_26 rfl (fun q6 => ?_) (fun q6 => ?_)
    · have r7 : Ra 1 2147483647 x5 := rb_le_r rl_1 (ra_tt x5) q6 (by decide)
      refine z_aloadnR zh dX8_reached_31 rfl ?_
      refine z_getf zh fl_RollingNets_12 dX8_reached_32 ck_X rfl rfl ?_
      refine z_iloadn zh dX8_reached_35 rfl ?_
      refine z_aloadnR zh dX8_reached_36 rfl ?_
      refine z_bipush zh dX8_reached_37 kb_7 ?_
      refine z_iloadn zh dX8_reached_39 rfl ?_
      refine z_callVI zh mv_RollingNets_171 dX8_reached_40 (ck_T (isT_d isH_1)) rfl (s_X7_get g (isT_d isH_1) ex1 hx1) ⟨Nat.le_of_ble_eq_true rfl, Nat.le_of_ble_eq_true rfl⟩ rfl rfl (Nat.le_of_ble_eq_true rfl) ?_
      rintro x8 _ _ ⟨rfl, rfl, gx8⟩
      refine z_callSV zh ms_RollingNets_270 dX8_reached_43 (s_X5_layChain g isH_1 hG) ⟨Nat.le_of_ble_eq_true rfl, Nat.le_of_ble_eq_true rfl⟩ rfl rfl (Nat.le_of_ble_eq_true rfl) ?_
      rintro iv lv hG
      refine z_iloadn zh dX8_reached_46 rfl ?_
      by_cases lq0 : a2.toInt = 0
      · have r9 : Ra 0 0 a2 := ⟨Int.le_of_eq lq0.symm, Int.le_of_eq lq0⟩
        refine z_lookup (off := 25) (tgt := 72) zh dX8_reached_47 (by decide) (by rw [lq0]; rfl) rfl ?_
        refine z_aloadnR zh dX8_reached_72 rfl ?_
        refine z_getf zh fl_RollingNets_12 dX8_reached_73 ck_X rfl rfl ?_
        refine z_callSI zh ms_RollingNets_274 dX8_reached_76 (s_X5_lastOfChain g isH_1 hG) ⟨Nat.le_of_ble_eq_true rfl, Nat.le_of_ble_eq_true rfl⟩ rfl rfl (Nat.le_of_ble_eq_true rfl) ?_
        rintro x10 _ _ ⟨rfl, rfl, hx10⟩
        exact z_iret zh dX8_reached_79 ⟨_, rfl, hG, (ra_w hx10 (by decide) (by decide))⟩
      · by_cases lq1 : a2.toInt = 1
        · have r11 : Ra 1 1 a2 := ⟨Int.le_of_eq lq1.symm, Int.le_of_eq lq1⟩
          refine z_lookup (off := 33) (tgt := 80) zh dX8_reached_47 (by decide) (by rw [lq1]; rfl) rfl ?_
          refine z_aloadnR zh dX8_reached_80 rfl ?_
          refine z_getf zh fl_RollingNets_12 dX8_reached_81 ck_X rfl rfl ?_
          refine y_getI zh fl_RollingNets_278 dX8_reached_84 (ck_H isH_1) rfl rfl (fun x12 ex12 => ?_)
          have hx12 : Ra 0 12 x12 := ra_of ex12 (si_H hG isH_1 0 (by decide) rfl)
          exact z_iret zh dX8_reached_87 ⟨_, rfl, hG, (ra_w hx12 (by decide) (by decide))⟩
        · refine z_lookup (off := 41) (tgt := 88) zh dX8_reached_47 (by decide) (by simp [Op.lookupswitch.offset, lq0, lq1]) rfl ?_
          refine z_iconst zh dX8_reached_88 ki_m1 ?_
          exact z_iret zh dX8_reached_89 ⟨_, rfl, hG, (ra_w rl_n1 (by decide) (by decide))⟩
    · have r13 : Ra (-2147483648) 0 x5 := rb_lt_l rl_1 (ra_tt x5) (rb_nle q6) (by decide)
      refine z_iconst zh dX8_reached_29 ki_m1 ?_
      exact z_iret zh dX8_reached_30 ⟨_, rfl, hG, (ra_w rl_n1 (by decide) (by decide))⟩
set_option maxRecDepth 20000 in
theorem s_X8_run (g : GE) {sp : Nat → Nat → Bool} {σ : Iv} {iv : Iv} {lv : Lv} {a1 : Int32}  (hG : SI sp σ iv) (hq : Sq sp) : ConI g yX8_run cX8_run 6 (some .int) 7 [rf g 0, .int a1] iv lv (fun r iv lv => SI sp σ iv ∧ True) := by
  refine con_intro (own := "RollingNets") (by decide +kernel) rfl (Nat.le_of_ble_eq_true rfl) (L0 := [some (rf g 0), some (.int a1), none, none, none, none]) rfl (fun Z zh => ?_)
  refine z_iloadn zh dX8_run_0 rfl ?_
  refine z_iconst zh dX8_run_1 ki_1 ?_
  refine z_bipush zh dX8_run_2 kb_24 ?_
  refine z_callSI zh ms_RollingNets_43 dX8_run_4 (s_X8_within g) ⟨Nat.le_of_ble_eq_true rfl, Nat.le_of_ble_eq_true rfl⟩ rfl rfl (Nat.le_of_ble_eq_true rfl) ?_
  rintro x1 _ _ ⟨rfl, rfl, hx1, hz2⟩
  refine z_if_ne (tgt := 12) zh dX8_run_7 rfl (fun q3 => ?_) (fun q3 => ?_)
  · have r4 : Ra 1 1 x1 := rb_ne_lo hx1 ra_z q3 (by decide)
    have r5 : Ra 1 24 a1 := (rb_in rl_1 rl_24 (hz2 q3))
    refine z_iconst zh dX8_run_12 ki_0 ?_
    refine z_istoren zh dX8_run_13 (by decide) (L' := [some (rf g 0), some (.int a1), some (.int (nI 0)), none, none, none]) rfl ?_
    refine z_iconst zh dX8_run_14 ki_0 ?_
    refine z_istoren zh dX8_run_15 (by decide) (L' := [some (rf g 0), some (.int a1), some (.int (nI 0)), some (.int (nI 0)), none, none]) rfl ?_
    have J16 : ∀ (n : Nat) (iv : Iv) (lv : Lv) (x6 : Int32) (x7 : Int32), SI sp σ iv → Ra 0 24 x7 → 24 - x7.toInt < (n : Int) → Z 16 [some (rf g 0), some (.int a1), some (.int x6), some (.int x7), none, none] [] iv lv := by
      intro n
      induction n with
      | zero => intro iv lv x6 x7 hG hx7 hn16; exact (ms_uz hx7 hn16).elim
      | succ n ih16 =>
        intro iv lv x6 x7 hG hx7 hn16
        refine z_iloadn zh dX8_run_16 rfl ?_
        refine z_iloadn zh dX8_run_17 rfl ?_
        refine z_icmp_ge (tgt := 138) zh dX8_run_18 rfl (fun q8 => ?_) (fun q8 => ?_)
        · have r9 : Ra 1 24 x7 := rb_le_r r5 hx7 q8 (by decide)
          refine z_iloadn zh dX8_run_138 rfl ?_
          exact z_iret zh dX8_run_139 ⟨_, rfl, hG, trivial⟩
        · have r10 : Ra 0 23 x7 := rb_lt_l r5 hx7 (rb_nle q8) (by decide)
          refine z_aloadnR zh dX8_run_21 rfl ?_
          refine z_getf zh fl_RollingNets_12 dX8_run_22 ck_X rfl rfl ?_
          refine y_getI zh fl_RollingNets_162 dX8_run_25 (ck_H isH_1) rfl rfl (fun x11 ex11 => ?_)
          refine z_aloadnR zh dX8_run_28 rfl ?_
          refine z_getf zh fl_RollingNets_12 dX8_run_29 ck_X rfl rfl ?_
          refine z_getf zh fl_RollingNets_152 dX8_run_32 (ck_H isH_1) rfl rfl ?_
          obtain ⟨x12, ex12⟩ : ∃ z, iv (1 + 46) 2 = z := ⟨_, rfl⟩
          have hx12 : Ra 0 24 x12 := ra_of ex12 (si_T hG (isT_p isH_1))
          refine z_callVIp zh mv_RollingNets_51 dX8_run_35 (ck_T (isT_p isH_1)) rfl (s_X7_size g (isT_p isH_1) ex12) ⟨Nat.le_of_ble_eq_true rfl, Nat.le_of_ble_eq_true rfl⟩ rfl rfl (Nat.le_of_ble_eq_true rfl) ?_
          refine z_icmp_ge (tgt := 138) zh dX8_run_38 rfl (fun q13 => ?_) (fun q13 => ?_)
          · have r14 : Ra 0 2147483647 x11 := rb_le_r hx12 (ra_tt x11) q13 (by decide)
            refine z_iloadn zh dX8_run_138 rfl ?_
            exact z_iret zh dX8_run_139 ⟨_, rfl, hG, trivial⟩
          · have r15 : Ra (-2147483648) 23 x11 := rb_lt_l hx12 (ra_tt x11) (rb_nle q13) (by decide)
            refine z_aloadnR zh dX8_run_41 rfl ?_
            refine z_getf zh fl_RollingNets_12 dX8_run_42 ck_X rfl rfl ?_
            refine z_getI (x := x11) zh fl_RollingNets_162 dX8_run_45 (ck_H isH_1) rfl rfl ex11 ?_
            refine z_istore zh dX8_run_48 (by decide) (L' := [some (rf g 0), some (.int a1), some (.int x6), some (.int x7), some (.int x11), none]) rfl ?_
            refine z_aloadnR zh dX8_run_50 rfl ?_
            refine z_getf zh fl_RollingNets_12 dX8_run_51 ck_X rfl rfl ?_
            refine z_dup zh dX8_run_54 rfl ?_
            refine z_getI (x := x11) zh fl_RollingNets_162 dX8_run_55 (ck_H isH_1) rfl rfl ex11 ?_
            refine z_iconst zh dX8_run_58 ki_1 ?_
            refine y_iadd zh dX8_run_59 r15 rl_1 (u := (-2147483647)) (v := 24) rfl rfl (by decide) (by decide) (fun x16 hc16 hx16 => ?_)
            refine z_putI zh fl_RollingNets_162 dX8_run_60 (ck_H isH_1) rfl rfl (Nat.le_of_ble_eq_true rfl) (Or.inl rfl) ?_
            have hG : SI sp σ (upI iv 1 10 x16) := si_wH hG isH_1 0 (by decide) hsp (rx_none rfl)
            have em17 := (upI_ne (iv := iv) (k := 1) (j := 10) (x := x16) (Or.inl (by omega))).trans ex12
            generalize upI iv 1 10 x16 = iv at hG em17 ⊢
            refine z_aloadnR zh dX8_run_63 rfl ?_
            refine z_getf zh fl_RollingNets_12 dX8_run_64 ck_X rfl rfl ?_
            refine z_getf zh fl_RollingNets_152 dX8_run_67 (ck_H isH_1) rfl rfl ?_
            refine z_iconst zh dX8_run_70 ki_0 ?_
            refine z_iload zh dX8_run_71 rfl ?_
            refine z_callVI zh mv_RollingNets_171 dX8_run_73 (ck_T (isT_p isH_1)) rfl (s_X7_get g (isT_p isH_1) em17 hx12) ⟨Nat.le_of_ble_eq_true rfl, Nat.le_of_ble_eq_true rfl⟩ rfl rfl (Nat.le_of_ble_eq_true rfl) ?_
            rintro x18 _ _ ⟨rfl, rfl, gx18⟩
            refine z_bipush zh dX8_run_76 kb_9 ?_
            have J86 : ∀ (iv : Iv) (lv : Lv) (x19 : Int32), SI sp σ iv → Ra 0 1 x19 → Z 86 [some (rf g 0), some (.int a1), some (.int x6), some (.int x7), some (.int x11), none] [.int x19] iv lv := by
              intro iv lv x19 hG hx19
              refine z_istore zh dX8_run_86 (by decide) (L' := [some (rf g 0), some (.int a1), some (.int x6), some (.int x7), some (.int x11), some (.int x19)]) rfl ?_
              refine z_iload zh dX8_run_88 rfl ?_
              have J132 : ∀ (iv : Iv) (lv : Lv) (x20 : Int32), SI sp σ iv → Z 132 [some (rf g 0), some (.int a1), some (.int x20), some (.int x7), some (.int x11), some (.int x19)] [] iv lv := by
                intro iv lv x20 hG
                refine y_iinc (L' := fun z => [some (rf g 0), some (.int a1), some (.int x20), some (.int z), some (.int x11), some (.int x19)]) zh dX8_run_132 (by decide) rfl (by decide +kernel) r10 (u := 1) (v := 24) rfl rfl (by decide) (by decide) (fun _ => rfl) (fun x21 hc21 hx21 => ?_)
                refine z_goto (tgt := 16) zh dX8_run_135 rfl ?_
                refine z_forget zh [true, true, true, true, false, false] (L2 := [some (rf g 0), some (.int a1), some (.int x20), some (.int x21), none, none]) rfl ?_
                exact ih16 iv lv x20 x21 hG (ra_w hx21 (by decide) (by decide)) (ms_up hc21 (by decide) hn16)
              have J129 : ∀ (iv : Iv) (lv : Lv), SI sp σ iv → Z 129 [some (rf g 0), some (.int a1), some (.int x6), some (.int x7), some (.int x11), some (.int x19)] [] iv lv := by
                intro iv lv hG
                refine y_iincT (L' := fun z => [some (rf g 0), some (.int a1), some (.int z), some (.int x7), some (.int x11), some (.int x19)]) zh dX8_run_129 (by decide) rfl (fun _ => rfl) (fun x22 => ?_)
                exact J132 iv lv x22 hG
              refine z_if_eq (tgt := 120) zh dX8_run_90 rfl (fun q23 => ?_) (fun q23 => ?_)
              · have r24 := rb_eq (u := 0) (v := 0) hx19 ra_z q23 (by decide) (by decide)
                refine z_aloadnR zh dX8_run_120 rfl ?_
                refine z_iload zh dX8_run_121 rfl ?_
                refine z_callVI zh mv_RollingNets_175 dX8_run_123 ck_X rfl (s_X8_perform g r15 hG hq) ⟨Nat.le_of_ble_eq_true rfl, Nat.le_of_ble_eq_true rfl⟩ rfl rfl (Nat.le_of_ble_eq_true rfl) ?_
                rintro x25 iv lv ⟨hG, hx25⟩
                refine z_if_eq (tgt := 132) zh dX8_run_126 rfl (fun q26 => ?_) (fun q26 => ?_)
                · have r27 := rb_eq (u := 0) (v := 0) hx25 ra_z q26 (by decide) (by decide)
                  exact J132 iv lv x6 hG
                · have r28 : Ra 1 1 x25 := rb_ne_lo hx25 ra_z q26 (by decide)
                  exact J129 iv lv hG
              · have r29 : Ra 1 1 x19 := rb_ne_lo hx19 ra_z q23 (by decide)
                refine z_aloadnR zh dX8_run_93 rfl ?_
                refine z_getf zh fl_RollingNets_12 dX8_run_94 ck_X rfl rfl ?_
                refine z_aloadnR zh dX8_run_97 rfl ?_
                refine z_getf zh fl_RollingNets_12 dX8_run_98 ck_X rfl rfl ?_
                refine z_getf zh fl_RollingNets_152 dX8_run_101 (ck_H isH_1) rfl rfl ?_
                refine z_iconst zh dX8_run_104 ki_1 ?_
                refine z_iload zh dX8_run_105 rfl ?_
                obtain ⟨x30, ex30⟩ : ∃ z, iv (1 + 46) 2 = z := ⟨_, rfl⟩
                have hx30 : Ra 0 24 x30 := ra_of ex30 (si_T hG (isT_p isH_1))
                refine z_callVI zh mv_RollingNets_171 dX8_run_107 (ck_T (isT_p isH_1)) rfl (s_X7_get g (isT_p isH_1) ex30 hx30) ⟨Nat.le_of_ble_eq_true rfl, Nat.le_of_ble_eq_true rfl⟩ rfl rfl (Nat.le_of_ble_eq_true rfl) ?_
                rintro x31 _ _ ⟨rfl, rfl, gx31⟩
                refine z_callSI zh ms_RollingNets_123 dX8_run_110 (s_X4_pass g isH_1 hG) ⟨Nat.le_of_ble_eq_true rfl, Nat.le_of_ble_eq_true rfl⟩ rfl rfl (Nat.le_of_ble_eq_true rfl) ?_
                rintro x32 iv lv ⟨hG, _⟩
                refine z_iconst zh dX8_run_113 ki_m1 ?_
                refine z_icmp_eq (tgt := 132) zh dX8_run_114 rfl (fun q33 => ?_) (fun q33 => ?_)
                · have r34 := rb_eq (u := (-1)) (v := (-1)) (ra_tt x32) rl_n1 q33 (by decide) (by decide)
                  exact J132 iv lv x6 hG
                · refine z_goto (tgt := 129) zh dX8_run_117 rfl ?_
                  exact J129 iv lv hG
            refine z_icmp_ne (tgt := 85) zh dX8_run_78 rfl (fun q35 => ?_) (fun q35 => ?_)
            · refine z_iconst zh dX8_run_85 ki_0 ?_
              exact J86 iv lv (nI 0) hG (ra_w rl_0 (by decide) (by decide))
            · have r36 := rb_eq (u := 9) (v := 9) (ra_tt x18) rl_9 q35 (by decide) (by decide)
              refine z_iconst zh dX8_run_81 ki_1 ?_
              refine z_goto (tgt := 86) zh dX8_run_82 rfl ?_
              exact J86 iv lv (nI 1) hG (ra_w rl_1 (by decide) (by decide))
    exact J16 25 iv lv (nI 0) (nI 0) hG (ra_w rl_0 (by decide) (by decide)) (ms_u0 rl_0 (by decide))
  · have r37 := rb_eq (u := 0) (v := 0) hx1 ra_z q3 (by decide) (by decide)
    refine z_iconst zh dX8_run_10 ki_m1 ?_
    exact z_iret zh dX8_run_11 ⟨_, rfl, hG, trivial⟩
set_option maxRecDepth 20000 in
theorem s_X8_split (g : GE) {sp : Nat → Nat → Bool} {σ : Iv} {iv : Iv} {lv : Lv} {a1 : Int32} {a2 : Int32}  (hG : SI sp σ iv)  : ConI g yX8_split cX8_split 3 (some .boolean) 4 [rf g 0, .int a1, .int a2] iv lv (fun r iv lv => SI sp σ iv ∧ Ra 0 1 r ∧ (¬ r = 0 → Ra 0 5 a1) ∧ (¬ r = 0 → Ra 2 5 a2)) := by
  refine con_intro (own := "RollingNets") (by decide +kernel) rfl (Nat.le_of_ble_eq_true rfl) (L0 := [some (rf g 0), some (.int a1), some (.int a2)]) rfl (fun Z zh => ?_)
  refine z_iloadn zh dX8_split_0 rfl ?_
  refine z_callSI zh ms_RollingNets_68 dX8_split_1 (s_X8_isIssue g  hG) ⟨Nat.le_of_ble_eq_true rfl, Nat.le_of_ble_eq_true rfl⟩ rfl rfl (Nat.le_of_ble_eq_true rfl) ?_
  rintro x1 _ _ ⟨rfl, rfl, hx1, hz2⟩
  refine z_if_eq (tgt := 27) zh dX8_split_4 rfl (fun q3 => ?_) (fun q3 => ?_)
  · have r4 := rb_eq (u := 0) (v := 0) hx1 ra_z q3 (by decide) (by decide)
    refine z_iconst zh dX8_split_27 ki_0 ?_
    exact z_zret zh dX8_split_28 (ra_01 (ra_w rl_0 (by decide) (by decide))) ⟨_, rfl, hG, (ra_w rl_0 (by decide) (by decide)), (fun q => absurd rfl q), (fun q => absurd rfl q)⟩
  · have r5 : Ra 1 1 x1 := rb_ne_lo hx1 ra_z q3 (by decide)
    have r6 : Ra 0 5 a1 := (hz2 q3)
    refine z_iloadn zh dX8_split_7 rfl ?_
    refine z_iconst zh dX8_split_8 ki_2 ?_
    refine z_iconst zh dX8_split_9 ki_5 ?_
    refine z_callSI zh ms_RollingNets_43 dX8_split_10 (s_X8_within g) ⟨Nat.le_of_ble_eq_true rfl, Nat.le_of_ble_eq_true rfl⟩ rfl rfl (Nat.le_of_ble_eq_true rfl) ?_
    rintro x7 _ _ ⟨rfl, rfl, hx7, hz8⟩
    refine z_if_eq (tgt := 27) zh dX8_split_13 rfl (fun q9 => ?_) (fun q9 => ?_)
    · have r10 := rb_eq (u := 0) (v := 0) hx7 ra_z q9 (by decide) (by decide)
      refine z_iconst zh dX8_split_27 ki_0 ?_
      exact z_zret zh dX8_split_28 (ra_01 (ra_w rl_0 (by decide) (by decide))) ⟨_, rfl, hG, (ra_w rl_0 (by decide) (by decide)), (fun q => absurd rfl q), (fun q => absurd rfl q)⟩
    · have r11 : Ra 1 1 x7 := rb_ne_lo hx7 ra_z q9 (by decide)
      have r12 : Ra 2 5 a2 := (rb_in rl_2 rl_5 (hz8 q9))
      refine z_aloadnR zh dX8_split_16 rfl ?_
      refine z_getf zh fl_RollingNets_12 dX8_split_17 ck_X rfl rfl ?_
      refine z_iloadn zh dX8_split_20 rfl ?_
      refine z_callVI zh mv_RollingNets_106 dX8_split_21 (ck_H isH_1) rfl (s_X1_hasOpen g isH_1 r6 hG) ⟨Nat.le_of_ble_eq_true rfl, Nat.le_of_ble_eq_true rfl⟩ rfl rfl (Nat.le_of_ble_eq_true rfl) ?_
      rintro x13 _ _ ⟨rfl, rfl, hx13⟩
      refine z_if_eq (tgt := 29) zh dX8_split_24 rfl (fun q14 => ?_) (fun q14 => ?_)
      · have r15 := rb_eq (u := 0) (v := 0) hx13 ra_z q14 (by decide) (by decide)
        refine z_aloadnR zh dX8_split_29 rfl ?_
        refine z_getf zh fl_RollingNets_12 dX8_split_30 ck_X rfl rfl ?_
        refine z_getf zh fl_RollingNets_72 dX8_split_33 (ck_H isH_1) rfl rfl ?_
        refine z_iloadn zh dX8_split_36 rfl ?_
        refine y_mald zh (ck_markets isH_1) dX8_split_37 r6 (by decide) (by decide) (fun j16 hj16 _ _ => ?_)
        refine z_iloadn zh dX8_split_38 rfl ?_
        refine z_aloadnR zh dX8_split_39 rfl ?_
        refine z_getf zh fl_RollingNets_12 dX8_split_40 ck_X rfl rfl ?_
        refine z_callVI zh mv_RollingNets_109 dX8_split_43 (ck_H isH_1) rfl (s_X1_members g isH_1 hG) ⟨Nat.le_of_ble_eq_true rfl, Nat.le_of_ble_eq_true rfl⟩ rfl rfl (Nat.le_of_ble_eq_true rfl) ?_
        rintro x17 _ _ ⟨rfl, rfl, hx17⟩
        refine z_callVI zh mv_RollingNets_112 dX8_split_46 (ck_M (isM_of isH_1 hj16)) rfl (s_X3_multiply g (isM_of isH_1 hj16) r12 hx17 hG) ⟨Nat.le_of_ble_eq_true rfl, Nat.le_of_ble_eq_true rfl⟩ rfl rfl (Nat.le_of_ble_eq_true rfl) ?_
        rintro x18 iv lv ⟨hG, hx18⟩
        exact z_zret zh dX8_split_49 (ra_01 hx18) ⟨_, rfl, hG, hx18, (fun _ => r6), (fun _ => r12)⟩
      · have r19 : Ra 1 1 x13 := rb_ne_lo hx13 ra_z q14 (by decide)
        refine z_iconst zh dX8_split_27 ki_0 ?_
        exact z_zret zh dX8_split_28 (ra_01 (ra_w rl_0 (by decide) (by decide))) ⟨_, rfl, hG, (ra_w rl_0 (by decide) (by decide)), (fun q => absurd rfl q), (fun q => absurd rfl q)⟩
set_option maxRecDepth 20000 in
theorem s_X8_statement (g : GE) {sp : Nat → Nat → Bool} {σ : Iv} {iv : Iv} {lv : Lv} {a1 : Int32} {a2 : Int32} {a3 : Int32}  (hG : SI sp σ iv)  : ConI g yX8_statement cX8_statement 4 (some .int) 3 [rf g 0, .int a1, .int a2, .int a3] iv lv (fun r iv' lv' => iv = iv' ∧ lv = lv' ∧ True) := by
  refine con_intro (own := "RollingNets") (by decide +kernel) rfl (Nat.le_of_ble_eq_true rfl) (L0 := [some (rf g 0), some (.int a1), some (.int a2), some (.int a3)]) rfl (fun Z zh => ?_)
  refine z_aloadnR zh dX8_statement_0 rfl ?_
  refine z_getf zh fl_RollingNets_12 dX8_statement_1 ck_X rfl rfl ?_
  refine z_iloadn zh dX8_statement_4 rfl ?_
  refine z_callVI zh mv_RollingNets_60 dX8_statement_5 (ck_H isH_1) rfl (s_X1_hasMember g isH_1 hG) ⟨Nat.le_of_ble_eq_true rfl, Nat.le_of_ble_eq_true rfl⟩ rfl rfl (Nat.le_of_ble_eq_true rfl) ?_
  rintro x1 _ _ ⟨rfl, rfl, hx1, hz2⟩
  refine z_if_eq (tgt := 20) zh dX8_statement_8 rfl (fun q3 => ?_) (fun q3 => ?_)
  · have r4 := rb_eq (u := 0) (v := 0) hx1 ra_z q3 (by decide) (by decide)
    refine z_iconst zh dX8_statement_20 ki_m1 ?_
    exact z_iret zh dX8_statement_21 ⟨_, rfl, rfl, rfl, trivial⟩
  · have r5 : Ra 1 1 x1 := rb_ne_lo hx1 ra_z q3 (by decide)
    have r6 : Ra 0 11 a1 := (hz2 q3)
    refine z_iloadn zh dX8_statement_11 rfl ?_
    refine z_iconst zh dX8_statement_12 ki_0 ?_
    refine z_iconst zh dX8_statement_13 ki_4 ?_
    refine z_callSI zh ms_RollingNets_43 dX8_statement_14 (s_X8_within g) ⟨Nat.le_of_ble_eq_true rfl, Nat.le_of_ble_eq_true rfl⟩ rfl rfl (Nat.le_of_ble_eq_true rfl) ?_
    rintro x7 _ _ ⟨rfl, rfl, hx7, hz8⟩
    refine z_if_ne (tgt := 22) zh dX8_statement_17 rfl (fun q9 => ?_) (fun q9 => ?_)
    · have r10 : Ra 1 1 x7 := rb_ne_lo hx7 ra_z q9 (by decide)
      have r11 : Ra 0 4 a2 := (rb_in rl_0 rl_4 (hz8 q9))
      refine z_aloadnR zh dX8_statement_22 rfl ?_
      refine z_getf zh fl_RollingNets_12 dX8_statement_23 ck_X rfl rfl ?_
      refine z_getf zh fl_RollingNets_221 dX8_statement_26 (ck_H isH_1) rfl rfl ?_
      refine z_iloadn zh dX8_statement_29 rfl ?_
      refine z_iloadn zh dX8_statement_30 rfl ?_
      refine z_iloadn zh dX8_statement_31 rfl ?_
      have J40 : ∀ (x12 : Int32), Ra 3 4 x12 → Z 40 [some (rf g 0), some (.int a1), some (.int a2), some (.int a3)] [.int x12, .int a2, .int a1, rf g (1 + 38)] iv lv := by
        intro x12 hx12
        refine z_callSI zh ms_RollingNets_257 dX8_statement_40 (s_X0_booked g (isT_b isH_1) r6 r11 hx12 hG) ⟨Nat.le_of_ble_eq_true rfl, Nat.le_of_ble_eq_true rfl⟩ rfl rfl (Nat.le_of_ble_eq_true rfl) ?_
        rintro x13 _ _ ⟨rfl, rfl, _⟩
        exact z_iret zh dX8_statement_43 ⟨_, rfl, rfl, rfl, trivial⟩
      refine z_if_eq (tgt := 39) zh dX8_statement_32 rfl (fun q14 => ?_) (fun q14 => ?_)
      · have r15 := rb_eq (u := 0) (v := 0) (ra_tt a3) ra_z q14 (by decide) (by decide)
        refine z_iconst zh dX8_statement_39 ki_3 ?_
        exact J40 (nI 3) (ra_w rl_3 (by decide) (by decide))
      · refine z_iconst zh dX8_statement_35 ki_4 ?_
        refine z_goto (tgt := 40) zh dX8_statement_36 rfl ?_
        exact J40 (nI 4) (ra_w rl_4 (by decide) (by decide))
    · have r16 := rb_eq (u := 0) (v := 0) hx7 ra_z q9 (by decide) (by decide)
      refine z_iconst zh dX8_statement_20 ki_m1 ?_
      exact z_iret zh dX8_statement_21 ⟨_, rfl, rfl, rfl, trivial⟩
set_option maxRecDepth 20000 in
theorem s_X8_stress (g : GE) {sp : Nat → Nat → Bool} {σ : Iv} {iv : Iv} {lv : Lv} {a1 : Int32}  (hG : SI sp σ iv)  : ConI g yX8_stress cX8_stress 2 (some .int) 3 [rf g 0, .int a1] iv lv (fun r iv' lv' => iv = iv' ∧ lv = lv' ∧ True) := by
  refine con_intro (own := "RollingNets") (by decide +kernel) rfl (Nat.le_of_ble_eq_true rfl) (L0 := [some (rf g 0), some (.int a1)]) rfl (fun Z zh => ?_)
  refine z_iloadn zh dX8_stress_0 rfl ?_
  refine z_bipush zh dX8_stress_1 kb_n99 ?_
  refine z_bipush zh dX8_stress_3 kb_99 ?_
  refine z_callSI zh ms_RollingNets_43 dX8_stress_5 (s_X8_within g) ⟨Nat.le_of_ble_eq_true rfl, Nat.le_of_ble_eq_true rfl⟩ rfl rfl (Nat.le_of_ble_eq_true rfl) ?_
  rintro x1 _ _ ⟨rfl, rfl, hx1, hz2⟩
  refine z_if_eq (tgt := 22) zh dX8_stress_8 rfl (fun q3 => ?_) (fun q3 => ?_)
  · have r4 := rb_eq (u := 0) (v := 0) hx1 ra_z q3 (by decide) (by decide)
    refine z_iconst zh dX8_stress_22 ki_m1 ?_
    exact z_iret zh dX8_stress_23 ⟨_, rfl, rfl, rfl, trivial⟩
  · have r5 : Ra 1 1 x1 := rb_ne_lo hx1 ra_z q3 (by decide)
    have r6 : Ra (-99) 99 a1 := (rb_in rl_n99 rl_99 (hz2 q3))
    refine z_aloadnR zh dX8_stress_11 rfl ?_
    refine z_getf zh fl_RollingNets_12 dX8_stress_12 ck_X rfl rfl ?_
    refine z_iloadn zh dX8_stress_15 rfl ?_
    refine z_callSI zh ms_RollingNets_233 dX8_stress_16 (s_X0_sunk g isH_1 r6 hG) ⟨Nat.le_of_ble_eq_true rfl, Nat.le_of_ble_eq_true rfl⟩ rfl rfl (Nat.le_of_ble_eq_true rfl) ?_
    rintro x7 _ _ ⟨rfl, rfl, _⟩
    refine z_goto (tgt := 23) zh dX8_stress_19 rfl ?_
    exact z_iret zh dX8_stress_23 ⟨_, rfl, rfl, rfl, trivial⟩
set_option maxRecDepth 20000 in
theorem s_X8_suspend (g : GE) {sp : Nat → Nat → Bool} {σ : Iv} {iv : Iv} {lv : Lv} {a1 : Int32} {a2 : Int32}  (hG : SI sp σ iv)  : ConI g yX8_suspend cX8_suspend 3 (some .boolean) 2 [rf g 0, .int a1, .int a2] iv lv (fun r iv lv => SI sp σ iv ∧ Ra 0 1 r ∧ (¬ r = 0 → Ra 0 11 a1)) := by
  refine con_intro (own := "RollingNets") (by decide +kernel) rfl (Nat.le_of_ble_eq_true rfl) (L0 := [some (rf g 0), some (.int a1), some (.int a2)]) rfl (fun Z zh => ?_)
  refine z_aloadnR zh dX8_suspend_0 rfl ?_
  refine z_getf zh fl_RollingNets_12 dX8_suspend_1 ck_X rfl rfl ?_
  refine z_iloadn zh dX8_suspend_4 rfl ?_
  refine z_callVI zh mv_RollingNets_60 dX8_suspend_5 (ck_H isH_1) rfl (s_X1_hasMember g isH_1 hG) ⟨Nat.le_of_ble_eq_true rfl, Nat.le_of_ble_eq_true rfl⟩ rfl rfl (Nat.le_of_ble_eq_true rfl) ?_
  rintro x1 _ _ ⟨rfl, rfl, hx1, hz2⟩
  refine z_if_ne (tgt := 13) zh dX8_suspend_8 rfl (fun q3 => ?_) (fun q3 => ?_)
  · have r4 : Ra 1 1 x1 := rb_ne_lo hx1 ra_z q3 (by decide)
    have r5 : Ra 0 11 a1 := (hz2 q3)
    refine z_aloadnR zh dX8_suspend_13 rfl ?_
    refine z_getf zh fl_RollingNets_12 dX8_suspend_14 ck_X rfl rfl ?_
    refine z_getf zh fl_RollingNets_115 dX8_suspend_17 (ck_H isH_1) rfl rfl ?_
    refine z_iloadn zh dX8_suspend_20 rfl ?_
    refine z_iloadn zh dX8_suspend_21 rfl ?_
    refine z_zast zh (ck_susp isH_1) dX8_suspend_22 (ra_in r5 (by decide) (by decide)) ?_
    have hG : SI sp σ (upI iv (1 + 5) a1.toNatClampNeg (vp_nar .boolean a2)) := si_wH hG isH_1 5 (by decide) rfl (rx_none rfl)
    generalize upI iv (1 + 5) a1.toNatClampNeg (vp_nar .boolean a2) = iv at hG  ⊢
    refine z_iconst zh dX8_suspend_23 ki_1 ?_
    exact z_zret zh dX8_suspend_24 (ra_01 (ra_w rl_1 (by decide) (by decide))) ⟨_, rfl, hG, (ra_w rl_1 (by decide) (by decide)), (fun _ => r5)⟩
  · have r6 := rb_eq (u := 0) (v := 0) hx1 ra_z q3 (by decide) (by decide)
    refine z_iconst zh dX8_suspend_11 ki_0 ?_
    exact z_zret zh dX8_suspend_12 (ra_01 (ra_w rl_0 (by decide) (by decide))) ⟨_, rfl, hG, (ra_w rl_0 (by decide) (by decide)), (fun q => absurd rfl q)⟩
set_option maxRecDepth 20000 in
theorem s_X8_tomorrow (g : GE) {sp : Nat → Nat → Bool} {σ : Iv} {iv : Iv} {lv : Lv} {a1 : Int32} {a2 : Int32} {a3 : Int32}  (hG : SI sp σ iv) (hq : Sq sp) : ConI g yX8_tomorrow cX8_tomorrow 4 (some .int) 7 [rf g 0, .int a1, .int a2, .int a3] iv lv (fun r iv lv => SI sp σ iv ∧ True) := by
  refine con_intro (own := "RollingNets") (by decide +kernel) rfl (Nat.le_of_ble_eq_true rfl) (L0 := [some (rf g 0), some (.int a1), some (.int a2), some (.int a3)]) rfl (fun Z zh => ?_)
  refine z_aloadnR zh dX8_tomorrow_0 rfl ?_
  refine z_getf zh fl_RollingNets_12 dX8_tomorrow_1 ck_X rfl rfl ?_
  refine z_iloadn zh dX8_tomorrow_4 rfl ?_
  refine z_callVI zh mv_RollingNets_60 dX8_tomorrow_5 (ck_H isH_1) rfl (s_X1_hasMember g isH_1 hG) ⟨Nat.le_of_ble_eq_true rfl, Nat.le_of_ble_eq_true rfl⟩ rfl rfl (Nat.le_of_ble_eq_true rfl) ?_
  rintro x1 _ _ ⟨rfl, rfl, hx1, hz2⟩
  refine z_if_eq (tgt := 30) zh dX8_tomorrow_8 rfl (fun q3 => ?_) (fun q3 => ?_)
  · have r4 := rb_eq (u := 0) (v := 0) hx1 ra_z q3 (by decide) (by decide)
    refine z_ldc zh dX8_tomorrow_30 kc_RollingNets_194 ?_
    exact z_iret zh dX8_tomorrow_32 ⟨_, rfl, hG, trivial⟩
  · have r5 : Ra 1 1 x1 := rb_ne_lo hx1 ra_z q3 (by decide)
    have r6 : Ra 0 11 a1 := (hz2 q3)
    refine z_iloadn zh dX8_tomorrow_11 rfl ?_
    refine z_callSI zh ms_RollingNets_68 dX8_tomorrow_12 (s_X8_isIssue g  hG) ⟨Nat.le_of_ble_eq_true rfl, Nat.le_of_ble_eq_true rfl⟩ rfl rfl (Nat.le_of_ble_eq_true rfl) ?_
    rintro x7 _ _ ⟨rfl, rfl, hx7, hz8⟩
    refine z_if_eq (tgt := 30) zh dX8_tomorrow_15 rfl (fun q9 => ?_) (fun q9 => ?_)
    · have r10 := rb_eq (u := 0) (v := 0) hx7 ra_z q9 (by decide) (by decide)
      refine z_ldc zh dX8_tomorrow_30 kc_RollingNets_194 ?_
      exact z_iret zh dX8_tomorrow_32 ⟨_, rfl, hG, trivial⟩
    · have r11 : Ra 1 1 x7 := rb_ne_lo hx7 ra_z q9 (by decide)
      have r12 : Ra 0 5 a2 := (hz8 q9)
      refine z_aloadnR zh dX8_tomorrow_18 rfl ?_
      refine z_getf zh fl_RollingNets_12 dX8_tomorrow_19 ck_X rfl rfl ?_
      refine y_getI zh fl_RollingNets_261 dX8_tomorrow_22 (ck_H isH_1) rfl rfl (fun x13 ex13 => ?_)
      have hx13 : Ra 0 99 x13 := ra_of ex13 (si_H hG isH_1 0 (by decide) rfl)
      refine z_bipush zh dX8_tomorrow_25 kb_99 ?_
      refine z_icmp_lt (tgt := 33) zh dX8_tomorrow_27 rfl (fun q14 => ?_) (fun q14 => ?_)
      · have r15 : Ra 0 98 x13 := rb_lt_l rl_99 hx13 q14 (by decide)
        refine z_aloadnR zh dX8_tomorrow_33 rfl ?_
        refine z_getf zh fl_RollingNets_19 dX8_tomorrow_34 ck_X rfl rfl ?_
        refine z_aloadnR zh dX8_tomorrow_37 rfl ?_
        refine z_getf zh fl_RollingNets_12 dX8_tomorrow_38 ck_X rfl rfl ?_
        refine z_callVV zh mv_RollingNets_191 dX8_tomorrow_41 (ck_H isH_3) rfl (s_X1_copyFrom g isH_3 isH_1 hG hq) ⟨Nat.le_of_ble_eq_true rfl, Nat.le_of_ble_eq_true rfl⟩ rfl rfl (Nat.le_of_ble_eq_true rfl) ?_
        rintro iv lv hG
        refine z_aloadnR zh dX8_tomorrow_44 rfl ?_
        refine z_getf zh fl_RollingNets_19 dX8_tomorrow_45 ck_X rfl rfl ?_
        refine z_iconst zh dX8_tomorrow_48 ki_1 ?_
        refine z_callSI zh ms_RollingNets_123 dX8_tomorrow_49 (s_X4_pass g isH_3 hG) ⟨Nat.le_of_ble_eq_true rfl, Nat.le_of_ble_eq_true rfl⟩ rfl rfl (Nat.le_of_ble_eq_true rfl) ?_
        rintro x16 iv lv ⟨hG, _⟩
        refine z_pop zh dX8_tomorrow_52 rfl ?_
        refine z_iloadn zh dX8_tomorrow_53 rfl ?_
        refine z_bipush zh dX8_tomorrow_54 kb_9 ?_
        refine z_icmp_ne (tgt := 80) zh dX8_tomorrow_56 rfl (fun q17 => ?_) (fun q17 => ?_)
        · refine z_aloadnR zh dX8_tomorrow_80 rfl ?_
          refine z_getf zh fl_RollingNets_19 dX8_tomorrow_81 ck_X rfl rfl ?_
          refine z_iloadn zh dX8_tomorrow_84 rfl ?_
          refine z_iloadn zh dX8_tomorrow_85 rfl ?_
          refine z_iloadn zh dX8_tomorrow_86 rfl ?_
          refine z_callVI zh mv_RollingNets_198 dX8_tomorrow_87 (ck_H isH_3) rfl (s_X1_holding g isH_3 r6 r12 hG) ⟨Nat.le_of_ble_eq_true rfl, Nat.le_of_ble_eq_true rfl⟩ rfl rfl (Nat.le_of_ble_eq_true rfl) ?_
          rintro x18 _ _ ⟨rfl, rfl, _⟩
          exact z_iret zh dX8_tomorrow_90 ⟨_, rfl, hG, trivial⟩
        · have r19 := rb_eq (u := 9) (v := 9) (ra_tt a3) rl_9 q17 (by decide) (by decide)
          refine z_aloadnR zh dX8_tomorrow_59 rfl ?_
          refine z_getf zh fl_RollingNets_19 dX8_tomorrow_60 ck_X rfl rfl ?_
          refine z_getf zh fl_RollingNets_209 dX8_tomorrow_63 (ck_H isH_3) rfl rfl ?_
          refine z_iloadn zh dX8_tomorrow_66 rfl ?_
          refine y_lald zh (ck_cash isH_3) dX8_tomorrow_67 r6 (by decide) (by decide) (fun l20 => ?_)
          refine z_aloadnR zh dX8_tomorrow_68 rfl ?_
          refine z_getf zh fl_RollingNets_12 dX8_tomorrow_69 ck_X rfl rfl ?_
          refine z_getf zh fl_RollingNets_209 dX8_tomorrow_72 (ck_H isH_1) rfl rfl ?_
          refine z_iloadn zh dX8_tomorrow_75 rfl ?_
          refine y_lald zh (ck_cash isH_1) dX8_tomorrow_76 r6 (by decide) (by decide) (fun l21 => ?_)
          refine y_lsub zh dX8_tomorrow_77 (fun l22 => ?_)
          refine y_l2i zh dX8_tomorrow_78 (fun x23 => ?_)
          exact z_iret zh dX8_tomorrow_79 ⟨_, rfl, hG, trivial⟩
      · have r24 : Ra 99 99 x13 := rb_le_r rl_99 hx13 (rb_nlt q14) (by decide)
        refine z_ldc zh dX8_tomorrow_30 kc_RollingNets_194 ?_
        exact z_iret zh dX8_tomorrow_32 ⟨_, rfl, hG, trivial⟩
